theorem d_Box_init_0 : decode prog_2_method_1_code 0 = .ok (.aload_n 0, 1) := by decide +kernel
theorem d_Box_init_1 : decode prog_2_method_1_code 1 = .ok (.invokespecial 3, 3) := by decide +kernel
theorem d_Box_init_4 : decode prog_2_method_1_code 4 = .ok (.return_, 1) := by decide +kernel
theorem d_Box_layBeside_0 : decode prog_2_method_2_code 0 = .ok (.aload_n 1, 1) := by decide +kernel
theorem d_Box_layBeside_1 : decode prog_2_method_2_code 1 = .ok (.getfield 9, 3) := by decide +kernel
theorem d_Box_layBeside_4 : decode prog_2_method_2_code 4 = .ok (.iload 4, 2) := by decide +kernel
theorem d_Box_layBeside_6 : decode prog_2_method_2_code 6 = .ok (.iload 5, 2) := by decide +kernel
theorem d_Box_layBeside_8 : decode prog_2_method_2_code 8 = .ok (.imul, 1) := by decide +kernel
theorem d_Box_layBeside_9 : decode prog_2_method_2_code 9 = .ok (.iadd, 1) := by decide +kernel
theorem d_Box_layBeside_10 : decode prog_2_method_2_code 10 = .ok (.istore 7, 2) := by decide +kernel
theorem d_Box_layBeside_12 : decode prog_2_method_2_code 12 = .ok (.iload 7, 2) := by decide +kernel
theorem d_Box_layBeside_14 : decode prog_2_method_2_code 14 = .ok (.iload 4, 2) := by decide +kernel
theorem d_Box_layBeside_16 : decode prog_2_method_2_code 16 = .ok (.iload 6, 2) := by decide +kernel
theorem d_Box_layBeside_18 : decode prog_2_method_2_code 18 = .ok (.imul, 1) := by decide +kernel
theorem d_Box_layBeside_19 : decode prog_2_method_2_code 19 = .ok (.iadd, 1) := by decide +kernel
theorem d_Box_layBeside_20 : decode prog_2_method_2_code 20 = .ok (.istore 8, 2) := by decide +kernel
theorem d_Box_layBeside_22 : decode prog_2_method_2_code 22 = .ok (.iload 7, 2) := by decide +kernel
theorem d_Box_layBeside_24 : decode prog_2_method_2_code 24 = .ok (.iload 8, 2) := by decide +kernel
theorem d_Box_layBeside_26 : decode prog_2_method_2_code 26 = .ok (.invokestatic 15, 3) := by decide +kernel
theorem d_Box_layBeside_29 : decode prog_2_method_2_code 29 = .ok (.istore 9, 2) := by decide +kernel
theorem d_Box_layBeside_31 : decode prog_2_method_2_code 31 = .ok (.iload 7, 2) := by decide +kernel
theorem d_Box_layBeside_33 : decode prog_2_method_2_code 33 = .ok (.iload 8, 2) := by decide +kernel
theorem d_Box_layBeside_35 : decode prog_2_method_2_code 35 = .ok (.invokestatic 21, 3) := by decide +kernel
theorem d_Box_layBeside_38 : decode prog_2_method_2_code 38 = .ok (.istore 10, 2) := by decide +kernel
theorem d_Box_layBeside_40 : decode prog_2_method_2_code 40 = .ok (.aload_n 0, 1) := by decide +kernel
theorem d_Box_layBeside_41 : decode prog_2_method_2_code 41 = .ok (.aload_n 1, 1) := by decide +kernel
theorem d_Box_layBeside_42 : decode prog_2_method_2_code 42 = .ok (.getfield 24, 3) := by decide +kernel
theorem d_Box_layBeside_45 : decode prog_2_method_2_code 45 = .ok (.ifCond .eq 7, 3) := by decide +kernel
theorem d_Box_layBeside_48 : decode prog_2_method_2_code 48 = .ok (.iload_n 2, 1) := by decide +kernel
theorem d_Box_layBeside_49 : decode prog_2_method_2_code 49 = .ok (.goto 5, 3) := by decide +kernel
theorem d_Box_layBeside_52 : decode prog_2_method_2_code 52 = .ok (.iload 9, 2) := by decide +kernel
theorem d_Box_layBeside_54 : decode prog_2_method_2_code 54 = .ok (.putfield 28, 3) := by decide +kernel
theorem d_Box_layBeside_57 : decode prog_2_method_2_code 57 = .ok (.aload_n 0, 1) := by decide +kernel
theorem d_Box_layBeside_58 : decode prog_2_method_2_code 58 = .ok (.aload_n 1, 1) := by decide +kernel
theorem d_Box_layBeside_59 : decode prog_2_method_2_code 59 = .ok (.getfield 24, 3) := by decide +kernel
theorem d_Box_layBeside_62 : decode prog_2_method_2_code 62 = .ok (.ifCond .eq 7, 3) := by decide +kernel
theorem d_Box_layBeside_65 : decode prog_2_method_2_code 65 = .ok (.iload_n 3, 1) := by decide +kernel
theorem d_Box_layBeside_66 : decode prog_2_method_2_code 66 = .ok (.goto 5, 3) := by decide +kernel
theorem d_Box_layBeside_69 : decode prog_2_method_2_code 69 = .ok (.iload 10, 2) := by decide +kernel
theorem d_Box_layBeside_71 : decode prog_2_method_2_code 71 = .ok (.putfield 33, 3) := by decide +kernel
theorem d_Box_layBeside_74 : decode prog_2_method_2_code 74 = .ok (.aload_n 0, 1) := by decide +kernel
theorem d_Box_layBeside_75 : decode prog_2_method_2_code 75 = .ok (.aload_n 1, 1) := by decide +kernel
theorem d_Box_layBeside_76 : decode prog_2_method_2_code 76 = .ok (.getfield 24, 3) := by decide +kernel
theorem d_Box_layBeside_79 : decode prog_2_method_2_code 79 = .ok (.ifCond .eq 8, 3) := by decide +kernel
theorem d_Box_layBeside_82 : decode prog_2_method_2_code 82 = .ok (.iload 9, 2) := by decide +kernel
theorem d_Box_layBeside_84 : decode prog_2_method_2_code 84 = .ok (.goto 4, 3) := by decide +kernel
theorem d_Box_layBeside_87 : decode prog_2_method_2_code 87 = .ok (.iload_n 2, 1) := by decide +kernel
theorem d_Box_layBeside_88 : decode prog_2_method_2_code 88 = .ok (.putfield 36, 3) := by decide +kernel
theorem d_Box_layBeside_91 : decode prog_2_method_2_code 91 = .ok (.aload_n 0, 1) := by decide +kernel
theorem d_Box_layBeside_92 : decode prog_2_method_2_code 92 = .ok (.aload_n 1, 1) := by decide +kernel
theorem d_Box_layBeside_93 : decode prog_2_method_2_code 93 = .ok (.getfield 24, 3) := by decide +kernel
theorem d_Box_layBeside_96 : decode prog_2_method_2_code 96 = .ok (.ifCond .eq 8, 3) := by decide +kernel
theorem d_Box_layBeside_99 : decode prog_2_method_2_code 99 = .ok (.iload 10, 2) := by decide +kernel
theorem d_Box_layBeside_101 : decode prog_2_method_2_code 101 = .ok (.goto 4, 3) := by decide +kernel
theorem d_Box_layBeside_104 : decode prog_2_method_2_code 104 = .ok (.iload_n 3, 1) := by decide +kernel
theorem d_Box_layBeside_105 : decode prog_2_method_2_code 105 = .ok (.putfield 39, 3) := by decide +kernel
theorem d_Box_layBeside_108 : decode prog_2_method_2_code 108 = .ok (.return_, 1) := by decide +kernel
theorem d_Box_copyFrom_0 : decode prog_2_method_3_code 0 = .ok (.aload_n 0, 1) := by decide +kernel
theorem d_Box_copyFrom_1 : decode prog_2_method_3_code 1 = .ok (.aload_n 1, 1) := by decide +kernel
theorem d_Box_copyFrom_2 : decode prog_2_method_3_code 2 = .ok (.getfield 28, 3) := by decide +kernel
theorem d_Box_copyFrom_5 : decode prog_2_method_3_code 5 = .ok (.putfield 28, 3) := by decide +kernel
theorem d_Box_copyFrom_8 : decode prog_2_method_3_code 8 = .ok (.aload_n 0, 1) := by decide +kernel
theorem d_Box_copyFrom_9 : decode prog_2_method_3_code 9 = .ok (.aload_n 1, 1) := by decide +kernel
theorem d_Box_copyFrom_10 : decode prog_2_method_3_code 10 = .ok (.getfield 36, 3) := by decide +kernel
theorem d_Box_copyFrom_13 : decode prog_2_method_3_code 13 = .ok (.putfield 36, 3) := by decide +kernel
theorem d_Box_copyFrom_16 : decode prog_2_method_3_code 16 = .ok (.aload_n 0, 1) := by decide +kernel
theorem d_Box_copyFrom_17 : decode prog_2_method_3_code 17 = .ok (.aload_n 1, 1) := by decide +kernel
theorem d_Box_copyFrom_18 : decode prog_2_method_3_code 18 = .ok (.getfield 33, 3) := by decide +kernel
theorem d_Box_copyFrom_21 : decode prog_2_method_3_code 21 = .ok (.putfield 33, 3) := by decide +kernel
theorem d_Box_copyFrom_24 : decode prog_2_method_3_code 24 = .ok (.aload_n 0, 1) := by decide +kernel
theorem d_Box_copyFrom_25 : decode prog_2_method_3_code 25 = .ok (.aload_n 1, 1) := by decide +kernel
theorem d_Box_copyFrom_26 : decode prog_2_method_3_code 26 = .ok (.getfield 39, 3) := by decide +kernel
theorem d_Box_copyFrom_29 : decode prog_2_method_3_code 29 = .ok (.putfield 39, 3) := by decide +kernel
theorem d_Box_copyFrom_32 : decode prog_2_method_3_code 32 = .ok (.return_, 1) := by decide +kernel
theorem d_Box_isOnGrid_0 : decode prog_2_method_4_code 0 = .ok (.aload_n 0, 1) := by decide +kernel
theorem d_Box_isOnGrid_1 : decode prog_2_method_4_code 1 = .ok (.getfield 28, 3) := by decide +kernel
theorem d_Box_isOnGrid_4 : decode prog_2_method_4_code 4 = .ok (.ifCond .lt 32, 3) := by decide +kernel
theorem d_Box_isOnGrid_7 : decode prog_2_method_4_code 7 = .ok (.aload_n 0, 1) := by decide +kernel
theorem d_Box_isOnGrid_8 : decode prog_2_method_4_code 8 = .ok (.getfield 36, 3) := by decide +kernel
theorem d_Box_isOnGrid_11 : decode prog_2_method_4_code 11 = .ok (.ifCond .lt 25, 3) := by decide +kernel
theorem d_Box_isOnGrid_14 : decode prog_2_method_4_code 14 = .ok (.aload_n 0, 1) := by decide +kernel
theorem d_Box_isOnGrid_15 : decode prog_2_method_4_code 15 = .ok (.getfield 33, 3) := by decide +kernel
theorem d_Box_isOnGrid_18 : decode prog_2_method_4_code 18 = .ok (.bipush 48, 2) := by decide +kernel
theorem d_Box_isOnGrid_20 : decode prog_2_method_4_code 20 = .ok (.if_icmp .gt 16, 3) := by decide +kernel
theorem d_Box_isOnGrid_23 : decode prog_2_method_4_code 23 = .ok (.aload_n 0, 1) := by decide +kernel
theorem d_Box_isOnGrid_24 : decode prog_2_method_4_code 24 = .ok (.getfield 39, 3) := by decide +kernel
theorem d_Box_isOnGrid_27 : decode prog_2_method_4_code 27 = .ok (.bipush 48, 2) := by decide +kernel
theorem d_Box_isOnGrid_29 : decode prog_2_method_4_code 29 = .ok (.if_icmp .gt 7, 3) := by decide +kernel
theorem d_Box_isOnGrid_32 : decode prog_2_method_4_code 32 = .ok (.iconst 1, 1) := by decide +kernel
theorem d_Box_isOnGrid_33 : decode prog_2_method_4_code 33 = .ok (.goto 4, 3) := by decide +kernel
theorem d_Box_isOnGrid_36 : decode prog_2_method_4_code 36 = .ok (.iconst 0, 1) := by decide +kernel
theorem d_Box_isOnGrid_37 : decode prog_2_method_4_code 37 = .ok (.ireturn, 1) := by decide +kernel
theorem d_CellSet_init_0 : decode prog_3_method_1_code 0 = .ok (.aload_n 0, 1) := by decide +kernel
theorem d_CellSet_init_1 : decode prog_3_method_1_code 1 = .ok (.invokespecial 3, 3) := by decide +kernel
theorem d_CellSet_init_4 : decode prog_3_method_1_code 4 = .ok (.aload_n 0, 1) := by decide +kernel
theorem d_CellSet_init_5 : decode prog_3_method_1_code 5 = .ok (.bipush 48, 2) := by decide +kernel
theorem d_CellSet_init_7 : decode prog_3_method_1_code 7 = .ok (.newarray .long, 2) := by decide +kernel
theorem d_CellSet_init_9 : decode prog_3_method_1_code 9 = .ok (.putfield 9, 3) := by decide +kernel
theorem d_CellSet_init_12 : decode prog_3_method_1_code 12 = .ok (.return_, 1) := by decide +kernel
theorem d_CellSet_has_0 : decode prog_3_method_2_code 0 = .ok (.iload_n 1, 1) := by decide +kernel
theorem d_CellSet_has_1 : decode prog_3_method_2_code 1 = .ok (.iload_n 2, 1) := by decide +kernel
theorem d_CellSet_has_2 : decode prog_3_method_2_code 2 = .ok (.invokestatic 15, 3) := by decide +kernel
theorem d_CellSet_has_5 : decode prog_3_method_2_code 5 = .ok (.ifCond .eq 22, 3) := by decide +kernel
theorem d_CellSet_has_8 : decode prog_3_method_2_code 8 = .ok (.aload_n 0, 1) := by decide +kernel
theorem d_CellSet_has_9 : decode prog_3_method_2_code 9 = .ok (.getfield 9, 3) := by decide +kernel
theorem d_CellSet_has_12 : decode prog_3_method_2_code 12 = .ok (.iload_n 2, 1) := by decide +kernel
theorem d_CellSet_has_13 : decode prog_3_method_2_code 13 = .ok (.laload, 1) := by decide +kernel
theorem d_CellSet_has_14 : decode prog_3_method_2_code 14 = .ok (.lconst 1, 1) := by decide +kernel
theorem d_CellSet_has_15 : decode prog_3_method_2_code 15 = .ok (.iload_n 1, 1) := by decide +kernel
theorem d_CellSet_has_16 : decode prog_3_method_2_code 16 = .ok (.lshl, 1) := by decide +kernel
theorem d_CellSet_has_17 : decode prog_3_method_2_code 17 = .ok (.land, 1) := by decide +kernel
theorem d_CellSet_has_18 : decode prog_3_method_2_code 18 = .ok (.lconst 0, 1) := by decide +kernel
theorem d_CellSet_has_19 : decode prog_3_method_2_code 19 = .ok (.lcmp, 1) := by decide +kernel
theorem d_CellSet_has_20 : decode prog_3_method_2_code 20 = .ok (.ifCond .eq 7, 3) := by decide +kernel
theorem d_CellSet_has_23 : decode prog_3_method_2_code 23 = .ok (.iconst 1, 1) := by decide +kernel
theorem d_CellSet_has_24 : decode prog_3_method_2_code 24 = .ok (.goto 4, 3) := by decide +kernel
theorem d_CellSet_has_27 : decode prog_3_method_2_code 27 = .ok (.iconst 0, 1) := by decide +kernel
theorem d_CellSet_has_28 : decode prog_3_method_2_code 28 = .ok (.ireturn, 1) := by decide +kernel
theorem d_CellSet_add_0 : decode prog_3_method_3_code 0 = .ok (.iload_n 1, 1) := by decide +kernel
theorem d_CellSet_add_1 : decode prog_3_method_3_code 1 = .ok (.iload_n 2, 1) := by decide +kernel
theorem d_CellSet_add_2 : decode prog_3_method_3_code 2 = .ok (.invokestatic 15, 3) := by decide +kernel
theorem d_CellSet_add_5 : decode prog_3_method_3_code 5 = .ok (.ifCond .eq 15, 3) := by decide +kernel
theorem d_CellSet_add_8 : decode prog_3_method_3_code 8 = .ok (.aload_n 0, 1) := by decide +kernel
theorem d_CellSet_add_9 : decode prog_3_method_3_code 9 = .ok (.getfield 9, 3) := by decide +kernel
theorem d_CellSet_add_12 : decode prog_3_method_3_code 12 = .ok (.iload_n 2, 1) := by decide +kernel
theorem d_CellSet_add_13 : decode prog_3_method_3_code 13 = .ok (.dup2, 1) := by decide +kernel
theorem d_CellSet_add_14 : decode prog_3_method_3_code 14 = .ok (.laload, 1) := by decide +kernel
theorem d_CellSet_add_15 : decode prog_3_method_3_code 15 = .ok (.lconst 1, 1) := by decide +kernel
theorem d_CellSet_add_16 : decode prog_3_method_3_code 16 = .ok (.iload_n 1, 1) := by decide +kernel
theorem d_CellSet_add_17 : decode prog_3_method_3_code 17 = .ok (.lshl, 1) := by decide +kernel
theorem d_CellSet_add_18 : decode prog_3_method_3_code 18 = .ok (.lor, 1) := by decide +kernel
theorem d_CellSet_add_19 : decode prog_3_method_3_code 19 = .ok (.lastore, 1) := by decide +kernel
theorem d_CellSet_add_20 : decode prog_3_method_3_code 20 = .ok (.return_, 1) := by decide +kernel
theorem d_CellSet_copyFrom_0 : decode prog_3_method_4_code 0 = .ok (.iconst 0, 1) := by decide +kernel
theorem d_CellSet_copyFrom_1 : decode prog_3_method_4_code 1 = .ok (.istore_n 2, 1) := by decide +kernel
theorem d_CellSet_copyFrom_2 : decode prog_3_method_4_code 2 = .ok (.iload_n 2, 1) := by decide +kernel
theorem d_CellSet_copyFrom_3 : decode prog_3_method_4_code 3 = .ok (.bipush 48, 2) := by decide +kernel
theorem d_CellSet_copyFrom_5 : decode prog_3_method_4_code 5 = .ok (.if_icmp .ge 21, 3) := by decide +kernel
theorem d_CellSet_copyFrom_8 : decode prog_3_method_4_code 8 = .ok (.aload_n 0, 1) := by decide +kernel
theorem d_CellSet_copyFrom_9 : decode prog_3_method_4_code 9 = .ok (.getfield 9, 3) := by decide +kernel
theorem d_CellSet_copyFrom_12 : decode prog_3_method_4_code 12 = .ok (.iload_n 2, 1) := by decide +kernel
theorem d_CellSet_copyFrom_13 : decode prog_3_method_4_code 13 = .ok (.aload_n 1, 1) := by decide +kernel
theorem d_CellSet_copyFrom_14 : decode prog_3_method_4_code 14 = .ok (.getfield 9, 3) := by decide +kernel
theorem d_CellSet_copyFrom_17 : decode prog_3_method_4_code 17 = .ok (.iload_n 2, 1) := by decide +kernel
theorem d_CellSet_copyFrom_18 : decode prog_3_method_4_code 18 = .ok (.laload, 1) := by decide +kernel
theorem d_CellSet_copyFrom_19 : decode prog_3_method_4_code 19 = .ok (.lastore, 1) := by decide +kernel
theorem d_CellSet_copyFrom_20 : decode prog_3_method_4_code 20 = .ok (.iinc 2 1, 3) := by decide +kernel
theorem d_CellSet_copyFrom_23 : decode prog_3_method_4_code 23 = .ok (.goto (-21), 3) := by decide +kernel
theorem d_CellSet_copyFrom_26 : decode prog_3_method_4_code 26 = .ok (.return_, 1) := by decide +kernel
theorem d_CellSet_addAll_0 : decode prog_3_method_5_code 0 = .ok (.iconst 0, 1) := by decide +kernel
theorem d_CellSet_addAll_1 : decode prog_3_method_5_code 1 = .ok (.istore_n 2, 1) := by decide +kernel
theorem d_CellSet_addAll_2 : decode prog_3_method_5_code 2 = .ok (.iload_n 2, 1) := by decide +kernel
theorem d_CellSet_addAll_3 : decode prog_3_method_5_code 3 = .ok (.bipush 48, 2) := by decide +kernel
theorem d_CellSet_addAll_5 : decode prog_3_method_5_code 5 = .ok (.if_icmp .ge 24, 3) := by decide +kernel
theorem d_CellSet_addAll_8 : decode prog_3_method_5_code 8 = .ok (.aload_n 0, 1) := by decide +kernel
theorem d_CellSet_addAll_9 : decode prog_3_method_5_code 9 = .ok (.getfield 9, 3) := by decide +kernel
theorem d_CellSet_addAll_12 : decode prog_3_method_5_code 12 = .ok (.iload_n 2, 1) := by decide +kernel
theorem d_CellSet_addAll_13 : decode prog_3_method_5_code 13 = .ok (.dup2, 1) := by decide +kernel
theorem d_CellSet_addAll_14 : decode prog_3_method_5_code 14 = .ok (.laload, 1) := by decide +kernel
theorem d_CellSet_addAll_15 : decode prog_3_method_5_code 15 = .ok (.aload_n 1, 1) := by decide +kernel
theorem d_CellSet_addAll_16 : decode prog_3_method_5_code 16 = .ok (.getfield 9, 3) := by decide +kernel
theorem d_CellSet_addAll_19 : decode prog_3_method_5_code 19 = .ok (.iload_n 2, 1) := by decide +kernel
theorem d_CellSet_addAll_20 : decode prog_3_method_5_code 20 = .ok (.laload, 1) := by decide +kernel
theorem d_CellSet_addAll_21 : decode prog_3_method_5_code 21 = .ok (.lor, 1) := by decide +kernel
theorem d_CellSet_addAll_22 : decode prog_3_method_5_code 22 = .ok (.lastore, 1) := by decide +kernel
theorem d_CellSet_addAll_23 : decode prog_3_method_5_code 23 = .ok (.iinc 2 1, 3) := by decide +kernel
theorem d_CellSet_addAll_26 : decode prog_3_method_5_code 26 = .ok (.goto (-24), 3) := by decide +kernel
theorem d_CellSet_addAll_29 : decode prog_3_method_5_code 29 = .ok (.return_, 1) := by decide +kernel
theorem d_CellSet_addBox_0 : decode prog_3_method_6_code 0 = .ok (.aload_n 1, 1) := by decide +kernel
theorem d_CellSet_addBox_1 : decode prog_3_method_6_code 1 = .ok (.getfield 19, 3) := by decide +kernel
theorem d_CellSet_addBox_4 : decode prog_3_method_6_code 4 = .ok (.aload_n 1, 1) := by decide +kernel
theorem d_CellSet_addBox_5 : decode prog_3_method_6_code 5 = .ok (.getfield 25, 3) := by decide +kernel
theorem d_CellSet_addBox_8 : decode prog_3_method_6_code 8 = .ok (.invokestatic 28, 3) := by decide +kernel
theorem d_CellSet_addBox_11 : decode prog_3_method_6_code 11 = .ok (.lstore_n 2, 1) := by decide +kernel
theorem d_CellSet_addBox_12 : decode prog_3_method_6_code 12 = .ok (.aload_n 1, 1) := by decide +kernel
theorem d_CellSet_addBox_13 : decode prog_3_method_6_code 13 = .ok (.getfield 32, 3) := by decide +kernel
theorem d_CellSet_addBox_16 : decode prog_3_method_6_code 16 = .ok (.bipush 48, 2) := by decide +kernel
theorem d_CellSet_addBox_18 : decode prog_3_method_6_code 18 = .ok (.invokestatic 35, 3) := by decide +kernel
theorem d_CellSet_addBox_21 : decode prog_3_method_6_code 21 = .ok (.istore 4, 2) := by decide +kernel
theorem d_CellSet_addBox_23 : decode prog_3_method_6_code 23 = .ok (.aload_n 1, 1) := by decide +kernel
theorem d_CellSet_addBox_24 : decode prog_3_method_6_code 24 = .ok (.getfield 41, 3) := by decide +kernel
theorem d_CellSet_addBox_27 : decode prog_3_method_6_code 27 = .ok (.iconst 0, 1) := by decide +kernel
theorem d_CellSet_addBox_28 : decode prog_3_method_6_code 28 = .ok (.invokestatic 44, 3) := by decide +kernel
theorem d_CellSet_addBox_31 : decode prog_3_method_6_code 31 = .ok (.istore 5, 2) := by decide +kernel
theorem d_CellSet_addBox_33 : decode prog_3_method_6_code 33 = .ok (.iload 5, 2) := by decide +kernel
theorem d_CellSet_addBox_35 : decode prog_3_method_6_code 35 = .ok (.iload 4, 2) := by decide +kernel
theorem d_CellSet_addBox_37 : decode prog_3_method_6_code 37 = .ok (.if_icmp .ge 20, 3) := by decide +kernel
theorem d_CellSet_addBox_40 : decode prog_3_method_6_code 40 = .ok (.aload_n 0, 1) := by decide +kernel
theorem d_CellSet_addBox_41 : decode prog_3_method_6_code 41 = .ok (.getfield 9, 3) := by decide +kernel
theorem d_CellSet_addBox_44 : decode prog_3_method_6_code 44 = .ok (.iload 5, 2) := by decide +kernel
theorem d_CellSet_addBox_46 : decode prog_3_method_6_code 46 = .ok (.dup2, 1) := by decide +kernel
theorem d_CellSet_addBox_47 : decode prog_3_method_6_code 47 = .ok (.laload, 1) := by decide +kernel
theorem d_CellSet_addBox_48 : decode prog_3_method_6_code 48 = .ok (.lload_n 2, 1) := by decide +kernel
theorem d_CellSet_addBox_49 : decode prog_3_method_6_code 49 = .ok (.lor, 1) := by decide +kernel
theorem d_CellSet_addBox_50 : decode prog_3_method_6_code 50 = .ok (.lastore, 1) := by decide +kernel
theorem d_CellSet_addBox_51 : decode prog_3_method_6_code 51 = .ok (.iinc 5 1, 3) := by decide +kernel
theorem d_CellSet_addBox_54 : decode prog_3_method_6_code 54 = .ok (.goto (-21), 3) := by decide +kernel
theorem d_CellSet_addBox_57 : decode prog_3_method_6_code 57 = .ok (.return_, 1) := by decide +kernel
theorem d_CellSet_removeBox_0 : decode prog_3_method_7_code 0 = .ok (.aload_n 1, 1) := by decide +kernel
theorem d_CellSet_removeBox_1 : decode prog_3_method_7_code 1 = .ok (.getfield 19, 3) := by decide +kernel
theorem d_CellSet_removeBox_4 : decode prog_3_method_7_code 4 = .ok (.aload_n 1, 1) := by decide +kernel
theorem d_CellSet_removeBox_5 : decode prog_3_method_7_code 5 = .ok (.getfield 25, 3) := by decide +kernel
theorem d_CellSet_removeBox_8 : decode prog_3_method_7_code 8 = .ok (.invokestatic 28, 3) := by decide +kernel
theorem d_CellSet_removeBox_11 : decode prog_3_method_7_code 11 = .ok (.ldc2_w 47, 3) := by decide +kernel
theorem d_CellSet_removeBox_14 : decode prog_3_method_7_code 14 = .ok (.lxor, 1) := by decide +kernel
theorem d_CellSet_removeBox_15 : decode prog_3_method_7_code 15 = .ok (.lstore_n 2, 1) := by decide +kernel
theorem d_CellSet_removeBox_16 : decode prog_3_method_7_code 16 = .ok (.aload_n 1, 1) := by decide +kernel
theorem d_CellSet_removeBox_17 : decode prog_3_method_7_code 17 = .ok (.getfield 32, 3) := by decide +kernel
theorem d_CellSet_removeBox_20 : decode prog_3_method_7_code 20 = .ok (.bipush 48, 2) := by decide +kernel
theorem d_CellSet_removeBox_22 : decode prog_3_method_7_code 22 = .ok (.invokestatic 35, 3) := by decide +kernel
theorem d_CellSet_removeBox_25 : decode prog_3_method_7_code 25 = .ok (.istore 4, 2) := by decide +kernel
theorem d_CellSet_removeBox_27 : decode prog_3_method_7_code 27 = .ok (.aload_n 1, 1) := by decide +kernel
theorem d_CellSet_removeBox_28 : decode prog_3_method_7_code 28 = .ok (.getfield 41, 3) := by decide +kernel
theorem d_CellSet_removeBox_31 : decode prog_3_method_7_code 31 = .ok (.iconst 0, 1) := by decide +kernel
theorem d_CellSet_removeBox_32 : decode prog_3_method_7_code 32 = .ok (.invokestatic 44, 3) := by decide +kernel
theorem d_CellSet_removeBox_35 : decode prog_3_method_7_code 35 = .ok (.istore 5, 2) := by decide +kernel
theorem d_CellSet_removeBox_37 : decode prog_3_method_7_code 37 = .ok (.iload 5, 2) := by decide +kernel
theorem d_CellSet_removeBox_39 : decode prog_3_method_7_code 39 = .ok (.iload 4, 2) := by decide +kernel
theorem d_CellSet_removeBox_41 : decode prog_3_method_7_code 41 = .ok (.if_icmp .ge 20, 3) := by decide +kernel
theorem d_CellSet_removeBox_44 : decode prog_3_method_7_code 44 = .ok (.aload_n 0, 1) := by decide +kernel
theorem d_CellSet_removeBox_45 : decode prog_3_method_7_code 45 = .ok (.getfield 9, 3) := by decide +kernel
theorem d_CellSet_removeBox_48 : decode prog_3_method_7_code 48 = .ok (.iload 5, 2) := by decide +kernel
theorem d_CellSet_removeBox_50 : decode prog_3_method_7_code 50 = .ok (.dup2, 1) := by decide +kernel
theorem d_CellSet_removeBox_51 : decode prog_3_method_7_code 51 = .ok (.laload, 1) := by decide +kernel
theorem d_CellSet_removeBox_52 : decode prog_3_method_7_code 52 = .ok (.lload_n 2, 1) := by decide +kernel
theorem d_CellSet_removeBox_53 : decode prog_3_method_7_code 53 = .ok (.land, 1) := by decide +kernel
theorem d_CellSet_removeBox_54 : decode prog_3_method_7_code 54 = .ok (.lastore, 1) := by decide +kernel
theorem d_CellSet_removeBox_55 : decode prog_3_method_7_code 55 = .ok (.iinc 5 1, 3) := by decide +kernel
theorem d_CellSet_removeBox_58 : decode prog_3_method_7_code 58 = .ok (.goto (-21), 3) := by decide +kernel
theorem d_CellSet_removeBox_61 : decode prog_3_method_7_code 61 = .ok (.return_, 1) := by decide +kernel
theorem d_CellSet_meets_0 : decode prog_3_method_8_code 0 = .ok (.aload_n 1, 1) := by decide +kernel
theorem d_CellSet_meets_1 : decode prog_3_method_8_code 1 = .ok (.getfield 19, 3) := by decide +kernel
theorem d_CellSet_meets_4 : decode prog_3_method_8_code 4 = .ok (.aload_n 1, 1) := by decide +kernel
theorem d_CellSet_meets_5 : decode prog_3_method_8_code 5 = .ok (.getfield 25, 3) := by decide +kernel
theorem d_CellSet_meets_8 : decode prog_3_method_8_code 8 = .ok (.invokestatic 28, 3) := by decide +kernel
theorem d_CellSet_meets_11 : decode prog_3_method_8_code 11 = .ok (.lstore_n 2, 1) := by decide +kernel
theorem d_CellSet_meets_12 : decode prog_3_method_8_code 12 = .ok (.aload_n 1, 1) := by decide +kernel
theorem d_CellSet_meets_13 : decode prog_3_method_8_code 13 = .ok (.getfield 32, 3) := by decide +kernel
theorem d_CellSet_meets_16 : decode prog_3_method_8_code 16 = .ok (.bipush 48, 2) := by decide +kernel
theorem d_CellSet_meets_18 : decode prog_3_method_8_code 18 = .ok (.invokestatic 35, 3) := by decide +kernel
theorem d_CellSet_meets_21 : decode prog_3_method_8_code 21 = .ok (.istore 4, 2) := by decide +kernel
theorem d_CellSet_meets_23 : decode prog_3_method_8_code 23 = .ok (.aload_n 1, 1) := by decide +kernel
theorem d_CellSet_meets_24 : decode prog_3_method_8_code 24 = .ok (.getfield 41, 3) := by decide +kernel
theorem d_CellSet_meets_27 : decode prog_3_method_8_code 27 = .ok (.iconst 0, 1) := by decide +kernel
theorem d_CellSet_meets_28 : decode prog_3_method_8_code 28 = .ok (.invokestatic 44, 3) := by decide +kernel
theorem d_CellSet_meets_31 : decode prog_3_method_8_code 31 = .ok (.istore 5, 2) := by decide +kernel
theorem d_CellSet_meets_33 : decode prog_3_method_8_code 33 = .ok (.iload 5, 2) := by decide +kernel
theorem d_CellSet_meets_35 : decode prog_3_method_8_code 35 = .ok (.iload 4, 2) := by decide +kernel
theorem d_CellSet_meets_37 : decode prog_3_method_8_code 37 = .ok (.if_icmp .ge 25, 3) := by decide +kernel
theorem d_CellSet_meets_40 : decode prog_3_method_8_code 40 = .ok (.aload_n 0, 1) := by decide +kernel
theorem d_CellSet_meets_41 : decode prog_3_method_8_code 41 = .ok (.getfield 9, 3) := by decide +kernel
theorem d_CellSet_meets_44 : decode prog_3_method_8_code 44 = .ok (.iload 5, 2) := by decide +kernel
theorem d_CellSet_meets_46 : decode prog_3_method_8_code 46 = .ok (.laload, 1) := by decide +kernel
theorem d_CellSet_meets_47 : decode prog_3_method_8_code 47 = .ok (.lload_n 2, 1) := by decide +kernel
theorem d_CellSet_meets_48 : decode prog_3_method_8_code 48 = .ok (.land, 1) := by decide +kernel
theorem d_CellSet_meets_49 : decode prog_3_method_8_code 49 = .ok (.lconst 0, 1) := by decide +kernel
theorem d_CellSet_meets_50 : decode prog_3_method_8_code 50 = .ok (.lcmp, 1) := by decide +kernel
theorem d_CellSet_meets_51 : decode prog_3_method_8_code 51 = .ok (.ifCond .eq 5, 3) := by decide +kernel
theorem d_CellSet_meets_54 : decode prog_3_method_8_code 54 = .ok (.iconst 1, 1) := by decide +kernel
theorem d_CellSet_meets_55 : decode prog_3_method_8_code 55 = .ok (.ireturn, 1) := by decide +kernel
theorem d_CellSet_meets_56 : decode prog_3_method_8_code 56 = .ok (.iinc 5 1, 3) := by decide +kernel
theorem d_CellSet_meets_59 : decode prog_3_method_8_code 59 = .ok (.goto (-26), 3) := by decide +kernel
theorem d_CellSet_meets_62 : decode prog_3_method_8_code 62 = .ok (.iconst 0, 1) := by decide +kernel
theorem d_CellSet_meets_63 : decode prog_3_method_8_code 63 = .ok (.ireturn, 1) := by decide +kernel
theorem d_CellSet_countAround_0 : decode prog_3_method_9_code 0 = .ok (.iload_n 1, 1) := by decide +kernel
theorem d_CellSet_countAround_1 : decode prog_3_method_9_code 1 = .ok (.iload_n 3, 1) := by decide +kernel
theorem d_CellSet_countAround_2 : decode prog_3_method_9_code 2 = .ok (.isub, 1) := by decide +kernel
theorem d_CellSet_countAround_3 : decode prog_3_method_9_code 3 = .ok (.iload_n 1, 1) := by decide +kernel
theorem d_CellSet_countAround_4 : decode prog_3_method_9_code 4 = .ok (.iload_n 3, 1) := by decide +kernel
theorem d_CellSet_countAround_5 : decode prog_3_method_9_code 5 = .ok (.iadd, 1) := by decide +kernel
theorem d_CellSet_countAround_6 : decode prog_3_method_9_code 6 = .ok (.iconst 1, 1) := by decide +kernel
theorem d_CellSet_countAround_7 : decode prog_3_method_9_code 7 = .ok (.iadd, 1) := by decide +kernel
theorem d_CellSet_countAround_8 : decode prog_3_method_9_code 8 = .ok (.invokestatic 28, 3) := by decide +kernel
theorem d_CellSet_countAround_11 : decode prog_3_method_9_code 11 = .ok (.lstore 4, 2) := by decide +kernel
theorem d_CellSet_countAround_13 : decode prog_3_method_9_code 13 = .ok (.iload_n 2, 1) := by decide +kernel
theorem d_CellSet_countAround_14 : decode prog_3_method_9_code 14 = .ok (.iload_n 3, 1) := by decide +kernel
theorem d_CellSet_countAround_15 : decode prog_3_method_9_code 15 = .ok (.iadd, 1) := by decide +kernel
theorem d_CellSet_countAround_16 : decode prog_3_method_9_code 16 = .ok (.iconst 1, 1) := by decide +kernel
theorem d_CellSet_countAround_17 : decode prog_3_method_9_code 17 = .ok (.iadd, 1) := by decide +kernel
theorem d_CellSet_countAround_18 : decode prog_3_method_9_code 18 = .ok (.bipush 48, 2) := by decide +kernel
theorem d_CellSet_countAround_20 : decode prog_3_method_9_code 20 = .ok (.invokestatic 35, 3) := by decide +kernel
theorem d_CellSet_countAround_23 : decode prog_3_method_9_code 23 = .ok (.istore 6, 2) := by decide +kernel
theorem d_CellSet_countAround_25 : decode prog_3_method_9_code 25 = .ok (.iconst 0, 1) := by decide +kernel
theorem d_CellSet_countAround_26 : decode prog_3_method_9_code 26 = .ok (.istore 7, 2) := by decide +kernel
theorem d_CellSet_countAround_28 : decode prog_3_method_9_code 28 = .ok (.iload_n 2, 1) := by decide +kernel
theorem d_CellSet_countAround_29 : decode prog_3_method_9_code 29 = .ok (.iload_n 3, 1) := by decide +kernel
theorem d_CellSet_countAround_30 : decode prog_3_method_9_code 30 = .ok (.isub, 1) := by decide +kernel
theorem d_CellSet_countAround_31 : decode prog_3_method_9_code 31 = .ok (.iconst 0, 1) := by decide +kernel
theorem d_CellSet_countAround_32 : decode prog_3_method_9_code 32 = .ok (.invokestatic 44, 3) := by decide +kernel
theorem d_CellSet_countAround_35 : decode prog_3_method_9_code 35 = .ok (.istore 8, 2) := by decide +kernel
theorem d_CellSet_countAround_37 : decode prog_3_method_9_code 37 = .ok (.iload 8, 2) := by decide +kernel
theorem d_CellSet_countAround_39 : decode prog_3_method_9_code 39 = .ok (.iload 6, 2) := by decide +kernel
theorem d_CellSet_countAround_41 : decode prog_3_method_9_code 41 = .ok (.if_icmp .ge 27, 3) := by decide +kernel
theorem d_CellSet_countAround_44 : decode prog_3_method_9_code 44 = .ok (.iload 7, 2) := by decide +kernel
theorem d_CellSet_countAround_46 : decode prog_3_method_9_code 46 = .ok (.aload_n 0, 1) := by decide +kernel
theorem d_CellSet_countAround_47 : decode prog_3_method_9_code 47 = .ok (.getfield 9, 3) := by decide +kernel
theorem d_CellSet_countAround_50 : decode prog_3_method_9_code 50 = .ok (.iload 8, 2) := by decide +kernel
theorem d_CellSet_countAround_52 : decode prog_3_method_9_code 52 = .ok (.laload, 1) := by decide +kernel
theorem d_CellSet_countAround_53 : decode prog_3_method_9_code 53 = .ok (.lload 4, 2) := by decide +kernel
theorem d_CellSet_countAround_55 : decode prog_3_method_9_code 55 = .ok (.land, 1) := by decide +kernel
theorem d_CellSet_countAround_56 : decode prog_3_method_9_code 56 = .ok (.invokestatic 49, 3) := by decide +kernel
theorem d_CellSet_countAround_59 : decode prog_3_method_9_code 59 = .ok (.iadd, 1) := by decide +kernel
theorem d_CellSet_countAround_60 : decode prog_3_method_9_code 60 = .ok (.istore 7, 2) := by decide +kernel
theorem d_CellSet_countAround_62 : decode prog_3_method_9_code 62 = .ok (.iinc 8 1, 3) := by decide +kernel
theorem d_CellSet_countAround_65 : decode prog_3_method_9_code 65 = .ok (.goto (-28), 3) := by decide +kernel
theorem d_CellSet_countAround_68 : decode prog_3_method_9_code 68 = .ok (.iload 7, 2) := by decide +kernel
theorem d_CellSet_countAround_70 : decode prog_3_method_9_code 70 = .ok (.ireturn, 1) := by decide +kernel
theorem d_Exposure_init_0 : decode prog_4_method_1_code 0 = .ok (.aload_n 0, 1) := by decide +kernel
theorem d_Exposure_init_1 : decode prog_4_method_1_code 1 = .ok (.invokespecial 3, 3) := by decide +kernel
theorem d_Exposure_init_4 : decode prog_4_method_1_code 4 = .ok (.aload_n 0, 1) := by decide +kernel
theorem d_Exposure_init_5 : decode prog_4_method_1_code 5 = .ok (.bipush 6, 2) := by decide +kernel
theorem d_Exposure_init_7 : decode prog_4_method_1_code 7 = .ok (.newarray .int, 2) := by decide +kernel
theorem d_Exposure_init_9 : decode prog_4_method_1_code 9 = .ok (.putfield 9, 3) := by decide +kernel
theorem d_Exposure_init_12 : decode prog_4_method_1_code 12 = .ok (.aload_n 0, 1) := by decide +kernel
theorem d_Exposure_init_13 : decode prog_4_method_1_code 13 = .ok (.bipush 6, 2) := by decide +kernel
theorem d_Exposure_init_15 : decode prog_4_method_1_code 15 = .ok (.newarray .int, 2) := by decide +kernel
theorem d_Exposure_init_17 : decode prog_4_method_1_code 17 = .ok (.putfield 15, 3) := by decide +kernel
theorem d_Exposure_init_20 : decode prog_4_method_1_code 20 = .ok (.aload_n 0, 1) := by decide +kernel
theorem d_Exposure_init_21 : decode prog_4_method_1_code 21 = .ok (.iconst 1, 1) := by decide +kernel
theorem d_Exposure_init_22 : decode prog_4_method_1_code 22 = .ok (.putfield 18, 3) := by decide +kernel
theorem d_Exposure_init_25 : decode prog_4_method_1_code 25 = .ok (.return_, 1) := by decide +kernel
theorem d_Exposure_addKernel_0 : decode prog_4_method_2_code 0 = .ok (.aload_n 0, 1) := by decide +kernel
theorem d_Exposure_addKernel_1 : decode prog_4_method_2_code 1 = .ok (.getfield 22, 3) := by decide +kernel
theorem d_Exposure_addKernel_4 : decode prog_4_method_2_code 4 = .ok (.bipush 6, 2) := by decide +kernel
theorem d_Exposure_addKernel_6 : decode prog_4_method_2_code 6 = .ok (.if_icmp .lt 6, 3) := by decide +kernel
theorem d_Exposure_addKernel_9 : decode prog_4_method_2_code 9 = .ok (.bipush (-4), 2) := by decide +kernel
theorem d_Exposure_addKernel_11 : decode prog_4_method_2_code 11 = .ok (.ireturn, 1) := by decide +kernel
theorem d_Exposure_addKernel_12 : decode prog_4_method_2_code 12 = .ok (.aload_n 0, 1) := by decide +kernel
theorem d_Exposure_addKernel_13 : decode prog_4_method_2_code 13 = .ok (.getfield 9, 3) := by decide +kernel
theorem d_Exposure_addKernel_16 : decode prog_4_method_2_code 16 = .ok (.aload_n 0, 1) := by decide +kernel
theorem d_Exposure_addKernel_17 : decode prog_4_method_2_code 17 = .ok (.getfield 22, 3) := by decide +kernel
theorem d_Exposure_addKernel_20 : decode prog_4_method_2_code 20 = .ok (.iload_n 1, 1) := by decide +kernel
theorem d_Exposure_addKernel_21 : decode prog_4_method_2_code 21 = .ok (.iastore, 1) := by decide +kernel
theorem d_Exposure_addKernel_22 : decode prog_4_method_2_code 22 = .ok (.aload_n 0, 1) := by decide +kernel
theorem d_Exposure_addKernel_23 : decode prog_4_method_2_code 23 = .ok (.getfield 15, 3) := by decide +kernel
theorem d_Exposure_addKernel_26 : decode prog_4_method_2_code 26 = .ok (.aload_n 0, 1) := by decide +kernel
theorem d_Exposure_addKernel_27 : decode prog_4_method_2_code 27 = .ok (.getfield 22, 3) := by decide +kernel
theorem d_Exposure_addKernel_30 : decode prog_4_method_2_code 30 = .ok (.iload_n 2, 1) := by decide +kernel
theorem d_Exposure_addKernel_31 : decode prog_4_method_2_code 31 = .ok (.iastore, 1) := by decide +kernel
theorem d_Exposure_addKernel_32 : decode prog_4_method_2_code 32 = .ok (.aload_n 0, 1) := by decide +kernel
theorem d_Exposure_addKernel_33 : decode prog_4_method_2_code 33 = .ok (.dup, 1) := by decide +kernel
theorem d_Exposure_addKernel_34 : decode prog_4_method_2_code 34 = .ok (.getfield 22, 3) := by decide +kernel
theorem d_Exposure_addKernel_37 : decode prog_4_method_2_code 37 = .ok (.iconst 1, 1) := by decide +kernel
theorem d_Exposure_addKernel_38 : decode prog_4_method_2_code 38 = .ok (.iadd, 1) := by decide +kernel
theorem d_Exposure_addKernel_39 : decode prog_4_method_2_code 39 = .ok (.putfield 22, 3) := by decide +kernel
theorem d_Exposure_addKernel_42 : decode prog_4_method_2_code 42 = .ok (.aload_n 0, 1) := by decide +kernel
theorem d_Exposure_addKernel_43 : decode prog_4_method_2_code 43 = .ok (.getfield 22, 3) := by decide +kernel
theorem d_Exposure_addKernel_46 : decode prog_4_method_2_code 46 = .ok (.iconst 1, 1) := by decide +kernel
theorem d_Exposure_addKernel_47 : decode prog_4_method_2_code 47 = .ok (.isub, 1) := by decide +kernel
theorem d_Exposure_addKernel_48 : decode prog_4_method_2_code 48 = .ok (.ireturn, 1) := by decide +kernel
theorem d_Exposure_imageAt_0 : decode prog_4_method_3_code 0 = .ok (.iconst 0, 1) := by decide +kernel
theorem d_Exposure_imageAt_1 : decode prog_4_method_3_code 1 = .ok (.istore 4, 2) := by decide +kernel
theorem d_Exposure_imageAt_3 : decode prog_4_method_3_code 3 = .ok (.iconst 0, 1) := by decide +kernel
theorem d_Exposure_imageAt_4 : decode prog_4_method_3_code 4 = .ok (.istore 5, 2) := by decide +kernel
theorem d_Exposure_imageAt_6 : decode prog_4_method_3_code 6 = .ok (.iload 5, 2) := by decide +kernel
theorem d_Exposure_imageAt_8 : decode prog_4_method_3_code 8 = .ok (.aload_n 0, 1) := by decide +kernel
theorem d_Exposure_imageAt_9 : decode prog_4_method_3_code 9 = .ok (.getfield 22, 3) := by decide +kernel
theorem d_Exposure_imageAt_12 : decode prog_4_method_3_code 12 = .ok (.if_icmp .ge 35, 3) := by decide +kernel
theorem d_Exposure_imageAt_15 : decode prog_4_method_3_code 15 = .ok (.iload 4, 2) := by decide +kernel
theorem d_Exposure_imageAt_17 : decode prog_4_method_3_code 17 = .ok (.aload_n 0, 1) := by decide +kernel
theorem d_Exposure_imageAt_18 : decode prog_4_method_3_code 18 = .ok (.getfield 9, 3) := by decide +kernel
theorem d_Exposure_imageAt_21 : decode prog_4_method_3_code 21 = .ok (.iload 5, 2) := by decide +kernel
theorem d_Exposure_imageAt_23 : decode prog_4_method_3_code 23 = .ok (.iaload, 1) := by decide +kernel
theorem d_Exposure_imageAt_24 : decode prog_4_method_3_code 24 = .ok (.aload_n 1, 1) := by decide +kernel
theorem d_Exposure_imageAt_25 : decode prog_4_method_3_code 25 = .ok (.iload_n 2, 1) := by decide +kernel
theorem d_Exposure_imageAt_26 : decode prog_4_method_3_code 26 = .ok (.iload_n 3, 1) := by decide +kernel
theorem d_Exposure_imageAt_27 : decode prog_4_method_3_code 27 = .ok (.aload_n 0, 1) := by decide +kernel
theorem d_Exposure_imageAt_28 : decode prog_4_method_3_code 28 = .ok (.getfield 15, 3) := by decide +kernel
theorem d_Exposure_imageAt_31 : decode prog_4_method_3_code 31 = .ok (.iload 5, 2) := by decide +kernel
theorem d_Exposure_imageAt_33 : decode prog_4_method_3_code 33 = .ok (.iaload, 1) := by decide +kernel
theorem d_Exposure_imageAt_34 : decode prog_4_method_3_code 34 = .ok (.invokevirtual 25, 3) := by decide +kernel
theorem d_Exposure_imageAt_37 : decode prog_4_method_3_code 37 = .ok (.imul, 1) := by decide +kernel
theorem d_Exposure_imageAt_38 : decode prog_4_method_3_code 38 = .ok (.iadd, 1) := by decide +kernel
theorem d_Exposure_imageAt_39 : decode prog_4_method_3_code 39 = .ok (.istore 4, 2) := by decide +kernel
theorem d_Exposure_imageAt_41 : decode prog_4_method_3_code 41 = .ok (.iinc 5 1, 3) := by decide +kernel
theorem d_Exposure_imageAt_44 : decode prog_4_method_3_code 44 = .ok (.goto (-38), 3) := by decide +kernel
theorem d_Exposure_imageAt_47 : decode prog_4_method_3_code 47 = .ok (.iload 4, 2) := by decide +kernel
theorem d_Exposure_imageAt_49 : decode prog_4_method_3_code 49 = .ok (.ireturn, 1) := by decide +kernel
theorem d_Exposure_printsAt_0 : decode prog_4_method_4_code 0 = .ok (.iload_n 2, 1) := by decide +kernel
theorem d_Exposure_printsAt_1 : decode prog_4_method_4_code 1 = .ok (.iload_n 3, 1) := by decide +kernel
theorem d_Exposure_printsAt_2 : decode prog_4_method_4_code 2 = .ok (.invokestatic 31, 3) := by decide +kernel
theorem d_Exposure_printsAt_5 : decode prog_4_method_4_code 5 = .ok (.ifCond .eq 27, 3) := by decide +kernel
theorem d_Exposure_printsAt_8 : decode prog_4_method_4_code 8 = .ok (.aload_n 0, 1) := by decide +kernel
theorem d_Exposure_printsAt_9 : decode prog_4_method_4_code 9 = .ok (.aload_n 1, 1) := by decide +kernel
theorem d_Exposure_printsAt_10 : decode prog_4_method_4_code 10 = .ok (.iload_n 2, 1) := by decide +kernel
theorem d_Exposure_printsAt_11 : decode prog_4_method_4_code 11 = .ok (.iload_n 3, 1) := by decide +kernel
theorem d_Exposure_printsAt_12 : decode prog_4_method_4_code 12 = .ok (.invokevirtual 35, 3) := by decide +kernel
theorem d_Exposure_printsAt_15 : decode prog_4_method_4_code 15 = .ok (.iload 4, 2) := by decide +kernel
theorem d_Exposure_printsAt_17 : decode prog_4_method_4_code 17 = .ok (.imul, 1) := by decide +kernel
theorem d_Exposure_printsAt_18 : decode prog_4_method_4_code 18 = .ok (.bipush 100, 2) := by decide +kernel
theorem d_Exposure_printsAt_20 : decode prog_4_method_4_code 20 = .ok (.aload_n 0, 1) := by decide +kernel
theorem d_Exposure_printsAt_21 : decode prog_4_method_4_code 21 = .ok (.getfield 18, 3) := by decide +kernel
theorem d_Exposure_printsAt_24 : decode prog_4_method_4_code 24 = .ok (.imul, 1) := by decide +kernel
theorem d_Exposure_printsAt_25 : decode prog_4_method_4_code 25 = .ok (.if_icmp .lt 7, 3) := by decide +kernel
theorem d_Exposure_printsAt_28 : decode prog_4_method_4_code 28 = .ok (.iconst 1, 1) := by decide +kernel
theorem d_Exposure_printsAt_29 : decode prog_4_method_4_code 29 = .ok (.goto 4, 3) := by decide +kernel
theorem d_Exposure_printsAt_32 : decode prog_4_method_4_code 32 = .ok (.iconst 0, 1) := by decide +kernel
theorem d_Exposure_printsAt_33 : decode prog_4_method_4_code 33 = .ok (.ireturn, 1) := by decide +kernel
theorem d_Outline_init_0 : decode prog_5_method_1_code 0 = .ok (.aload_n 0, 1) := by decide +kernel
theorem d_Outline_init_1 : decode prog_5_method_1_code 1 = .ok (.invokespecial 3, 3) := by decide +kernel
theorem d_Outline_init_4 : decode prog_5_method_1_code 4 = .ok (.aload_n 0, 1) := by decide +kernel
theorem d_Outline_init_5 : decode prog_5_method_1_code 5 = .ok (.bipush 16, 2) := by decide +kernel
theorem d_Outline_init_7 : decode prog_5_method_1_code 7 = .ok (.newarray .int, 2) := by decide +kernel
theorem d_Outline_init_9 : decode prog_5_method_1_code 9 = .ok (.putfield 9, 3) := by decide +kernel
theorem d_Outline_init_12 : decode prog_5_method_1_code 12 = .ok (.aload_n 0, 1) := by decide +kernel
theorem d_Outline_init_13 : decode prog_5_method_1_code 13 = .ok (.bipush 16, 2) := by decide +kernel
theorem d_Outline_init_15 : decode prog_5_method_1_code 15 = .ok (.newarray .int, 2) := by decide +kernel
theorem d_Outline_init_17 : decode prog_5_method_1_code 17 = .ok (.putfield 15, 3) := by decide +kernel
theorem d_Outline_init_20 : decode prog_5_method_1_code 20 = .ok (.return_, 1) := by decide +kernel
theorem d_Outline_takeCorner_0 : decode prog_5_method_2_code 0 = .ok (.aload_n 0, 1) := by decide +kernel
theorem d_Outline_takeCorner_1 : decode prog_5_method_2_code 1 = .ok (.getfield 18, 3) := by decide +kernel
theorem d_Outline_takeCorner_4 : decode prog_5_method_2_code 4 = .ok (.ifCond .ne 12, 3) := by decide +kernel
theorem d_Outline_takeCorner_7 : decode prog_5_method_2_code 7 = .ok (.aload_n 0, 1) := by decide +kernel
theorem d_Outline_takeCorner_8 : decode prog_5_method_2_code 8 = .ok (.iload_n 1, 1) := by decide +kernel
theorem d_Outline_takeCorner_9 : decode prog_5_method_2_code 9 = .ok (.iload_n 2, 1) := by decide +kernel
theorem d_Outline_takeCorner_10 : decode prog_5_method_2_code 10 = .ok (.invokevirtual 22, 3) := by decide +kernel
theorem d_Outline_takeCorner_13 : decode prog_5_method_2_code 13 = .ok (.ifCond .ne 5, 3) := by decide +kernel
theorem d_Outline_takeCorner_16 : decode prog_5_method_2_code 16 = .ok (.iconst 0, 1) := by decide +kernel
theorem d_Outline_takeCorner_17 : decode prog_5_method_2_code 17 = .ok (.ireturn, 1) := by decide +kernel
theorem d_Outline_takeCorner_18 : decode prog_5_method_2_code 18 = .ok (.aload_n 0, 1) := by decide +kernel
theorem d_Outline_takeCorner_19 : decode prog_5_method_2_code 19 = .ok (.getfield 26, 3) := by decide +kernel
theorem d_Outline_takeCorner_22 : decode prog_5_method_2_code 22 = .ok (.iconst 4, 1) := by decide +kernel
theorem d_Outline_takeCorner_23 : decode prog_5_method_2_code 23 = .ok (.if_icmp .lt 55, 3) := by decide +kernel
theorem d_Outline_takeCorner_26 : decode prog_5_method_2_code 26 = .ok (.iload_n 1, 1) := by decide +kernel
theorem d_Outline_takeCorner_27 : decode prog_5_method_2_code 27 = .ok (.aload_n 0, 1) := by decide +kernel
theorem d_Outline_takeCorner_28 : decode prog_5_method_2_code 28 = .ok (.getfield 9, 3) := by decide +kernel
theorem d_Outline_takeCorner_31 : decode prog_5_method_2_code 31 = .ok (.iconst 0, 1) := by decide +kernel
theorem d_Outline_takeCorner_32 : decode prog_5_method_2_code 32 = .ok (.iaload, 1) := by decide +kernel
theorem d_Outline_takeCorner_33 : decode prog_5_method_2_code 33 = .ok (.if_icmp .ne 45, 3) := by decide +kernel
theorem d_Outline_takeCorner_36 : decode prog_5_method_2_code 36 = .ok (.iload_n 2, 1) := by decide +kernel
theorem d_Outline_takeCorner_37 : decode prog_5_method_2_code 37 = .ok (.aload_n 0, 1) := by decide +kernel
theorem d_Outline_takeCorner_38 : decode prog_5_method_2_code 38 = .ok (.getfield 15, 3) := by decide +kernel
theorem d_Outline_takeCorner_41 : decode prog_5_method_2_code 41 = .ok (.iconst 0, 1) := by decide +kernel
theorem d_Outline_takeCorner_42 : decode prog_5_method_2_code 42 = .ok (.iaload, 1) := by decide +kernel
theorem d_Outline_takeCorner_43 : decode prog_5_method_2_code 43 = .ok (.if_icmp .ne 35, 3) := by decide +kernel
theorem d_Outline_takeCorner_46 : decode prog_5_method_2_code 46 = .ok (.aload_n 0, 1) := by decide +kernel
theorem d_Outline_takeCorner_47 : decode prog_5_method_2_code 47 = .ok (.aload_n 0, 1) := by decide +kernel
theorem d_Outline_takeCorner_48 : decode prog_5_method_2_code 48 = .ok (.aload_n 0, 1) := by decide +kernel
theorem d_Outline_takeCorner_49 : decode prog_5_method_2_code 49 = .ok (.getfield 26, 3) := by decide +kernel
theorem d_Outline_takeCorner_52 : decode prog_5_method_2_code 52 = .ok (.iconst 1, 1) := by decide +kernel
theorem d_Outline_takeCorner_53 : decode prog_5_method_2_code 53 = .ok (.isub, 1) := by decide +kernel
theorem d_Outline_takeCorner_54 : decode prog_5_method_2_code 54 = .ok (.invokevirtual 30, 3) := by decide +kernel
theorem d_Outline_takeCorner_57 : decode prog_5_method_2_code 57 = .ok (.aload_n 0, 1) := by decide +kernel
theorem d_Outline_takeCorner_58 : decode prog_5_method_2_code 58 = .ok (.iconst 0, 1) := by decide +kernel
theorem d_Outline_takeCorner_59 : decode prog_5_method_2_code 59 = .ok (.invokevirtual 30, 3) := by decide +kernel
theorem d_Outline_takeCorner_62 : decode prog_5_method_2_code 62 = .ok (.if_icmp .eq 7, 3) := by decide +kernel
theorem d_Outline_takeCorner_65 : decode prog_5_method_2_code 65 = .ok (.iconst 1, 1) := by decide +kernel
theorem d_Outline_takeCorner_66 : decode prog_5_method_2_code 66 = .ok (.goto 4, 3) := by decide +kernel
theorem d_Outline_takeCorner_69 : decode prog_5_method_2_code 69 = .ok (.iconst 0, 1) := by decide +kernel
theorem d_Outline_takeCorner_70 : decode prog_5_method_2_code 70 = .ok (.putfield 18, 3) := by decide +kernel
theorem d_Outline_takeCorner_73 : decode prog_5_method_2_code 73 = .ok (.aload_n 0, 1) := by decide +kernel
theorem d_Outline_takeCorner_74 : decode prog_5_method_2_code 74 = .ok (.getfield 18, 3) := by decide +kernel
theorem d_Outline_takeCorner_77 : decode prog_5_method_2_code 77 = .ok (.ireturn, 1) := by decide +kernel
theorem d_Outline_takeCorner_78 : decode prog_5_method_2_code 78 = .ok (.aload_n 0, 1) := by decide +kernel
theorem d_Outline_takeCorner_79 : decode prog_5_method_2_code 79 = .ok (.getfield 26, 3) := by decide +kernel
theorem d_Outline_takeCorner_82 : decode prog_5_method_2_code 82 = .ok (.bipush 16, 2) := by decide +kernel
theorem d_Outline_takeCorner_84 : decode prog_5_method_2_code 84 = .ok (.if_icmp .lt 5, 3) := by decide +kernel
theorem d_Outline_takeCorner_87 : decode prog_5_method_2_code 87 = .ok (.iconst 0, 1) := by decide +kernel
theorem d_Outline_takeCorner_88 : decode prog_5_method_2_code 88 = .ok (.ireturn, 1) := by decide +kernel
theorem d_Outline_takeCorner_89 : decode prog_5_method_2_code 89 = .ok (.aload_n 0, 1) := by decide +kernel
theorem d_Outline_takeCorner_90 : decode prog_5_method_2_code 90 = .ok (.getfield 9, 3) := by decide +kernel
theorem d_Outline_takeCorner_93 : decode prog_5_method_2_code 93 = .ok (.aload_n 0, 1) := by decide +kernel
theorem d_Outline_takeCorner_94 : decode prog_5_method_2_code 94 = .ok (.getfield 26, 3) := by decide +kernel
theorem d_Outline_takeCorner_97 : decode prog_5_method_2_code 97 = .ok (.iload_n 1, 1) := by decide +kernel
theorem d_Outline_takeCorner_98 : decode prog_5_method_2_code 98 = .ok (.iastore, 1) := by decide +kernel
theorem d_Outline_takeCorner_99 : decode prog_5_method_2_code 99 = .ok (.aload_n 0, 1) := by decide +kernel
theorem d_Outline_takeCorner_100 : decode prog_5_method_2_code 100 = .ok (.getfield 15, 3) := by decide +kernel
theorem d_Outline_takeCorner_103 : decode prog_5_method_2_code 103 = .ok (.aload_n 0, 1) := by decide +kernel
theorem d_Outline_takeCorner_104 : decode prog_5_method_2_code 104 = .ok (.getfield 26, 3) := by decide +kernel
theorem d_Outline_takeCorner_107 : decode prog_5_method_2_code 107 = .ok (.iload_n 2, 1) := by decide +kernel
theorem d_Outline_takeCorner_108 : decode prog_5_method_2_code 108 = .ok (.iastore, 1) := by decide +kernel
theorem d_Outline_takeCorner_109 : decode prog_5_method_2_code 109 = .ok (.aload_n 0, 1) := by decide +kernel
theorem d_Outline_takeCorner_110 : decode prog_5_method_2_code 110 = .ok (.dup, 1) := by decide +kernel
theorem d_Outline_takeCorner_111 : decode prog_5_method_2_code 111 = .ok (.getfield 26, 3) := by decide +kernel
theorem d_Outline_takeCorner_114 : decode prog_5_method_2_code 114 = .ok (.iconst 1, 1) := by decide +kernel
theorem d_Outline_takeCorner_115 : decode prog_5_method_2_code 115 = .ok (.iadd, 1) := by decide +kernel
theorem d_Outline_takeCorner_116 : decode prog_5_method_2_code 116 = .ok (.putfield 26, 3) := by decide +kernel
theorem d_Outline_takeCorner_119 : decode prog_5_method_2_code 119 = .ok (.iconst 1, 1) := by decide +kernel
theorem d_Outline_takeCorner_120 : decode prog_5_method_2_code 120 = .ok (.ireturn, 1) := by decide +kernel
theorem d_Outline_maySideGoTo_0 : decode prog_5_method_3_code 0 = .ok (.aload_n 0, 1) := by decide +kernel
theorem d_Outline_maySideGoTo_1 : decode prog_5_method_3_code 1 = .ok (.getfield 26, 3) := by decide +kernel
theorem d_Outline_maySideGoTo_4 : decode prog_5_method_3_code 4 = .ok (.ifCond .ne 5, 3) := by decide +kernel
theorem d_Outline_maySideGoTo_7 : decode prog_5_method_3_code 7 = .ok (.iconst 1, 1) := by decide +kernel
theorem d_Outline_maySideGoTo_8 : decode prog_5_method_3_code 8 = .ok (.ireturn, 1) := by decide +kernel
theorem d_Outline_maySideGoTo_9 : decode prog_5_method_3_code 9 = .ok (.iload_n 2, 1) := by decide +kernel
theorem d_Outline_maySideGoTo_10 : decode prog_5_method_3_code 10 = .ok (.aload_n 0, 1) := by decide +kernel
theorem d_Outline_maySideGoTo_11 : decode prog_5_method_3_code 11 = .ok (.getfield 15, 3) := by decide +kernel
theorem d_Outline_maySideGoTo_14 : decode prog_5_method_3_code 14 = .ok (.aload_n 0, 1) := by decide +kernel
theorem d_Outline_maySideGoTo_15 : decode prog_5_method_3_code 15 = .ok (.getfield 26, 3) := by decide +kernel
theorem d_Outline_maySideGoTo_18 : decode prog_5_method_3_code 18 = .ok (.iconst 1, 1) := by decide +kernel
theorem d_Outline_maySideGoTo_19 : decode prog_5_method_3_code 19 = .ok (.isub, 1) := by decide +kernel
theorem d_Outline_maySideGoTo_20 : decode prog_5_method_3_code 20 = .ok (.iaload, 1) := by decide +kernel
theorem d_Outline_maySideGoTo_21 : decode prog_5_method_3_code 21 = .ok (.if_icmp .ne 7, 3) := by decide +kernel
theorem d_Outline_maySideGoTo_24 : decode prog_5_method_3_code 24 = .ok (.iconst 1, 1) := by decide +kernel
theorem d_Outline_maySideGoTo_25 : decode prog_5_method_3_code 25 = .ok (.goto 4, 3) := by decide +kernel
theorem d_Outline_maySideGoTo_28 : decode prog_5_method_3_code 28 = .ok (.iconst 0, 1) := by decide +kernel
theorem d_Outline_maySideGoTo_29 : decode prog_5_method_3_code 29 = .ok (.istore_n 3, 1) := by decide +kernel
theorem d_Outline_maySideGoTo_30 : decode prog_5_method_3_code 30 = .ok (.iload_n 1, 1) := by decide +kernel
theorem d_Outline_maySideGoTo_31 : decode prog_5_method_3_code 31 = .ok (.aload_n 0, 1) := by decide +kernel
theorem d_Outline_maySideGoTo_32 : decode prog_5_method_3_code 32 = .ok (.getfield 9, 3) := by decide +kernel
theorem d_Outline_maySideGoTo_35 : decode prog_5_method_3_code 35 = .ok (.aload_n 0, 1) := by decide +kernel
theorem d_Outline_maySideGoTo_36 : decode prog_5_method_3_code 36 = .ok (.getfield 26, 3) := by decide +kernel
theorem d_Outline_maySideGoTo_39 : decode prog_5_method_3_code 39 = .ok (.iconst 1, 1) := by decide +kernel
theorem d_Outline_maySideGoTo_40 : decode prog_5_method_3_code 40 = .ok (.isub, 1) := by decide +kernel
theorem d_Outline_maySideGoTo_41 : decode prog_5_method_3_code 41 = .ok (.iaload, 1) := by decide +kernel
theorem d_Outline_maySideGoTo_42 : decode prog_5_method_3_code 42 = .ok (.if_icmp .ne 7, 3) := by decide +kernel
theorem d_Outline_maySideGoTo_45 : decode prog_5_method_3_code 45 = .ok (.iconst 1, 1) := by decide +kernel
theorem d_Outline_maySideGoTo_46 : decode prog_5_method_3_code 46 = .ok (.goto 4, 3) := by decide +kernel
theorem d_Outline_maySideGoTo_49 : decode prog_5_method_3_code 49 = .ok (.iconst 0, 1) := by decide +kernel
theorem d_Outline_maySideGoTo_50 : decode prog_5_method_3_code 50 = .ok (.istore 4, 2) := by decide +kernel
theorem d_Outline_maySideGoTo_52 : decode prog_5_method_3_code 52 = .ok (.iload_n 3, 1) := by decide +kernel
theorem d_Outline_maySideGoTo_53 : decode prog_5_method_3_code 53 = .ok (.iload 4, 2) := by decide +kernel
theorem d_Outline_maySideGoTo_55 : decode prog_5_method_3_code 55 = .ok (.if_icmp .ne 5, 3) := by decide +kernel
theorem d_Outline_maySideGoTo_58 : decode prog_5_method_3_code 58 = .ok (.iconst 0, 1) := by decide +kernel
theorem d_Outline_maySideGoTo_59 : decode prog_5_method_3_code 59 = .ok (.ireturn, 1) := by decide +kernel
theorem d_Outline_maySideGoTo_60 : decode prog_5_method_3_code 60 = .ok (.aload_n 0, 1) := by decide +kernel
theorem d_Outline_maySideGoTo_61 : decode prog_5_method_3_code 61 = .ok (.getfield 26, 3) := by decide +kernel
theorem d_Outline_maySideGoTo_64 : decode prog_5_method_3_code 64 = .ok (.iconst 1, 1) := by decide +kernel
theorem d_Outline_maySideGoTo_65 : decode prog_5_method_3_code 65 = .ok (.if_icmp .eq 17, 3) := by decide +kernel
theorem d_Outline_maySideGoTo_68 : decode prog_5_method_3_code 68 = .ok (.iload_n 3, 1) := by decide +kernel
theorem d_Outline_maySideGoTo_69 : decode prog_5_method_3_code 69 = .ok (.aload_n 0, 1) := by decide +kernel
theorem d_Outline_maySideGoTo_70 : decode prog_5_method_3_code 70 = .ok (.aload_n 0, 1) := by decide +kernel
theorem d_Outline_maySideGoTo_71 : decode prog_5_method_3_code 71 = .ok (.getfield 26, 3) := by decide +kernel
theorem d_Outline_maySideGoTo_74 : decode prog_5_method_3_code 74 = .ok (.iconst 2, 1) := by decide +kernel
theorem d_Outline_maySideGoTo_75 : decode prog_5_method_3_code 75 = .ok (.isub, 1) := by decide +kernel
theorem d_Outline_maySideGoTo_76 : decode prog_5_method_3_code 76 = .ok (.invokevirtual 30, 3) := by decide +kernel
theorem d_Outline_maySideGoTo_79 : decode prog_5_method_3_code 79 = .ok (.if_icmp .eq 7, 3) := by decide +kernel
theorem d_Outline_maySideGoTo_82 : decode prog_5_method_3_code 82 = .ok (.iconst 1, 1) := by decide +kernel
theorem d_Outline_maySideGoTo_83 : decode prog_5_method_3_code 83 = .ok (.goto 4, 3) := by decide +kernel
theorem d_Outline_maySideGoTo_86 : decode prog_5_method_3_code 86 = .ok (.iconst 0, 1) := by decide +kernel
theorem d_Outline_maySideGoTo_87 : decode prog_5_method_3_code 87 = .ok (.ireturn, 1) := by decide +kernel
theorem d_Outline_nextCorner_0 : decode prog_5_method_4_code 0 = .ok (.iload_n 1, 1) := by decide +kernel
theorem d_Outline_nextCorner_1 : decode prog_5_method_4_code 1 = .ok (.iconst 1, 1) := by decide +kernel
theorem d_Outline_nextCorner_2 : decode prog_5_method_4_code 2 = .ok (.iadd, 1) := by decide +kernel
theorem d_Outline_nextCorner_3 : decode prog_5_method_4_code 3 = .ok (.aload_n 0, 1) := by decide +kernel
theorem d_Outline_nextCorner_4 : decode prog_5_method_4_code 4 = .ok (.getfield 26, 3) := by decide +kernel
theorem d_Outline_nextCorner_7 : decode prog_5_method_4_code 7 = .ok (.if_icmp .ge 9, 3) := by decide +kernel
theorem d_Outline_nextCorner_10 : decode prog_5_method_4_code 10 = .ok (.iload_n 1, 1) := by decide +kernel
theorem d_Outline_nextCorner_11 : decode prog_5_method_4_code 11 = .ok (.iconst 1, 1) := by decide +kernel
theorem d_Outline_nextCorner_12 : decode prog_5_method_4_code 12 = .ok (.iadd, 1) := by decide +kernel
theorem d_Outline_nextCorner_13 : decode prog_5_method_4_code 13 = .ok (.goto 4, 3) := by decide +kernel
theorem d_Outline_nextCorner_16 : decode prog_5_method_4_code 16 = .ok (.iconst 0, 1) := by decide +kernel
theorem d_Outline_nextCorner_17 : decode prog_5_method_4_code 17 = .ok (.ireturn, 1) := by decide +kernel
theorem d_Outline_isAlongX_0 : decode prog_5_method_5_code 0 = .ok (.aload_n 0, 1) := by decide +kernel
theorem d_Outline_isAlongX_1 : decode prog_5_method_5_code 1 = .ok (.getfield 15, 3) := by decide +kernel
theorem d_Outline_isAlongX_4 : decode prog_5_method_5_code 4 = .ok (.iload_n 1, 1) := by decide +kernel
theorem d_Outline_isAlongX_5 : decode prog_5_method_5_code 5 = .ok (.iaload, 1) := by decide +kernel
theorem d_Outline_isAlongX_6 : decode prog_5_method_5_code 6 = .ok (.aload_n 0, 1) := by decide +kernel
theorem d_Outline_isAlongX_7 : decode prog_5_method_5_code 7 = .ok (.getfield 15, 3) := by decide +kernel
theorem d_Outline_isAlongX_10 : decode prog_5_method_5_code 10 = .ok (.aload_n 0, 1) := by decide +kernel
theorem d_Outline_isAlongX_11 : decode prog_5_method_5_code 11 = .ok (.iload_n 1, 1) := by decide +kernel
theorem d_Outline_isAlongX_12 : decode prog_5_method_5_code 12 = .ok (.invokevirtual 34, 3) := by decide +kernel
theorem d_Outline_isAlongX_15 : decode prog_5_method_5_code 15 = .ok (.iaload, 1) := by decide +kernel
theorem d_Outline_isAlongX_16 : decode prog_5_method_5_code 16 = .ok (.if_icmp .ne 7, 3) := by decide +kernel
theorem d_Outline_isAlongX_19 : decode prog_5_method_5_code 19 = .ok (.iconst 1, 1) := by decide +kernel
theorem d_Outline_isAlongX_20 : decode prog_5_method_5_code 20 = .ok (.goto 4, 3) := by decide +kernel
theorem d_Outline_isAlongX_23 : decode prog_5_method_5_code 23 = .ok (.iconst 0, 1) := by decide +kernel
theorem d_Outline_isAlongX_24 : decode prog_5_method_5_code 24 = .ok (.ireturn, 1) := by decide +kernel
theorem d_Outline_sideStart_0 : decode prog_5_method_6_code 0 = .ok (.aload_n 0, 1) := by decide +kernel
theorem d_Outline_sideStart_1 : decode prog_5_method_6_code 1 = .ok (.iload_n 1, 1) := by decide +kernel
theorem d_Outline_sideStart_2 : decode prog_5_method_6_code 2 = .ok (.invokevirtual 30, 3) := by decide +kernel
theorem d_Outline_sideStart_5 : decode prog_5_method_6_code 5 = .ok (.ifCond .eq 12, 3) := by decide +kernel
theorem d_Outline_sideStart_8 : decode prog_5_method_6_code 8 = .ok (.aload_n 0, 1) := by decide +kernel
theorem d_Outline_sideStart_9 : decode prog_5_method_6_code 9 = .ok (.getfield 9, 3) := by decide +kernel
theorem d_Outline_sideStart_12 : decode prog_5_method_6_code 12 = .ok (.iload_n 1, 1) := by decide +kernel
theorem d_Outline_sideStart_13 : decode prog_5_method_6_code 13 = .ok (.iaload, 1) := by decide +kernel
theorem d_Outline_sideStart_14 : decode prog_5_method_6_code 14 = .ok (.goto 9, 3) := by decide +kernel
theorem d_Outline_sideStart_17 : decode prog_5_method_6_code 17 = .ok (.aload_n 0, 1) := by decide +kernel
theorem d_Outline_sideStart_18 : decode prog_5_method_6_code 18 = .ok (.getfield 15, 3) := by decide +kernel
theorem d_Outline_sideStart_21 : decode prog_5_method_6_code 21 = .ok (.iload_n 1, 1) := by decide +kernel
theorem d_Outline_sideStart_22 : decode prog_5_method_6_code 22 = .ok (.iaload, 1) := by decide +kernel
theorem d_Outline_sideStart_23 : decode prog_5_method_6_code 23 = .ok (.ireturn, 1) := by decide +kernel
theorem d_Outline_sideEnd_0 : decode prog_5_method_7_code 0 = .ok (.aload_n 0, 1) := by decide +kernel
theorem d_Outline_sideEnd_1 : decode prog_5_method_7_code 1 = .ok (.iload_n 1, 1) := by decide +kernel
theorem d_Outline_sideEnd_2 : decode prog_5_method_7_code 2 = .ok (.invokevirtual 34, 3) := by decide +kernel
theorem d_Outline_sideEnd_5 : decode prog_5_method_7_code 5 = .ok (.istore_n 2, 1) := by decide +kernel
theorem d_Outline_sideEnd_6 : decode prog_5_method_7_code 6 = .ok (.aload_n 0, 1) := by decide +kernel
theorem d_Outline_sideEnd_7 : decode prog_5_method_7_code 7 = .ok (.iload_n 1, 1) := by decide +kernel
theorem d_Outline_sideEnd_8 : decode prog_5_method_7_code 8 = .ok (.invokevirtual 30, 3) := by decide +kernel
theorem d_Outline_sideEnd_11 : decode prog_5_method_7_code 11 = .ok (.ifCond .eq 12, 3) := by decide +kernel
theorem d_Outline_sideEnd_14 : decode prog_5_method_7_code 14 = .ok (.aload_n 0, 1) := by decide +kernel
theorem d_Outline_sideEnd_15 : decode prog_5_method_7_code 15 = .ok (.getfield 9, 3) := by decide +kernel
theorem d_Outline_sideEnd_18 : decode prog_5_method_7_code 18 = .ok (.iload_n 2, 1) := by decide +kernel
theorem d_Outline_sideEnd_19 : decode prog_5_method_7_code 19 = .ok (.iaload, 1) := by decide +kernel
theorem d_Outline_sideEnd_20 : decode prog_5_method_7_code 20 = .ok (.goto 9, 3) := by decide +kernel
theorem d_Outline_sideEnd_23 : decode prog_5_method_7_code 23 = .ok (.aload_n 0, 1) := by decide +kernel
theorem d_Outline_sideEnd_24 : decode prog_5_method_7_code 24 = .ok (.getfield 15, 3) := by decide +kernel
theorem d_Outline_sideEnd_27 : decode prog_5_method_7_code 27 = .ok (.iload_n 2, 1) := by decide +kernel
theorem d_Outline_sideEnd_28 : decode prog_5_method_7_code 28 = .ok (.iaload, 1) := by decide +kernel
theorem d_Outline_sideEnd_29 : decode prog_5_method_7_code 29 = .ok (.ireturn, 1) := by decide +kernel
theorem d_Outline_partsOf_0 : decode prog_5_method_8_code 0 = .ok (.iload_n 2, 1) := by decide +kernel
theorem d_Outline_partsOf_1 : decode prog_5_method_8_code 1 = .ok (.iconst 1, 1) := by decide +kernel
theorem d_Outline_partsOf_2 : decode prog_5_method_8_code 2 = .ok (.if_icmp .ge 5, 3) := by decide +kernel
theorem d_Outline_partsOf_5 : decode prog_5_method_8_code 5 = .ok (.iconst 0, 1) := by decide +kernel
theorem d_Outline_partsOf_6 : decode prog_5_method_8_code 6 = .ok (.ireturn, 1) := by decide +kernel
theorem d_Outline_partsOf_7 : decode prog_5_method_8_code 7 = .ok (.aload_n 0, 1) := by decide +kernel
theorem d_Outline_partsOf_8 : decode prog_5_method_8_code 8 = .ok (.iload_n 1, 1) := by decide +kernel
theorem d_Outline_partsOf_9 : decode prog_5_method_8_code 9 = .ok (.invokevirtual 38, 3) := by decide +kernel
theorem d_Outline_partsOf_12 : decode prog_5_method_8_code 12 = .ok (.aload_n 0, 1) := by decide +kernel
theorem d_Outline_partsOf_13 : decode prog_5_method_8_code 13 = .ok (.iload_n 1, 1) := by decide +kernel
theorem d_Outline_partsOf_14 : decode prog_5_method_8_code 14 = .ok (.invokevirtual 41, 3) := by decide +kernel
theorem d_Outline_partsOf_17 : decode prog_5_method_8_code 17 = .ok (.isub, 1) := by decide +kernel
theorem d_Outline_partsOf_18 : decode prog_5_method_8_code 18 = .ok (.invokestatic 44, 3) := by decide +kernel
theorem d_Outline_partsOf_21 : decode prog_5_method_8_code 21 = .ok (.istore_n 3, 1) := by decide +kernel
theorem d_Outline_partsOf_22 : decode prog_5_method_8_code 22 = .ok (.iload_n 3, 1) := by decide +kernel
theorem d_Outline_partsOf_23 : decode prog_5_method_8_code 23 = .ok (.iload_n 2, 1) := by decide +kernel
theorem d_Outline_partsOf_24 : decode prog_5_method_8_code 24 = .ok (.iadd, 1) := by decide +kernel
theorem d_Outline_partsOf_25 : decode prog_5_method_8_code 25 = .ok (.iconst 1, 1) := by decide +kernel
theorem d_Outline_partsOf_26 : decode prog_5_method_8_code 26 = .ok (.isub, 1) := by decide +kernel
theorem d_Outline_partsOf_27 : decode prog_5_method_8_code 27 = .ok (.iload_n 2, 1) := by decide +kernel
theorem d_Outline_partsOf_28 : decode prog_5_method_8_code 28 = .ok (.idiv, 1) := by decide +kernel
theorem d_Outline_partsOf_29 : decode prog_5_method_8_code 29 = .ok (.ireturn, 1) := by decide +kernel
theorem d_Outline_holds_0 : decode prog_5_method_9_code 0 = .ok (.iconst 0, 1) := by decide +kernel
theorem d_Outline_holds_1 : decode prog_5_method_9_code 1 = .ok (.istore_n 3, 1) := by decide +kernel
theorem d_Outline_holds_2 : decode prog_5_method_9_code 2 = .ok (.iconst 0, 1) := by decide +kernel
theorem d_Outline_holds_3 : decode prog_5_method_9_code 3 = .ok (.istore 4, 2) := by decide +kernel
theorem d_Outline_holds_5 : decode prog_5_method_9_code 5 = .ok (.iload 4, 2) := by decide +kernel
theorem d_Outline_holds_7 : decode prog_5_method_9_code 7 = .ok (.aload_n 0, 1) := by decide +kernel
theorem d_Outline_holds_8 : decode prog_5_method_9_code 8 = .ok (.getfield 26, 3) := by decide +kernel
theorem d_Outline_holds_11 : decode prog_5_method_9_code 11 = .ok (.if_icmp .ge 74, 3) := by decide +kernel
theorem d_Outline_holds_14 : decode prog_5_method_9_code 14 = .ok (.aload_n 0, 1) := by decide +kernel
theorem d_Outline_holds_15 : decode prog_5_method_9_code 15 = .ok (.getfield 15, 3) := by decide +kernel
theorem d_Outline_holds_18 : decode prog_5_method_9_code 18 = .ok (.iload 4, 2) := by decide +kernel
theorem d_Outline_holds_20 : decode prog_5_method_9_code 20 = .ok (.iaload, 1) := by decide +kernel
theorem d_Outline_holds_21 : decode prog_5_method_9_code 21 = .ok (.istore 5, 2) := by decide +kernel
theorem d_Outline_holds_23 : decode prog_5_method_9_code 23 = .ok (.aload_n 0, 1) := by decide +kernel
theorem d_Outline_holds_24 : decode prog_5_method_9_code 24 = .ok (.getfield 15, 3) := by decide +kernel
theorem d_Outline_holds_27 : decode prog_5_method_9_code 27 = .ok (.aload_n 0, 1) := by decide +kernel
theorem d_Outline_holds_28 : decode prog_5_method_9_code 28 = .ok (.iload 4, 2) := by decide +kernel
theorem d_Outline_holds_30 : decode prog_5_method_9_code 30 = .ok (.invokevirtual 34, 3) := by decide +kernel
theorem d_Outline_holds_33 : decode prog_5_method_9_code 33 = .ok (.iaload, 1) := by decide +kernel
theorem d_Outline_holds_34 : decode prog_5_method_9_code 34 = .ok (.istore 6, 2) := by decide +kernel
theorem d_Outline_holds_36 : decode prog_5_method_9_code 36 = .ok (.aload_n 0, 1) := by decide +kernel
theorem d_Outline_holds_37 : decode prog_5_method_9_code 37 = .ok (.getfield 9, 3) := by decide +kernel
theorem d_Outline_holds_40 : decode prog_5_method_9_code 40 = .ok (.iload 4, 2) := by decide +kernel
theorem d_Outline_holds_42 : decode prog_5_method_9_code 42 = .ok (.iaload, 1) := by decide +kernel
theorem d_Outline_holds_43 : decode prog_5_method_9_code 43 = .ok (.iload_n 1, 1) := by decide +kernel
theorem d_Outline_holds_44 : decode prog_5_method_9_code 44 = .ok (.if_icmp .gt 35, 3) := by decide +kernel
theorem d_Outline_holds_47 : decode prog_5_method_9_code 47 = .ok (.iload 5, 2) := by decide +kernel
theorem d_Outline_holds_49 : decode prog_5_method_9_code 49 = .ok (.iload 6, 2) := by decide +kernel
theorem d_Outline_holds_51 : decode prog_5_method_9_code 51 = .ok (.invokestatic 49, 3) := by decide +kernel
theorem d_Outline_holds_54 : decode prog_5_method_9_code 54 = .ok (.iload_n 2, 1) := by decide +kernel
theorem d_Outline_holds_55 : decode prog_5_method_9_code 55 = .ok (.if_icmp .gt 24, 3) := by decide +kernel
theorem d_Outline_holds_58 : decode prog_5_method_9_code 58 = .ok (.iload_n 2, 1) := by decide +kernel
theorem d_Outline_holds_59 : decode prog_5_method_9_code 59 = .ok (.iload 5, 2) := by decide +kernel
theorem d_Outline_holds_61 : decode prog_5_method_9_code 61 = .ok (.iload 6, 2) := by decide +kernel
theorem d_Outline_holds_63 : decode prog_5_method_9_code 63 = .ok (.invokestatic 53, 3) := by decide +kernel
theorem d_Outline_holds_66 : decode prog_5_method_9_code 66 = .ok (.if_icmp .ge 13, 3) := by decide +kernel
theorem d_Outline_holds_69 : decode prog_5_method_9_code 69 = .ok (.iload_n 3, 1) := by decide +kernel
theorem d_Outline_holds_70 : decode prog_5_method_9_code 70 = .ok (.ifCond .ne 7, 3) := by decide +kernel
theorem d_Outline_holds_73 : decode prog_5_method_9_code 73 = .ok (.iconst 1, 1) := by decide +kernel
theorem d_Outline_holds_74 : decode prog_5_method_9_code 74 = .ok (.goto 4, 3) := by decide +kernel
theorem d_Outline_holds_77 : decode prog_5_method_9_code 77 = .ok (.iconst 0, 1) := by decide +kernel
theorem d_Outline_holds_78 : decode prog_5_method_9_code 78 = .ok (.istore_n 3, 1) := by decide +kernel
theorem d_Outline_holds_79 : decode prog_5_method_9_code 79 = .ok (.iinc 4 1, 3) := by decide +kernel
theorem d_Outline_holds_82 : decode prog_5_method_9_code 82 = .ok (.goto (-77), 3) := by decide +kernel
theorem d_Outline_holds_85 : decode prog_5_method_9_code 85 = .ok (.aload_n 0, 1) := by decide +kernel
theorem d_Outline_holds_86 : decode prog_5_method_9_code 86 = .ok (.getfield 18, 3) := by decide +kernel
theorem d_Outline_holds_89 : decode prog_5_method_9_code 89 = .ok (.ifCond .eq 11, 3) := by decide +kernel
theorem d_Outline_holds_92 : decode prog_5_method_9_code 92 = .ok (.iload_n 3, 1) := by decide +kernel
theorem d_Outline_holds_93 : decode prog_5_method_9_code 93 = .ok (.ifCond .eq 7, 3) := by decide +kernel
theorem d_Outline_holds_96 : decode prog_5_method_9_code 96 = .ok (.iconst 1, 1) := by decide +kernel
theorem d_Outline_holds_97 : decode prog_5_method_9_code 97 = .ok (.goto 4, 3) := by decide +kernel
theorem d_Outline_holds_100 : decode prog_5_method_9_code 100 = .ok (.iconst 0, 1) := by decide +kernel
theorem d_Outline_holds_101 : decode prog_5_method_9_code 101 = .ok (.ireturn, 1) := by decide +kernel
theorem d_Piece_init_0 : decode prog_6_method_1_code 0 = .ok (.aload_n 0, 1) := by decide +kernel
theorem d_Piece_init_1 : decode prog_6_method_1_code 1 = .ok (.invokespecial 3, 3) := by decide +kernel
theorem d_Piece_init_4 : decode prog_6_method_1_code 4 = .ok (.return_, 1) := by decide +kernel
theorem d_Piece_lieOn_0 : decode prog_6_method_2_code 0 = .ok (.aload_n 1, 1) := by decide +kernel
theorem d_Piece_lieOn_1 : decode prog_6_method_2_code 1 = .ok (.iload_n 2, 1) := by decide +kernel
theorem d_Piece_lieOn_2 : decode prog_6_method_2_code 2 = .ok (.invokevirtual 9, 3) := by decide +kernel
theorem d_Piece_lieOn_5 : decode prog_6_method_2_code 5 = .ok (.istore 5, 2) := by decide +kernel
theorem d_Piece_lieOn_7 : decode prog_6_method_2_code 7 = .ok (.aload_n 1, 1) := by decide +kernel
theorem d_Piece_lieOn_8 : decode prog_6_method_2_code 8 = .ok (.iload_n 2, 1) := by decide +kernel
theorem d_Piece_lieOn_9 : decode prog_6_method_2_code 9 = .ok (.invokevirtual 15, 3) := by decide +kernel
theorem d_Piece_lieOn_12 : decode prog_6_method_2_code 12 = .ok (.istore 6, 2) := by decide +kernel
theorem d_Piece_lieOn_14 : decode prog_6_method_2_code 14 = .ok (.aload_n 0, 1) := by decide +kernel
theorem d_Piece_lieOn_15 : decode prog_6_method_2_code 15 = .ok (.aload_n 1, 1) := by decide +kernel
theorem d_Piece_lieOn_16 : decode prog_6_method_2_code 16 = .ok (.iload_n 2, 1) := by decide +kernel
theorem d_Piece_lieOn_17 : decode prog_6_method_2_code 17 = .ok (.invokevirtual 18, 3) := by decide +kernel
theorem d_Piece_lieOn_20 : decode prog_6_method_2_code 20 = .ok (.putfield 22, 3) := by decide +kernel
theorem d_Piece_lieOn_23 : decode prog_6_method_2_code 23 = .ok (.aload_n 0, 1) := by decide +kernel
theorem d_Piece_lieOn_24 : decode prog_6_method_2_code 24 = .ok (.aload_n 0, 1) := by decide +kernel
theorem d_Piece_lieOn_25 : decode prog_6_method_2_code 25 = .ok (.getfield 22, 3) := by decide +kernel
theorem d_Piece_lieOn_28 : decode prog_6_method_2_code 28 = .ok (.ifCond .eq 12, 3) := by decide +kernel
theorem d_Piece_lieOn_31 : decode prog_6_method_2_code 31 = .ok (.aload_n 1, 1) := by decide +kernel
theorem d_Piece_lieOn_32 : decode prog_6_method_2_code 32 = .ok (.getfield 28, 3) := by decide +kernel
theorem d_Piece_lieOn_35 : decode prog_6_method_2_code 35 = .ok (.iload_n 2, 1) := by decide +kernel
theorem d_Piece_lieOn_36 : decode prog_6_method_2_code 36 = .ok (.iaload, 1) := by decide +kernel
theorem d_Piece_lieOn_37 : decode prog_6_method_2_code 37 = .ok (.goto 9, 3) := by decide +kernel
theorem d_Piece_lieOn_40 : decode prog_6_method_2_code 40 = .ok (.aload_n 1, 1) := by decide +kernel
theorem d_Piece_lieOn_41 : decode prog_6_method_2_code 41 = .ok (.getfield 32, 3) := by decide +kernel
theorem d_Piece_lieOn_44 : decode prog_6_method_2_code 44 = .ok (.iload_n 2, 1) := by decide +kernel
theorem d_Piece_lieOn_45 : decode prog_6_method_2_code 45 = .ok (.iaload, 1) := by decide +kernel
theorem d_Piece_lieOn_46 : decode prog_6_method_2_code 46 = .ok (.putfield 35, 3) := by decide +kernel
theorem d_Piece_lieOn_49 : decode prog_6_method_2_code 49 = .ok (.aload_n 0, 1) := by decide +kernel
theorem d_Piece_lieOn_50 : decode prog_6_method_2_code 50 = .ok (.iload 5, 2) := by decide +kernel
theorem d_Piece_lieOn_52 : decode prog_6_method_2_code 52 = .ok (.iload 6, 2) := by decide +kernel
theorem d_Piece_lieOn_54 : decode prog_6_method_2_code 54 = .ok (.invokestatic 39, 3) := by decide +kernel
theorem d_Piece_lieOn_57 : decode prog_6_method_2_code 57 = .ok (.putfield 45, 3) := by decide +kernel
theorem d_Piece_lieOn_60 : decode prog_6_method_2_code 60 = .ok (.aload_n 0, 1) := by decide +kernel
theorem d_Piece_lieOn_61 : decode prog_6_method_2_code 61 = .ok (.iload 5, 2) := by decide +kernel
theorem d_Piece_lieOn_63 : decode prog_6_method_2_code 63 = .ok (.iload 6, 2) := by decide +kernel
theorem d_Piece_lieOn_65 : decode prog_6_method_2_code 65 = .ok (.invokestatic 48, 3) := by decide +kernel
theorem d_Piece_lieOn_68 : decode prog_6_method_2_code 68 = .ok (.putfield 51, 3) := by decide +kernel
theorem d_Piece_lieOn_71 : decode prog_6_method_2_code 71 = .ok (.aload_n 0, 1) := by decide +kernel
theorem d_Piece_lieOn_72 : decode prog_6_method_2_code 72 = .ok (.iload_n 3, 1) := by decide +kernel
theorem d_Piece_lieOn_73 : decode prog_6_method_2_code 73 = .ok (.ifCond .ne 7, 3) := by decide +kernel
theorem d_Piece_lieOn_76 : decode prog_6_method_2_code 76 = .ok (.iconst 1, 1) := by decide +kernel
theorem d_Piece_lieOn_77 : decode prog_6_method_2_code 77 = .ok (.goto 4, 3) := by decide +kernel
theorem d_Piece_lieOn_80 : decode prog_6_method_2_code 80 = .ok (.iconst 0, 1) := by decide +kernel
theorem d_Piece_lieOn_81 : decode prog_6_method_2_code 81 = .ok (.putfield 54, 3) := by decide +kernel
theorem d_Piece_lieOn_84 : decode prog_6_method_2_code 84 = .ok (.aload_n 0, 1) := by decide +kernel
theorem d_Piece_lieOn_85 : decode prog_6_method_2_code 85 = .ok (.iload_n 3, 1) := by decide +kernel
theorem d_Piece_lieOn_86 : decode prog_6_method_2_code 86 = .ok (.iload 4, 2) := by decide +kernel
theorem d_Piece_lieOn_88 : decode prog_6_method_2_code 88 = .ok (.iconst 1, 1) := by decide +kernel
theorem d_Piece_lieOn_89 : decode prog_6_method_2_code 89 = .ok (.isub, 1) := by decide +kernel
theorem d_Piece_lieOn_90 : decode prog_6_method_2_code 90 = .ok (.if_icmp .ne 7, 3) := by decide +kernel
theorem d_Piece_lieOn_93 : decode prog_6_method_2_code 93 = .ok (.iconst 1, 1) := by decide +kernel
theorem d_Piece_lieOn_94 : decode prog_6_method_2_code 94 = .ok (.goto 4, 3) := by decide +kernel
theorem d_Piece_lieOn_97 : decode prog_6_method_2_code 97 = .ok (.iconst 0, 1) := by decide +kernel
theorem d_Piece_lieOn_98 : decode prog_6_method_2_code 98 = .ok (.putfield 57, 3) := by decide +kernel
theorem d_Piece_lieOn_101 : decode prog_6_method_2_code 101 = .ok (.aload_n 0, 1) := by decide +kernel
theorem d_Piece_lieOn_102 : decode prog_6_method_2_code 102 = .ok (.iconst 0, 1) := by decide +kernel
theorem d_Piece_lieOn_103 : decode prog_6_method_2_code 103 = .ok (.putfield 60, 3) := by decide +kernel
theorem d_Piece_lieOn_106 : decode prog_6_method_2_code 106 = .ok (.iload 5, 2) := by decide +kernel
theorem d_Piece_lieOn_108 : decode prog_6_method_2_code 108 = .ok (.iload 6, 2) := by decide +kernel
theorem d_Piece_lieOn_110 : decode prog_6_method_2_code 110 = .ok (.iload_n 3, 1) := by decide +kernel
theorem d_Piece_lieOn_111 : decode prog_6_method_2_code 111 = .ok (.iload 4, 2) := by decide +kernel
theorem d_Piece_lieOn_113 : decode prog_6_method_2_code 113 = .ok (.invokestatic 63, 3) := by decide +kernel
theorem d_Piece_lieOn_116 : decode prog_6_method_2_code 116 = .ok (.istore 7, 2) := by decide +kernel
theorem d_Piece_lieOn_118 : decode prog_6_method_2_code 118 = .ok (.iload 5, 2) := by decide +kernel
theorem d_Piece_lieOn_120 : decode prog_6_method_2_code 120 = .ok (.iload 6, 2) := by decide +kernel
theorem d_Piece_lieOn_122 : decode prog_6_method_2_code 122 = .ok (.iload_n 3, 1) := by decide +kernel
theorem d_Piece_lieOn_123 : decode prog_6_method_2_code 123 = .ok (.iconst 1, 1) := by decide +kernel
theorem d_Piece_lieOn_124 : decode prog_6_method_2_code 124 = .ok (.iadd, 1) := by decide +kernel
theorem d_Piece_lieOn_125 : decode prog_6_method_2_code 125 = .ok (.iload 4, 2) := by decide +kernel
theorem d_Piece_lieOn_127 : decode prog_6_method_2_code 127 = .ok (.invokestatic 63, 3) := by decide +kernel
theorem d_Piece_lieOn_130 : decode prog_6_method_2_code 130 = .ok (.istore 8, 2) := by decide +kernel
theorem d_Piece_lieOn_132 : decode prog_6_method_2_code 132 = .ok (.aload_n 0, 1) := by decide +kernel
theorem d_Piece_lieOn_133 : decode prog_6_method_2_code 133 = .ok (.iload 7, 2) := by decide +kernel
theorem d_Piece_lieOn_135 : decode prog_6_method_2_code 135 = .ok (.iload 8, 2) := by decide +kernel
theorem d_Piece_lieOn_137 : decode prog_6_method_2_code 137 = .ok (.invokestatic 39, 3) := by decide +kernel
theorem d_Piece_lieOn_140 : decode prog_6_method_2_code 140 = .ok (.putfield 67, 3) := by decide +kernel
theorem d_Piece_lieOn_143 : decode prog_6_method_2_code 143 = .ok (.aload_n 0, 1) := by decide +kernel
theorem d_Piece_lieOn_144 : decode prog_6_method_2_code 144 = .ok (.iload 7, 2) := by decide +kernel
theorem d_Piece_lieOn_146 : decode prog_6_method_2_code 146 = .ok (.iload 8, 2) := by decide +kernel
theorem d_Piece_lieOn_148 : decode prog_6_method_2_code 148 = .ok (.invokestatic 48, 3) := by decide +kernel
theorem d_Piece_lieOn_151 : decode prog_6_method_2_code 151 = .ok (.putfield 70, 3) := by decide +kernel
theorem d_Piece_lieOn_154 : decode prog_6_method_2_code 154 = .ok (.aload_n 0, 1) := by decide +kernel
theorem d_Piece_lieOn_155 : decode prog_6_method_2_code 155 = .ok (.aload_n 1, 1) := by decide +kernel
theorem d_Piece_lieOn_156 : decode prog_6_method_2_code 156 = .ok (.invokevirtual 73, 3) := by decide +kernel
theorem d_Piece_lieOn_159 : decode prog_6_method_2_code 159 = .ok (.return_, 1) := by decide +kernel
theorem d_Piece_pointAt_0 : decode prog_6_method_3_code 0 = .ok (.iload_n 3, 1) := by decide +kernel
theorem d_Piece_pointAt_1 : decode prog_6_method_3_code 1 = .ok (.iconst 1, 1) := by decide +kernel
theorem d_Piece_pointAt_2 : decode prog_6_method_3_code 2 = .ok (.if_icmp .ge 5, 3) := by decide +kernel
theorem d_Piece_pointAt_5 : decode prog_6_method_3_code 5 = .ok (.iload_n 0, 1) := by decide +kernel
theorem d_Piece_pointAt_6 : decode prog_6_method_3_code 6 = .ok (.ireturn, 1) := by decide +kernel
theorem d_Piece_pointAt_7 : decode prog_6_method_3_code 7 = .ok (.iload_n 1, 1) := by decide +kernel
theorem d_Piece_pointAt_8 : decode prog_6_method_3_code 8 = .ok (.iload_n 0, 1) := by decide +kernel
theorem d_Piece_pointAt_9 : decode prog_6_method_3_code 9 = .ok (.isub, 1) := by decide +kernel
theorem d_Piece_pointAt_10 : decode prog_6_method_3_code 10 = .ok (.invokestatic 77, 3) := by decide +kernel
theorem d_Piece_pointAt_13 : decode prog_6_method_3_code 13 = .ok (.iload_n 2, 1) := by decide +kernel
theorem d_Piece_pointAt_14 : decode prog_6_method_3_code 14 = .ok (.imul, 1) := by decide +kernel
theorem d_Piece_pointAt_15 : decode prog_6_method_3_code 15 = .ok (.iload_n 3, 1) := by decide +kernel
theorem d_Piece_pointAt_16 : decode prog_6_method_3_code 16 = .ok (.idiv, 1) := by decide +kernel
theorem d_Piece_pointAt_17 : decode prog_6_method_3_code 17 = .ok (.istore 4, 2) := by decide +kernel
theorem d_Piece_pointAt_19 : decode prog_6_method_3_code 19 = .ok (.iload_n 1, 1) := by decide +kernel
theorem d_Piece_pointAt_20 : decode prog_6_method_3_code 20 = .ok (.iload_n 0, 1) := by decide +kernel
theorem d_Piece_pointAt_21 : decode prog_6_method_3_code 21 = .ok (.if_icmp .le 10, 3) := by decide +kernel
theorem d_Piece_pointAt_24 : decode prog_6_method_3_code 24 = .ok (.iload_n 0, 1) := by decide +kernel
theorem d_Piece_pointAt_25 : decode prog_6_method_3_code 25 = .ok (.iload 4, 2) := by decide +kernel
theorem d_Piece_pointAt_27 : decode prog_6_method_3_code 27 = .ok (.iadd, 1) := by decide +kernel
theorem d_Piece_pointAt_28 : decode prog_6_method_3_code 28 = .ok (.goto 7, 3) := by decide +kernel
theorem d_Piece_pointAt_31 : decode prog_6_method_3_code 31 = .ok (.iload_n 0, 1) := by decide +kernel
theorem d_Piece_pointAt_32 : decode prog_6_method_3_code 32 = .ok (.iload 4, 2) := by decide +kernel
theorem d_Piece_pointAt_34 : decode prog_6_method_3_code 34 = .ok (.isub, 1) := by decide +kernel
theorem d_Piece_pointAt_35 : decode prog_6_method_3_code 35 = .ok (.ireturn, 1) := by decide +kernel
theorem d_Piece_faceOutward_0 : decode prog_6_method_4_code 0 = .ok (.aload_n 0, 1) := by decide +kernel
theorem d_Piece_faceOutward_1 : decode prog_6_method_4_code 1 = .ok (.getfield 67, 3) := by decide +kernel
theorem d_Piece_faceOutward_4 : decode prog_6_method_4_code 4 = .ok (.aload_n 0, 1) := by decide +kernel
theorem d_Piece_faceOutward_5 : decode prog_6_method_4_code 5 = .ok (.getfield 70, 3) := by decide +kernel
theorem d_Piece_faceOutward_8 : decode prog_6_method_4_code 8 = .ok (.iadd, 1) := by decide +kernel
theorem d_Piece_faceOutward_9 : decode prog_6_method_4_code 9 = .ok (.iconst 1, 1) := by decide +kernel
theorem d_Piece_faceOutward_10 : decode prog_6_method_4_code 10 = .ok (.isub, 1) := by decide +kernel
theorem d_Piece_faceOutward_11 : decode prog_6_method_4_code 11 = .ok (.iconst 2, 1) := by decide +kernel
theorem d_Piece_faceOutward_12 : decode prog_6_method_4_code 12 = .ok (.idiv, 1) := by decide +kernel
theorem d_Piece_faceOutward_13 : decode prog_6_method_4_code 13 = .ok (.istore_n 2, 1) := by decide +kernel
theorem d_Piece_faceOutward_14 : decode prog_6_method_4_code 14 = .ok (.aload_n 0, 1) := by decide +kernel
theorem d_Piece_faceOutward_15 : decode prog_6_method_4_code 15 = .ok (.getfield 22, 3) := by decide +kernel
theorem d_Piece_faceOutward_18 : decode prog_6_method_4_code 18 = .ok (.ifCond .eq 17, 3) := by decide +kernel
theorem d_Piece_faceOutward_21 : decode prog_6_method_4_code 21 = .ok (.aload_n 1, 1) := by decide +kernel
theorem d_Piece_faceOutward_22 : decode prog_6_method_4_code 22 = .ok (.iload_n 2, 1) := by decide +kernel
theorem d_Piece_faceOutward_23 : decode prog_6_method_4_code 23 = .ok (.aload_n 0, 1) := by decide +kernel
theorem d_Piece_faceOutward_24 : decode prog_6_method_4_code 24 = .ok (.getfield 35, 3) := by decide +kernel
theorem d_Piece_faceOutward_27 : decode prog_6_method_4_code 27 = .ok (.iconst 1, 1) := by decide +kernel
theorem d_Piece_faceOutward_28 : decode prog_6_method_4_code 28 = .ok (.isub, 1) := by decide +kernel
theorem d_Piece_faceOutward_29 : decode prog_6_method_4_code 29 = .ok (.invokevirtual 80, 3) := by decide +kernel
theorem d_Piece_faceOutward_32 : decode prog_6_method_4_code 32 = .ok (.goto 14, 3) := by decide +kernel
theorem d_Piece_faceOutward_35 : decode prog_6_method_4_code 35 = .ok (.aload_n 1, 1) := by decide +kernel
theorem d_Piece_faceOutward_36 : decode prog_6_method_4_code 36 = .ok (.aload_n 0, 1) := by decide +kernel
theorem d_Piece_faceOutward_37 : decode prog_6_method_4_code 37 = .ok (.getfield 35, 3) := by decide +kernel
theorem d_Piece_faceOutward_40 : decode prog_6_method_4_code 40 = .ok (.iconst 1, 1) := by decide +kernel
theorem d_Piece_faceOutward_41 : decode prog_6_method_4_code 41 = .ok (.isub, 1) := by decide +kernel
theorem d_Piece_faceOutward_42 : decode prog_6_method_4_code 42 = .ok (.iload_n 2, 1) := by decide +kernel
theorem d_Piece_faceOutward_43 : decode prog_6_method_4_code 43 = .ok (.invokevirtual 80, 3) := by decide +kernel
theorem d_Piece_faceOutward_46 : decode prog_6_method_4_code 46 = .ok (.istore_n 3, 1) := by decide +kernel
theorem d_Piece_faceOutward_47 : decode prog_6_method_4_code 47 = .ok (.aload_n 0, 1) := by decide +kernel
theorem d_Piece_faceOutward_48 : decode prog_6_method_4_code 48 = .ok (.getfield 22, 3) := by decide +kernel
theorem d_Piece_faceOutward_51 : decode prog_6_method_4_code 51 = .ok (.ifCond .eq 15, 3) := by decide +kernel
theorem d_Piece_faceOutward_54 : decode prog_6_method_4_code 54 = .ok (.aload_n 1, 1) := by decide +kernel
theorem d_Piece_faceOutward_55 : decode prog_6_method_4_code 55 = .ok (.iload_n 2, 1) := by decide +kernel
theorem d_Piece_faceOutward_56 : decode prog_6_method_4_code 56 = .ok (.aload_n 0, 1) := by decide +kernel
theorem d_Piece_faceOutward_57 : decode prog_6_method_4_code 57 = .ok (.getfield 35, 3) := by decide +kernel
theorem d_Piece_faceOutward_60 : decode prog_6_method_4_code 60 = .ok (.invokevirtual 80, 3) := by decide +kernel
theorem d_Piece_faceOutward_63 : decode prog_6_method_4_code 63 = .ok (.goto 12, 3) := by decide +kernel
theorem d_Piece_faceOutward_66 : decode prog_6_method_4_code 66 = .ok (.aload_n 1, 1) := by decide +kernel
theorem d_Piece_faceOutward_67 : decode prog_6_method_4_code 67 = .ok (.aload_n 0, 1) := by decide +kernel
theorem d_Piece_faceOutward_68 : decode prog_6_method_4_code 68 = .ok (.getfield 35, 3) := by decide +kernel
theorem d_Piece_faceOutward_71 : decode prog_6_method_4_code 71 = .ok (.iload_n 2, 1) := by decide +kernel
theorem d_Piece_faceOutward_72 : decode prog_6_method_4_code 72 = .ok (.invokevirtual 80, 3) := by decide +kernel
theorem d_Piece_faceOutward_75 : decode prog_6_method_4_code 75 = .ok (.istore 4, 2) := by decide +kernel
theorem d_Piece_faceOutward_77 : decode prog_6_method_4_code 77 = .ok (.aload_n 0, 1) := by decide +kernel
theorem d_Piece_faceOutward_78 : decode prog_6_method_4_code 78 = .ok (.iconst 0, 1) := by decide +kernel
theorem d_Piece_faceOutward_79 : decode prog_6_method_4_code 79 = .ok (.putfield 84, 3) := by decide +kernel
theorem d_Piece_faceOutward_82 : decode prog_6_method_4_code 82 = .ok (.iload_n 3, 1) := by decide +kernel
theorem d_Piece_faceOutward_83 : decode prog_6_method_4_code 83 = .ok (.iload 4, 2) := by decide +kernel
theorem d_Piece_faceOutward_85 : decode prog_6_method_4_code 85 = .ok (.if_icmp .eq 16, 3) := by decide +kernel
theorem d_Piece_faceOutward_88 : decode prog_6_method_4_code 88 = .ok (.aload_n 0, 1) := by decide +kernel
theorem d_Piece_faceOutward_89 : decode prog_6_method_4_code 89 = .ok (.iload_n 3, 1) := by decide +kernel
theorem d_Piece_faceOutward_90 : decode prog_6_method_4_code 90 = .ok (.ifCond .eq 7, 3) := by decide +kernel
theorem d_Piece_faceOutward_93 : decode prog_6_method_4_code 93 = .ok (.iconst 1, 1) := by decide +kernel
theorem d_Piece_faceOutward_94 : decode prog_6_method_4_code 94 = .ok (.goto 4, 3) := by decide +kernel
theorem d_Piece_faceOutward_97 : decode prog_6_method_4_code 97 = .ok (.iconst (-1), 1) := by decide +kernel
theorem d_Piece_faceOutward_98 : decode prog_6_method_4_code 98 = .ok (.putfield 84, 3) := by decide +kernel
theorem d_Piece_faceOutward_101 : decode prog_6_method_4_code 101 = .ok (.iload_n 3, 1) := by decide +kernel
theorem d_Piece_faceOutward_102 : decode prog_6_method_4_code 102 = .ok (.ifCond .eq 12, 3) := by decide +kernel
theorem d_Piece_faceOutward_105 : decode prog_6_method_4_code 105 = .ok (.aload_n 0, 1) := by decide +kernel
theorem d_Piece_faceOutward_106 : decode prog_6_method_4_code 106 = .ok (.getfield 35, 3) := by decide +kernel
theorem d_Piece_faceOutward_109 : decode prog_6_method_4_code 109 = .ok (.iconst 1, 1) := by decide +kernel
theorem d_Piece_faceOutward_110 : decode prog_6_method_4_code 110 = .ok (.isub, 1) := by decide +kernel
theorem d_Piece_faceOutward_111 : decode prog_6_method_4_code 111 = .ok (.goto 7, 3) := by decide +kernel
theorem d_Piece_faceOutward_114 : decode prog_6_method_4_code 114 = .ok (.aload_n 0, 1) := by decide +kernel
theorem d_Piece_faceOutward_115 : decode prog_6_method_4_code 115 = .ok (.getfield 35, 3) := by decide +kernel
theorem d_Piece_faceOutward_118 : decode prog_6_method_4_code 118 = .ok (.istore 5, 2) := by decide +kernel
theorem d_Piece_faceOutward_120 : decode prog_6_method_4_code 120 = .ok (.aload_n 0, 1) := by decide +kernel
theorem d_Piece_faceOutward_121 : decode prog_6_method_4_code 121 = .ok (.aload_n 0, 1) := by decide +kernel
theorem d_Piece_faceOutward_122 : decode prog_6_method_4_code 122 = .ok (.getfield 22, 3) := by decide +kernel
theorem d_Piece_faceOutward_125 : decode prog_6_method_4_code 125 = .ok (.ifCond .eq 7, 3) := by decide +kernel
theorem d_Piece_faceOutward_128 : decode prog_6_method_4_code 128 = .ok (.iload_n 2, 1) := by decide +kernel
theorem d_Piece_faceOutward_129 : decode prog_6_method_4_code 129 = .ok (.goto 5, 3) := by decide +kernel
theorem d_Piece_faceOutward_132 : decode prog_6_method_4_code 132 = .ok (.iload 5, 2) := by decide +kernel
theorem d_Piece_faceOutward_134 : decode prog_6_method_4_code 134 = .ok (.putfield 87, 3) := by decide +kernel
theorem d_Piece_faceOutward_137 : decode prog_6_method_4_code 137 = .ok (.aload_n 0, 1) := by decide +kernel
theorem d_Piece_faceOutward_138 : decode prog_6_method_4_code 138 = .ok (.aload_n 0, 1) := by decide +kernel
theorem d_Piece_faceOutward_139 : decode prog_6_method_4_code 139 = .ok (.getfield 22, 3) := by decide +kernel
theorem d_Piece_faceOutward_142 : decode prog_6_method_4_code 142 = .ok (.ifCond .eq 8, 3) := by decide +kernel
theorem d_Piece_faceOutward_145 : decode prog_6_method_4_code 145 = .ok (.iload 5, 2) := by decide +kernel
theorem d_Piece_faceOutward_147 : decode prog_6_method_4_code 147 = .ok (.goto 4, 3) := by decide +kernel
theorem d_Piece_faceOutward_150 : decode prog_6_method_4_code 150 = .ok (.iload_n 2, 1) := by decide +kernel
theorem d_Piece_faceOutward_151 : decode prog_6_method_4_code 151 = .ok (.putfield 90, 3) := by decide +kernel
theorem d_Piece_faceOutward_154 : decode prog_6_method_4_code 154 = .ok (.return_, 1) := by decide +kernel
theorem d_Piece_isFlat_0 : decode prog_6_method_5_code 0 = .ok (.aload_n 0, 1) := by decide +kernel
theorem d_Piece_isFlat_1 : decode prog_6_method_5_code 1 = .ok (.getfield 84, 3) := by decide +kernel
theorem d_Piece_isFlat_4 : decode prog_6_method_5_code 4 = .ok (.ifCond .ne 7, 3) := by decide +kernel
theorem d_Piece_isFlat_7 : decode prog_6_method_5_code 7 = .ok (.iconst 1, 1) := by decide +kernel
theorem d_Piece_isFlat_8 : decode prog_6_method_5_code 8 = .ok (.goto 4, 3) := by decide +kernel
theorem d_Piece_isFlat_11 : decode prog_6_method_5_code 11 = .ok (.iconst 0, 1) := by decide +kernel
theorem d_Piece_isFlat_12 : decode prog_6_method_5_code 12 = .ok (.ireturn, 1) := by decide +kernel
theorem d_Piece_facesLike_0 : decode prog_6_method_6_code 0 = .ok (.aload_n 0, 1) := by decide +kernel
theorem d_Piece_facesLike_1 : decode prog_6_method_6_code 1 = .ok (.getfield 22, 3) := by decide +kernel
theorem d_Piece_facesLike_4 : decode prog_6_method_6_code 4 = .ok (.aload_n 1, 1) := by decide +kernel
theorem d_Piece_facesLike_5 : decode prog_6_method_6_code 5 = .ok (.getfield 22, 3) := by decide +kernel
theorem d_Piece_facesLike_8 : decode prog_6_method_6_code 8 = .ok (.if_icmp .ne 18, 3) := by decide +kernel
theorem d_Piece_facesLike_11 : decode prog_6_method_6_code 11 = .ok (.aload_n 0, 1) := by decide +kernel
theorem d_Piece_facesLike_12 : decode prog_6_method_6_code 12 = .ok (.getfield 84, 3) := by decide +kernel
theorem d_Piece_facesLike_15 : decode prog_6_method_6_code 15 = .ok (.aload_n 1, 1) := by decide +kernel
theorem d_Piece_facesLike_16 : decode prog_6_method_6_code 16 = .ok (.getfield 84, 3) := by decide +kernel
theorem d_Piece_facesLike_19 : decode prog_6_method_6_code 19 = .ok (.if_icmp .ne 7, 3) := by decide +kernel
theorem d_Piece_facesLike_22 : decode prog_6_method_6_code 22 = .ok (.iconst 1, 1) := by decide +kernel
theorem d_Piece_facesLike_23 : decode prog_6_method_6_code 23 = .ok (.goto 4, 3) := by decide +kernel
theorem d_Piece_facesLike_26 : decode prog_6_method_6_code 26 = .ok (.iconst 0, 1) := by decide +kernel
theorem d_Piece_facesLike_27 : decode prog_6_method_6_code 27 = .ok (.ireturn, 1) := by decide +kernel
theorem d_Piece_mayHaveBar_0 : decode prog_6_method_7_code 0 = .ok (.aload_n 0, 1) := by decide +kernel
theorem d_Piece_mayHaveBar_1 : decode prog_6_method_7_code 1 = .ok (.getfield 54, 3) := by decide +kernel
theorem d_Piece_mayHaveBar_4 : decode prog_6_method_7_code 4 = .ok (.ifCond .eq 28, 3) := by decide +kernel
theorem d_Piece_mayHaveBar_7 : decode prog_6_method_7_code 7 = .ok (.aload_n 0, 1) := by decide +kernel
theorem d_Piece_mayHaveBar_8 : decode prog_6_method_7_code 8 = .ok (.invokevirtual 93, 3) := by decide +kernel
theorem d_Piece_mayHaveBar_11 : decode prog_6_method_7_code 11 = .ok (.ifCond .ne 21, 3) := by decide +kernel
theorem d_Piece_mayHaveBar_14 : decode prog_6_method_7_code 14 = .ok (.aload_n 0, 1) := by decide +kernel
theorem d_Piece_mayHaveBar_15 : decode prog_6_method_7_code 15 = .ok (.getfield 51, 3) := by decide +kernel
theorem d_Piece_mayHaveBar_18 : decode prog_6_method_7_code 18 = .ok (.aload_n 0, 1) := by decide +kernel
theorem d_Piece_mayHaveBar_19 : decode prog_6_method_7_code 19 = .ok (.getfield 45, 3) := by decide +kernel
theorem d_Piece_mayHaveBar_22 : decode prog_6_method_7_code 22 = .ok (.isub, 1) := by decide +kernel
theorem d_Piece_mayHaveBar_23 : decode prog_6_method_7_code 23 = .ok (.bipush 6, 2) := by decide +kernel
theorem d_Piece_mayHaveBar_25 : decode prog_6_method_7_code 25 = .ok (.if_icmp .lt 7, 3) := by decide +kernel
theorem d_Piece_mayHaveBar_28 : decode prog_6_method_7_code 28 = .ok (.iconst 1, 1) := by decide +kernel
theorem d_Piece_mayHaveBar_29 : decode prog_6_method_7_code 29 = .ok (.goto 4, 3) := by decide +kernel
theorem d_Piece_mayHaveBar_32 : decode prog_6_method_7_code 32 = .ok (.iconst 0, 1) := by decide +kernel
theorem d_Piece_mayHaveBar_33 : decode prog_6_method_7_code 33 = .ok (.ireturn, 1) := by decide +kernel
theorem d_Piece_fitsRule_0 : decode prog_6_method_8_code 0 = .ok (.iload_n 1, 1) := by decide +kernel
theorem d_Piece_fitsRule_1 : decode prog_6_method_8_code 1 = .ok (.tableswitch 71 0 3 #[31, 33, 38, 51], 31) := by decide +kernel
theorem d_Piece_fitsRule_32 : decode prog_6_method_8_code 32 = .ok (.iconst 1, 1) := by decide +kernel
theorem d_Piece_fitsRule_33 : decode prog_6_method_8_code 33 = .ok (.ireturn, 1) := by decide +kernel
theorem d_Piece_fitsRule_34 : decode prog_6_method_8_code 34 = .ok (.aload_n 0, 1) := by decide +kernel
theorem d_Piece_fitsRule_35 : decode prog_6_method_8_code 35 = .ok (.getfield 22, 3) := by decide +kernel
theorem d_Piece_fitsRule_38 : decode prog_6_method_8_code 38 = .ok (.ireturn, 1) := by decide +kernel
theorem d_Piece_fitsRule_39 : decode prog_6_method_8_code 39 = .ok (.aload_n 0, 1) := by decide +kernel
theorem d_Piece_fitsRule_40 : decode prog_6_method_8_code 40 = .ok (.getfield 22, 3) := by decide +kernel
theorem d_Piece_fitsRule_43 : decode prog_6_method_8_code 43 = .ok (.ifCond .ne 7, 3) := by decide +kernel
theorem d_Piece_fitsRule_46 : decode prog_6_method_8_code 46 = .ok (.iconst 1, 1) := by decide +kernel
theorem d_Piece_fitsRule_47 : decode prog_6_method_8_code 47 = .ok (.goto 4, 3) := by decide +kernel
theorem d_Piece_fitsRule_50 : decode prog_6_method_8_code 50 = .ok (.iconst 0, 1) := by decide +kernel
theorem d_Piece_fitsRule_51 : decode prog_6_method_8_code 51 = .ok (.ireturn, 1) := by decide +kernel
theorem d_Piece_fitsRule_52 : decode prog_6_method_8_code 52 = .ok (.aload_n 0, 1) := by decide +kernel
theorem d_Piece_fitsRule_53 : decode prog_6_method_8_code 53 = .ok (.getfield 54, 3) := by decide +kernel
theorem d_Piece_fitsRule_56 : decode prog_6_method_8_code 56 = .ok (.ifCond .ne 10, 3) := by decide +kernel
theorem d_Piece_fitsRule_59 : decode prog_6_method_8_code 59 = .ok (.aload_n 0, 1) := by decide +kernel
theorem d_Piece_fitsRule_60 : decode prog_6_method_8_code 60 = .ok (.getfield 57, 3) := by decide +kernel
theorem d_Piece_fitsRule_63 : decode prog_6_method_8_code 63 = .ok (.ifCond .eq 7, 3) := by decide +kernel
theorem d_Piece_fitsRule_66 : decode prog_6_method_8_code 66 = .ok (.iconst 1, 1) := by decide +kernel
theorem d_Piece_fitsRule_67 : decode prog_6_method_8_code 67 = .ok (.goto 4, 3) := by decide +kernel
theorem d_Piece_fitsRule_70 : decode prog_6_method_8_code 70 = .ok (.iconst 0, 1) := by decide +kernel
theorem d_Piece_fitsRule_71 : decode prog_6_method_8_code 71 = .ok (.ireturn, 1) := by decide +kernel
theorem d_Piece_fitsRule_72 : decode prog_6_method_8_code 72 = .ok (.iconst 0, 1) := by decide +kernel
theorem d_Piece_fitsRule_73 : decode prog_6_method_8_code 73 = .ok (.ireturn, 1) := by decide +kernel
theorem d_Piece_moveTo_0 : decode prog_6_method_9_code 0 = .ok (.aload_n 0, 1) := by decide +kernel
theorem d_Piece_moveTo_1 : decode prog_6_method_9_code 1 = .ok (.invokevirtual 93, 3) := by decide +kernel
theorem d_Piece_moveTo_4 : decode prog_6_method_9_code 4 = .ok (.ifCond .eq 5, 3) := by decide +kernel
theorem d_Piece_moveTo_7 : decode prog_6_method_9_code 7 = .ok (.iconst 0, 1) := by decide +kernel
theorem d_Piece_moveTo_8 : decode prog_6_method_9_code 8 = .ok (.ireturn, 1) := by decide +kernel
theorem d_Piece_moveTo_9 : decode prog_6_method_9_code 9 = .ok (.aload_n 0, 1) := by decide +kernel
theorem d_Piece_moveTo_10 : decode prog_6_method_9_code 10 = .ok (.getfield 60, 3) := by decide +kernel
theorem d_Piece_moveTo_13 : decode prog_6_method_9_code 13 = .ok (.istore_n 3, 1) := by decide +kernel
theorem d_Piece_moveTo_14 : decode prog_6_method_9_code 14 = .ok (.aload_n 0, 1) := by decide +kernel
theorem d_Piece_moveTo_15 : decode prog_6_method_9_code 15 = .ok (.iload_n 1, 1) := by decide +kernel
theorem d_Piece_moveTo_16 : decode prog_6_method_9_code 16 = .ok (.iload_n 2, 1) := by decide +kernel
theorem d_Piece_moveTo_17 : decode prog_6_method_9_code 17 = .ok (.invokestatic 97, 3) := by decide +kernel
theorem d_Piece_moveTo_20 : decode prog_6_method_9_code 20 = .ok (.putfield 60, 3) := by decide +kernel
theorem d_Piece_moveTo_23 : decode prog_6_method_9_code 23 = .ok (.aload_n 0, 1) := by decide +kernel
theorem d_Piece_moveTo_24 : decode prog_6_method_9_code 24 = .ok (.getfield 60, 3) := by decide +kernel
theorem d_Piece_moveTo_27 : decode prog_6_method_9_code 27 = .ok (.iload_n 3, 1) := by decide +kernel
theorem d_Piece_moveTo_28 : decode prog_6_method_9_code 28 = .ok (.if_icmp .eq 7, 3) := by decide +kernel
theorem d_Piece_moveTo_31 : decode prog_6_method_9_code 31 = .ok (.iconst 1, 1) := by decide +kernel
theorem d_Piece_moveTo_32 : decode prog_6_method_9_code 32 = .ok (.goto 4, 3) := by decide +kernel
theorem d_Piece_moveTo_35 : decode prog_6_method_9_code 35 = .ok (.iconst 0, 1) := by decide +kernel
theorem d_Piece_moveTo_36 : decode prog_6_method_9_code 36 = .ok (.ireturn, 1) := by decide +kernel
theorem d_Long_bitCount_0 : decode prog_9_method_50_code 0 = .ok (.lload_n 0, 1) := by decide +kernel
theorem d_Long_bitCount_1 : decode prog_9_method_50_code 1 = .ok (.lload_n 0, 1) := by decide +kernel
theorem d_Long_bitCount_2 : decode prog_9_method_50_code 2 = .ok (.iconst 1, 1) := by decide +kernel
theorem d_Long_bitCount_3 : decode prog_9_method_50_code 3 = .ok (.lushr, 1) := by decide +kernel
theorem d_Long_bitCount_4 : decode prog_9_method_50_code 4 = .ok (.ldc2_w 314, 3) := by decide +kernel
theorem d_Long_bitCount_7 : decode prog_9_method_50_code 7 = .ok (.land, 1) := by decide +kernel
theorem d_Long_bitCount_8 : decode prog_9_method_50_code 8 = .ok (.lsub, 1) := by decide +kernel
theorem d_Long_bitCount_9 : decode prog_9_method_50_code 9 = .ok (.lstore_n 0, 1) := by decide +kernel
theorem d_Long_bitCount_10 : decode prog_9_method_50_code 10 = .ok (.lload_n 0, 1) := by decide +kernel
theorem d_Long_bitCount_11 : decode prog_9_method_50_code 11 = .ok (.ldc2_w 316, 3) := by decide +kernel
theorem d_Long_bitCount_14 : decode prog_9_method_50_code 14 = .ok (.land, 1) := by decide +kernel
theorem d_Long_bitCount_15 : decode prog_9_method_50_code 15 = .ok (.lload_n 0, 1) := by decide +kernel
theorem d_Long_bitCount_16 : decode prog_9_method_50_code 16 = .ok (.iconst 2, 1) := by decide +kernel
theorem d_Long_bitCount_17 : decode prog_9_method_50_code 17 = .ok (.lushr, 1) := by decide +kernel
theorem d_Long_bitCount_18 : decode prog_9_method_50_code 18 = .ok (.ldc2_w 316, 3) := by decide +kernel
theorem d_Long_bitCount_21 : decode prog_9_method_50_code 21 = .ok (.land, 1) := by decide +kernel
theorem d_Long_bitCount_22 : decode prog_9_method_50_code 22 = .ok (.ladd, 1) := by decide +kernel
theorem d_Long_bitCount_23 : decode prog_9_method_50_code 23 = .ok (.lstore_n 0, 1) := by decide +kernel
theorem d_Long_bitCount_24 : decode prog_9_method_50_code 24 = .ok (.lload_n 0, 1) := by decide +kernel
theorem d_Long_bitCount_25 : decode prog_9_method_50_code 25 = .ok (.lload_n 0, 1) := by decide +kernel
theorem d_Long_bitCount_26 : decode prog_9_method_50_code 26 = .ok (.iconst 4, 1) := by decide +kernel
theorem d_Long_bitCount_27 : decode prog_9_method_50_code 27 = .ok (.lushr, 1) := by decide +kernel
theorem d_Long_bitCount_28 : decode prog_9_method_50_code 28 = .ok (.ladd, 1) := by decide +kernel
theorem d_Long_bitCount_29 : decode prog_9_method_50_code 29 = .ok (.ldc2_w 318, 3) := by decide +kernel
theorem d_Long_bitCount_32 : decode prog_9_method_50_code 32 = .ok (.land, 1) := by decide +kernel
theorem d_Long_bitCount_33 : decode prog_9_method_50_code 33 = .ok (.lstore_n 0, 1) := by decide +kernel
theorem d_Long_bitCount_34 : decode prog_9_method_50_code 34 = .ok (.lload_n 0, 1) := by decide +kernel
theorem d_Long_bitCount_35 : decode prog_9_method_50_code 35 = .ok (.lload_n 0, 1) := by decide +kernel
theorem d_Long_bitCount_36 : decode prog_9_method_50_code 36 = .ok (.bipush 8, 2) := by decide +kernel
theorem d_Long_bitCount_38 : decode prog_9_method_50_code 38 = .ok (.lushr, 1) := by decide +kernel
theorem d_Long_bitCount_39 : decode prog_9_method_50_code 39 = .ok (.ladd, 1) := by decide +kernel
theorem d_Long_bitCount_40 : decode prog_9_method_50_code 40 = .ok (.lstore_n 0, 1) := by decide +kernel
theorem d_Long_bitCount_41 : decode prog_9_method_50_code 41 = .ok (.lload_n 0, 1) := by decide +kernel
theorem d_Long_bitCount_42 : decode prog_9_method_50_code 42 = .ok (.lload_n 0, 1) := by decide +kernel
theorem d_Long_bitCount_43 : decode prog_9_method_50_code 43 = .ok (.bipush 16, 2) := by decide +kernel
theorem d_Long_bitCount_45 : decode prog_9_method_50_code 45 = .ok (.lushr, 1) := by decide +kernel
theorem d_Long_bitCount_46 : decode prog_9_method_50_code 46 = .ok (.ladd, 1) := by decide +kernel
theorem d_Long_bitCount_47 : decode prog_9_method_50_code 47 = .ok (.lstore_n 0, 1) := by decide +kernel
theorem d_Long_bitCount_48 : decode prog_9_method_50_code 48 = .ok (.lload_n 0, 1) := by decide +kernel
theorem d_Long_bitCount_49 : decode prog_9_method_50_code 49 = .ok (.lload_n 0, 1) := by decide +kernel
theorem d_Long_bitCount_50 : decode prog_9_method_50_code 50 = .ok (.bipush 32, 2) := by decide +kernel
theorem d_Long_bitCount_52 : decode prog_9_method_50_code 52 = .ok (.lushr, 1) := by decide +kernel
theorem d_Long_bitCount_53 : decode prog_9_method_50_code 53 = .ok (.ladd, 1) := by decide +kernel
theorem d_Long_bitCount_54 : decode prog_9_method_50_code 54 = .ok (.lstore_n 0, 1) := by decide +kernel
theorem d_Long_bitCount_55 : decode prog_9_method_50_code 55 = .ok (.lload_n 0, 1) := by decide +kernel
theorem d_Long_bitCount_56 : decode prog_9_method_50_code 56 = .ok (.l2i, 1) := by decide +kernel
theorem d_Long_bitCount_57 : decode prog_9_method_50_code 57 = .ok (.bipush 127, 2) := by decide +kernel
theorem d_Long_bitCount_59 : decode prog_9_method_50_code 59 = .ok (.iand, 1) := by decide +kernel
theorem d_Long_bitCount_60 : decode prog_9_method_50_code 60 = .ok (.ireturn, 1) := by decide +kernel
