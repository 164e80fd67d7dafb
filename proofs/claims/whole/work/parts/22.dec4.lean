theorem d_MaskEdgesModel_countAt_0 : decode prog_8_method_21_code 0 = .ok (.iload_n 1, 1) := by decide +kernel
theorem d_MaskEdgesModel_countAt_1 : decode prog_8_method_21_code 1 = .ok (.iload_n 3, 1) := by decide +kernel
theorem d_MaskEdgesModel_countAt_2 : decode prog_8_method_21_code 2 = .ok (.isub, 1) := by decide +kernel
theorem d_MaskEdgesModel_countAt_3 : decode prog_8_method_21_code 3 = .ok (.invokestatic 154, 3) := by decide +kernel
theorem d_MaskEdgesModel_countAt_6 : decode prog_8_method_21_code 6 = .ok (.istore 4, 2) := by decide +kernel
theorem d_MaskEdgesModel_countAt_8 : decode prog_8_method_21_code 8 = .ok (.iload_n 1, 1) := by decide +kernel
theorem d_MaskEdgesModel_countAt_9 : decode prog_8_method_21_code 9 = .ok (.iload_n 3, 1) := by decide +kernel
theorem d_MaskEdgesModel_countAt_10 : decode prog_8_method_21_code 10 = .ok (.iadd, 1) := by decide +kernel
theorem d_MaskEdgesModel_countAt_11 : decode prog_8_method_21_code 11 = .ok (.iconst 1, 1) := by decide +kernel
theorem d_MaskEdgesModel_countAt_12 : decode prog_8_method_21_code 12 = .ok (.iadd, 1) := by decide +kernel
theorem d_MaskEdgesModel_countAt_13 : decode prog_8_method_21_code 13 = .ok (.invokestatic 154, 3) := by decide +kernel
theorem d_MaskEdgesModel_countAt_16 : decode prog_8_method_21_code 16 = .ok (.istore 5, 2) := by decide +kernel
theorem d_MaskEdgesModel_countAt_18 : decode prog_8_method_21_code 18 = .ok (.iload_n 2, 1) := by decide +kernel
theorem d_MaskEdgesModel_countAt_19 : decode prog_8_method_21_code 19 = .ok (.iload_n 3, 1) := by decide +kernel
theorem d_MaskEdgesModel_countAt_20 : decode prog_8_method_21_code 20 = .ok (.isub, 1) := by decide +kernel
theorem d_MaskEdgesModel_countAt_21 : decode prog_8_method_21_code 21 = .ok (.invokestatic 154, 3) := by decide +kernel
theorem d_MaskEdgesModel_countAt_24 : decode prog_8_method_21_code 24 = .ok (.istore 6, 2) := by decide +kernel
theorem d_MaskEdgesModel_countAt_26 : decode prog_8_method_21_code 26 = .ok (.iload_n 2, 1) := by decide +kernel
theorem d_MaskEdgesModel_countAt_27 : decode prog_8_method_21_code 27 = .ok (.iload_n 3, 1) := by decide +kernel
theorem d_MaskEdgesModel_countAt_28 : decode prog_8_method_21_code 28 = .ok (.iadd, 1) := by decide +kernel
theorem d_MaskEdgesModel_countAt_29 : decode prog_8_method_21_code 29 = .ok (.iconst 1, 1) := by decide +kernel
theorem d_MaskEdgesModel_countAt_30 : decode prog_8_method_21_code 30 = .ok (.iadd, 1) := by decide +kernel
theorem d_MaskEdgesModel_countAt_31 : decode prog_8_method_21_code 31 = .ok (.invokestatic 154, 3) := by decide +kernel
theorem d_MaskEdgesModel_countAt_34 : decode prog_8_method_21_code 34 = .ok (.istore 7, 2) := by decide +kernel
theorem d_MaskEdgesModel_countAt_36 : decode prog_8_method_21_code 36 = .ok (.aload_n 0, 1) := by decide +kernel
theorem d_MaskEdgesModel_countAt_37 : decode prog_8_method_21_code 37 = .ok (.getfield 75, 3) := by decide +kernel
theorem d_MaskEdgesModel_countAt_40 : decode prog_8_method_21_code 40 = .ok (.bipush 49, 2) := by decide +kernel
theorem d_MaskEdgesModel_countAt_42 : decode prog_8_method_21_code 42 = .ok (.iload 7, 2) := by decide +kernel
theorem d_MaskEdgesModel_countAt_44 : decode prog_8_method_21_code 44 = .ok (.imul, 1) := by decide +kernel
theorem d_MaskEdgesModel_countAt_45 : decode prog_8_method_21_code 45 = .ok (.iload 5, 2) := by decide +kernel
theorem d_MaskEdgesModel_countAt_47 : decode prog_8_method_21_code 47 = .ok (.iadd, 1) := by decide +kernel
theorem d_MaskEdgesModel_countAt_48 : decode prog_8_method_21_code 48 = .ok (.iaload, 1) := by decide +kernel
theorem d_MaskEdgesModel_countAt_49 : decode prog_8_method_21_code 49 = .ok (.aload_n 0, 1) := by decide +kernel
theorem d_MaskEdgesModel_countAt_50 : decode prog_8_method_21_code 50 = .ok (.getfield 75, 3) := by decide +kernel
theorem d_MaskEdgesModel_countAt_53 : decode prog_8_method_21_code 53 = .ok (.bipush 49, 2) := by decide +kernel
theorem d_MaskEdgesModel_countAt_55 : decode prog_8_method_21_code 55 = .ok (.iload 7, 2) := by decide +kernel
theorem d_MaskEdgesModel_countAt_57 : decode prog_8_method_21_code 57 = .ok (.imul, 1) := by decide +kernel
theorem d_MaskEdgesModel_countAt_58 : decode prog_8_method_21_code 58 = .ok (.iload 4, 2) := by decide +kernel
theorem d_MaskEdgesModel_countAt_60 : decode prog_8_method_21_code 60 = .ok (.iadd, 1) := by decide +kernel
theorem d_MaskEdgesModel_countAt_61 : decode prog_8_method_21_code 61 = .ok (.iaload, 1) := by decide +kernel
theorem d_MaskEdgesModel_countAt_62 : decode prog_8_method_21_code 62 = .ok (.isub, 1) := by decide +kernel
theorem d_MaskEdgesModel_countAt_63 : decode prog_8_method_21_code 63 = .ok (.aload_n 0, 1) := by decide +kernel
theorem d_MaskEdgesModel_countAt_64 : decode prog_8_method_21_code 64 = .ok (.getfield 75, 3) := by decide +kernel
theorem d_MaskEdgesModel_countAt_67 : decode prog_8_method_21_code 67 = .ok (.bipush 49, 2) := by decide +kernel
theorem d_MaskEdgesModel_countAt_69 : decode prog_8_method_21_code 69 = .ok (.iload 6, 2) := by decide +kernel
theorem d_MaskEdgesModel_countAt_71 : decode prog_8_method_21_code 71 = .ok (.imul, 1) := by decide +kernel
theorem d_MaskEdgesModel_countAt_72 : decode prog_8_method_21_code 72 = .ok (.iload 5, 2) := by decide +kernel
theorem d_MaskEdgesModel_countAt_74 : decode prog_8_method_21_code 74 = .ok (.iadd, 1) := by decide +kernel
theorem d_MaskEdgesModel_countAt_75 : decode prog_8_method_21_code 75 = .ok (.iaload, 1) := by decide +kernel
theorem d_MaskEdgesModel_countAt_76 : decode prog_8_method_21_code 76 = .ok (.isub, 1) := by decide +kernel
theorem d_MaskEdgesModel_countAt_77 : decode prog_8_method_21_code 77 = .ok (.aload_n 0, 1) := by decide +kernel
theorem d_MaskEdgesModel_countAt_78 : decode prog_8_method_21_code 78 = .ok (.getfield 75, 3) := by decide +kernel
theorem d_MaskEdgesModel_countAt_81 : decode prog_8_method_21_code 81 = .ok (.bipush 49, 2) := by decide +kernel
theorem d_MaskEdgesModel_countAt_83 : decode prog_8_method_21_code 83 = .ok (.iload 6, 2) := by decide +kernel
theorem d_MaskEdgesModel_countAt_85 : decode prog_8_method_21_code 85 = .ok (.imul, 1) := by decide +kernel
theorem d_MaskEdgesModel_countAt_86 : decode prog_8_method_21_code 86 = .ok (.iload 4, 2) := by decide +kernel
theorem d_MaskEdgesModel_countAt_88 : decode prog_8_method_21_code 88 = .ok (.iadd, 1) := by decide +kernel
theorem d_MaskEdgesModel_countAt_89 : decode prog_8_method_21_code 89 = .ok (.iaload, 1) := by decide +kernel
theorem d_MaskEdgesModel_countAt_90 : decode prog_8_method_21_code 90 = .ok (.iadd, 1) := by decide +kernel
theorem d_MaskEdgesModel_countAt_91 : decode prog_8_method_21_code 91 = .ok (.ireturn, 1) := by decide +kernel
theorem d_MaskEdgesModel_imageAt_0 : decode prog_8_method_22_code 0 = .ok (.iconst 0, 1) := by decide +kernel
theorem d_MaskEdgesModel_imageAt_1 : decode prog_8_method_22_code 1 = .ok (.istore_n 3, 1) := by decide +kernel
theorem d_MaskEdgesModel_imageAt_2 : decode prog_8_method_22_code 2 = .ok (.iconst 0, 1) := by decide +kernel
theorem d_MaskEdgesModel_imageAt_3 : decode prog_8_method_22_code 3 = .ok (.istore 4, 2) := by decide +kernel
theorem d_MaskEdgesModel_imageAt_5 : decode prog_8_method_22_code 5 = .ok (.iload 4, 2) := by decide +kernel
theorem d_MaskEdgesModel_imageAt_7 : decode prog_8_method_22_code 7 = .ok (.aload_n 0, 1) := by decide +kernel
theorem d_MaskEdgesModel_imageAt_8 : decode prog_8_method_22_code 8 = .ok (.getfield 115, 3) := by decide +kernel
theorem d_MaskEdgesModel_imageAt_11 : decode prog_8_method_22_code 11 = .ok (.if_icmp .ge 33, 3) := by decide +kernel
theorem d_MaskEdgesModel_imageAt_14 : decode prog_8_method_22_code 14 = .ok (.iload_n 3, 1) := by decide +kernel
theorem d_MaskEdgesModel_imageAt_15 : decode prog_8_method_22_code 15 = .ok (.aload_n 0, 1) := by decide +kernel
theorem d_MaskEdgesModel_imageAt_16 : decode prog_8_method_22_code 16 = .ok (.getfield 23, 3) := by decide +kernel
theorem d_MaskEdgesModel_imageAt_19 : decode prog_8_method_22_code 19 = .ok (.iload 4, 2) := by decide +kernel
theorem d_MaskEdgesModel_imageAt_21 : decode prog_8_method_22_code 21 = .ok (.iaload, 1) := by decide +kernel
theorem d_MaskEdgesModel_imageAt_22 : decode prog_8_method_22_code 22 = .ok (.aload_n 0, 1) := by decide +kernel
theorem d_MaskEdgesModel_imageAt_23 : decode prog_8_method_22_code 23 = .ok (.iload_n 1, 1) := by decide +kernel
theorem d_MaskEdgesModel_imageAt_24 : decode prog_8_method_22_code 24 = .ok (.iload_n 2, 1) := by decide +kernel
theorem d_MaskEdgesModel_imageAt_25 : decode prog_8_method_22_code 25 = .ok (.aload_n 0, 1) := by decide +kernel
theorem d_MaskEdgesModel_imageAt_26 : decode prog_8_method_22_code 26 = .ok (.getfield 26, 3) := by decide +kernel
theorem d_MaskEdgesModel_imageAt_29 : decode prog_8_method_22_code 29 = .ok (.iload 4, 2) := by decide +kernel
theorem d_MaskEdgesModel_imageAt_31 : decode prog_8_method_22_code 31 = .ok (.iaload, 1) := by decide +kernel
theorem d_MaskEdgesModel_imageAt_32 : decode prog_8_method_22_code 32 = .ok (.invokevirtual 157, 3) := by decide +kernel
theorem d_MaskEdgesModel_imageAt_35 : decode prog_8_method_22_code 35 = .ok (.imul, 1) := by decide +kernel
theorem d_MaskEdgesModel_imageAt_36 : decode prog_8_method_22_code 36 = .ok (.iadd, 1) := by decide +kernel
theorem d_MaskEdgesModel_imageAt_37 : decode prog_8_method_22_code 37 = .ok (.istore_n 3, 1) := by decide +kernel
theorem d_MaskEdgesModel_imageAt_38 : decode prog_8_method_22_code 38 = .ok (.iinc 4 1, 3) := by decide +kernel
theorem d_MaskEdgesModel_imageAt_41 : decode prog_8_method_22_code 41 = .ok (.goto (-36), 3) := by decide +kernel
theorem d_MaskEdgesModel_imageAt_44 : decode prog_8_method_22_code 44 = .ok (.iload_n 3, 1) := by decide +kernel
theorem d_MaskEdgesModel_imageAt_45 : decode prog_8_method_22_code 45 = .ok (.ireturn, 1) := by decide +kernel
theorem d_MaskEdgesModel_doesPrint_0 : decode prog_8_method_23_code 0 = .ok (.iload_n 1, 1) := by decide +kernel
theorem d_MaskEdgesModel_doesPrint_1 : decode prog_8_method_23_code 1 = .ok (.iload_n 2, 1) := by decide +kernel
theorem d_MaskEdgesModel_doesPrint_2 : decode prog_8_method_23_code 2 = .ok (.invokestatic 102, 3) := by decide +kernel
theorem d_MaskEdgesModel_doesPrint_5 : decode prog_8_method_23_code 5 = .ok (.ifCond .eq 30, 3) := by decide +kernel
theorem d_MaskEdgesModel_doesPrint_8 : decode prog_8_method_23_code 8 = .ok (.aload_n 0, 1) := by decide +kernel
theorem d_MaskEdgesModel_doesPrint_9 : decode prog_8_method_23_code 9 = .ok (.iload_n 1, 1) := by decide +kernel
theorem d_MaskEdgesModel_doesPrint_10 : decode prog_8_method_23_code 10 = .ok (.iload_n 2, 1) := by decide +kernel
theorem d_MaskEdgesModel_doesPrint_11 : decode prog_8_method_23_code 11 = .ok (.invokevirtual 161, 3) := by decide +kernel
theorem d_MaskEdgesModel_doesPrint_14 : decode prog_8_method_23_code 14 = .ok (.i2l, 1) := by decide +kernel
theorem d_MaskEdgesModel_doesPrint_15 : decode prog_8_method_23_code 15 = .ok (.iload_n 3, 1) := by decide +kernel
theorem d_MaskEdgesModel_doesPrint_16 : decode prog_8_method_23_code 16 = .ok (.i2l, 1) := by decide +kernel
theorem d_MaskEdgesModel_doesPrint_17 : decode prog_8_method_23_code 17 = .ok (.lmul, 1) := by decide +kernel
theorem d_MaskEdgesModel_doesPrint_18 : decode prog_8_method_23_code 18 = .ok (.ldc2_w 164, 3) := by decide +kernel
theorem d_MaskEdgesModel_doesPrint_21 : decode prog_8_method_23_code 21 = .ok (.aload_n 0, 1) := by decide +kernel
theorem d_MaskEdgesModel_doesPrint_22 : decode prog_8_method_23_code 22 = .ok (.getfield 29, 3) := by decide +kernel
theorem d_MaskEdgesModel_doesPrint_25 : decode prog_8_method_23_code 25 = .ok (.i2l, 1) := by decide +kernel
theorem d_MaskEdgesModel_doesPrint_26 : decode prog_8_method_23_code 26 = .ok (.lmul, 1) := by decide +kernel
theorem d_MaskEdgesModel_doesPrint_27 : decode prog_8_method_23_code 27 = .ok (.lcmp, 1) := by decide +kernel
theorem d_MaskEdgesModel_doesPrint_28 : decode prog_8_method_23_code 28 = .ok (.ifCond .lt 7, 3) := by decide +kernel
theorem d_MaskEdgesModel_doesPrint_31 : decode prog_8_method_23_code 31 = .ok (.iconst 1, 1) := by decide +kernel
theorem d_MaskEdgesModel_doesPrint_32 : decode prog_8_method_23_code 32 = .ok (.goto 4, 3) := by decide +kernel
theorem d_MaskEdgesModel_doesPrint_35 : decode prog_8_method_23_code 35 = .ok (.iconst 0, 1) := by decide +kernel
theorem d_MaskEdgesModel_doesPrint_36 : decode prog_8_method_23_code 36 = .ok (.ireturn, 1) := by decide +kernel
theorem d_MaskEdgesModel_image_0 : decode prog_8_method_24_code 0 = .ok (.iload_n 1, 1) := by decide +kernel
theorem d_MaskEdgesModel_image_1 : decode prog_8_method_24_code 1 = .ok (.iload_n 2, 1) := by decide +kernel
theorem d_MaskEdgesModel_image_2 : decode prog_8_method_24_code 2 = .ok (.invokestatic 102, 3) := by decide +kernel
theorem d_MaskEdgesModel_image_5 : decode prog_8_method_24_code 5 = .ok (.ifCond .ne 5, 3) := by decide +kernel
theorem d_MaskEdgesModel_image_8 : decode prog_8_method_24_code 8 = .ok (.iconst 0, 1) := by decide +kernel
theorem d_MaskEdgesModel_image_9 : decode prog_8_method_24_code 9 = .ok (.ireturn, 1) := by decide +kernel
theorem d_MaskEdgesModel_image_10 : decode prog_8_method_24_code 10 = .ok (.aload_n 0, 1) := by decide +kernel
theorem d_MaskEdgesModel_image_11 : decode prog_8_method_24_code 11 = .ok (.invokevirtual 166, 3) := by decide +kernel
theorem d_MaskEdgesModel_image_14 : decode prog_8_method_24_code 14 = .ok (.aload_n 0, 1) := by decide +kernel
theorem d_MaskEdgesModel_image_15 : decode prog_8_method_24_code 15 = .ok (.iload_n 1, 1) := by decide +kernel
theorem d_MaskEdgesModel_image_16 : decode prog_8_method_24_code 16 = .ok (.iload_n 2, 1) := by decide +kernel
theorem d_MaskEdgesModel_image_17 : decode prog_8_method_24_code 17 = .ok (.invokevirtual 161, 3) := by decide +kernel
theorem d_MaskEdgesModel_image_20 : decode prog_8_method_24_code 20 = .ok (.ireturn, 1) := by decide +kernel
theorem d_MaskEdgesModel_isPiece_0 : decode prog_8_method_25_code 0 = .ok (.iload_n 1, 1) := by decide +kernel
theorem d_MaskEdgesModel_isPiece_1 : decode prog_8_method_25_code 1 = .ok (.i2l, 1) := by decide +kernel
theorem d_MaskEdgesModel_isPiece_2 : decode prog_8_method_25_code 2 = .ok (.lconst 0, 1) := by decide +kernel
theorem d_MaskEdgesModel_isPiece_3 : decode prog_8_method_25_code 3 = .ok (.aload_n 0, 1) := by decide +kernel
theorem d_MaskEdgesModel_isPiece_4 : decode prog_8_method_25_code 4 = .ok (.getfield 90, 3) := by decide +kernel
theorem d_MaskEdgesModel_isPiece_7 : decode prog_8_method_25_code 7 = .ok (.iconst 1, 1) := by decide +kernel
theorem d_MaskEdgesModel_isPiece_8 : decode prog_8_method_25_code 8 = .ok (.isub, 1) := by decide +kernel
theorem d_MaskEdgesModel_isPiece_9 : decode prog_8_method_25_code 9 = .ok (.i2l, 1) := by decide +kernel
theorem d_MaskEdgesModel_isPiece_10 : decode prog_8_method_25_code 10 = .ok (.invokestatic 86, 3) := by decide +kernel
theorem d_MaskEdgesModel_isPiece_13 : decode prog_8_method_25_code 13 = .ok (.ireturn, 1) := by decide +kernel
theorem d_MaskEdgesModel_errorAt_0 : decode prog_8_method_26_code 0 = .ok (.aload_n 0, 1) := by decide +kernel
theorem d_MaskEdgesModel_errorAt_1 : decode prog_8_method_26_code 1 = .ok (.getfield 51, 3) := by decide +kernel
theorem d_MaskEdgesModel_errorAt_4 : decode prog_8_method_26_code 4 = .ok (.iload_n 1, 1) := by decide +kernel
theorem d_MaskEdgesModel_errorAt_5 : decode prog_8_method_26_code 5 = .ok (.iaload, 1) := by decide +kernel
theorem d_MaskEdgesModel_errorAt_6 : decode prog_8_method_26_code 6 = .ok (.ifCond .ne 5, 3) := by decide +kernel
theorem d_MaskEdgesModel_errorAt_9 : decode prog_8_method_26_code 9 = .ok (.iconst 0, 1) := by decide +kernel
theorem d_MaskEdgesModel_errorAt_10 : decode prog_8_method_26_code 10 = .ok (.ireturn, 1) := by decide +kernel
theorem d_MaskEdgesModel_errorAt_11 : decode prog_8_method_26_code 11 = .ok (.aload_n 0, 1) := by decide +kernel
theorem d_MaskEdgesModel_errorAt_12 : decode prog_8_method_26_code 12 = .ok (.getfield 51, 3) := by decide +kernel
theorem d_MaskEdgesModel_errorAt_15 : decode prog_8_method_26_code 15 = .ok (.iload_n 1, 1) := by decide +kernel
theorem d_MaskEdgesModel_errorAt_16 : decode prog_8_method_26_code 16 = .ok (.iaload, 1) := by decide +kernel
theorem d_MaskEdgesModel_errorAt_17 : decode prog_8_method_26_code 17 = .ok (.ifCond .le 7, 3) := by decide +kernel
theorem d_MaskEdgesModel_errorAt_20 : decode prog_8_method_26_code 20 = .ok (.iconst (-1), 1) := by decide +kernel
theorem d_MaskEdgesModel_errorAt_21 : decode prog_8_method_26_code 21 = .ok (.goto 4, 3) := by decide +kernel
theorem d_MaskEdgesModel_errorAt_24 : decode prog_8_method_26_code 24 = .ok (.iconst 0, 1) := by decide +kernel
theorem d_MaskEdgesModel_errorAt_25 : decode prog_8_method_26_code 25 = .ok (.istore_n 3, 1) := by decide +kernel
theorem d_MaskEdgesModel_errorAt_26 : decode prog_8_method_26_code 26 = .ok (.aload_n 0, 1) := by decide +kernel
theorem d_MaskEdgesModel_errorAt_27 : decode prog_8_method_26_code 27 = .ok (.aload_n 0, 1) := by decide +kernel
theorem d_MaskEdgesModel_errorAt_28 : decode prog_8_method_26_code 28 = .ok (.iload_n 1, 1) := by decide +kernel
theorem d_MaskEdgesModel_errorAt_29 : decode prog_8_method_26_code 29 = .ok (.iload_n 3, 1) := by decide +kernel
theorem d_MaskEdgesModel_errorAt_30 : decode prog_8_method_26_code 30 = .ok (.invokevirtual 126, 3) := by decide +kernel
theorem d_MaskEdgesModel_errorAt_33 : decode prog_8_method_26_code 33 = .ok (.aload_n 0, 1) := by decide +kernel
theorem d_MaskEdgesModel_errorAt_34 : decode prog_8_method_26_code 34 = .ok (.iload_n 1, 1) := by decide +kernel
theorem d_MaskEdgesModel_errorAt_35 : decode prog_8_method_26_code 35 = .ok (.iload_n 3, 1) := by decide +kernel
theorem d_MaskEdgesModel_errorAt_36 : decode prog_8_method_26_code 36 = .ok (.invokevirtual 129, 3) := by decide +kernel
theorem d_MaskEdgesModel_errorAt_39 : decode prog_8_method_26_code 39 = .ok (.iload_n 2, 1) := by decide +kernel
theorem d_MaskEdgesModel_errorAt_40 : decode prog_8_method_26_code 40 = .ok (.invokevirtual 169, 3) := by decide +kernel
theorem d_MaskEdgesModel_errorAt_43 : decode prog_8_method_26_code 43 = .ok (.istore 4, 2) := by decide +kernel
theorem d_MaskEdgesModel_errorAt_45 : decode prog_8_method_26_code 45 = .ok (.iconst 0, 1) := by decide +kernel
theorem d_MaskEdgesModel_errorAt_46 : decode prog_8_method_26_code 46 = .ok (.istore 5, 2) := by decide +kernel
theorem d_MaskEdgesModel_errorAt_48 : decode prog_8_method_26_code 48 = .ok (.iconst 1, 1) := by decide +kernel
theorem d_MaskEdgesModel_errorAt_49 : decode prog_8_method_26_code 49 = .ok (.istore 6, 2) := by decide +kernel
theorem d_MaskEdgesModel_errorAt_51 : decode prog_8_method_26_code 51 = .ok (.iload 6, 2) := by decide +kernel
theorem d_MaskEdgesModel_errorAt_53 : decode prog_8_method_26_code 53 = .ok (.ifCond .eq 124, 3) := by decide +kernel
theorem d_MaskEdgesModel_errorAt_56 : decode prog_8_method_26_code 56 = .ok (.iload 5, 2) := by decide +kernel
theorem d_MaskEdgesModel_errorAt_58 : decode prog_8_method_26_code 58 = .ok (.bipush 8, 2) := by decide +kernel
theorem d_MaskEdgesModel_errorAt_60 : decode prog_8_method_26_code 60 = .ok (.if_icmp .ge 117, 3) := by decide +kernel
theorem d_MaskEdgesModel_errorAt_63 : decode prog_8_method_26_code 63 = .ok (.iload 4, 2) := by decide +kernel
theorem d_MaskEdgesModel_errorAt_65 : decode prog_8_method_26_code 65 = .ok (.ifCond .eq 24, 3) := by decide +kernel
theorem d_MaskEdgesModel_errorAt_68 : decode prog_8_method_26_code 68 = .ok (.aload_n 0, 1) := by decide +kernel
theorem d_MaskEdgesModel_errorAt_69 : decode prog_8_method_26_code 69 = .ok (.getfield 51, 3) := by decide +kernel
theorem d_MaskEdgesModel_errorAt_72 : decode prog_8_method_26_code 72 = .ok (.iload_n 1, 1) := by decide +kernel
theorem d_MaskEdgesModel_errorAt_73 : decode prog_8_method_26_code 73 = .ok (.iaload, 1) := by decide +kernel
theorem d_MaskEdgesModel_errorAt_74 : decode prog_8_method_26_code 74 = .ok (.ifCond .le 8, 3) := by decide +kernel
theorem d_MaskEdgesModel_errorAt_77 : decode prog_8_method_26_code 77 = .ok (.iload 5, 2) := by decide +kernel
theorem d_MaskEdgesModel_errorAt_79 : decode prog_8_method_26_code 79 = .ok (.goto 28, 3) := by decide +kernel
theorem d_MaskEdgesModel_errorAt_82 : decode prog_8_method_26_code 82 = .ok (.iconst (-1), 1) := by decide +kernel
theorem d_MaskEdgesModel_errorAt_83 : decode prog_8_method_26_code 83 = .ok (.iload 5, 2) := by decide +kernel
theorem d_MaskEdgesModel_errorAt_85 : decode prog_8_method_26_code 85 = .ok (.isub, 1) := by decide +kernel
theorem d_MaskEdgesModel_errorAt_86 : decode prog_8_method_26_code 86 = .ok (.goto 21, 3) := by decide +kernel
theorem d_MaskEdgesModel_errorAt_89 : decode prog_8_method_26_code 89 = .ok (.aload_n 0, 1) := by decide +kernel
theorem d_MaskEdgesModel_errorAt_90 : decode prog_8_method_26_code 90 = .ok (.getfield 51, 3) := by decide +kernel
theorem d_MaskEdgesModel_errorAt_93 : decode prog_8_method_26_code 93 = .ok (.iload_n 1, 1) := by decide +kernel
theorem d_MaskEdgesModel_errorAt_94 : decode prog_8_method_26_code 94 = .ok (.iaload, 1) := by decide +kernel
theorem d_MaskEdgesModel_errorAt_95 : decode prog_8_method_26_code 95 = .ok (.ifCond .le 10, 3) := by decide +kernel
theorem d_MaskEdgesModel_errorAt_98 : decode prog_8_method_26_code 98 = .ok (.iconst (-1), 1) := by decide +kernel
theorem d_MaskEdgesModel_errorAt_99 : decode prog_8_method_26_code 99 = .ok (.iload 5, 2) := by decide +kernel
theorem d_MaskEdgesModel_errorAt_101 : decode prog_8_method_26_code 101 = .ok (.isub, 1) := by decide +kernel
theorem d_MaskEdgesModel_errorAt_102 : decode prog_8_method_26_code 102 = .ok (.goto 5, 3) := by decide +kernel
theorem d_MaskEdgesModel_errorAt_105 : decode prog_8_method_26_code 105 = .ok (.iload 5, 2) := by decide +kernel
theorem d_MaskEdgesModel_errorAt_107 : decode prog_8_method_26_code 107 = .ok (.istore 7, 2) := by decide +kernel
theorem d_MaskEdgesModel_errorAt_109 : decode prog_8_method_26_code 109 = .ok (.aload_n 0, 1) := by decide +kernel
theorem d_MaskEdgesModel_errorAt_110 : decode prog_8_method_26_code 110 = .ok (.iload_n 1, 1) := by decide +kernel
theorem d_MaskEdgesModel_errorAt_111 : decode prog_8_method_26_code 111 = .ok (.iload 7, 2) := by decide +kernel
theorem d_MaskEdgesModel_errorAt_113 : decode prog_8_method_26_code 113 = .ok (.invokevirtual 126, 3) := by decide +kernel
theorem d_MaskEdgesModel_errorAt_116 : decode prog_8_method_26_code 116 = .ok (.istore 8, 2) := by decide +kernel
theorem d_MaskEdgesModel_errorAt_118 : decode prog_8_method_26_code 118 = .ok (.aload_n 0, 1) := by decide +kernel
theorem d_MaskEdgesModel_errorAt_119 : decode prog_8_method_26_code 119 = .ok (.iload_n 1, 1) := by decide +kernel
theorem d_MaskEdgesModel_errorAt_120 : decode prog_8_method_26_code 120 = .ok (.iload 7, 2) := by decide +kernel
theorem d_MaskEdgesModel_errorAt_122 : decode prog_8_method_26_code 122 = .ok (.invokevirtual 129, 3) := by decide +kernel
theorem d_MaskEdgesModel_errorAt_125 : decode prog_8_method_26_code 125 = .ok (.istore 9, 2) := by decide +kernel
theorem d_MaskEdgesModel_errorAt_127 : decode prog_8_method_26_code 127 = .ok (.iload 8, 2) := by decide +kernel
theorem d_MaskEdgesModel_errorAt_129 : decode prog_8_method_26_code 129 = .ok (.iload 9, 2) := by decide +kernel
theorem d_MaskEdgesModel_errorAt_131 : decode prog_8_method_26_code 131 = .ok (.invokestatic 102, 3) := by decide +kernel
theorem d_MaskEdgesModel_errorAt_134 : decode prog_8_method_26_code 134 = .ok (.ifCond .eq 21, 3) := by decide +kernel
theorem d_MaskEdgesModel_errorAt_137 : decode prog_8_method_26_code 137 = .ok (.aload_n 0, 1) := by decide +kernel
theorem d_MaskEdgesModel_errorAt_138 : decode prog_8_method_26_code 138 = .ok (.iload 8, 2) := by decide +kernel
theorem d_MaskEdgesModel_errorAt_140 : decode prog_8_method_26_code 140 = .ok (.iload 9, 2) := by decide +kernel
theorem d_MaskEdgesModel_errorAt_142 : decode prog_8_method_26_code 142 = .ok (.iload_n 2, 1) := by decide +kernel
theorem d_MaskEdgesModel_errorAt_143 : decode prog_8_method_26_code 143 = .ok (.invokevirtual 169, 3) := by decide +kernel
theorem d_MaskEdgesModel_errorAt_146 : decode prog_8_method_26_code 146 = .ok (.iload 4, 2) := by decide +kernel
theorem d_MaskEdgesModel_errorAt_148 : decode prog_8_method_26_code 148 = .ok (.if_icmp .ne 7, 3) := by decide +kernel
theorem d_MaskEdgesModel_errorAt_151 : decode prog_8_method_26_code 151 = .ok (.iconst 1, 1) := by decide +kernel
theorem d_MaskEdgesModel_errorAt_152 : decode prog_8_method_26_code 152 = .ok (.goto 4, 3) := by decide +kernel
theorem d_MaskEdgesModel_errorAt_155 : decode prog_8_method_26_code 155 = .ok (.iconst 0, 1) := by decide +kernel
theorem d_MaskEdgesModel_errorAt_156 : decode prog_8_method_26_code 156 = .ok (.istore 6, 2) := by decide +kernel
theorem d_MaskEdgesModel_errorAt_158 : decode prog_8_method_26_code 158 = .ok (.iload 6, 2) := by decide +kernel
theorem d_MaskEdgesModel_errorAt_160 : decode prog_8_method_26_code 160 = .ok (.ifCond .eq 10, 3) := by decide +kernel
theorem d_MaskEdgesModel_errorAt_163 : decode prog_8_method_26_code 163 = .ok (.iload 5, 2) := by decide +kernel
theorem d_MaskEdgesModel_errorAt_165 : decode prog_8_method_26_code 165 = .ok (.iconst 1, 1) := by decide +kernel
theorem d_MaskEdgesModel_errorAt_166 : decode prog_8_method_26_code 166 = .ok (.iadd, 1) := by decide +kernel
theorem d_MaskEdgesModel_errorAt_167 : decode prog_8_method_26_code 167 = .ok (.goto 5, 3) := by decide +kernel
theorem d_MaskEdgesModel_errorAt_170 : decode prog_8_method_26_code 170 = .ok (.iload 5, 2) := by decide +kernel
theorem d_MaskEdgesModel_errorAt_172 : decode prog_8_method_26_code 172 = .ok (.istore 5, 2) := by decide +kernel
theorem d_MaskEdgesModel_errorAt_174 : decode prog_8_method_26_code 174 = .ok (.goto (-123), 3) := by decide +kernel
theorem d_MaskEdgesModel_errorAt_177 : decode prog_8_method_26_code 177 = .ok (.iload 4, 2) := by decide +kernel
theorem d_MaskEdgesModel_errorAt_179 : decode prog_8_method_26_code 179 = .ok (.ifCond .eq 8, 3) := by decide +kernel
theorem d_MaskEdgesModel_errorAt_182 : decode prog_8_method_26_code 182 = .ok (.iload 5, 2) := by decide +kernel
theorem d_MaskEdgesModel_errorAt_184 : decode prog_8_method_26_code 184 = .ok (.goto 6, 3) := by decide +kernel
theorem d_MaskEdgesModel_errorAt_187 : decode prog_8_method_26_code 187 = .ok (.iload 5, 2) := by decide +kernel
theorem d_MaskEdgesModel_errorAt_189 : decode prog_8_method_26_code 189 = .ok (.ineg, 1) := by decide +kernel
theorem d_MaskEdgesModel_errorAt_190 : decode prog_8_method_26_code 190 = .ok (.ireturn, 1) := by decide +kernel
theorem d_MaskEdgesModel_worstNow_0 : decode prog_8_method_27_code 0 = .ok (.iconst 0, 1) := by decide +kernel
theorem d_MaskEdgesModel_worstNow_1 : decode prog_8_method_27_code 1 = .ok (.istore_n 1, 1) := by decide +kernel
theorem d_MaskEdgesModel_worstNow_2 : decode prog_8_method_27_code 2 = .ok (.iconst 0, 1) := by decide +kernel
theorem d_MaskEdgesModel_worstNow_3 : decode prog_8_method_27_code 3 = .ok (.istore_n 2, 1) := by decide +kernel
theorem d_MaskEdgesModel_worstNow_4 : decode prog_8_method_27_code 4 = .ok (.iload_n 2, 1) := by decide +kernel
theorem d_MaskEdgesModel_worstNow_5 : decode prog_8_method_27_code 5 = .ok (.aload_n 0, 1) := by decide +kernel
theorem d_MaskEdgesModel_worstNow_6 : decode prog_8_method_27_code 6 = .ok (.getfield 90, 3) := by decide +kernel
theorem d_MaskEdgesModel_worstNow_9 : decode prog_8_method_27_code 9 = .ok (.if_icmp .ge 39, 3) := by decide +kernel
theorem d_MaskEdgesModel_worstNow_12 : decode prog_8_method_27_code 12 = .ok (.aload_n 0, 1) := by decide +kernel
theorem d_MaskEdgesModel_worstNow_13 : decode prog_8_method_27_code 13 = .ok (.iload_n 2, 1) := by decide +kernel
theorem d_MaskEdgesModel_worstNow_14 : decode prog_8_method_27_code 14 = .ok (.bipush 100, 2) := by decide +kernel
theorem d_MaskEdgesModel_worstNow_16 : decode prog_8_method_27_code 16 = .ok (.invokevirtual 172, 3) := by decide +kernel
theorem d_MaskEdgesModel_worstNow_19 : decode prog_8_method_27_code 19 = .ok (.istore_n 3, 1) := by decide +kernel
theorem d_MaskEdgesModel_worstNow_20 : decode prog_8_method_27_code 20 = .ok (.iload_n 3, 1) := by decide +kernel
theorem d_MaskEdgesModel_worstNow_21 : decode prog_8_method_27_code 21 = .ok (.ifCond .ge 8, 3) := by decide +kernel
theorem d_MaskEdgesModel_worstNow_24 : decode prog_8_method_27_code 24 = .ok (.iload_n 3, 1) := by decide +kernel
theorem d_MaskEdgesModel_worstNow_25 : decode prog_8_method_27_code 25 = .ok (.ineg, 1) := by decide +kernel
theorem d_MaskEdgesModel_worstNow_26 : decode prog_8_method_27_code 26 = .ok (.goto 4, 3) := by decide +kernel
theorem d_MaskEdgesModel_worstNow_29 : decode prog_8_method_27_code 29 = .ok (.iload_n 3, 1) := by decide +kernel
theorem d_MaskEdgesModel_worstNow_30 : decode prog_8_method_27_code 30 = .ok (.istore_n 3, 1) := by decide +kernel
theorem d_MaskEdgesModel_worstNow_31 : decode prog_8_method_27_code 31 = .ok (.iload_n 3, 1) := by decide +kernel
theorem d_MaskEdgesModel_worstNow_32 : decode prog_8_method_27_code 32 = .ok (.iload_n 1, 1) := by decide +kernel
theorem d_MaskEdgesModel_worstNow_33 : decode prog_8_method_27_code 33 = .ok (.if_icmp .le 7, 3) := by decide +kernel
theorem d_MaskEdgesModel_worstNow_36 : decode prog_8_method_27_code 36 = .ok (.iload_n 3, 1) := by decide +kernel
theorem d_MaskEdgesModel_worstNow_37 : decode prog_8_method_27_code 37 = .ok (.goto 4, 3) := by decide +kernel
theorem d_MaskEdgesModel_worstNow_40 : decode prog_8_method_27_code 40 = .ok (.iload_n 1, 1) := by decide +kernel
theorem d_MaskEdgesModel_worstNow_41 : decode prog_8_method_27_code 41 = .ok (.istore_n 1, 1) := by decide +kernel
theorem d_MaskEdgesModel_worstNow_42 : decode prog_8_method_27_code 42 = .ok (.iinc 2 1, 3) := by decide +kernel
theorem d_MaskEdgesModel_worstNow_45 : decode prog_8_method_27_code 45 = .ok (.goto (-41), 3) := by decide +kernel
theorem d_MaskEdgesModel_worstNow_48 : decode prog_8_method_27_code 48 = .ok (.iload_n 1, 1) := by decide +kernel
theorem d_MaskEdgesModel_worstNow_49 : decode prog_8_method_27_code 49 = .ok (.ireturn, 1) := by decide +kernel
theorem d_MaskEdgesModel_error_0 : decode prog_8_method_28_code 0 = .ok (.aload_n 0, 1) := by decide +kernel
theorem d_MaskEdgesModel_error_1 : decode prog_8_method_28_code 1 = .ok (.iload_n 1, 1) := by decide +kernel
theorem d_MaskEdgesModel_error_2 : decode prog_8_method_28_code 2 = .ok (.bipush 100, 2) := by decide +kernel
theorem d_MaskEdgesModel_error_4 : decode prog_8_method_28_code 4 = .ok (.invokevirtual 175, 3) := by decide +kernel
theorem d_MaskEdgesModel_error_7 : decode prog_8_method_28_code 7 = .ok (.ireturn, 1) := by decide +kernel
theorem d_MaskEdgesModel_edge_0 : decode prog_8_method_29_code 0 = .ok (.aload_n 0, 1) := by decide +kernel
theorem d_MaskEdgesModel_edge_1 : decode prog_8_method_29_code 1 = .ok (.iload_n 1, 1) := by decide +kernel
theorem d_MaskEdgesModel_edge_2 : decode prog_8_method_29_code 2 = .ok (.invokevirtual 178, 3) := by decide +kernel
theorem d_MaskEdgesModel_edge_5 : decode prog_8_method_29_code 5 = .ok (.ifCond .eq 15, 3) := by decide +kernel
theorem d_MaskEdgesModel_edge_8 : decode prog_8_method_29_code 8 = .ok (.iload_n 2, 1) := by decide +kernel
theorem d_MaskEdgesModel_edge_9 : decode prog_8_method_29_code 9 = .ok (.i2l, 1) := by decide +kernel
theorem d_MaskEdgesModel_edge_10 : decode prog_8_method_29_code 10 = .ok (.lconst 1, 1) := by decide +kernel
theorem d_MaskEdgesModel_edge_11 : decode prog_8_method_29_code 11 = .ok (.ldc2_w 182, 3) := by decide +kernel
theorem d_MaskEdgesModel_edge_14 : decode prog_8_method_29_code 14 = .ok (.invokestatic 86, 3) := by decide +kernel
theorem d_MaskEdgesModel_edge_17 : decode prog_8_method_29_code 17 = .ok (.ifCond .ne 5, 3) := by decide +kernel
theorem d_MaskEdgesModel_edge_20 : decode prog_8_method_29_code 20 = .ok (.iconst 0, 1) := by decide +kernel
theorem d_MaskEdgesModel_edge_21 : decode prog_8_method_29_code 21 = .ok (.ireturn, 1) := by decide +kernel
theorem d_MaskEdgesModel_edge_22 : decode prog_8_method_29_code 22 = .ok (.aload_n 0, 1) := by decide +kernel
theorem d_MaskEdgesModel_edge_23 : decode prog_8_method_29_code 23 = .ok (.invokevirtual 166, 3) := by decide +kernel
theorem d_MaskEdgesModel_edge_26 : decode prog_8_method_29_code 26 = .ok (.aload_n 0, 1) := by decide +kernel
theorem d_MaskEdgesModel_edge_27 : decode prog_8_method_29_code 27 = .ok (.iload_n 1, 1) := by decide +kernel
theorem d_MaskEdgesModel_edge_28 : decode prog_8_method_29_code 28 = .ok (.iload_n 2, 1) := by decide +kernel
theorem d_MaskEdgesModel_edge_29 : decode prog_8_method_29_code 29 = .ok (.invokevirtual 172, 3) := by decide +kernel
theorem d_MaskEdgesModel_edge_32 : decode prog_8_method_29_code 32 = .ok (.ireturn, 1) := by decide +kernel
theorem d_MaskEdgesModel_clamp_0 : decode prog_8_method_30_code 0 = .ok (.iload_n 0, 1) := by decide +kernel
theorem d_MaskEdgesModel_clamp_1 : decode prog_8_method_30_code 1 = .ok (.iload_n 1, 1) := by decide +kernel
theorem d_MaskEdgesModel_clamp_2 : decode prog_8_method_30_code 2 = .ok (.if_icmp .le 7, 3) := by decide +kernel
theorem d_MaskEdgesModel_clamp_5 : decode prog_8_method_30_code 5 = .ok (.iload_n 1, 1) := by decide +kernel
theorem d_MaskEdgesModel_clamp_6 : decode prog_8_method_30_code 6 = .ok (.goto 15, 3) := by decide +kernel
theorem d_MaskEdgesModel_clamp_9 : decode prog_8_method_30_code 9 = .ok (.iload_n 0, 1) := by decide +kernel
theorem d_MaskEdgesModel_clamp_10 : decode prog_8_method_30_code 10 = .ok (.iload_n 1, 1) := by decide +kernel
theorem d_MaskEdgesModel_clamp_11 : decode prog_8_method_30_code 11 = .ok (.ineg, 1) := by decide +kernel
theorem d_MaskEdgesModel_clamp_12 : decode prog_8_method_30_code 12 = .ok (.if_icmp .ge 8, 3) := by decide +kernel
theorem d_MaskEdgesModel_clamp_15 : decode prog_8_method_30_code 15 = .ok (.iload_n 1, 1) := by decide +kernel
theorem d_MaskEdgesModel_clamp_16 : decode prog_8_method_30_code 16 = .ok (.ineg, 1) := by decide +kernel
theorem d_MaskEdgesModel_clamp_17 : decode prog_8_method_30_code 17 = .ok (.goto 4, 3) := by decide +kernel
theorem d_MaskEdgesModel_clamp_20 : decode prog_8_method_30_code 20 = .ok (.iload_n 0, 1) := by decide +kernel
theorem d_MaskEdgesModel_clamp_21 : decode prog_8_method_30_code 21 = .ok (.ireturn, 1) := by decide +kernel
theorem d_MaskEdgesModel_moveAll_0 : decode prog_8_method_31_code 0 = .ok (.iconst 0, 1) := by decide +kernel
theorem d_MaskEdgesModel_moveAll_1 : decode prog_8_method_31_code 1 = .ok (.istore_n 3, 1) := by decide +kernel
theorem d_MaskEdgesModel_moveAll_2 : decode prog_8_method_31_code 2 = .ok (.iconst 0, 1) := by decide +kernel
theorem d_MaskEdgesModel_moveAll_3 : decode prog_8_method_31_code 3 = .ok (.istore 4, 2) := by decide +kernel
theorem d_MaskEdgesModel_moveAll_5 : decode prog_8_method_31_code 5 = .ok (.iload 4, 2) := by decide +kernel
theorem d_MaskEdgesModel_moveAll_7 : decode prog_8_method_31_code 7 = .ok (.aload_n 0, 1) := by decide +kernel
theorem d_MaskEdgesModel_moveAll_8 : decode prog_8_method_31_code 8 = .ok (.getfield 90, 3) := by decide +kernel
theorem d_MaskEdgesModel_moveAll_11 : decode prog_8_method_31_code 11 = .ok (.if_icmp .ge 23, 3) := by decide +kernel
theorem d_MaskEdgesModel_moveAll_14 : decode prog_8_method_31_code 14 = .ok (.aload_n 0, 1) := by decide +kernel
theorem d_MaskEdgesModel_moveAll_15 : decode prog_8_method_31_code 15 = .ok (.getfield 57, 3) := by decide +kernel
theorem d_MaskEdgesModel_moveAll_18 : decode prog_8_method_31_code 18 = .ok (.iload 4, 2) := by decide +kernel
theorem d_MaskEdgesModel_moveAll_20 : decode prog_8_method_31_code 20 = .ok (.aload_n 0, 1) := by decide +kernel
theorem d_MaskEdgesModel_moveAll_21 : decode prog_8_method_31_code 21 = .ok (.getfield 54, 3) := by decide +kernel
theorem d_MaskEdgesModel_moveAll_24 : decode prog_8_method_31_code 24 = .ok (.iload 4, 2) := by decide +kernel
theorem d_MaskEdgesModel_moveAll_26 : decode prog_8_method_31_code 26 = .ok (.iaload, 1) := by decide +kernel
theorem d_MaskEdgesModel_moveAll_27 : decode prog_8_method_31_code 27 = .ok (.iastore, 1) := by decide +kernel
theorem d_MaskEdgesModel_moveAll_28 : decode prog_8_method_31_code 28 = .ok (.iinc 4 1, 3) := by decide +kernel
theorem d_MaskEdgesModel_moveAll_31 : decode prog_8_method_31_code 31 = .ok (.goto (-26), 3) := by decide +kernel
theorem d_MaskEdgesModel_moveAll_34 : decode prog_8_method_31_code 34 = .ok (.iconst 0, 1) := by decide +kernel
theorem d_MaskEdgesModel_moveAll_35 : decode prog_8_method_31_code 35 = .ok (.istore 4, 2) := by decide +kernel
theorem d_MaskEdgesModel_moveAll_37 : decode prog_8_method_31_code 37 = .ok (.iload 4, 2) := by decide +kernel
theorem d_MaskEdgesModel_moveAll_39 : decode prog_8_method_31_code 39 = .ok (.aload_n 0, 1) := by decide +kernel
theorem d_MaskEdgesModel_moveAll_40 : decode prog_8_method_31_code 40 = .ok (.getfield 90, 3) := by decide +kernel
theorem d_MaskEdgesModel_moveAll_43 : decode prog_8_method_31_code 43 = .ok (.if_icmp .ge 105, 3) := by decide +kernel
theorem d_MaskEdgesModel_moveAll_46 : decode prog_8_method_31_code 46 = .ok (.aload_n 0, 1) := by decide +kernel
theorem d_MaskEdgesModel_moveAll_47 : decode prog_8_method_31_code 47 = .ok (.getfield 51, 3) := by decide +kernel
theorem d_MaskEdgesModel_moveAll_50 : decode prog_8_method_31_code 50 = .ok (.iload 4, 2) := by decide +kernel
theorem d_MaskEdgesModel_moveAll_52 : decode prog_8_method_31_code 52 = .ok (.iaload, 1) := by decide +kernel
theorem d_MaskEdgesModel_moveAll_53 : decode prog_8_method_31_code 53 = .ok (.ifCond .ne 7, 3) := by decide +kernel
theorem d_MaskEdgesModel_moveAll_56 : decode prog_8_method_31_code 56 = .ok (.iconst 0, 1) := by decide +kernel
theorem d_MaskEdgesModel_moveAll_57 : decode prog_8_method_31_code 57 = .ok (.goto 15, 3) := by decide +kernel
theorem d_MaskEdgesModel_moveAll_60 : decode prog_8_method_31_code 60 = .ok (.aload_n 0, 1) := by decide +kernel
theorem d_MaskEdgesModel_moveAll_61 : decode prog_8_method_31_code 61 = .ok (.iload 4, 2) := by decide +kernel
theorem d_MaskEdgesModel_moveAll_63 : decode prog_8_method_31_code 63 = .ok (.bipush 100, 2) := by decide +kernel
theorem d_MaskEdgesModel_moveAll_65 : decode prog_8_method_31_code 65 = .ok (.invokevirtual 172, 3) := by decide +kernel
theorem d_MaskEdgesModel_moveAll_68 : decode prog_8_method_31_code 68 = .ok (.iload_n 1, 1) := by decide +kernel
theorem d_MaskEdgesModel_moveAll_69 : decode prog_8_method_31_code 69 = .ok (.invokestatic 184, 3) := by decide +kernel
theorem d_MaskEdgesModel_moveAll_72 : decode prog_8_method_31_code 72 = .ok (.istore 5, 2) := by decide +kernel
theorem d_MaskEdgesModel_moveAll_74 : decode prog_8_method_31_code 74 = .ok (.aload_n 0, 1) := by decide +kernel
theorem d_MaskEdgesModel_moveAll_75 : decode prog_8_method_31_code 75 = .ok (.getfield 54, 3) := by decide +kernel
theorem d_MaskEdgesModel_moveAll_78 : decode prog_8_method_31_code 78 = .ok (.iload 4, 2) := by decide +kernel
theorem d_MaskEdgesModel_moveAll_80 : decode prog_8_method_31_code 80 = .ok (.aload_n 0, 1) := by decide +kernel
theorem d_MaskEdgesModel_moveAll_81 : decode prog_8_method_31_code 81 = .ok (.getfield 51, 3) := by decide +kernel
theorem d_MaskEdgesModel_moveAll_84 : decode prog_8_method_31_code 84 = .ok (.iload 4, 2) := by decide +kernel
theorem d_MaskEdgesModel_moveAll_86 : decode prog_8_method_31_code 86 = .ok (.iaload, 1) := by decide +kernel
theorem d_MaskEdgesModel_moveAll_87 : decode prog_8_method_31_code 87 = .ok (.ifCond .ne 13, 3) := by decide +kernel
theorem d_MaskEdgesModel_moveAll_90 : decode prog_8_method_31_code 90 = .ok (.aload_n 0, 1) := by decide +kernel
theorem d_MaskEdgesModel_moveAll_91 : decode prog_8_method_31_code 91 = .ok (.getfield 54, 3) := by decide +kernel
theorem d_MaskEdgesModel_moveAll_94 : decode prog_8_method_31_code 94 = .ok (.iload 4, 2) := by decide +kernel
theorem d_MaskEdgesModel_moveAll_96 : decode prog_8_method_31_code 96 = .ok (.iaload, 1) := by decide +kernel
theorem d_MaskEdgesModel_moveAll_97 : decode prog_8_method_31_code 97 = .ok (.goto 17, 3) := by decide +kernel
theorem d_MaskEdgesModel_moveAll_100 : decode prog_8_method_31_code 100 = .ok (.aload_n 0, 1) := by decide +kernel
theorem d_MaskEdgesModel_moveAll_101 : decode prog_8_method_31_code 101 = .ok (.getfield 57, 3) := by decide +kernel
theorem d_MaskEdgesModel_moveAll_104 : decode prog_8_method_31_code 104 = .ok (.iload 4, 2) := by decide +kernel
theorem d_MaskEdgesModel_moveAll_106 : decode prog_8_method_31_code 106 = .ok (.iaload, 1) := by decide +kernel
theorem d_MaskEdgesModel_moveAll_107 : decode prog_8_method_31_code 107 = .ok (.iload 5, 2) := by decide +kernel
theorem d_MaskEdgesModel_moveAll_109 : decode prog_8_method_31_code 109 = .ok (.isub, 1) := by decide +kernel
theorem d_MaskEdgesModel_moveAll_110 : decode prog_8_method_31_code 110 = .ok (.iload_n 2, 1) := by decide +kernel
theorem d_MaskEdgesModel_moveAll_111 : decode prog_8_method_31_code 111 = .ok (.invokestatic 184, 3) := by decide +kernel
theorem d_MaskEdgesModel_moveAll_114 : decode prog_8_method_31_code 114 = .ok (.iastore, 1) := by decide +kernel
theorem d_MaskEdgesModel_moveAll_115 : decode prog_8_method_31_code 115 = .ok (.iload_n 3, 1) := by decide +kernel
theorem d_MaskEdgesModel_moveAll_116 : decode prog_8_method_31_code 116 = .ok (.ifCond .ne 20, 3) := by decide +kernel
theorem d_MaskEdgesModel_moveAll_119 : decode prog_8_method_31_code 119 = .ok (.aload_n 0, 1) := by decide +kernel
theorem d_MaskEdgesModel_moveAll_120 : decode prog_8_method_31_code 120 = .ok (.getfield 54, 3) := by decide +kernel
theorem d_MaskEdgesModel_moveAll_123 : decode prog_8_method_31_code 123 = .ok (.iload 4, 2) := by decide +kernel
theorem d_MaskEdgesModel_moveAll_125 : decode prog_8_method_31_code 125 = .ok (.iaload, 1) := by decide +kernel
theorem d_MaskEdgesModel_moveAll_126 : decode prog_8_method_31_code 126 = .ok (.aload_n 0, 1) := by decide +kernel
theorem d_MaskEdgesModel_moveAll_127 : decode prog_8_method_31_code 127 = .ok (.getfield 57, 3) := by decide +kernel
theorem d_MaskEdgesModel_moveAll_130 : decode prog_8_method_31_code 130 = .ok (.iload 4, 2) := by decide +kernel
theorem d_MaskEdgesModel_moveAll_132 : decode prog_8_method_31_code 132 = .ok (.iaload, 1) := by decide +kernel
theorem d_MaskEdgesModel_moveAll_133 : decode prog_8_method_31_code 133 = .ok (.if_icmp .eq 7, 3) := by decide +kernel
theorem d_MaskEdgesModel_moveAll_136 : decode prog_8_method_31_code 136 = .ok (.iconst 1, 1) := by decide +kernel
theorem d_MaskEdgesModel_moveAll_137 : decode prog_8_method_31_code 137 = .ok (.goto 4, 3) := by decide +kernel
theorem d_MaskEdgesModel_moveAll_140 : decode prog_8_method_31_code 140 = .ok (.iconst 0, 1) := by decide +kernel
theorem d_MaskEdgesModel_moveAll_141 : decode prog_8_method_31_code 141 = .ok (.istore_n 3, 1) := by decide +kernel
theorem d_MaskEdgesModel_moveAll_142 : decode prog_8_method_31_code 142 = .ok (.iinc 4 1, 3) := by decide +kernel
theorem d_MaskEdgesModel_moveAll_145 : decode prog_8_method_31_code 145 = .ok (.goto (-108), 3) := by decide +kernel
theorem d_MaskEdgesModel_moveAll_148 : decode prog_8_method_31_code 148 = .ok (.iload_n 3, 1) := by decide +kernel
theorem d_MaskEdgesModel_moveAll_149 : decode prog_8_method_31_code 149 = .ok (.ireturn, 1) := by decide +kernel
theorem d_MaskEdgesModel_moveBack_0 : decode prog_8_method_32_code 0 = .ok (.iconst 0, 1) := by decide +kernel
theorem d_MaskEdgesModel_moveBack_1 : decode prog_8_method_32_code 1 = .ok (.istore_n 1, 1) := by decide +kernel
theorem d_MaskEdgesModel_moveBack_2 : decode prog_8_method_32_code 2 = .ok (.iload_n 1, 1) := by decide +kernel
theorem d_MaskEdgesModel_moveBack_3 : decode prog_8_method_32_code 3 = .ok (.aload_n 0, 1) := by decide +kernel
theorem d_MaskEdgesModel_moveBack_4 : decode prog_8_method_32_code 4 = .ok (.getfield 90, 3) := by decide +kernel
theorem d_MaskEdgesModel_moveBack_7 : decode prog_8_method_32_code 7 = .ok (.if_icmp .ge 21, 3) := by decide +kernel
theorem d_MaskEdgesModel_moveBack_10 : decode prog_8_method_32_code 10 = .ok (.aload_n 0, 1) := by decide +kernel
theorem d_MaskEdgesModel_moveBack_11 : decode prog_8_method_32_code 11 = .ok (.getfield 54, 3) := by decide +kernel
theorem d_MaskEdgesModel_moveBack_14 : decode prog_8_method_32_code 14 = .ok (.iload_n 1, 1) := by decide +kernel
theorem d_MaskEdgesModel_moveBack_15 : decode prog_8_method_32_code 15 = .ok (.aload_n 0, 1) := by decide +kernel
theorem d_MaskEdgesModel_moveBack_16 : decode prog_8_method_32_code 16 = .ok (.getfield 57, 3) := by decide +kernel
theorem d_MaskEdgesModel_moveBack_19 : decode prog_8_method_32_code 19 = .ok (.iload_n 1, 1) := by decide +kernel
theorem d_MaskEdgesModel_moveBack_20 : decode prog_8_method_32_code 20 = .ok (.iaload, 1) := by decide +kernel
theorem d_MaskEdgesModel_moveBack_21 : decode prog_8_method_32_code 21 = .ok (.iastore, 1) := by decide +kernel
theorem d_MaskEdgesModel_moveBack_22 : decode prog_8_method_32_code 22 = .ok (.iinc 1 1, 3) := by decide +kernel
theorem d_MaskEdgesModel_moveBack_25 : decode prog_8_method_32_code 25 = .ok (.goto (-23), 3) := by decide +kernel
theorem d_MaskEdgesModel_moveBack_28 : decode prog_8_method_32_code 28 = .ok (.return_, 1) := by decide +kernel
theorem d_MaskEdgesModel_run_0 : decode prog_8_method_33_code 0 = .ok (.iload_n 1, 1) := by decide +kernel
theorem d_MaskEdgesModel_run_1 : decode prog_8_method_33_code 1 = .ok (.i2l, 1) := by decide +kernel
theorem d_MaskEdgesModel_run_2 : decode prog_8_method_33_code 2 = .ok (.lconst 1, 1) := by decide +kernel
theorem d_MaskEdgesModel_run_3 : decode prog_8_method_33_code 3 = .ok (.ldc2_w 111, 3) := by decide +kernel
theorem d_MaskEdgesModel_run_6 : decode prog_8_method_33_code 6 = .ok (.invokestatic 86, 3) := by decide +kernel
theorem d_MaskEdgesModel_run_9 : decode prog_8_method_33_code 9 = .ok (.ifCond .eq 40, 3) := by decide +kernel
theorem d_MaskEdgesModel_run_12 : decode prog_8_method_33_code 12 = .ok (.iload_n 2, 1) := by decide +kernel
theorem d_MaskEdgesModel_run_13 : decode prog_8_method_33_code 13 = .ok (.i2l, 1) := by decide +kernel
theorem d_MaskEdgesModel_run_14 : decode prog_8_method_33_code 14 = .ok (.lconst 1, 1) := by decide +kernel
theorem d_MaskEdgesModel_run_15 : decode prog_8_method_33_code 15 = .ok (.ldc2_w 187, 3) := by decide +kernel
theorem d_MaskEdgesModel_run_18 : decode prog_8_method_33_code 18 = .ok (.invokestatic 86, 3) := by decide +kernel
theorem d_MaskEdgesModel_run_21 : decode prog_8_method_33_code 21 = .ok (.ifCond .eq 28, 3) := by decide +kernel
theorem d_MaskEdgesModel_run_24 : decode prog_8_method_33_code 24 = .ok (.iload_n 3, 1) := by decide +kernel
theorem d_MaskEdgesModel_run_25 : decode prog_8_method_33_code 25 = .ok (.i2l, 1) := by decide +kernel
theorem d_MaskEdgesModel_run_26 : decode prog_8_method_33_code 26 = .ok (.lconst 1, 1) := by decide +kernel
theorem d_MaskEdgesModel_run_27 : decode prog_8_method_33_code 27 = .ok (.ldc2_w 189, 3) := by decide +kernel
theorem d_MaskEdgesModel_run_30 : decode prog_8_method_33_code 30 = .ok (.invokestatic 86, 3) := by decide +kernel
theorem d_MaskEdgesModel_run_33 : decode prog_8_method_33_code 33 = .ok (.ifCond .eq 16, 3) := by decide +kernel
theorem d_MaskEdgesModel_run_36 : decode prog_8_method_33_code 36 = .ok (.iload 4, 2) := by decide +kernel
theorem d_MaskEdgesModel_run_38 : decode prog_8_method_33_code 38 = .ok (.i2l, 1) := by decide +kernel
theorem d_MaskEdgesModel_run_39 : decode prog_8_method_33_code 39 = .ok (.lconst 1, 1) := by decide +kernel
theorem d_MaskEdgesModel_run_40 : decode prog_8_method_33_code 40 = .ok (.ldc2_w 113, 3) := by decide +kernel
theorem d_MaskEdgesModel_run_43 : decode prog_8_method_33_code 43 = .ok (.invokestatic 86, 3) := by decide +kernel
theorem d_MaskEdgesModel_run_46 : decode prog_8_method_33_code 46 = .ok (.ifCond .ne 6, 3) := by decide +kernel
theorem d_MaskEdgesModel_run_49 : decode prog_8_method_33_code 49 = .ok (.bipush (-2), 2) := by decide +kernel
theorem d_MaskEdgesModel_run_51 : decode prog_8_method_33_code 51 = .ok (.ireturn, 1) := by decide +kernel
theorem d_MaskEdgesModel_run_52 : decode prog_8_method_33_code 52 = .ok (.aload_n 0, 1) := by decide +kernel
theorem d_MaskEdgesModel_run_53 : decode prog_8_method_33_code 53 = .ok (.getfield 90, 3) := by decide +kernel
theorem d_MaskEdgesModel_run_56 : decode prog_8_method_33_code 56 = .ok (.ifCond .ne 6, 3) := by decide +kernel
theorem d_MaskEdgesModel_run_59 : decode prog_8_method_33_code 59 = .ok (.bipush (-3), 2) := by decide +kernel
theorem d_MaskEdgesModel_run_61 : decode prog_8_method_33_code 61 = .ok (.ireturn, 1) := by decide +kernel
theorem d_MaskEdgesModel_run_62 : decode prog_8_method_33_code 62 = .ok (.aload_n 0, 1) := by decide +kernel
theorem d_MaskEdgesModel_run_63 : decode prog_8_method_33_code 63 = .ok (.iload_n 2, 1) := by decide +kernel
theorem d_MaskEdgesModel_run_64 : decode prog_8_method_33_code 64 = .ok (.putfield 29, 3) := by decide +kernel
theorem d_MaskEdgesModel_run_67 : decode prog_8_method_33_code 67 = .ok (.aload_n 0, 1) := by decide +kernel
theorem d_MaskEdgesModel_run_68 : decode prog_8_method_33_code 68 = .ok (.invokevirtual 166, 3) := by decide +kernel
theorem d_MaskEdgesModel_run_71 : decode prog_8_method_33_code 71 = .ok (.aload_n 0, 1) := by decide +kernel
theorem d_MaskEdgesModel_run_72 : decode prog_8_method_33_code 72 = .ok (.iconst 0, 1) := by decide +kernel
theorem d_MaskEdgesModel_run_73 : decode prog_8_method_33_code 73 = .ok (.putfield 78, 3) := by decide +kernel
theorem d_MaskEdgesModel_run_76 : decode prog_8_method_33_code 76 = .ok (.aload_n 0, 1) := by decide +kernel
theorem d_MaskEdgesModel_run_77 : decode prog_8_method_33_code 77 = .ok (.getfield 81, 3) := by decide +kernel
theorem d_MaskEdgesModel_run_80 : decode prog_8_method_33_code 80 = .ok (.iconst 0, 1) := by decide +kernel
theorem d_MaskEdgesModel_run_81 : decode prog_8_method_33_code 81 = .ok (.aload_n 0, 1) := by decide +kernel
theorem d_MaskEdgesModel_run_82 : decode prog_8_method_33_code 82 = .ok (.invokevirtual 191, 3) := by decide +kernel
theorem d_MaskEdgesModel_run_85 : decode prog_8_method_33_code 85 = .ok (.iastore, 1) := by decide +kernel
theorem d_MaskEdgesModel_run_86 : decode prog_8_method_33_code 86 = .ok (.iconst 1, 1) := by decide +kernel
theorem d_MaskEdgesModel_run_87 : decode prog_8_method_33_code 87 = .ok (.istore 5, 2) := by decide +kernel
theorem d_MaskEdgesModel_run_89 : decode prog_8_method_33_code 89 = .ok (.iload 5, 2) := by decide +kernel
theorem d_MaskEdgesModel_run_91 : decode prog_8_method_33_code 91 = .ok (.ifCond .eq 104, 3) := by decide +kernel
theorem d_MaskEdgesModel_run_94 : decode prog_8_method_33_code 94 = .ok (.aload_n 0, 1) := by decide +kernel
theorem d_MaskEdgesModel_run_95 : decode prog_8_method_33_code 95 = .ok (.getfield 78, 3) := by decide +kernel
theorem d_MaskEdgesModel_run_98 : decode prog_8_method_33_code 98 = .ok (.iload_n 1, 1) := by decide +kernel
theorem d_MaskEdgesModel_run_99 : decode prog_8_method_33_code 99 = .ok (.if_icmp .ge 96, 3) := by decide +kernel
theorem d_MaskEdgesModel_run_102 : decode prog_8_method_33_code 102 = .ok (.aload_n 0, 1) := by decide +kernel
theorem d_MaskEdgesModel_run_103 : decode prog_8_method_33_code 103 = .ok (.getfield 81, 3) := by decide +kernel
theorem d_MaskEdgesModel_run_106 : decode prog_8_method_33_code 106 = .ok (.aload_n 0, 1) := by decide +kernel
theorem d_MaskEdgesModel_run_107 : decode prog_8_method_33_code 107 = .ok (.getfield 78, 3) := by decide +kernel
theorem d_MaskEdgesModel_run_110 : decode prog_8_method_33_code 110 = .ok (.iaload, 1) := by decide +kernel
theorem d_MaskEdgesModel_run_111 : decode prog_8_method_33_code 111 = .ok (.ifCond .le 84, 3) := by decide +kernel
theorem d_MaskEdgesModel_run_114 : decode prog_8_method_33_code 114 = .ok (.aload_n 0, 1) := by decide +kernel
theorem d_MaskEdgesModel_run_115 : decode prog_8_method_33_code 115 = .ok (.iload_n 3, 1) := by decide +kernel
theorem d_MaskEdgesModel_run_116 : decode prog_8_method_33_code 116 = .ok (.iload 4, 2) := by decide +kernel
theorem d_MaskEdgesModel_run_118 : decode prog_8_method_33_code 118 = .ok (.invokevirtual 195, 3) := by decide +kernel
theorem d_MaskEdgesModel_run_121 : decode prog_8_method_33_code 121 = .ok (.istore 5, 2) := by decide +kernel
theorem d_MaskEdgesModel_run_123 : decode prog_8_method_33_code 123 = .ok (.aload_n 0, 1) := by decide +kernel
theorem d_MaskEdgesModel_run_124 : decode prog_8_method_33_code 124 = .ok (.invokevirtual 166, 3) := by decide +kernel
theorem d_MaskEdgesModel_run_127 : decode prog_8_method_33_code 127 = .ok (.aload_n 0, 1) := by decide +kernel
theorem d_MaskEdgesModel_run_128 : decode prog_8_method_33_code 128 = .ok (.invokevirtual 191, 3) := by decide +kernel
theorem d_MaskEdgesModel_run_131 : decode prog_8_method_33_code 131 = .ok (.istore 6, 2) := by decide +kernel
theorem d_MaskEdgesModel_run_133 : decode prog_8_method_33_code 133 = .ok (.iload 5, 2) := by decide +kernel
theorem d_MaskEdgesModel_run_135 : decode prog_8_method_33_code 135 = .ok (.ifCond .eq 21, 3) := by decide +kernel
theorem d_MaskEdgesModel_run_138 : decode prog_8_method_33_code 138 = .ok (.iload 6, 2) := by decide +kernel
theorem d_MaskEdgesModel_run_140 : decode prog_8_method_33_code 140 = .ok (.aload_n 0, 1) := by decide +kernel
theorem d_MaskEdgesModel_run_141 : decode prog_8_method_33_code 141 = .ok (.getfield 81, 3) := by decide +kernel
theorem d_MaskEdgesModel_run_144 : decode prog_8_method_33_code 144 = .ok (.aload_n 0, 1) := by decide +kernel
theorem d_MaskEdgesModel_run_145 : decode prog_8_method_33_code 145 = .ok (.getfield 78, 3) := by decide +kernel
theorem d_MaskEdgesModel_run_148 : decode prog_8_method_33_code 148 = .ok (.iaload, 1) := by decide +kernel
theorem d_MaskEdgesModel_run_149 : decode prog_8_method_33_code 149 = .ok (.if_icmp .gt 7, 3) := by decide +kernel
theorem d_MaskEdgesModel_run_152 : decode prog_8_method_33_code 152 = .ok (.iconst 1, 1) := by decide +kernel
theorem d_MaskEdgesModel_run_153 : decode prog_8_method_33_code 153 = .ok (.goto 4, 3) := by decide +kernel
theorem d_MaskEdgesModel_run_156 : decode prog_8_method_33_code 156 = .ok (.iconst 0, 1) := by decide +kernel
theorem d_MaskEdgesModel_run_157 : decode prog_8_method_33_code 157 = .ok (.istore 5, 2) := by decide +kernel
theorem d_MaskEdgesModel_run_159 : decode prog_8_method_33_code 159 = .ok (.iload 5, 2) := by decide +kernel
theorem d_MaskEdgesModel_run_161 : decode prog_8_method_33_code 161 = .ok (.ifCond .eq 27, 3) := by decide +kernel
theorem d_MaskEdgesModel_run_164 : decode prog_8_method_33_code 164 = .ok (.aload_n 0, 1) := by decide +kernel
theorem d_MaskEdgesModel_run_165 : decode prog_8_method_33_code 165 = .ok (.dup, 1) := by decide +kernel
theorem d_MaskEdgesModel_run_166 : decode prog_8_method_33_code 166 = .ok (.getfield 78, 3) := by decide +kernel
theorem d_MaskEdgesModel_run_169 : decode prog_8_method_33_code 169 = .ok (.iconst 1, 1) := by decide +kernel
theorem d_MaskEdgesModel_run_170 : decode prog_8_method_33_code 170 = .ok (.iadd, 1) := by decide +kernel
theorem d_MaskEdgesModel_run_171 : decode prog_8_method_33_code 171 = .ok (.putfield 78, 3) := by decide +kernel
theorem d_MaskEdgesModel_run_174 : decode prog_8_method_33_code 174 = .ok (.aload_n 0, 1) := by decide +kernel
theorem d_MaskEdgesModel_run_175 : decode prog_8_method_33_code 175 = .ok (.getfield 81, 3) := by decide +kernel
theorem d_MaskEdgesModel_run_178 : decode prog_8_method_33_code 178 = .ok (.aload_n 0, 1) := by decide +kernel
theorem d_MaskEdgesModel_run_179 : decode prog_8_method_33_code 179 = .ok (.getfield 78, 3) := by decide +kernel
theorem d_MaskEdgesModel_run_182 : decode prog_8_method_33_code 182 = .ok (.iload 6, 2) := by decide +kernel
theorem d_MaskEdgesModel_run_184 : decode prog_8_method_33_code 184 = .ok (.iastore, 1) := by decide +kernel
theorem d_MaskEdgesModel_run_185 : decode prog_8_method_33_code 185 = .ok (.goto 7, 3) := by decide +kernel
theorem d_MaskEdgesModel_run_188 : decode prog_8_method_33_code 188 = .ok (.aload_n 0, 1) := by decide +kernel
theorem d_MaskEdgesModel_run_189 : decode prog_8_method_33_code 189 = .ok (.invokevirtual 198, 3) := by decide +kernel
theorem d_MaskEdgesModel_run_192 : decode prog_8_method_33_code 192 = .ok (.goto (-103), 3) := by decide +kernel
theorem d_MaskEdgesModel_run_195 : decode prog_8_method_33_code 195 = .ok (.aload_n 0, 1) := by decide +kernel
theorem d_MaskEdgesModel_run_196 : decode prog_8_method_33_code 196 = .ok (.getfield 78, 3) := by decide +kernel
theorem d_MaskEdgesModel_run_199 : decode prog_8_method_33_code 199 = .ok (.ireturn, 1) := by decide +kernel
theorem d_MaskEdgesModel_moved_0 : decode prog_8_method_34_code 0 = .ok (.aload_n 0, 1) := by decide +kernel
theorem d_MaskEdgesModel_moved_1 : decode prog_8_method_34_code 1 = .ok (.iload_n 1, 1) := by decide +kernel
theorem d_MaskEdgesModel_moved_2 : decode prog_8_method_34_code 2 = .ok (.invokevirtual 178, 3) := by decide +kernel
theorem d_MaskEdgesModel_moved_5 : decode prog_8_method_34_code 5 = .ok (.ifCond .eq 12, 3) := by decide +kernel
theorem d_MaskEdgesModel_moved_8 : decode prog_8_method_34_code 8 = .ok (.aload_n 0, 1) := by decide +kernel
theorem d_MaskEdgesModel_moved_9 : decode prog_8_method_34_code 9 = .ok (.getfield 54, 3) := by decide +kernel
theorem d_MaskEdgesModel_moved_12 : decode prog_8_method_34_code 12 = .ok (.iload_n 1, 1) := by decide +kernel
theorem d_MaskEdgesModel_moved_13 : decode prog_8_method_34_code 13 = .ok (.iaload, 1) := by decide +kernel
theorem d_MaskEdgesModel_moved_14 : decode prog_8_method_34_code 14 = .ok (.goto 4, 3) := by decide +kernel
theorem d_MaskEdgesModel_moved_17 : decode prog_8_method_34_code 17 = .ok (.iconst 0, 1) := by decide +kernel
theorem d_MaskEdgesModel_moved_18 : decode prog_8_method_34_code 18 = .ok (.ireturn, 1) := by decide +kernel
theorem d_MaskEdgesModel_worst_0 : decode prog_8_method_35_code 0 = .ok (.iload_n 1, 1) := by decide +kernel
theorem d_MaskEdgesModel_worst_1 : decode prog_8_method_35_code 1 = .ok (.i2l, 1) := by decide +kernel
theorem d_MaskEdgesModel_worst_2 : decode prog_8_method_35_code 2 = .ok (.lconst 0, 1) := by decide +kernel
theorem d_MaskEdgesModel_worst_3 : decode prog_8_method_35_code 3 = .ok (.aload_n 0, 1) := by decide +kernel
theorem d_MaskEdgesModel_worst_4 : decode prog_8_method_35_code 4 = .ok (.getfield 78, 3) := by decide +kernel
theorem d_MaskEdgesModel_worst_7 : decode prog_8_method_35_code 7 = .ok (.i2l, 1) := by decide +kernel
theorem d_MaskEdgesModel_worst_8 : decode prog_8_method_35_code 8 = .ok (.invokestatic 86, 3) := by decide +kernel
theorem d_MaskEdgesModel_worst_11 : decode prog_8_method_35_code 11 = .ok (.ifCond .eq 12, 3) := by decide +kernel
theorem d_MaskEdgesModel_worst_14 : decode prog_8_method_35_code 14 = .ok (.aload_n 0, 1) := by decide +kernel
theorem d_MaskEdgesModel_worst_15 : decode prog_8_method_35_code 15 = .ok (.getfield 81, 3) := by decide +kernel
theorem d_MaskEdgesModel_worst_18 : decode prog_8_method_35_code 18 = .ok (.iload_n 1, 1) := by decide +kernel
theorem d_MaskEdgesModel_worst_19 : decode prog_8_method_35_code 19 = .ok (.iaload, 1) := by decide +kernel
theorem d_MaskEdgesModel_worst_20 : decode prog_8_method_35_code 20 = .ok (.goto 4, 3) := by decide +kernel
theorem d_MaskEdgesModel_worst_23 : decode prog_8_method_35_code 23 = .ok (.iconst (-1), 1) := by decide +kernel
theorem d_MaskEdgesModel_worst_24 : decode prog_8_method_35_code 24 = .ok (.ireturn, 1) := by decide +kernel
theorem d_MaskEdgesModel_isFree_0 : decode prog_8_method_36_code 0 = .ok (.iload_n 1, 1) := by decide +kernel
theorem d_MaskEdgesModel_isFree_1 : decode prog_8_method_36_code 1 = .ok (.iload_n 2, 1) := by decide +kernel
theorem d_MaskEdgesModel_isFree_2 : decode prog_8_method_36_code 2 = .ok (.invokestatic 102, 3) := by decide +kernel
theorem d_MaskEdgesModel_isFree_5 : decode prog_8_method_36_code 5 = .ok (.ifCond .eq 16, 3) := by decide +kernel
theorem d_MaskEdgesModel_isFree_8 : decode prog_8_method_36_code 8 = .ok (.iload_n 3, 1) := by decide +kernel
theorem d_MaskEdgesModel_isFree_9 : decode prog_8_method_36_code 9 = .ok (.iload 4, 2) := by decide +kernel
theorem d_MaskEdgesModel_isFree_11 : decode prog_8_method_36_code 11 = .ok (.invokestatic 102, 3) := by decide +kernel
theorem d_MaskEdgesModel_isFree_14 : decode prog_8_method_36_code 14 = .ok (.ifCond .eq 7, 3) := by decide +kernel
theorem d_MaskEdgesModel_isFree_17 : decode prog_8_method_36_code 17 = .ok (.iconst 1, 1) := by decide +kernel
theorem d_MaskEdgesModel_isFree_18 : decode prog_8_method_36_code 18 = .ok (.goto 4, 3) := by decide +kernel
theorem d_MaskEdgesModel_isFree_21 : decode prog_8_method_36_code 21 = .ok (.iconst 0, 1) := by decide +kernel
theorem d_MaskEdgesModel_isFree_22 : decode prog_8_method_36_code 22 = .ok (.istore 5, 2) := by decide +kernel
theorem d_MaskEdgesModel_isFree_24 : decode prog_8_method_36_code 24 = .ok (.iconst 0, 1) := by decide +kernel
theorem d_MaskEdgesModel_isFree_25 : decode prog_8_method_36_code 25 = .ok (.istore 6, 2) := by decide +kernel
theorem d_MaskEdgesModel_isFree_27 : decode prog_8_method_36_code 27 = .ok (.iload 6, 2) := by decide +kernel
theorem d_MaskEdgesModel_isFree_29 : decode prog_8_method_36_code 29 = .ok (.aload_n 0, 1) := by decide +kernel
theorem d_MaskEdgesModel_isFree_30 : decode prog_8_method_36_code 30 = .ok (.getfield 151, 3) := by decide +kernel
theorem d_MaskEdgesModel_isFree_33 : decode prog_8_method_36_code 33 = .ok (.if_icmp .ge 66, 3) := by decide +kernel
theorem d_MaskEdgesModel_isFree_36 : decode prog_8_method_36_code 36 = .ok (.iload 5, 2) := by decide +kernel
theorem d_MaskEdgesModel_isFree_38 : decode prog_8_method_36_code 38 = .ok (.ifCond .eq 52, 3) := by decide +kernel
theorem d_MaskEdgesModel_isFree_41 : decode prog_8_method_36_code 41 = .ok (.aload_n 0, 1) := by decide +kernel
theorem d_MaskEdgesModel_isFree_42 : decode prog_8_method_36_code 42 = .ok (.getfield 60, 3) := by decide +kernel
theorem d_MaskEdgesModel_isFree_45 : decode prog_8_method_36_code 45 = .ok (.iload 6, 2) := by decide +kernel
theorem d_MaskEdgesModel_isFree_47 : decode prog_8_method_36_code 47 = .ok (.iaload, 1) := by decide +kernel
theorem d_MaskEdgesModel_isFree_48 : decode prog_8_method_36_code 48 = .ok (.iload_n 3, 1) := by decide +kernel
theorem d_MaskEdgesModel_isFree_49 : decode prog_8_method_36_code 49 = .ok (.if_icmp .gt 37, 3) := by decide +kernel
theorem d_MaskEdgesModel_isFree_52 : decode prog_8_method_36_code 52 = .ok (.aload_n 0, 1) := by decide +kernel
theorem d_MaskEdgesModel_isFree_53 : decode prog_8_method_36_code 53 = .ok (.getfield 66, 3) := by decide +kernel
theorem d_MaskEdgesModel_isFree_56 : decode prog_8_method_36_code 56 = .ok (.iload 6, 2) := by decide +kernel
theorem d_MaskEdgesModel_isFree_58 : decode prog_8_method_36_code 58 = .ok (.iaload, 1) := by decide +kernel
theorem d_MaskEdgesModel_isFree_59 : decode prog_8_method_36_code 59 = .ok (.iload_n 1, 1) := by decide +kernel
theorem d_MaskEdgesModel_isFree_60 : decode prog_8_method_36_code 60 = .ok (.if_icmp .lt 26, 3) := by decide +kernel
theorem d_MaskEdgesModel_isFree_63 : decode prog_8_method_36_code 63 = .ok (.aload_n 0, 1) := by decide +kernel
theorem d_MaskEdgesModel_isFree_64 : decode prog_8_method_36_code 64 = .ok (.getfield 63, 3) := by decide +kernel
theorem d_MaskEdgesModel_isFree_67 : decode prog_8_method_36_code 67 = .ok (.iload 6, 2) := by decide +kernel
theorem d_MaskEdgesModel_isFree_69 : decode prog_8_method_36_code 69 = .ok (.iaload, 1) := by decide +kernel
theorem d_MaskEdgesModel_isFree_70 : decode prog_8_method_36_code 70 = .ok (.iload 4, 2) := by decide +kernel
theorem d_MaskEdgesModel_isFree_72 : decode prog_8_method_36_code 72 = .ok (.if_icmp .gt 14, 3) := by decide +kernel
theorem d_MaskEdgesModel_isFree_75 : decode prog_8_method_36_code 75 = .ok (.aload_n 0, 1) := by decide +kernel
theorem d_MaskEdgesModel_isFree_76 : decode prog_8_method_36_code 76 = .ok (.getfield 69, 3) := by decide +kernel
theorem d_MaskEdgesModel_isFree_79 : decode prog_8_method_36_code 79 = .ok (.iload 6, 2) := by decide +kernel
theorem d_MaskEdgesModel_isFree_81 : decode prog_8_method_36_code 81 = .ok (.iaload, 1) := by decide +kernel
theorem d_MaskEdgesModel_isFree_82 : decode prog_8_method_36_code 82 = .ok (.iload_n 2, 1) := by decide +kernel
theorem d_MaskEdgesModel_isFree_83 : decode prog_8_method_36_code 83 = .ok (.if_icmp .ge 7, 3) := by decide +kernel
theorem d_MaskEdgesModel_isFree_86 : decode prog_8_method_36_code 86 = .ok (.iconst 1, 1) := by decide +kernel
theorem d_MaskEdgesModel_isFree_87 : decode prog_8_method_36_code 87 = .ok (.goto 4, 3) := by decide +kernel
theorem d_MaskEdgesModel_isFree_90 : decode prog_8_method_36_code 90 = .ok (.iconst 0, 1) := by decide +kernel
theorem d_MaskEdgesModel_isFree_91 : decode prog_8_method_36_code 91 = .ok (.istore 5, 2) := by decide +kernel
theorem d_MaskEdgesModel_isFree_93 : decode prog_8_method_36_code 93 = .ok (.iinc 6 1, 3) := by decide +kernel
theorem d_MaskEdgesModel_isFree_96 : decode prog_8_method_36_code 96 = .ok (.goto (-69), 3) := by decide +kernel
theorem d_MaskEdgesModel_isFree_99 : decode prog_8_method_36_code 99 = .ok (.iload_n 2, 1) := by decide +kernel
theorem d_MaskEdgesModel_isFree_100 : decode prog_8_method_36_code 100 = .ok (.istore 6, 2) := by decide +kernel
theorem d_MaskEdgesModel_isFree_102 : decode prog_8_method_36_code 102 = .ok (.iload 6, 2) := by decide +kernel
theorem d_MaskEdgesModel_isFree_104 : decode prog_8_method_36_code 104 = .ok (.iload 4, 2) := by decide +kernel
theorem d_MaskEdgesModel_isFree_106 : decode prog_8_method_36_code 106 = .ok (.if_icmp .gt 52, 3) := by decide +kernel
theorem d_MaskEdgesModel_isFree_109 : decode prog_8_method_36_code 109 = .ok (.iload 5, 2) := by decide +kernel
theorem d_MaskEdgesModel_isFree_111 : decode prog_8_method_36_code 111 = .ok (.ifCond .eq 47, 3) := by decide +kernel
theorem d_MaskEdgesModel_isFree_114 : decode prog_8_method_36_code 114 = .ok (.iload_n 1, 1) := by decide +kernel
theorem d_MaskEdgesModel_isFree_115 : decode prog_8_method_36_code 115 = .ok (.istore 7, 2) := by decide +kernel
theorem d_MaskEdgesModel_isFree_117 : decode prog_8_method_36_code 117 = .ok (.iload 7, 2) := by decide +kernel
theorem d_MaskEdgesModel_isFree_119 : decode prog_8_method_36_code 119 = .ok (.iload_n 3, 1) := by decide +kernel
theorem d_MaskEdgesModel_isFree_120 : decode prog_8_method_36_code 120 = .ok (.if_icmp .gt 32, 3) := by decide +kernel
theorem d_MaskEdgesModel_isFree_123 : decode prog_8_method_36_code 123 = .ok (.iload 5, 2) := by decide +kernel
theorem d_MaskEdgesModel_isFree_125 : decode prog_8_method_36_code 125 = .ok (.ifCond .eq 18, 3) := by decide +kernel
theorem d_MaskEdgesModel_isFree_128 : decode prog_8_method_36_code 128 = .ok (.aload_n 0, 1) := by decide +kernel
theorem d_MaskEdgesModel_isFree_129 : decode prog_8_method_36_code 129 = .ok (.iload 7, 2) := by decide +kernel
theorem d_MaskEdgesModel_isFree_131 : decode prog_8_method_36_code 131 = .ok (.iload 6, 2) := by decide +kernel
theorem d_MaskEdgesModel_isFree_133 : decode prog_8_method_36_code 133 = .ok (.invokevirtual 144, 3) := by decide +kernel
theorem d_MaskEdgesModel_isFree_136 : decode prog_8_method_36_code 136 = .ok (.ifCond .ne 7, 3) := by decide +kernel
theorem d_MaskEdgesModel_isFree_139 : decode prog_8_method_36_code 139 = .ok (.iconst 1, 1) := by decide +kernel
theorem d_MaskEdgesModel_isFree_140 : decode prog_8_method_36_code 140 = .ok (.goto 4, 3) := by decide +kernel
theorem d_MaskEdgesModel_isFree_143 : decode prog_8_method_36_code 143 = .ok (.iconst 0, 1) := by decide +kernel
theorem d_MaskEdgesModel_isFree_144 : decode prog_8_method_36_code 144 = .ok (.istore 5, 2) := by decide +kernel
theorem d_MaskEdgesModel_isFree_146 : decode prog_8_method_36_code 146 = .ok (.iinc 7 1, 3) := by decide +kernel
theorem d_MaskEdgesModel_isFree_149 : decode prog_8_method_36_code 149 = .ok (.goto (-32), 3) := by decide +kernel
theorem d_MaskEdgesModel_isFree_152 : decode prog_8_method_36_code 152 = .ok (.iinc 6 1, 3) := by decide +kernel
theorem d_MaskEdgesModel_isFree_155 : decode prog_8_method_36_code 155 = .ok (.goto (-53), 3) := by decide +kernel
theorem d_MaskEdgesModel_isFree_158 : decode prog_8_method_36_code 158 = .ok (.iload 5, 2) := by decide +kernel
theorem d_MaskEdgesModel_isFree_160 : decode prog_8_method_36_code 160 = .ok (.ireturn, 1) := by decide +kernel
theorem d_MaskEdgesModel_hasCome_0 : decode prog_8_method_37_code 0 = .ok (.iload_n 1, 1) := by decide +kernel
theorem d_MaskEdgesModel_hasCome_1 : decode prog_8_method_37_code 1 = .ok (.istore 4, 2) := by decide +kernel
theorem d_MaskEdgesModel_hasCome_3 : decode prog_8_method_37_code 3 = .ok (.aload_n 0, 1) := by decide +kernel
theorem d_MaskEdgesModel_hasCome_4 : decode prog_8_method_37_code 4 = .ok (.getfield 48, 3) := by decide +kernel
theorem d_MaskEdgesModel_hasCome_7 : decode prog_8_method_37_code 7 = .ok (.iload 4, 2) := by decide +kernel
theorem d_MaskEdgesModel_hasCome_9 : decode prog_8_method_37_code 9 = .ok (.baload, 1) := by decide +kernel
theorem d_MaskEdgesModel_hasCome_10 : decode prog_8_method_37_code 10 = .ok (.ifCond .ne 9, 3) := by decide +kernel
theorem d_MaskEdgesModel_hasCome_13 : decode prog_8_method_37_code 13 = .ok (.iinc 4 1, 3) := by decide +kernel
theorem d_MaskEdgesModel_hasCome_16 : decode prog_8_method_37_code 16 = .ok (.goto (-13), 3) := by decide +kernel
theorem d_MaskEdgesModel_hasCome_19 : decode prog_8_method_37_code 19 = .ok (.aload_n 0, 1) := by decide +kernel
theorem d_MaskEdgesModel_hasCome_20 : decode prog_8_method_37_code 20 = .ok (.getfield 36, 3) := by decide +kernel
theorem d_MaskEdgesModel_hasCome_23 : decode prog_8_method_37_code 23 = .ok (.iload_n 1, 1) := by decide +kernel
theorem d_MaskEdgesModel_hasCome_24 : decode prog_8_method_37_code 24 = .ok (.iaload, 1) := by decide +kernel
theorem d_MaskEdgesModel_hasCome_25 : decode prog_8_method_37_code 25 = .ok (.aload_n 0, 1) := by decide +kernel
theorem d_MaskEdgesModel_hasCome_26 : decode prog_8_method_37_code 26 = .ok (.getfield 36, 3) := by decide +kernel
theorem d_MaskEdgesModel_hasCome_29 : decode prog_8_method_37_code 29 = .ok (.iload 4, 2) := by decide +kernel
theorem d_MaskEdgesModel_hasCome_31 : decode prog_8_method_37_code 31 = .ok (.iaload, 1) := by decide +kernel
theorem d_MaskEdgesModel_hasCome_32 : decode prog_8_method_37_code 32 = .ok (.if_icmp .ge 12, 3) := by decide +kernel
theorem d_MaskEdgesModel_hasCome_35 : decode prog_8_method_37_code 35 = .ok (.aload_n 0, 1) := by decide +kernel
theorem d_MaskEdgesModel_hasCome_36 : decode prog_8_method_37_code 36 = .ok (.getfield 36, 3) := by decide +kernel
theorem d_MaskEdgesModel_hasCome_39 : decode prog_8_method_37_code 39 = .ok (.iload_n 1, 1) := by decide +kernel
theorem d_MaskEdgesModel_hasCome_40 : decode prog_8_method_37_code 40 = .ok (.iaload, 1) := by decide +kernel
theorem d_MaskEdgesModel_hasCome_41 : decode prog_8_method_37_code 41 = .ok (.goto 10, 3) := by decide +kernel
theorem d_MaskEdgesModel_hasCome_44 : decode prog_8_method_37_code 44 = .ok (.aload_n 0, 1) := by decide +kernel
theorem d_MaskEdgesModel_hasCome_45 : decode prog_8_method_37_code 45 = .ok (.getfield 36, 3) := by decide +kernel
theorem d_MaskEdgesModel_hasCome_48 : decode prog_8_method_37_code 48 = .ok (.iload 4, 2) := by decide +kernel
theorem d_MaskEdgesModel_hasCome_50 : decode prog_8_method_37_code 50 = .ok (.iaload, 1) := by decide +kernel
theorem d_MaskEdgesModel_hasCome_51 : decode prog_8_method_37_code 51 = .ok (.istore 5, 2) := by decide +kernel
theorem d_MaskEdgesModel_hasCome_53 : decode prog_8_method_37_code 53 = .ok (.aload_n 0, 1) := by decide +kernel
theorem d_MaskEdgesModel_hasCome_54 : decode prog_8_method_37_code 54 = .ok (.getfield 39, 3) := by decide +kernel
theorem d_MaskEdgesModel_hasCome_57 : decode prog_8_method_37_code 57 = .ok (.iload_n 1, 1) := by decide +kernel
theorem d_MaskEdgesModel_hasCome_58 : decode prog_8_method_37_code 58 = .ok (.iaload, 1) := by decide +kernel
theorem d_MaskEdgesModel_hasCome_59 : decode prog_8_method_37_code 59 = .ok (.aload_n 0, 1) := by decide +kernel
theorem d_MaskEdgesModel_hasCome_60 : decode prog_8_method_37_code 60 = .ok (.getfield 39, 3) := by decide +kernel
theorem d_MaskEdgesModel_hasCome_63 : decode prog_8_method_37_code 63 = .ok (.iload 4, 2) := by decide +kernel
theorem d_MaskEdgesModel_hasCome_65 : decode prog_8_method_37_code 65 = .ok (.iaload, 1) := by decide +kernel
theorem d_MaskEdgesModel_hasCome_66 : decode prog_8_method_37_code 66 = .ok (.if_icmp .le 12, 3) := by decide +kernel
theorem d_MaskEdgesModel_hasCome_69 : decode prog_8_method_37_code 69 = .ok (.aload_n 0, 1) := by decide +kernel
theorem d_MaskEdgesModel_hasCome_70 : decode prog_8_method_37_code 70 = .ok (.getfield 39, 3) := by decide +kernel
theorem d_MaskEdgesModel_hasCome_73 : decode prog_8_method_37_code 73 = .ok (.iload_n 1, 1) := by decide +kernel
theorem d_MaskEdgesModel_hasCome_74 : decode prog_8_method_37_code 74 = .ok (.iaload, 1) := by decide +kernel
theorem d_MaskEdgesModel_hasCome_75 : decode prog_8_method_37_code 75 = .ok (.goto 10, 3) := by decide +kernel
theorem d_MaskEdgesModel_hasCome_78 : decode prog_8_method_37_code 78 = .ok (.aload_n 0, 1) := by decide +kernel
theorem d_MaskEdgesModel_hasCome_79 : decode prog_8_method_37_code 79 = .ok (.getfield 39, 3) := by decide +kernel
theorem d_MaskEdgesModel_hasCome_82 : decode prog_8_method_37_code 82 = .ok (.iload 4, 2) := by decide +kernel
theorem d_MaskEdgesModel_hasCome_84 : decode prog_8_method_37_code 84 = .ok (.iaload, 1) := by decide +kernel
theorem d_MaskEdgesModel_hasCome_85 : decode prog_8_method_37_code 85 = .ok (.istore 6, 2) := by decide +kernel
theorem d_MaskEdgesModel_hasCome_87 : decode prog_8_method_37_code 87 = .ok (.iload 6, 2) := by decide +kernel
theorem d_MaskEdgesModel_hasCome_89 : decode prog_8_method_37_code 89 = .ok (.iload 5, 2) := by decide +kernel
theorem d_MaskEdgesModel_hasCome_91 : decode prog_8_method_37_code 91 = .ok (.isub, 1) := by decide +kernel
theorem d_MaskEdgesModel_hasCome_92 : decode prog_8_method_37_code 92 = .ok (.bipush 6, 2) := by decide +kernel
theorem d_MaskEdgesModel_hasCome_94 : decode prog_8_method_37_code 94 = .ok (.if_icmp .lt 21, 3) := by decide +kernel
theorem d_MaskEdgesModel_hasCome_97 : decode prog_8_method_37_code 97 = .ok (.aload_n 0, 1) := by decide +kernel
theorem d_MaskEdgesModel_hasCome_98 : decode prog_8_method_37_code 98 = .ok (.getfield 51, 3) := by decide +kernel
theorem d_MaskEdgesModel_hasCome_101 : decode prog_8_method_37_code 101 = .ok (.iload_n 1, 1) := by decide +kernel
theorem d_MaskEdgesModel_hasCome_102 : decode prog_8_method_37_code 102 = .ok (.iaload, 1) := by decide +kernel
theorem d_MaskEdgesModel_hasCome_103 : decode prog_8_method_37_code 103 = .ok (.ifCond .eq 12, 3) := by decide +kernel
theorem d_MaskEdgesModel_hasCome_106 : decode prog_8_method_37_code 106 = .ok (.aload_n 0, 1) := by decide +kernel
theorem d_MaskEdgesModel_hasCome_107 : decode prog_8_method_37_code 107 = .ok (.getfield 151, 3) := by decide +kernel
theorem d_MaskEdgesModel_hasCome_110 : decode prog_8_method_37_code 110 = .ok (.bipush 24, 2) := by decide +kernel
theorem d_MaskEdgesModel_hasCome_112 : decode prog_8_method_37_code 112 = .ok (.if_icmp .ne 5, 3) := by decide +kernel
theorem d_MaskEdgesModel_hasCome_115 : decode prog_8_method_37_code 115 = .ok (.iconst 0, 1) := by decide +kernel
theorem d_MaskEdgesModel_hasCome_116 : decode prog_8_method_37_code 116 = .ok (.ireturn, 1) := by decide +kernel
theorem d_MaskEdgesModel_hasCome_117 : decode prog_8_method_37_code 117 = .ok (.aload_n 0, 1) := by decide +kernel
theorem d_MaskEdgesModel_hasCome_118 : decode prog_8_method_37_code 118 = .ok (.getfield 51, 3) := by decide +kernel
theorem d_MaskEdgesModel_hasCome_121 : decode prog_8_method_37_code 121 = .ok (.iload_n 1, 1) := by decide +kernel
theorem d_MaskEdgesModel_hasCome_122 : decode prog_8_method_37_code 122 = .ok (.iaload, 1) := by decide +kernel
theorem d_MaskEdgesModel_hasCome_123 : decode prog_8_method_37_code 123 = .ok (.ifCond .le 14, 3) := by decide +kernel
theorem d_MaskEdgesModel_hasCome_126 : decode prog_8_method_37_code 126 = .ok (.aload_n 0, 1) := by decide +kernel
theorem d_MaskEdgesModel_hasCome_127 : decode prog_8_method_37_code 127 = .ok (.getfield 33, 3) := by decide +kernel
theorem d_MaskEdgesModel_hasCome_130 : decode prog_8_method_37_code 130 = .ok (.iload_n 1, 1) := by decide +kernel
theorem d_MaskEdgesModel_hasCome_131 : decode prog_8_method_37_code 131 = .ok (.iaload, 1) := by decide +kernel
theorem d_MaskEdgesModel_hasCome_132 : decode prog_8_method_37_code 132 = .ok (.iload_n 2, 1) := by decide +kernel
theorem d_MaskEdgesModel_hasCome_133 : decode prog_8_method_37_code 133 = .ok (.iadd, 1) := by decide +kernel
theorem d_MaskEdgesModel_hasCome_134 : decode prog_8_method_37_code 134 = .ok (.goto 13, 3) := by decide +kernel
theorem d_MaskEdgesModel_hasCome_137 : decode prog_8_method_37_code 137 = .ok (.aload_n 0, 1) := by decide +kernel
theorem d_MaskEdgesModel_hasCome_138 : decode prog_8_method_37_code 138 = .ok (.getfield 33, 3) := by decide +kernel
theorem d_MaskEdgesModel_hasCome_141 : decode prog_8_method_37_code 141 = .ok (.iload_n 1, 1) := by decide +kernel
theorem d_MaskEdgesModel_hasCome_142 : decode prog_8_method_37_code 142 = .ok (.iaload, 1) := by decide +kernel
theorem d_MaskEdgesModel_hasCome_143 : decode prog_8_method_37_code 143 = .ok (.iload_n 2, 1) := by decide +kernel
theorem d_MaskEdgesModel_hasCome_144 : decode prog_8_method_37_code 144 = .ok (.isub, 1) := by decide +kernel
theorem d_MaskEdgesModel_hasCome_145 : decode prog_8_method_37_code 145 = .ok (.iload_n 3, 1) := by decide +kernel
theorem d_MaskEdgesModel_hasCome_146 : decode prog_8_method_37_code 146 = .ok (.isub, 1) := by decide +kernel
theorem d_MaskEdgesModel_hasCome_147 : decode prog_8_method_37_code 147 = .ok (.istore 7, 2) := by decide +kernel
theorem d_MaskEdgesModel_hasCome_149 : decode prog_8_method_37_code 149 = .ok (.aload_n 0, 1) := by decide +kernel
theorem d_MaskEdgesModel_hasCome_150 : decode prog_8_method_37_code 150 = .ok (.getfield 42, 3) := by decide +kernel
theorem d_MaskEdgesModel_hasCome_153 : decode prog_8_method_37_code 153 = .ok (.iload_n 1, 1) := by decide +kernel
theorem d_MaskEdgesModel_hasCome_154 : decode prog_8_method_37_code 154 = .ok (.baload, 1) := by decide +kernel
theorem d_MaskEdgesModel_hasCome_155 : decode prog_8_method_37_code 155 = .ok (.ifCond .eq 10, 3) := by decide +kernel
theorem d_MaskEdgesModel_hasCome_158 : decode prog_8_method_37_code 158 = .ok (.iload 5, 2) := by decide +kernel
theorem d_MaskEdgesModel_hasCome_160 : decode prog_8_method_37_code 160 = .ok (.iconst 1, 1) := by decide +kernel
theorem d_MaskEdgesModel_hasCome_161 : decode prog_8_method_37_code 161 = .ok (.iadd, 1) := by decide +kernel
theorem d_MaskEdgesModel_hasCome_162 : decode prog_8_method_37_code 162 = .ok (.goto 5, 3) := by decide +kernel
theorem d_MaskEdgesModel_hasCome_165 : decode prog_8_method_37_code 165 = .ok (.iload 7, 2) := by decide +kernel
theorem d_MaskEdgesModel_hasCome_167 : decode prog_8_method_37_code 167 = .ok (.istore 8, 2) := by decide +kernel
theorem d_MaskEdgesModel_hasCome_169 : decode prog_8_method_37_code 169 = .ok (.aload_n 0, 1) := by decide +kernel
theorem d_MaskEdgesModel_hasCome_170 : decode prog_8_method_37_code 170 = .ok (.getfield 42, 3) := by decide +kernel
theorem d_MaskEdgesModel_hasCome_173 : decode prog_8_method_37_code 173 = .ok (.iload_n 1, 1) := by decide +kernel
theorem d_MaskEdgesModel_hasCome_174 : decode prog_8_method_37_code 174 = .ok (.baload, 1) := by decide +kernel
theorem d_MaskEdgesModel_hasCome_175 : decode prog_8_method_37_code 175 = .ok (.ifCond .eq 8, 3) := by decide +kernel
theorem d_MaskEdgesModel_hasCome_178 : decode prog_8_method_37_code 178 = .ok (.iload 7, 2) := by decide +kernel
theorem d_MaskEdgesModel_hasCome_180 : decode prog_8_method_37_code 180 = .ok (.goto 7, 3) := by decide +kernel
theorem d_MaskEdgesModel_hasCome_183 : decode prog_8_method_37_code 183 = .ok (.iload 5, 2) := by decide +kernel
theorem d_MaskEdgesModel_hasCome_185 : decode prog_8_method_37_code 185 = .ok (.iconst 1, 1) := by decide +kernel
theorem d_MaskEdgesModel_hasCome_186 : decode prog_8_method_37_code 186 = .ok (.iadd, 1) := by decide +kernel
theorem d_MaskEdgesModel_hasCome_187 : decode prog_8_method_37_code 187 = .ok (.istore 9, 2) := by decide +kernel
theorem d_MaskEdgesModel_hasCome_189 : decode prog_8_method_37_code 189 = .ok (.aload_n 0, 1) := by decide +kernel
theorem d_MaskEdgesModel_hasCome_190 : decode prog_8_method_37_code 190 = .ok (.getfield 42, 3) := by decide +kernel
theorem d_MaskEdgesModel_hasCome_193 : decode prog_8_method_37_code 193 = .ok (.iload_n 1, 1) := by decide +kernel
theorem d_MaskEdgesModel_hasCome_194 : decode prog_8_method_37_code 194 = .ok (.baload, 1) := by decide +kernel
theorem d_MaskEdgesModel_hasCome_195 : decode prog_8_method_37_code 195 = .ok (.ifCond .eq 10, 3) := by decide +kernel
theorem d_MaskEdgesModel_hasCome_198 : decode prog_8_method_37_code 198 = .ok (.iload 6, 2) := by decide +kernel
theorem d_MaskEdgesModel_hasCome_200 : decode prog_8_method_37_code 200 = .ok (.iconst 2, 1) := by decide +kernel
theorem d_MaskEdgesModel_hasCome_201 : decode prog_8_method_37_code 201 = .ok (.isub, 1) := by decide +kernel
theorem d_MaskEdgesModel_hasCome_202 : decode prog_8_method_37_code 202 = .ok (.goto 9, 3) := by decide +kernel
theorem d_MaskEdgesModel_hasCome_205 : decode prog_8_method_37_code 205 = .ok (.iload 7, 2) := by decide +kernel
theorem d_MaskEdgesModel_hasCome_207 : decode prog_8_method_37_code 207 = .ok (.iload_n 3, 1) := by decide +kernel
theorem d_MaskEdgesModel_hasCome_208 : decode prog_8_method_37_code 208 = .ok (.iadd, 1) := by decide +kernel
theorem d_MaskEdgesModel_hasCome_209 : decode prog_8_method_37_code 209 = .ok (.iconst 1, 1) := by decide +kernel
theorem d_MaskEdgesModel_hasCome_210 : decode prog_8_method_37_code 210 = .ok (.isub, 1) := by decide +kernel
theorem d_MaskEdgesModel_hasCome_211 : decode prog_8_method_37_code 211 = .ok (.istore 10, 2) := by decide +kernel
theorem d_MaskEdgesModel_hasCome_213 : decode prog_8_method_37_code 213 = .ok (.aload_n 0, 1) := by decide +kernel
theorem d_MaskEdgesModel_hasCome_214 : decode prog_8_method_37_code 214 = .ok (.getfield 42, 3) := by decide +kernel
theorem d_MaskEdgesModel_hasCome_217 : decode prog_8_method_37_code 217 = .ok (.iload_n 1, 1) := by decide +kernel
theorem d_MaskEdgesModel_hasCome_218 : decode prog_8_method_37_code 218 = .ok (.baload, 1) := by decide +kernel
theorem d_MaskEdgesModel_hasCome_219 : decode prog_8_method_37_code 219 = .ok (.ifCond .eq 12, 3) := by decide +kernel
theorem d_MaskEdgesModel_hasCome_222 : decode prog_8_method_37_code 222 = .ok (.iload 7, 2) := by decide +kernel
theorem d_MaskEdgesModel_hasCome_224 : decode prog_8_method_37_code 224 = .ok (.iload_n 3, 1) := by decide +kernel
theorem d_MaskEdgesModel_hasCome_225 : decode prog_8_method_37_code 225 = .ok (.iadd, 1) := by decide +kernel
theorem d_MaskEdgesModel_hasCome_226 : decode prog_8_method_37_code 226 = .ok (.iconst 1, 1) := by decide +kernel
theorem d_MaskEdgesModel_hasCome_227 : decode prog_8_method_37_code 227 = .ok (.isub, 1) := by decide +kernel
theorem d_MaskEdgesModel_hasCome_228 : decode prog_8_method_37_code 228 = .ok (.goto 7, 3) := by decide +kernel
theorem d_MaskEdgesModel_hasCome_231 : decode prog_8_method_37_code 231 = .ok (.iload 6, 2) := by decide +kernel
theorem d_MaskEdgesModel_hasCome_233 : decode prog_8_method_37_code 233 = .ok (.iconst 2, 1) := by decide +kernel
theorem d_MaskEdgesModel_hasCome_234 : decode prog_8_method_37_code 234 = .ok (.isub, 1) := by decide +kernel
theorem d_MaskEdgesModel_hasCome_235 : decode prog_8_method_37_code 235 = .ok (.istore 11, 2) := by decide +kernel
theorem d_MaskEdgesModel_hasCome_237 : decode prog_8_method_37_code 237 = .ok (.aload_n 0, 1) := by decide +kernel
theorem d_MaskEdgesModel_hasCome_238 : decode prog_8_method_37_code 238 = .ok (.iload 8, 2) := by decide +kernel
theorem d_MaskEdgesModel_hasCome_240 : decode prog_8_method_37_code 240 = .ok (.iload 9, 2) := by decide +kernel
theorem d_MaskEdgesModel_hasCome_242 : decode prog_8_method_37_code 242 = .ok (.iload 10, 2) := by decide +kernel
theorem d_MaskEdgesModel_hasCome_244 : decode prog_8_method_37_code 244 = .ok (.iload 11, 2) := by decide +kernel
theorem d_MaskEdgesModel_hasCome_246 : decode prog_8_method_37_code 246 = .ok (.invokevirtual 201, 3) := by decide +kernel
theorem d_MaskEdgesModel_hasCome_249 : decode prog_8_method_37_code 249 = .ok (.ifCond .ne 5, 3) := by decide +kernel
theorem d_MaskEdgesModel_hasCome_252 : decode prog_8_method_37_code 252 = .ok (.iconst 0, 1) := by decide +kernel
theorem d_MaskEdgesModel_hasCome_253 : decode prog_8_method_37_code 253 = .ok (.ireturn, 1) := by decide +kernel
theorem d_MaskEdgesModel_hasCome_254 : decode prog_8_method_37_code 254 = .ok (.aload_n 0, 1) := by decide +kernel
theorem d_MaskEdgesModel_hasCome_255 : decode prog_8_method_37_code 255 = .ok (.getfield 60, 3) := by decide +kernel
theorem d_MaskEdgesModel_hasCome_258 : decode prog_8_method_37_code 258 = .ok (.aload_n 0, 1) := by decide +kernel
theorem d_MaskEdgesModel_hasCome_259 : decode prog_8_method_37_code 259 = .ok (.getfield 151, 3) := by decide +kernel
theorem d_MaskEdgesModel_hasCome_262 : decode prog_8_method_37_code 262 = .ok (.iload 8, 2) := by decide +kernel
theorem d_MaskEdgesModel_hasCome_264 : decode prog_8_method_37_code 264 = .ok (.iastore, 1) := by decide +kernel
theorem d_MaskEdgesModel_hasCome_265 : decode prog_8_method_37_code 265 = .ok (.aload_n 0, 1) := by decide +kernel
theorem d_MaskEdgesModel_hasCome_266 : decode prog_8_method_37_code 266 = .ok (.getfield 63, 3) := by decide +kernel
theorem d_MaskEdgesModel_hasCome_269 : decode prog_8_method_37_code 269 = .ok (.aload_n 0, 1) := by decide +kernel
theorem d_MaskEdgesModel_hasCome_270 : decode prog_8_method_37_code 270 = .ok (.getfield 151, 3) := by decide +kernel
theorem d_MaskEdgesModel_hasCome_273 : decode prog_8_method_37_code 273 = .ok (.iload 9, 2) := by decide +kernel
theorem d_MaskEdgesModel_hasCome_275 : decode prog_8_method_37_code 275 = .ok (.iastore, 1) := by decide +kernel
theorem d_MaskEdgesModel_hasCome_276 : decode prog_8_method_37_code 276 = .ok (.aload_n 0, 1) := by decide +kernel
theorem d_MaskEdgesModel_hasCome_277 : decode prog_8_method_37_code 277 = .ok (.getfield 66, 3) := by decide +kernel
theorem d_MaskEdgesModel_hasCome_280 : decode prog_8_method_37_code 280 = .ok (.aload_n 0, 1) := by decide +kernel
theorem d_MaskEdgesModel_hasCome_281 : decode prog_8_method_37_code 281 = .ok (.getfield 151, 3) := by decide +kernel
theorem d_MaskEdgesModel_hasCome_284 : decode prog_8_method_37_code 284 = .ok (.iload 10, 2) := by decide +kernel
theorem d_MaskEdgesModel_hasCome_286 : decode prog_8_method_37_code 286 = .ok (.iastore, 1) := by decide +kernel
theorem d_MaskEdgesModel_hasCome_287 : decode prog_8_method_37_code 287 = .ok (.aload_n 0, 1) := by decide +kernel
theorem d_MaskEdgesModel_hasCome_288 : decode prog_8_method_37_code 288 = .ok (.getfield 69, 3) := by decide +kernel
theorem d_MaskEdgesModel_hasCome_291 : decode prog_8_method_37_code 291 = .ok (.aload_n 0, 1) := by decide +kernel
theorem d_MaskEdgesModel_hasCome_292 : decode prog_8_method_37_code 292 = .ok (.getfield 151, 3) := by decide +kernel
theorem d_MaskEdgesModel_hasCome_295 : decode prog_8_method_37_code 295 = .ok (.iload 11, 2) := by decide +kernel
theorem d_MaskEdgesModel_hasCome_297 : decode prog_8_method_37_code 297 = .ok (.iastore, 1) := by decide +kernel
theorem d_MaskEdgesModel_hasCome_298 : decode prog_8_method_37_code 298 = .ok (.aload_n 0, 1) := by decide +kernel
theorem d_MaskEdgesModel_hasCome_299 : decode prog_8_method_37_code 299 = .ok (.dup, 1) := by decide +kernel
theorem d_MaskEdgesModel_hasCome_300 : decode prog_8_method_37_code 300 = .ok (.getfield 151, 3) := by decide +kernel
theorem d_MaskEdgesModel_hasCome_303 : decode prog_8_method_37_code 303 = .ok (.iconst 1, 1) := by decide +kernel
theorem d_MaskEdgesModel_hasCome_304 : decode prog_8_method_37_code 304 = .ok (.iadd, 1) := by decide +kernel
theorem d_MaskEdgesModel_hasCome_305 : decode prog_8_method_37_code 305 = .ok (.putfield 151, 3) := by decide +kernel
theorem d_MaskEdgesModel_hasCome_308 : decode prog_8_method_37_code 308 = .ok (.iconst 1, 1) := by decide +kernel
theorem d_MaskEdgesModel_hasCome_309 : decode prog_8_method_37_code 309 = .ok (.ireturn, 1) := by decide +kernel
theorem d_MaskEdgesModel_helper_0 : decode prog_8_method_38_code 0 = .ok (.iload_n 1, 1) := by decide +kernel
theorem d_MaskEdgesModel_helper_1 : decode prog_8_method_38_code 1 = .ok (.i2l, 1) := by decide +kernel
theorem d_MaskEdgesModel_helper_2 : decode prog_8_method_38_code 2 = .ok (.lconst 1, 1) := by decide +kernel
theorem d_MaskEdgesModel_helper_3 : decode prog_8_method_38_code 3 = .ok (.ldc2_w 205, 3) := by decide +kernel
theorem d_MaskEdgesModel_helper_6 : decode prog_8_method_38_code 6 = .ok (.invokestatic 86, 3) := by decide +kernel
theorem d_MaskEdgesModel_helper_9 : decode prog_8_method_38_code 9 = .ok (.ifCond .eq 15, 3) := by decide +kernel
theorem d_MaskEdgesModel_helper_12 : decode prog_8_method_38_code 12 = .ok (.iload_n 2, 1) := by decide +kernel
theorem d_MaskEdgesModel_helper_13 : decode prog_8_method_38_code 13 = .ok (.i2l, 1) := by decide +kernel
theorem d_MaskEdgesModel_helper_14 : decode prog_8_method_38_code 14 = .ok (.lconst 1, 1) := by decide +kernel
theorem d_MaskEdgesModel_helper_15 : decode prog_8_method_38_code 15 = .ok (.ldc2_w 189, 3) := by decide +kernel
theorem d_MaskEdgesModel_helper_18 : decode prog_8_method_38_code 18 = .ok (.invokestatic 86, 3) := by decide +kernel
theorem d_MaskEdgesModel_helper_21 : decode prog_8_method_38_code 21 = .ok (.ifCond .ne 6, 3) := by decide +kernel
theorem d_MaskEdgesModel_helper_24 : decode prog_8_method_38_code 24 = .ok (.bipush (-2), 2) := by decide +kernel
theorem d_MaskEdgesModel_helper_26 : decode prog_8_method_38_code 26 = .ok (.ireturn, 1) := by decide +kernel
theorem d_MaskEdgesModel_helper_27 : decode prog_8_method_38_code 27 = .ok (.aload_n 0, 1) := by decide +kernel
theorem d_MaskEdgesModel_helper_28 : decode prog_8_method_38_code 28 = .ok (.getfield 90, 3) := by decide +kernel
theorem d_MaskEdgesModel_helper_31 : decode prog_8_method_38_code 31 = .ok (.ifCond .ne 6, 3) := by decide +kernel
theorem d_MaskEdgesModel_helper_34 : decode prog_8_method_38_code 34 = .ok (.bipush (-3), 2) := by decide +kernel
theorem d_MaskEdgesModel_helper_36 : decode prog_8_method_38_code 36 = .ok (.ireturn, 1) := by decide +kernel
theorem d_MaskEdgesModel_helper_37 : decode prog_8_method_38_code 37 = .ok (.iconst 0, 1) := by decide +kernel
theorem d_MaskEdgesModel_helper_38 : decode prog_8_method_38_code 38 = .ok (.istore_n 3, 1) := by decide +kernel
theorem d_MaskEdgesModel_helper_39 : decode prog_8_method_38_code 39 = .ok (.iconst 0, 1) := by decide +kernel
theorem d_MaskEdgesModel_helper_40 : decode prog_8_method_38_code 40 = .ok (.istore 4, 2) := by decide +kernel
theorem d_MaskEdgesModel_helper_42 : decode prog_8_method_38_code 42 = .ok (.iload 4, 2) := by decide +kernel
theorem d_MaskEdgesModel_helper_44 : decode prog_8_method_38_code 44 = .ok (.aload_n 0, 1) := by decide +kernel
theorem d_MaskEdgesModel_helper_45 : decode prog_8_method_38_code 45 = .ok (.getfield 90, 3) := by decide +kernel
theorem d_MaskEdgesModel_helper_48 : decode prog_8_method_38_code 48 = .ok (.if_icmp .ge 38, 3) := by decide +kernel
theorem d_MaskEdgesModel_helper_51 : decode prog_8_method_38_code 51 = .ok (.aload_n 0, 1) := by decide +kernel
theorem d_MaskEdgesModel_helper_52 : decode prog_8_method_38_code 52 = .ok (.getfield 45, 3) := by decide +kernel
theorem d_MaskEdgesModel_helper_55 : decode prog_8_method_38_code 55 = .ok (.iload 4, 2) := by decide +kernel
theorem d_MaskEdgesModel_helper_57 : decode prog_8_method_38_code 57 = .ok (.baload, 1) := by decide +kernel
theorem d_MaskEdgesModel_helper_58 : decode prog_8_method_38_code 58 = .ok (.ifCond .eq 20, 3) := by decide +kernel
theorem d_MaskEdgesModel_helper_61 : decode prog_8_method_38_code 61 = .ok (.aload_n 0, 1) := by decide +kernel
theorem d_MaskEdgesModel_helper_62 : decode prog_8_method_38_code 62 = .ok (.iload 4, 2) := by decide +kernel
theorem d_MaskEdgesModel_helper_64 : decode prog_8_method_38_code 64 = .ok (.iload_n 1, 1) := by decide +kernel
theorem d_MaskEdgesModel_helper_65 : decode prog_8_method_38_code 65 = .ok (.iload_n 2, 1) := by decide +kernel
theorem d_MaskEdgesModel_helper_66 : decode prog_8_method_38_code 66 = .ok (.invokevirtual 207, 3) := by decide +kernel
theorem d_MaskEdgesModel_helper_69 : decode prog_8_method_38_code 69 = .ok (.ifCond .eq 9, 3) := by decide +kernel
theorem d_MaskEdgesModel_helper_72 : decode prog_8_method_38_code 72 = .ok (.iload_n 3, 1) := by decide +kernel
theorem d_MaskEdgesModel_helper_73 : decode prog_8_method_38_code 73 = .ok (.iconst 1, 1) := by decide +kernel
theorem d_MaskEdgesModel_helper_74 : decode prog_8_method_38_code 74 = .ok (.iadd, 1) := by decide +kernel
theorem d_MaskEdgesModel_helper_75 : decode prog_8_method_38_code 75 = .ok (.goto 4, 3) := by decide +kernel
theorem d_MaskEdgesModel_helper_78 : decode prog_8_method_38_code 78 = .ok (.iload_n 3, 1) := by decide +kernel
theorem d_MaskEdgesModel_helper_79 : decode prog_8_method_38_code 79 = .ok (.istore_n 3, 1) := by decide +kernel
theorem d_MaskEdgesModel_helper_80 : decode prog_8_method_38_code 80 = .ok (.iinc 4 1, 3) := by decide +kernel
theorem d_MaskEdgesModel_helper_83 : decode prog_8_method_38_code 83 = .ok (.goto (-41), 3) := by decide +kernel
theorem d_MaskEdgesModel_helper_86 : decode prog_8_method_38_code 86 = .ok (.iload_n 3, 1) := by decide +kernel
theorem d_MaskEdgesModel_helper_87 : decode prog_8_method_38_code 87 = .ok (.ireturn, 1) := by decide +kernel
theorem d_MaskEdgesModel_prints_0 : decode prog_8_method_39_code 0 = .ok (.iload_n 1, 1) := by decide +kernel
theorem d_MaskEdgesModel_prints_1 : decode prog_8_method_39_code 1 = .ok (.i2l, 1) := by decide +kernel
theorem d_MaskEdgesModel_prints_2 : decode prog_8_method_39_code 2 = .ok (.lconst 0, 1) := by decide +kernel
theorem d_MaskEdgesModel_prints_3 : decode prog_8_method_39_code 3 = .ok (.aload_n 0, 1) := by decide +kernel
theorem d_MaskEdgesModel_prints_4 : decode prog_8_method_39_code 4 = .ok (.getfield 151, 3) := by decide +kernel
theorem d_MaskEdgesModel_prints_7 : decode prog_8_method_39_code 7 = .ok (.iconst 1, 1) := by decide +kernel
theorem d_MaskEdgesModel_prints_8 : decode prog_8_method_39_code 8 = .ok (.isub, 1) := by decide +kernel
theorem d_MaskEdgesModel_prints_9 : decode prog_8_method_39_code 9 = .ok (.i2l, 1) := by decide +kernel
theorem d_MaskEdgesModel_prints_10 : decode prog_8_method_39_code 10 = .ok (.invokestatic 86, 3) := by decide +kernel
theorem d_MaskEdgesModel_prints_13 : decode prog_8_method_39_code 13 = .ok (.ifCond .eq 15, 3) := by decide +kernel
theorem d_MaskEdgesModel_prints_16 : decode prog_8_method_39_code 16 = .ok (.iload_n 2, 1) := by decide +kernel
theorem d_MaskEdgesModel_prints_17 : decode prog_8_method_39_code 17 = .ok (.i2l, 1) := by decide +kernel
theorem d_MaskEdgesModel_prints_18 : decode prog_8_method_39_code 18 = .ok (.lconst 1, 1) := by decide +kernel
theorem d_MaskEdgesModel_prints_19 : decode prog_8_method_39_code 19 = .ok (.ldc2_w 182, 3) := by decide +kernel
theorem d_MaskEdgesModel_prints_22 : decode prog_8_method_39_code 22 = .ok (.invokestatic 86, 3) := by decide +kernel
theorem d_MaskEdgesModel_prints_25 : decode prog_8_method_39_code 25 = .ok (.ifCond .ne 5, 3) := by decide +kernel
theorem d_MaskEdgesModel_prints_28 : decode prog_8_method_39_code 28 = .ok (.iconst 0, 1) := by decide +kernel
theorem d_MaskEdgesModel_prints_29 : decode prog_8_method_39_code 29 = .ok (.ireturn, 1) := by decide +kernel
theorem d_MaskEdgesModel_prints_30 : decode prog_8_method_39_code 30 = .ok (.aload_n 0, 1) := by decide +kernel
theorem d_MaskEdgesModel_prints_31 : decode prog_8_method_39_code 31 = .ok (.invokevirtual 166, 3) := by decide +kernel
theorem d_MaskEdgesModel_prints_34 : decode prog_8_method_39_code 34 = .ok (.iconst 0, 1) := by decide +kernel
theorem d_MaskEdgesModel_prints_35 : decode prog_8_method_39_code 35 = .ok (.istore_n 3, 1) := by decide +kernel
theorem d_MaskEdgesModel_prints_36 : decode prog_8_method_39_code 36 = .ok (.aload_n 0, 1) := by decide +kernel
theorem d_MaskEdgesModel_prints_37 : decode prog_8_method_39_code 37 = .ok (.getfield 63, 3) := by decide +kernel
theorem d_MaskEdgesModel_prints_40 : decode prog_8_method_39_code 40 = .ok (.iload_n 1, 1) := by decide +kernel
theorem d_MaskEdgesModel_prints_41 : decode prog_8_method_39_code 41 = .ok (.iaload, 1) := by decide +kernel
theorem d_MaskEdgesModel_prints_42 : decode prog_8_method_39_code 42 = .ok (.istore 4, 2) := by decide +kernel
theorem d_MaskEdgesModel_prints_44 : decode prog_8_method_39_code 44 = .ok (.iload 4, 2) := by decide +kernel
theorem d_MaskEdgesModel_prints_46 : decode prog_8_method_39_code 46 = .ok (.aload_n 0, 1) := by decide +kernel
theorem d_MaskEdgesModel_prints_47 : decode prog_8_method_39_code 47 = .ok (.getfield 69, 3) := by decide +kernel
theorem d_MaskEdgesModel_prints_50 : decode prog_8_method_39_code 50 = .ok (.iload_n 1, 1) := by decide +kernel
theorem d_MaskEdgesModel_prints_51 : decode prog_8_method_39_code 51 = .ok (.iaload, 1) := by decide +kernel
theorem d_MaskEdgesModel_prints_52 : decode prog_8_method_39_code 52 = .ok (.if_icmp .gt 56, 3) := by decide +kernel
theorem d_MaskEdgesModel_prints_55 : decode prog_8_method_39_code 55 = .ok (.aload_n 0, 1) := by decide +kernel
theorem d_MaskEdgesModel_prints_56 : decode prog_8_method_39_code 56 = .ok (.getfield 60, 3) := by decide +kernel
theorem d_MaskEdgesModel_prints_59 : decode prog_8_method_39_code 59 = .ok (.iload_n 1, 1) := by decide +kernel
theorem d_MaskEdgesModel_prints_60 : decode prog_8_method_39_code 60 = .ok (.iaload, 1) := by decide +kernel
theorem d_MaskEdgesModel_prints_61 : decode prog_8_method_39_code 61 = .ok (.istore 5, 2) := by decide +kernel
theorem d_MaskEdgesModel_prints_63 : decode prog_8_method_39_code 63 = .ok (.iload 5, 2) := by decide +kernel
theorem d_MaskEdgesModel_prints_65 : decode prog_8_method_39_code 65 = .ok (.aload_n 0, 1) := by decide +kernel
theorem d_MaskEdgesModel_prints_66 : decode prog_8_method_39_code 66 = .ok (.getfield 66, 3) := by decide +kernel
theorem d_MaskEdgesModel_prints_69 : decode prog_8_method_39_code 69 = .ok (.iload_n 1, 1) := by decide +kernel
theorem d_MaskEdgesModel_prints_70 : decode prog_8_method_39_code 70 = .ok (.iaload, 1) := by decide +kernel
theorem d_MaskEdgesModel_prints_71 : decode prog_8_method_39_code 71 = .ok (.if_icmp .gt 31, 3) := by decide +kernel
theorem d_MaskEdgesModel_prints_74 : decode prog_8_method_39_code 74 = .ok (.iload_n 3, 1) := by decide +kernel
theorem d_MaskEdgesModel_prints_75 : decode prog_8_method_39_code 75 = .ok (.ifCond .ne 15, 3) := by decide +kernel
theorem d_MaskEdgesModel_prints_78 : decode prog_8_method_39_code 78 = .ok (.aload_n 0, 1) := by decide +kernel
theorem d_MaskEdgesModel_prints_79 : decode prog_8_method_39_code 79 = .ok (.iload 5, 2) := by decide +kernel
theorem d_MaskEdgesModel_prints_81 : decode prog_8_method_39_code 81 = .ok (.iload 4, 2) := by decide +kernel
theorem d_MaskEdgesModel_prints_83 : decode prog_8_method_39_code 83 = .ok (.iload_n 2, 1) := by decide +kernel
theorem d_MaskEdgesModel_prints_84 : decode prog_8_method_39_code 84 = .ok (.invokevirtual 169, 3) := by decide +kernel
theorem d_MaskEdgesModel_prints_87 : decode prog_8_method_39_code 87 = .ok (.ifCond .eq 7, 3) := by decide +kernel
theorem d_MaskEdgesModel_prints_90 : decode prog_8_method_39_code 90 = .ok (.iconst 1, 1) := by decide +kernel
theorem d_MaskEdgesModel_prints_91 : decode prog_8_method_39_code 91 = .ok (.goto 4, 3) := by decide +kernel
theorem d_MaskEdgesModel_prints_94 : decode prog_8_method_39_code 94 = .ok (.iconst 0, 1) := by decide +kernel
theorem d_MaskEdgesModel_prints_95 : decode prog_8_method_39_code 95 = .ok (.istore_n 3, 1) := by decide +kernel
theorem d_MaskEdgesModel_prints_96 : decode prog_8_method_39_code 96 = .ok (.iinc 5 1, 3) := by decide +kernel
theorem d_MaskEdgesModel_prints_99 : decode prog_8_method_39_code 99 = .ok (.goto (-36), 3) := by decide +kernel
theorem d_MaskEdgesModel_prints_102 : decode prog_8_method_39_code 102 = .ok (.iinc 4 1, 3) := by decide +kernel
theorem d_MaskEdgesModel_prints_105 : decode prog_8_method_39_code 105 = .ok (.goto (-61), 3) := by decide +kernel
theorem d_MaskEdgesModel_prints_108 : decode prog_8_method_39_code 108 = .ok (.iload_n 3, 1) := by decide +kernel
theorem d_MaskEdgesModel_prints_109 : decode prog_8_method_39_code 109 = .ok (.ireturn, 1) := by decide +kernel
theorem d_MaskEdgesModel_alike_0 : decode prog_8_method_40_code 0 = .ok (.aload_n 0, 1) := by decide +kernel
theorem d_MaskEdgesModel_alike_1 : decode prog_8_method_40_code 1 = .ok (.iload_n 1, 1) := by decide +kernel
theorem d_MaskEdgesModel_alike_2 : decode prog_8_method_40_code 2 = .ok (.invokevirtual 178, 3) := by decide +kernel
theorem d_MaskEdgesModel_alike_5 : decode prog_8_method_40_code 5 = .ok (.ifCond .eq 50, 3) := by decide +kernel
theorem d_MaskEdgesModel_alike_8 : decode prog_8_method_40_code 8 = .ok (.aload_n 0, 1) := by decide +kernel
theorem d_MaskEdgesModel_alike_9 : decode prog_8_method_40_code 9 = .ok (.iload_n 2, 1) := by decide +kernel
theorem d_MaskEdgesModel_alike_10 : decode prog_8_method_40_code 10 = .ok (.invokevirtual 178, 3) := by decide +kernel
theorem d_MaskEdgesModel_alike_13 : decode prog_8_method_40_code 13 = .ok (.ifCond .eq 42, 3) := by decide +kernel
theorem d_MaskEdgesModel_alike_16 : decode prog_8_method_40_code 16 = .ok (.aload_n 0, 1) := by decide +kernel
theorem d_MaskEdgesModel_alike_17 : decode prog_8_method_40_code 17 = .ok (.getfield 51, 3) := by decide +kernel
theorem d_MaskEdgesModel_alike_20 : decode prog_8_method_40_code 20 = .ok (.iload_n 1, 1) := by decide +kernel
theorem d_MaskEdgesModel_alike_21 : decode prog_8_method_40_code 21 = .ok (.iaload, 1) := by decide +kernel
theorem d_MaskEdgesModel_alike_22 : decode prog_8_method_40_code 22 = .ok (.ifCond .eq 33, 3) := by decide +kernel
theorem d_MaskEdgesModel_alike_25 : decode prog_8_method_40_code 25 = .ok (.aload_n 0, 1) := by decide +kernel
theorem d_MaskEdgesModel_alike_26 : decode prog_8_method_40_code 26 = .ok (.getfield 51, 3) := by decide +kernel
theorem d_MaskEdgesModel_alike_29 : decode prog_8_method_40_code 29 = .ok (.iload_n 1, 1) := by decide +kernel
theorem d_MaskEdgesModel_alike_30 : decode prog_8_method_40_code 30 = .ok (.iaload, 1) := by decide +kernel
theorem d_MaskEdgesModel_alike_31 : decode prog_8_method_40_code 31 = .ok (.aload_n 0, 1) := by decide +kernel
theorem d_MaskEdgesModel_alike_32 : decode prog_8_method_40_code 32 = .ok (.getfield 51, 3) := by decide +kernel
theorem d_MaskEdgesModel_alike_35 : decode prog_8_method_40_code 35 = .ok (.iload_n 2, 1) := by decide +kernel
theorem d_MaskEdgesModel_alike_36 : decode prog_8_method_40_code 36 = .ok (.iaload, 1) := by decide +kernel
theorem d_MaskEdgesModel_alike_37 : decode prog_8_method_40_code 37 = .ok (.if_icmp .ne 18, 3) := by decide +kernel
theorem d_MaskEdgesModel_alike_40 : decode prog_8_method_40_code 40 = .ok (.aload_n 0, 1) := by decide +kernel
theorem d_MaskEdgesModel_alike_41 : decode prog_8_method_40_code 41 = .ok (.getfield 42, 3) := by decide +kernel
theorem d_MaskEdgesModel_alike_44 : decode prog_8_method_40_code 44 = .ok (.iload_n 1, 1) := by decide +kernel
theorem d_MaskEdgesModel_alike_45 : decode prog_8_method_40_code 45 = .ok (.baload, 1) := by decide +kernel
theorem d_MaskEdgesModel_alike_46 : decode prog_8_method_40_code 46 = .ok (.aload_n 0, 1) := by decide +kernel
theorem d_MaskEdgesModel_alike_47 : decode prog_8_method_40_code 47 = .ok (.getfield 42, 3) := by decide +kernel
theorem d_MaskEdgesModel_alike_50 : decode prog_8_method_40_code 50 = .ok (.iload_n 2, 1) := by decide +kernel
theorem d_MaskEdgesModel_alike_51 : decode prog_8_method_40_code 51 = .ok (.baload, 1) := by decide +kernel
theorem d_MaskEdgesModel_alike_52 : decode prog_8_method_40_code 52 = .ok (.if_icmp .eq 5, 3) := by decide +kernel
theorem d_MaskEdgesModel_alike_55 : decode prog_8_method_40_code 55 = .ok (.iconst 0, 1) := by decide +kernel
theorem d_MaskEdgesModel_alike_56 : decode prog_8_method_40_code 56 = .ok (.ireturn, 1) := by decide +kernel
theorem d_MaskEdgesModel_alike_57 : decode prog_8_method_40_code 57 = .ok (.aload_n 0, 1) := by decide +kernel
theorem d_MaskEdgesModel_alike_58 : decode prog_8_method_40_code 58 = .ok (.getfield 51, 3) := by decide +kernel
theorem d_MaskEdgesModel_alike_61 : decode prog_8_method_40_code 61 = .ok (.iload_n 1, 1) := by decide +kernel
theorem d_MaskEdgesModel_alike_62 : decode prog_8_method_40_code 62 = .ok (.iaload, 1) := by decide +kernel
theorem d_MaskEdgesModel_alike_63 : decode prog_8_method_40_code 63 = .ok (.ifCond .le 7, 3) := by decide +kernel
theorem d_MaskEdgesModel_alike_66 : decode prog_8_method_40_code 66 = .ok (.iconst (-1), 1) := by decide +kernel
theorem d_MaskEdgesModel_alike_67 : decode prog_8_method_40_code 67 = .ok (.goto 4, 3) := by decide +kernel
theorem d_MaskEdgesModel_alike_70 : decode prog_8_method_40_code 70 = .ok (.iconst 0, 1) := by decide +kernel
theorem d_MaskEdgesModel_alike_71 : decode prog_8_method_40_code 71 = .ok (.istore_n 3, 1) := by decide +kernel
theorem d_MaskEdgesModel_alike_72 : decode prog_8_method_40_code 72 = .ok (.iconst 1, 1) := by decide +kernel
theorem d_MaskEdgesModel_alike_73 : decode prog_8_method_40_code 73 = .ok (.istore 4, 2) := by decide +kernel
theorem d_MaskEdgesModel_alike_75 : decode prog_8_method_40_code 75 = .ok (.bipush (-4), 2) := by decide +kernel
theorem d_MaskEdgesModel_alike_77 : decode prog_8_method_40_code 77 = .ok (.istore 5, 2) := by decide +kernel
theorem d_MaskEdgesModel_alike_79 : decode prog_8_method_40_code 79 = .ok (.iload 5, 2) := by decide +kernel
theorem d_MaskEdgesModel_alike_81 : decode prog_8_method_40_code 81 = .ok (.iconst 5, 1) := by decide +kernel
theorem d_MaskEdgesModel_alike_82 : decode prog_8_method_40_code 82 = .ok (.if_icmp .ge 84, 3) := by decide +kernel
theorem d_MaskEdgesModel_alike_85 : decode prog_8_method_40_code 85 = .ok (.bipush (-4), 2) := by decide +kernel
theorem d_MaskEdgesModel_alike_87 : decode prog_8_method_40_code 87 = .ok (.istore 6, 2) := by decide +kernel
theorem d_MaskEdgesModel_alike_89 : decode prog_8_method_40_code 89 = .ok (.iload 6, 2) := by decide +kernel
theorem d_MaskEdgesModel_alike_91 : decode prog_8_method_40_code 91 = .ok (.iconst 5, 1) := by decide +kernel
theorem d_MaskEdgesModel_alike_92 : decode prog_8_method_40_code 92 = .ok (.if_icmp .ge 68, 3) := by decide +kernel
theorem d_MaskEdgesModel_alike_95 : decode prog_8_method_40_code 95 = .ok (.iload 4, 2) := by decide +kernel
theorem d_MaskEdgesModel_alike_97 : decode prog_8_method_40_code 97 = .ok (.ifCond .eq 63, 3) := by decide +kernel
theorem d_MaskEdgesModel_alike_100 : decode prog_8_method_40_code 100 = .ok (.aload_n 0, 1) := by decide +kernel
theorem d_MaskEdgesModel_alike_101 : decode prog_8_method_40_code 101 = .ok (.aload_n 0, 1) := by decide +kernel
theorem d_MaskEdgesModel_alike_102 : decode prog_8_method_40_code 102 = .ok (.iload_n 1, 1) := by decide +kernel
theorem d_MaskEdgesModel_alike_103 : decode prog_8_method_40_code 103 = .ok (.iload_n 3, 1) := by decide +kernel
theorem d_MaskEdgesModel_alike_104 : decode prog_8_method_40_code 104 = .ok (.invokevirtual 126, 3) := by decide +kernel
theorem d_MaskEdgesModel_alike_107 : decode prog_8_method_40_code 107 = .ok (.iload 6, 2) := by decide +kernel
theorem d_MaskEdgesModel_alike_109 : decode prog_8_method_40_code 109 = .ok (.iadd, 1) := by decide +kernel
theorem d_MaskEdgesModel_alike_110 : decode prog_8_method_40_code 110 = .ok (.aload_n 0, 1) := by decide +kernel
theorem d_MaskEdgesModel_alike_111 : decode prog_8_method_40_code 111 = .ok (.iload_n 1, 1) := by decide +kernel
theorem d_MaskEdgesModel_alike_112 : decode prog_8_method_40_code 112 = .ok (.iload_n 3, 1) := by decide +kernel
theorem d_MaskEdgesModel_alike_113 : decode prog_8_method_40_code 113 = .ok (.invokevirtual 129, 3) := by decide +kernel
theorem d_MaskEdgesModel_alike_116 : decode prog_8_method_40_code 116 = .ok (.iload 5, 2) := by decide +kernel
theorem d_MaskEdgesModel_alike_118 : decode prog_8_method_40_code 118 = .ok (.iadd, 1) := by decide +kernel
theorem d_MaskEdgesModel_alike_119 : decode prog_8_method_40_code 119 = .ok (.invokevirtual 144, 3) := by decide +kernel
theorem d_MaskEdgesModel_alike_122 : decode prog_8_method_40_code 122 = .ok (.aload_n 0, 1) := by decide +kernel
theorem d_MaskEdgesModel_alike_123 : decode prog_8_method_40_code 123 = .ok (.aload_n 0, 1) := by decide +kernel
theorem d_MaskEdgesModel_alike_124 : decode prog_8_method_40_code 124 = .ok (.iload_n 2, 1) := by decide +kernel
theorem d_MaskEdgesModel_alike_125 : decode prog_8_method_40_code 125 = .ok (.iload_n 3, 1) := by decide +kernel
theorem d_MaskEdgesModel_alike_126 : decode prog_8_method_40_code 126 = .ok (.invokevirtual 126, 3) := by decide +kernel
theorem d_MaskEdgesModel_alike_129 : decode prog_8_method_40_code 129 = .ok (.iload 6, 2) := by decide +kernel
theorem d_MaskEdgesModel_alike_131 : decode prog_8_method_40_code 131 = .ok (.iadd, 1) := by decide +kernel
theorem d_MaskEdgesModel_alike_132 : decode prog_8_method_40_code 132 = .ok (.aload_n 0, 1) := by decide +kernel
theorem d_MaskEdgesModel_alike_133 : decode prog_8_method_40_code 133 = .ok (.iload_n 2, 1) := by decide +kernel
theorem d_MaskEdgesModel_alike_134 : decode prog_8_method_40_code 134 = .ok (.iload_n 3, 1) := by decide +kernel
theorem d_MaskEdgesModel_alike_135 : decode prog_8_method_40_code 135 = .ok (.invokevirtual 129, 3) := by decide +kernel
theorem d_MaskEdgesModel_alike_138 : decode prog_8_method_40_code 138 = .ok (.iload 5, 2) := by decide +kernel
theorem d_MaskEdgesModel_alike_140 : decode prog_8_method_40_code 140 = .ok (.iadd, 1) := by decide +kernel
theorem d_MaskEdgesModel_alike_141 : decode prog_8_method_40_code 141 = .ok (.invokevirtual 144, 3) := by decide +kernel
theorem d_MaskEdgesModel_alike_144 : decode prog_8_method_40_code 144 = .ok (.if_icmp .ne 7, 3) := by decide +kernel
theorem d_MaskEdgesModel_alike_147 : decode prog_8_method_40_code 147 = .ok (.iconst 1, 1) := by decide +kernel
theorem d_MaskEdgesModel_alike_148 : decode prog_8_method_40_code 148 = .ok (.goto 4, 3) := by decide +kernel
theorem d_MaskEdgesModel_alike_151 : decode prog_8_method_40_code 151 = .ok (.iconst 0, 1) := by decide +kernel
theorem d_MaskEdgesModel_alike_152 : decode prog_8_method_40_code 152 = .ok (.istore 4, 2) := by decide +kernel
theorem d_MaskEdgesModel_alike_154 : decode prog_8_method_40_code 154 = .ok (.iinc 6 1, 3) := by decide +kernel
theorem d_MaskEdgesModel_alike_157 : decode prog_8_method_40_code 157 = .ok (.goto (-68), 3) := by decide +kernel
theorem d_MaskEdgesModel_alike_160 : decode prog_8_method_40_code 160 = .ok (.iinc 5 1, 3) := by decide +kernel
theorem d_MaskEdgesModel_alike_163 : decode prog_8_method_40_code 163 = .ok (.goto (-84), 3) := by decide +kernel
theorem d_MaskEdgesModel_alike_166 : decode prog_8_method_40_code 166 = .ok (.iload 4, 2) := by decide +kernel
theorem d_MaskEdgesModel_alike_168 : decode prog_8_method_40_code 168 = .ok (.ireturn, 1) := by decide +kernel
theorem d_MaskEdgesModel_shift_0 : decode prog_8_method_41_code 0 = .ok (.iload_n 1, 1) := by decide +kernel
theorem d_MaskEdgesModel_shift_1 : decode prog_8_method_41_code 1 = .ok (.i2l, 1) := by decide +kernel
theorem d_MaskEdgesModel_shift_2 : decode prog_8_method_41_code 2 = .ok (.lconst 0, 1) := by decide +kernel
theorem d_MaskEdgesModel_shift_3 : decode prog_8_method_41_code 3 = .ok (.ldc2_w 210, 3) := by decide +kernel
theorem d_MaskEdgesModel_shift_6 : decode prog_8_method_41_code 6 = .ok (.invokestatic 86, 3) := by decide +kernel
theorem d_MaskEdgesModel_shift_9 : decode prog_8_method_41_code 9 = .ok (.ifCond .eq 17, 3) := by decide +kernel
theorem d_MaskEdgesModel_shift_12 : decode prog_8_method_41_code 12 = .ok (.iload_n 2, 1) := by decide +kernel
theorem d_MaskEdgesModel_shift_13 : decode prog_8_method_41_code 13 = .ok (.i2l, 1) := by decide +kernel
theorem d_MaskEdgesModel_shift_14 : decode prog_8_method_41_code 14 = .ok (.ldc2_w 212, 3) := by decide +kernel
theorem d_MaskEdgesModel_shift_17 : decode prog_8_method_41_code 17 = .ok (.ldc2_w 113, 3) := by decide +kernel
theorem d_MaskEdgesModel_shift_20 : decode prog_8_method_41_code 20 = .ok (.invokestatic 86, 3) := by decide +kernel
theorem d_MaskEdgesModel_shift_23 : decode prog_8_method_41_code 23 = .ok (.ifCond .ne 6, 3) := by decide +kernel
theorem d_MaskEdgesModel_shift_26 : decode prog_8_method_41_code 26 = .ok (.bipush (-2), 2) := by decide +kernel
theorem d_MaskEdgesModel_shift_28 : decode prog_8_method_41_code 28 = .ok (.ireturn, 1) := by decide +kernel
theorem d_MaskEdgesModel_shift_29 : decode prog_8_method_41_code 29 = .ok (.aload_n 0, 1) := by decide +kernel
theorem d_MaskEdgesModel_shift_30 : decode prog_8_method_41_code 30 = .ok (.getfield 90, 3) := by decide +kernel
theorem d_MaskEdgesModel_shift_33 : decode prog_8_method_41_code 33 = .ok (.ifCond .ne 6, 3) := by decide +kernel
theorem d_MaskEdgesModel_shift_36 : decode prog_8_method_41_code 36 = .ok (.bipush (-3), 2) := by decide +kernel
theorem d_MaskEdgesModel_shift_38 : decode prog_8_method_41_code 38 = .ok (.ireturn, 1) := by decide +kernel
theorem d_MaskEdgesModel_shift_39 : decode prog_8_method_41_code 39 = .ok (.iconst 0, 1) := by decide +kernel
theorem d_MaskEdgesModel_shift_40 : decode prog_8_method_41_code 40 = .ok (.istore_n 3, 1) := by decide +kernel
theorem d_MaskEdgesModel_shift_41 : decode prog_8_method_41_code 41 = .ok (.iconst 0, 1) := by decide +kernel
theorem d_MaskEdgesModel_shift_42 : decode prog_8_method_41_code 42 = .ok (.istore 4, 2) := by decide +kernel
theorem d_MaskEdgesModel_shift_44 : decode prog_8_method_41_code 44 = .ok (.iload 4, 2) := by decide +kernel
theorem d_MaskEdgesModel_shift_46 : decode prog_8_method_41_code 46 = .ok (.aload_n 0, 1) := by decide +kernel
theorem d_MaskEdgesModel_shift_47 : decode prog_8_method_41_code 47 = .ok (.getfield 90, 3) := by decide +kernel
theorem d_MaskEdgesModel_shift_50 : decode prog_8_method_41_code 50 = .ok (.if_icmp .ge 145, 3) := by decide +kernel
theorem d_MaskEdgesModel_shift_53 : decode prog_8_method_41_code 53 = .ok (.iload_n 1, 1) := by decide +kernel
theorem d_MaskEdgesModel_shift_54 : decode prog_8_method_41_code 54 = .ok (.ifCond .eq 58, 3) := by decide +kernel
theorem d_MaskEdgesModel_shift_57 : decode prog_8_method_41_code 57 = .ok (.iload_n 1, 1) := by decide +kernel
theorem d_MaskEdgesModel_shift_58 : decode prog_8_method_41_code 58 = .ok (.iconst 1, 1) := by decide +kernel
theorem d_MaskEdgesModel_shift_59 : decode prog_8_method_41_code 59 = .ok (.if_icmp .ne 13, 3) := by decide +kernel
theorem d_MaskEdgesModel_shift_62 : decode prog_8_method_41_code 62 = .ok (.aload_n 0, 1) := by decide +kernel
theorem d_MaskEdgesModel_shift_63 : decode prog_8_method_41_code 63 = .ok (.getfield 42, 3) := by decide +kernel
theorem d_MaskEdgesModel_shift_66 : decode prog_8_method_41_code 66 = .ok (.iload 4, 2) := by decide +kernel
theorem d_MaskEdgesModel_shift_68 : decode prog_8_method_41_code 68 = .ok (.baload, 1) := by decide +kernel
theorem d_MaskEdgesModel_shift_69 : decode prog_8_method_41_code 69 = .ok (.ifCond .ne 43, 3) := by decide +kernel
theorem d_MaskEdgesModel_shift_72 : decode prog_8_method_41_code 72 = .ok (.iload_n 1, 1) := by decide +kernel
theorem d_MaskEdgesModel_shift_73 : decode prog_8_method_41_code 73 = .ok (.iconst 2, 1) := by decide +kernel
theorem d_MaskEdgesModel_shift_74 : decode prog_8_method_41_code 74 = .ok (.if_icmp .ne 13, 3) := by decide +kernel
theorem d_MaskEdgesModel_shift_77 : decode prog_8_method_41_code 77 = .ok (.aload_n 0, 1) := by decide +kernel
theorem d_MaskEdgesModel_shift_78 : decode prog_8_method_41_code 78 = .ok (.getfield 42, 3) := by decide +kernel
theorem d_MaskEdgesModel_shift_81 : decode prog_8_method_41_code 81 = .ok (.iload 4, 2) := by decide +kernel
theorem d_MaskEdgesModel_shift_83 : decode prog_8_method_41_code 83 = .ok (.baload, 1) := by decide +kernel
theorem d_MaskEdgesModel_shift_84 : decode prog_8_method_41_code 84 = .ok (.ifCond .eq 28, 3) := by decide +kernel
theorem d_MaskEdgesModel_shift_87 : decode prog_8_method_41_code 87 = .ok (.iload_n 1, 1) := by decide +kernel
theorem d_MaskEdgesModel_shift_88 : decode prog_8_method_41_code 88 = .ok (.iconst 3, 1) := by decide +kernel
theorem d_MaskEdgesModel_shift_89 : decode prog_8_method_41_code 89 = .ok (.if_icmp .ne 27, 3) := by decide +kernel
theorem d_MaskEdgesModel_shift_92 : decode prog_8_method_41_code 92 = .ok (.aload_n 0, 1) := by decide +kernel
theorem d_MaskEdgesModel_shift_93 : decode prog_8_method_41_code 93 = .ok (.getfield 45, 3) := by decide +kernel
theorem d_MaskEdgesModel_shift_96 : decode prog_8_method_41_code 96 = .ok (.iload 4, 2) := by decide +kernel
theorem d_MaskEdgesModel_shift_98 : decode prog_8_method_41_code 98 = .ok (.baload, 1) := by decide +kernel
theorem d_MaskEdgesModel_shift_99 : decode prog_8_method_41_code 99 = .ok (.ifCond .ne 13, 3) := by decide +kernel
theorem d_MaskEdgesModel_shift_102 : decode prog_8_method_41_code 102 = .ok (.aload_n 0, 1) := by decide +kernel
theorem d_MaskEdgesModel_shift_103 : decode prog_8_method_41_code 103 = .ok (.getfield 48, 3) := by decide +kernel
theorem d_MaskEdgesModel_shift_106 : decode prog_8_method_41_code 106 = .ok (.iload 4, 2) := by decide +kernel
theorem d_MaskEdgesModel_shift_108 : decode prog_8_method_41_code 108 = .ok (.baload, 1) := by decide +kernel
theorem d_MaskEdgesModel_shift_109 : decode prog_8_method_41_code 109 = .ok (.ifCond .eq 7, 3) := by decide +kernel
theorem d_MaskEdgesModel_shift_112 : decode prog_8_method_41_code 112 = .ok (.iconst 1, 1) := by decide +kernel
theorem d_MaskEdgesModel_shift_113 : decode prog_8_method_41_code 113 = .ok (.goto 4, 3) := by decide +kernel
theorem d_MaskEdgesModel_shift_116 : decode prog_8_method_41_code 116 = .ok (.iconst 0, 1) := by decide +kernel
theorem d_MaskEdgesModel_shift_117 : decode prog_8_method_41_code 117 = .ok (.istore 5, 2) := by decide +kernel
theorem d_MaskEdgesModel_shift_119 : decode prog_8_method_41_code 119 = .ok (.iload 5, 2) := by decide +kernel
theorem d_MaskEdgesModel_shift_121 : decode prog_8_method_41_code 121 = .ok (.ifCond .eq 30, 3) := by decide +kernel
theorem d_MaskEdgesModel_shift_124 : decode prog_8_method_41_code 124 = .ok (.aload_n 0, 1) := by decide +kernel
theorem d_MaskEdgesModel_shift_125 : decode prog_8_method_41_code 125 = .ok (.getfield 51, 3) := by decide +kernel
theorem d_MaskEdgesModel_shift_128 : decode prog_8_method_41_code 128 = .ok (.iload 4, 2) := by decide +kernel
theorem d_MaskEdgesModel_shift_130 : decode prog_8_method_41_code 130 = .ok (.iaload, 1) := by decide +kernel
theorem d_MaskEdgesModel_shift_131 : decode prog_8_method_41_code 131 = .ok (.ifCond .eq 20, 3) := by decide +kernel
theorem d_MaskEdgesModel_shift_134 : decode prog_8_method_41_code 134 = .ok (.aload_n 0, 1) := by decide +kernel
theorem d_MaskEdgesModel_shift_135 : decode prog_8_method_41_code 135 = .ok (.getfield 54, 3) := by decide +kernel
theorem d_MaskEdgesModel_shift_138 : decode prog_8_method_41_code 138 = .ok (.iload 4, 2) := by decide +kernel
theorem d_MaskEdgesModel_shift_140 : decode prog_8_method_41_code 140 = .ok (.iaload, 1) := by decide +kernel
theorem d_MaskEdgesModel_shift_141 : decode prog_8_method_41_code 141 = .ok (.iload_n 2, 1) := by decide +kernel
theorem d_MaskEdgesModel_shift_142 : decode prog_8_method_41_code 142 = .ok (.iadd, 1) := by decide +kernel
theorem d_MaskEdgesModel_shift_143 : decode prog_8_method_41_code 143 = .ok (.bipush 6, 2) := by decide +kernel
theorem d_MaskEdgesModel_shift_145 : decode prog_8_method_41_code 145 = .ok (.invokestatic 184, 3) := by decide +kernel
theorem d_MaskEdgesModel_shift_148 : decode prog_8_method_41_code 148 = .ok (.goto 10, 3) := by decide +kernel
theorem d_MaskEdgesModel_shift_151 : decode prog_8_method_41_code 151 = .ok (.aload_n 0, 1) := by decide +kernel
theorem d_MaskEdgesModel_shift_152 : decode prog_8_method_41_code 152 = .ok (.getfield 54, 3) := by decide +kernel
theorem d_MaskEdgesModel_shift_155 : decode prog_8_method_41_code 155 = .ok (.iload 4, 2) := by decide +kernel
theorem d_MaskEdgesModel_shift_157 : decode prog_8_method_41_code 157 = .ok (.iaload, 1) := by decide +kernel
theorem d_MaskEdgesModel_shift_158 : decode prog_8_method_41_code 158 = .ok (.istore 6, 2) := by decide +kernel
theorem d_MaskEdgesModel_shift_160 : decode prog_8_method_41_code 160 = .ok (.iload 6, 2) := by decide +kernel
theorem d_MaskEdgesModel_shift_162 : decode prog_8_method_41_code 162 = .ok (.aload_n 0, 1) := by decide +kernel
theorem d_MaskEdgesModel_shift_163 : decode prog_8_method_41_code 163 = .ok (.getfield 54, 3) := by decide +kernel
theorem d_MaskEdgesModel_shift_166 : decode prog_8_method_41_code 166 = .ok (.iload 4, 2) := by decide +kernel
theorem d_MaskEdgesModel_shift_168 : decode prog_8_method_41_code 168 = .ok (.iaload, 1) := by decide +kernel
theorem d_MaskEdgesModel_shift_169 : decode prog_8_method_41_code 169 = .ok (.if_icmp .eq 9, 3) := by decide +kernel
theorem d_MaskEdgesModel_shift_172 : decode prog_8_method_41_code 172 = .ok (.iload_n 3, 1) := by decide +kernel
theorem d_MaskEdgesModel_shift_173 : decode prog_8_method_41_code 173 = .ok (.iconst 1, 1) := by decide +kernel
theorem d_MaskEdgesModel_shift_174 : decode prog_8_method_41_code 174 = .ok (.iadd, 1) := by decide +kernel
theorem d_MaskEdgesModel_shift_175 : decode prog_8_method_41_code 175 = .ok (.goto 4, 3) := by decide +kernel
theorem d_MaskEdgesModel_shift_178 : decode prog_8_method_41_code 178 = .ok (.iload_n 3, 1) := by decide +kernel
theorem d_MaskEdgesModel_shift_179 : decode prog_8_method_41_code 179 = .ok (.istore_n 3, 1) := by decide +kernel
theorem d_MaskEdgesModel_shift_180 : decode prog_8_method_41_code 180 = .ok (.aload_n 0, 1) := by decide +kernel
theorem d_MaskEdgesModel_shift_181 : decode prog_8_method_41_code 181 = .ok (.getfield 54, 3) := by decide +kernel
theorem d_MaskEdgesModel_shift_184 : decode prog_8_method_41_code 184 = .ok (.iload 4, 2) := by decide +kernel
theorem d_MaskEdgesModel_shift_186 : decode prog_8_method_41_code 186 = .ok (.iload 6, 2) := by decide +kernel
theorem d_MaskEdgesModel_shift_188 : decode prog_8_method_41_code 188 = .ok (.iastore, 1) := by decide +kernel
theorem d_MaskEdgesModel_shift_189 : decode prog_8_method_41_code 189 = .ok (.iinc 4 1, 3) := by decide +kernel
theorem d_MaskEdgesModel_shift_192 : decode prog_8_method_41_code 192 = .ok (.goto (-148), 3) := by decide +kernel
theorem d_MaskEdgesModel_shift_195 : decode prog_8_method_41_code 195 = .ok (.iload_n 3, 1) := by decide +kernel
theorem d_MaskEdgesModel_shift_196 : decode prog_8_method_41_code 196 = .ok (.ireturn, 1) := by decide +kernel
theorem d_MaskEdgesModel_is_0 : decode prog_8_method_42_code 0 = .ok (.iload_n 1, 1) := by decide +kernel
theorem d_MaskEdgesModel_is_1 : decode prog_8_method_42_code 1 = .ok (.iload_n 2, 1) := by decide +kernel
theorem d_MaskEdgesModel_is_2 : decode prog_8_method_42_code 2 = .ok (.invokestatic 102, 3) := by decide +kernel
theorem d_MaskEdgesModel_is_5 : decode prog_8_method_42_code 5 = .ok (.ifCond .eq 15, 3) := by decide +kernel
theorem d_MaskEdgesModel_is_8 : decode prog_8_method_42_code 8 = .ok (.iload_n 3, 1) := by decide +kernel
theorem d_MaskEdgesModel_is_9 : decode prog_8_method_42_code 9 = .ok (.i2l, 1) := by decide +kernel
theorem d_MaskEdgesModel_is_10 : decode prog_8_method_42_code 10 = .ok (.lconst 0, 1) := by decide +kernel
theorem d_MaskEdgesModel_is_11 : decode prog_8_method_42_code 11 = .ok (.ldc2_w 214, 3) := by decide +kernel
theorem d_MaskEdgesModel_is_14 : decode prog_8_method_42_code 14 = .ok (.invokestatic 86, 3) := by decide +kernel
theorem d_MaskEdgesModel_is_17 : decode prog_8_method_42_code 17 = .ok (.ifCond .ne 5, 3) := by decide +kernel
theorem d_MaskEdgesModel_is_20 : decode prog_8_method_42_code 20 = .ok (.iconst 0, 1) := by decide +kernel
theorem d_MaskEdgesModel_is_21 : decode prog_8_method_42_code 21 = .ok (.ireturn, 1) := by decide +kernel
theorem d_MaskEdgesModel_is_22 : decode prog_8_method_42_code 22 = .ok (.iload_n 3, 1) := by decide +kernel
theorem d_MaskEdgesModel_is_23 : decode prog_8_method_42_code 23 = .ok (.ifCond .ne 10, 3) := by decide +kernel
theorem d_MaskEdgesModel_is_26 : decode prog_8_method_42_code 26 = .ok (.aload_n 0, 1) := by decide +kernel
theorem d_MaskEdgesModel_is_27 : decode prog_8_method_42_code 27 = .ok (.iload_n 1, 1) := by decide +kernel
theorem d_MaskEdgesModel_is_28 : decode prog_8_method_42_code 28 = .ok (.iload_n 2, 1) := by decide +kernel
theorem d_MaskEdgesModel_is_29 : decode prog_8_method_42_code 29 = .ok (.invokevirtual 144, 3) := by decide +kernel
theorem d_MaskEdgesModel_is_32 : decode prog_8_method_42_code 32 = .ok (.ireturn, 1) := by decide +kernel
theorem d_MaskEdgesModel_is_33 : decode prog_8_method_42_code 33 = .ok (.aload_n 0, 1) := by decide +kernel
theorem d_MaskEdgesModel_is_34 : decode prog_8_method_42_code 34 = .ok (.invokevirtual 166, 3) := by decide +kernel
theorem d_MaskEdgesModel_is_37 : decode prog_8_method_42_code 37 = .ok (.iload_n 3, 1) := by decide +kernel
theorem d_MaskEdgesModel_is_38 : decode prog_8_method_42_code 38 = .ok (.iconst 1, 1) := by decide +kernel
theorem d_MaskEdgesModel_is_39 : decode prog_8_method_42_code 39 = .ok (.if_icmp .ne 17, 3) := by decide +kernel
theorem d_MaskEdgesModel_is_42 : decode prog_8_method_42_code 42 = .ok (.aload_n 0, 1) := by decide +kernel
theorem d_MaskEdgesModel_is_43 : decode prog_8_method_42_code 43 = .ok (.getfield 72, 3) := by decide +kernel
theorem d_MaskEdgesModel_is_46 : decode prog_8_method_42_code 46 = .ok (.bipush 48, 2) := by decide +kernel
theorem d_MaskEdgesModel_is_48 : decode prog_8_method_42_code 48 = .ok (.iload_n 2, 1) := by decide +kernel
theorem d_MaskEdgesModel_is_49 : decode prog_8_method_42_code 49 = .ok (.imul, 1) := by decide +kernel
theorem d_MaskEdgesModel_is_50 : decode prog_8_method_42_code 50 = .ok (.iload_n 1, 1) := by decide +kernel
theorem d_MaskEdgesModel_is_51 : decode prog_8_method_42_code 51 = .ok (.iadd, 1) := by decide +kernel
theorem d_MaskEdgesModel_is_52 : decode prog_8_method_42_code 52 = .ok (.baload, 1) := by decide +kernel
theorem d_MaskEdgesModel_is_53 : decode prog_8_method_42_code 53 = .ok (.goto 11, 3) := by decide +kernel
theorem d_MaskEdgesModel_is_56 : decode prog_8_method_42_code 56 = .ok (.aload_n 0, 1) := by decide +kernel
theorem d_MaskEdgesModel_is_57 : decode prog_8_method_42_code 57 = .ok (.iload_n 1, 1) := by decide +kernel
theorem d_MaskEdgesModel_is_58 : decode prog_8_method_42_code 58 = .ok (.iload_n 2, 1) := by decide +kernel
theorem d_MaskEdgesModel_is_59 : decode prog_8_method_42_code 59 = .ok (.bipush 100, 2) := by decide +kernel
theorem d_MaskEdgesModel_is_61 : decode prog_8_method_42_code 61 = .ok (.invokevirtual 169, 3) := by decide +kernel
theorem d_MaskEdgesModel_is_64 : decode prog_8_method_42_code 64 = .ok (.ireturn, 1) := by decide +kernel
