theorem dX10_cheapestChange_37 : decode cX10_cheapestChange 37 = .ok (.iload_n 1, 1) := by decide +kernel
theorem dX10_cheapestChange_38 : decode cX10_cheapestChange 38 = .ok (.iload_n 2, 1) := by decide +kernel
theorem dX10_cheapestChange_39 : decode cX10_cheapestChange 39 = .ok (.iadd, 1) := by decide +kernel
theorem dX10_cheapestChange_40 : decode cX10_cheapestChange 40 = .ok (.istore_n 3, 1) := by decide +kernel
theorem dX10_cheapestChange_41 : decode cX10_cheapestChange 41 = .ok (.iconst 0, 1) := by decide +kernel
theorem dX10_cheapestChange_42 : decode cX10_cheapestChange 42 = .ok (.istore 4, 2) := by decide +kernel
theorem dX10_cheapestChange_44 : decode cX10_cheapestChange 44 = .ok (.iload 4, 2) := by decide +kernel
theorem dX10_cheapestChange_46 : decode cX10_cheapestChange 46 = .ok (.iconst 5, 1) := by decide +kernel
theorem dX10_cheapestChange_47 : decode cX10_cheapestChange 47 = .ok (.if_icmp .ge 46, 3) := by decide +kernel
theorem dX10_cheapestChange_50 : decode cX10_cheapestChange 50 = .ok (.iload_n 3, 1) := by decide +kernel
theorem dX10_cheapestChange_51 : decode cX10_cheapestChange 51 = .ok (.iconst 0, 1) := by decide +kernel
theorem dX10_cheapestChange_52 : decode cX10_cheapestChange 52 = .ok (.aload_n 0, 1) := by decide +kernel
theorem dX10_cheapestChange_53 : decode cX10_cheapestChange 53 = .ok (.getfield 79, 3) := by decide +kernel
theorem dX10_cheapestChange_56 : decode cX10_cheapestChange 56 = .ok (.getfield 329, 3) := by decide +kernel
theorem dX10_cheapestChange_59 : decode cX10_cheapestChange 59 = .ok (.iload 4, 2) := by decide +kernel
theorem dX10_cheapestChange_61 : decode cX10_cheapestChange 61 = .ok (.invokevirtual 161, 3) := by decide +kernel
theorem dX10_cheapestChange_64 : decode cX10_cheapestChange 64 = .ok (.aload_n 0, 1) := by decide +kernel
theorem dX10_cheapestChange_65 : decode cX10_cheapestChange 65 = .ok (.getfield 86, 3) := by decide +kernel
theorem dX10_cheapestChange_68 : decode cX10_cheapestChange 68 = .ok (.iload 4, 2) := by decide +kernel
theorem dX10_cheapestChange_70 : decode cX10_cheapestChange 70 = .ok (.invokevirtual 332, 3) := by decide +kernel
theorem dX10_cheapestChange_73 : decode cX10_cheapestChange 73 = .ok (.isub, 1) := by decide +kernel
theorem dX10_cheapestChange_74 : decode cX10_cheapestChange 74 = .ok (.invokestatic 335, 3) := by decide +kernel
theorem dX10_cheapestChange_77 : decode cX10_cheapestChange 77 = .ok (.aload_n 0, 1) := by decide +kernel
theorem dX10_cheapestChange_78 : decode cX10_cheapestChange 78 = .ok (.getfield 73, 3) := by decide +kernel
theorem dX10_cheapestChange_81 : decode cX10_cheapestChange 81 = .ok (.iload 4, 2) := by decide +kernel
theorem dX10_cheapestChange_83 : decode cX10_cheapestChange 83 = .ok (.iaload, 1) := by decide +kernel
theorem dX10_cheapestChange_84 : decode cX10_cheapestChange 84 = .ok (.imul, 1) := by decide +kernel
theorem dX10_cheapestChange_85 : decode cX10_cheapestChange 85 = .ok (.iadd, 1) := by decide +kernel
theorem dX10_cheapestChange_86 : decode cX10_cheapestChange 86 = .ok (.istore_n 3, 1) := by decide +kernel
theorem dX10_cheapestChange_87 : decode cX10_cheapestChange 87 = .ok (.iinc 4 1, 3) := by decide +kernel
theorem dX10_cheapestChange_90 : decode cX10_cheapestChange 90 = .ok (.goto (-46), 3) := by decide +kernel
theorem dX10_cheapestChange_93 : decode cX10_cheapestChange 93 = .ok (.iload_n 3, 1) := by decide +kernel
theorem dX10_cheapestChange_94 : decode cX10_cheapestChange 94 = .ok (.ireturn, 1) := by decide +kernel
theorem dX10_stuffChange_0 : decode cX10_stuffChange 0 = .ok (.aload_n 0, 1) := by decide +kernel
theorem dX10_stuffChange_1 : decode cX10_stuffChange 1 = .ok (.getfield 86, 3) := by decide +kernel
theorem dX10_stuffChange_4 : decode cX10_stuffChange 4 = .ok (.aload_n 0, 1) := by decide +kernel
theorem dX10_stuffChange_5 : decode cX10_stuffChange 5 = .ok (.getfield 79, 3) := by decide +kernel
theorem dX10_stuffChange_8 : decode cX10_stuffChange 8 = .ok (.getfield 338, 3) := by decide +kernel
theorem dX10_stuffChange_11 : decode cX10_stuffChange 11 = .ok (.invokevirtual 341, 3) := by decide +kernel
theorem dX10_stuffChange_14 : decode cX10_stuffChange 14 = .ok (.ifCond .eq 5, 3) := by decide +kernel
theorem dX10_stuffChange_17 : decode cX10_stuffChange 17 = .ok (.iconst 0, 1) := by decide +kernel
theorem dX10_stuffChange_18 : decode cX10_stuffChange 18 = .ok (.ireturn, 1) := by decide +kernel
theorem dX10_stuffChange_19 : decode cX10_stuffChange 19 = .ok (.iconst 0, 1) := by decide +kernel
theorem dX10_stuffChange_20 : decode cX10_stuffChange 20 = .ok (.istore_n 1, 1) := by decide +kernel
theorem dX10_stuffChange_21 : decode cX10_stuffChange 21 = .ok (.iload_n 1, 1) := by decide +kernel
theorem dX10_stuffChange_22 : decode cX10_stuffChange 22 = .ok (.bipush 16, 2) := by decide +kernel
theorem dX10_stuffChange_24 : decode cX10_stuffChange 24 = .ok (.if_icmp .ge 38, 3) := by decide +kernel
theorem dX10_stuffChange_27 : decode cX10_stuffChange 27 = .ok (.aload_n 0, 1) := by decide +kernel
theorem dX10_stuffChange_28 : decode cX10_stuffChange 28 = .ok (.getfield 86, 3) := by decide +kernel
theorem dX10_stuffChange_31 : decode cX10_stuffChange 31 = .ok (.aload_n 0, 1) := by decide +kernel
theorem dX10_stuffChange_32 : decode cX10_stuffChange 32 = .ok (.iload_n 1, 1) := by decide +kernel
theorem dX10_stuffChange_33 : decode cX10_stuffChange 33 = .ok (.aload_n 0, 1) := by decide +kernel
theorem dX10_stuffChange_34 : decode cX10_stuffChange 34 = .ok (.getfield 79, 3) := by decide +kernel
theorem dX10_stuffChange_37 : decode cX10_stuffChange 37 = .ok (.getfield 344, 3) := by decide +kernel
theorem dX10_stuffChange_40 : decode cX10_stuffChange 40 = .ok (.invokevirtual 164, 3) := by decide +kernel
theorem dX10_stuffChange_43 : decode cX10_stuffChange 43 = .ok (.invokevirtual 341, 3) := by decide +kernel
theorem dX10_stuffChange_46 : decode cX10_stuffChange 46 = .ok (.ifCond .eq 10, 3) := by decide +kernel
theorem dX10_stuffChange_49 : decode cX10_stuffChange 49 = .ok (.aload_n 0, 1) := by decide +kernel
theorem dX10_stuffChange_50 : decode cX10_stuffChange 50 = .ok (.getfield 73, 3) := by decide +kernel
theorem dX10_stuffChange_53 : decode cX10_stuffChange 53 = .ok (.iconst 5, 1) := by decide +kernel
theorem dX10_stuffChange_54 : decode cX10_stuffChange 54 = .ok (.iaload, 1) := by decide +kernel
theorem dX10_stuffChange_55 : decode cX10_stuffChange 55 = .ok (.ireturn, 1) := by decide +kernel
theorem dX10_stuffChange_56 : decode cX10_stuffChange 56 = .ok (.iinc 1 1, 3) := by decide +kernel
theorem dX10_stuffChange_59 : decode cX10_stuffChange 59 = .ok (.goto (-38), 3) := by decide +kernel
theorem dX10_stuffChange_62 : decode cX10_stuffChange 62 = .ok (.iconst (-1), 1) := by decide +kernel
theorem dX10_stuffChange_63 : decode cX10_stuffChange 63 = .ok (.ireturn, 1) := by decide +kernel
theorem dX10_colourChange_0 : decode cX10_colourChange 0 = .ok (.aload_n 0, 1) := by decide +kernel
theorem dX10_colourChange_1 : decode cX10_colourChange 1 = .ok (.getfield 86, 3) := by decide +kernel
theorem dX10_colourChange_4 : decode cX10_colourChange 4 = .ok (.aload_n 0, 1) := by decide +kernel
theorem dX10_colourChange_5 : decode cX10_colourChange 5 = .ok (.getfield 79, 3) := by decide +kernel
theorem dX10_colourChange_8 : decode cX10_colourChange 8 = .ok (.getfield 329, 3) := by decide +kernel
theorem dX10_colourChange_11 : decode cX10_colourChange 11 = .ok (.getfield 158, 3) := by decide +kernel
theorem dX10_colourChange_14 : decode cX10_colourChange 14 = .ok (.invokevirtual 345, 3) := by decide +kernel
theorem dX10_colourChange_17 : decode cX10_colourChange 17 = .ok (.ifCond .eq 5, 3) := by decide +kernel
theorem dX10_colourChange_20 : decode cX10_colourChange 20 = .ok (.iconst 0, 1) := by decide +kernel
theorem dX10_colourChange_21 : decode cX10_colourChange 21 = .ok (.ireturn, 1) := by decide +kernel
theorem dX10_colourChange_22 : decode cX10_colourChange 22 = .ok (.iconst 0, 1) := by decide +kernel
theorem dX10_colourChange_23 : decode cX10_colourChange 23 = .ok (.istore_n 1, 1) := by decide +kernel
theorem dX10_colourChange_24 : decode cX10_colourChange 24 = .ok (.iload_n 1, 1) := by decide +kernel
theorem dX10_colourChange_25 : decode cX10_colourChange 25 = .ok (.bipush 8, 2) := by decide +kernel
theorem dX10_colourChange_27 : decode cX10_colourChange 27 = .ok (.if_icmp .ge 28, 3) := by decide +kernel
theorem dX10_colourChange_30 : decode cX10_colourChange 30 = .ok (.aload_n 0, 1) := by decide +kernel
theorem dX10_colourChange_31 : decode cX10_colourChange 31 = .ok (.getfield 86, 3) := by decide +kernel
theorem dX10_colourChange_34 : decode cX10_colourChange 34 = .ok (.iload_n 1, 1) := by decide +kernel
theorem dX10_colourChange_35 : decode cX10_colourChange 35 = .ok (.invokevirtual 345, 3) := by decide +kernel
theorem dX10_colourChange_38 : decode cX10_colourChange 38 = .ok (.ifCond .eq 11, 3) := by decide +kernel
theorem dX10_colourChange_41 : decode cX10_colourChange 41 = .ok (.aload_n 0, 1) := by decide +kernel
theorem dX10_colourChange_42 : decode cX10_colourChange 42 = .ok (.getfield 73, 3) := by decide +kernel
theorem dX10_colourChange_45 : decode cX10_colourChange 45 = .ok (.bipush 6, 2) := by decide +kernel
theorem dX10_colourChange_47 : decode cX10_colourChange 47 = .ok (.iaload, 1) := by decide +kernel
theorem dX10_colourChange_48 : decode cX10_colourChange 48 = .ok (.ireturn, 1) := by decide +kernel
theorem dX10_colourChange_49 : decode cX10_colourChange 49 = .ok (.iinc 1 1, 3) := by decide +kernel
theorem dX10_colourChange_52 : decode cX10_colourChange 52 = .ok (.goto (-28), 3) := by decide +kernel
theorem dX10_colourChange_55 : decode cX10_colourChange 55 = .ok (.iconst (-1), 1) := by decide +kernel
theorem dX10_colourChange_56 : decode cX10_colourChange 56 = .ok (.ireturn, 1) := by decide +kernel
theorem dX11_init_0 : decode cX11_init 0 = .ok (.aload_n 0, 1) := by decide +kernel
theorem dX11_init_1 : decode cX11_init 1 = .ok (.aconst_null, 1) := by decide +kernel
theorem dX11_init_2 : decode cX11_init 2 = .ok (.aconst_null, 1) := by decide +kernel
theorem dX11_init_3 : decode cX11_init 3 = .ok (.iconst 0, 1) := by decide +kernel
theorem dX11_init_4 : decode cX11_init 4 = .ok (.iconst 0, 1) := by decide +kernel
theorem dX11_init_5 : decode cX11_init 5 = .ok (.invokespecial 1, 3) := by decide +kernel
theorem dX11_init_8 : decode cX11_init 8 = .ok (.return_, 1) := by decide +kernel
theorem dX12_in_0 : decode cX12_in 0 = .ok (.lload_n 0, 1) := by decide +kernel
theorem dX12_in_1 : decode cX12_in 1 = .ok (.lload_n 2, 1) := by decide +kernel
theorem dX12_in_2 : decode cX12_in 2 = .ok (.lcmp, 1) := by decide +kernel
theorem dX12_in_3 : decode cX12_in 3 = .ok (.ifCond .lt 14, 3) := by decide +kernel
theorem dX12_in_6 : decode cX12_in 6 = .ok (.lload_n 0, 1) := by decide +kernel
theorem dX12_in_7 : decode cX12_in 7 = .ok (.lload 4, 2) := by decide +kernel
theorem dX12_in_9 : decode cX12_in 9 = .ok (.lcmp, 1) := by decide +kernel
theorem dX12_in_10 : decode cX12_in 10 = .ok (.ifCond .gt 7, 3) := by decide +kernel
theorem dX12_in_13 : decode cX12_in 13 = .ok (.iconst 1, 1) := by decide +kernel
theorem dX12_in_14 : decode cX12_in 14 = .ok (.goto 4, 3) := by decide +kernel
theorem dX12_in_17 : decode cX12_in 17 = .ok (.iconst 0, 1) := by decide +kernel
theorem dX12_in_18 : decode cX12_in 18 = .ok (.ireturn, 1) := by decide +kernel
theorem dX12_isDay_0 : decode cX12_isDay 0 = .ok (.iload_n 0, 1) := by decide +kernel
theorem dX12_isDay_1 : decode cX12_isDay 1 = .ok (.i2l, 1) := by decide +kernel
theorem dX12_isDay_2 : decode cX12_isDay 2 = .ok (.lconst 0, 1) := by decide +kernel
theorem dX12_isDay_3 : decode cX12_isDay 3 = .ok (.ldc2_w 3, 3) := by decide +kernel
theorem dX12_isDay_6 : decode cX12_isDay 6 = .ok (.invokestatic 5, 3) := by decide +kernel
theorem dX12_isDay_9 : decode cX12_isDay 9 = .ok (.ireturn, 1) := by decide +kernel
theorem dX12_wrong_0 : decode cX12_wrong 0 = .ok (.aload_n 0, 1) := by decide +kernel
theorem dX12_wrong_1 : decode cX12_wrong 1 = .ok (.iload_n 1, 1) := by decide +kernel
theorem dX12_wrong_2 : decode cX12_wrong 2 = .ok (.putfield 9, 3) := by decide +kernel
theorem dX12_wrong_5 : decode cX12_wrong 5 = .ok (.aload_n 0, 1) := by decide +kernel
theorem dX12_wrong_6 : decode cX12_wrong 6 = .ok (.aload_n 0, 1) := by decide +kernel
theorem dX12_wrong_7 : decode cX12_wrong 7 = .ok (.getfield 13, 3) := by decide +kernel
theorem dX12_wrong_10 : decode cX12_wrong 10 = .ok (.putfield 16, 3) := by decide +kernel
theorem dX12_wrong_13 : decode cX12_wrong 13 = .ok (.aload_n 0, 1) := by decide +kernel
theorem dX12_wrong_14 : decode cX12_wrong 14 = .ok (.getfield 19, 3) := by decide +kernel
theorem dX12_wrong_17 : decode cX12_wrong 17 = .ok (.areturn, 1) := by decide +kernel
theorem dX12_byteAt_0 : decode cX12_byteAt 0 = .ok (.iload_n 1, 1) := by decide +kernel
theorem dX12_byteAt_1 : decode cX12_byteAt 1 = .ok (.aload_n 0, 1) := by decide +kernel
theorem dX12_byteAt_2 : decode cX12_byteAt 2 = .ok (.getfield 23, 3) := by decide +kernel
theorem dX12_byteAt_5 : decode cX12_byteAt 5 = .ok (.if_icmp .ge 16, 3) := by decide +kernel
theorem dX12_byteAt_8 : decode cX12_byteAt 8 = .ok (.aload_n 0, 1) := by decide +kernel
theorem dX12_byteAt_9 : decode cX12_byteAt 9 = .ok (.getfield 26, 3) := by decide +kernel
theorem dX12_byteAt_12 : decode cX12_byteAt 12 = .ok (.iload_n 1, 1) := by decide +kernel
theorem dX12_byteAt_13 : decode cX12_byteAt 13 = .ok (.baload, 1) := by decide +kernel
theorem dX12_byteAt_14 : decode cX12_byteAt 14 = .ok (.sipush 255, 3) := by decide +kernel
theorem dX12_byteAt_17 : decode cX12_byteAt 17 = .ok (.iand, 1) := by decide +kernel
theorem dX12_byteAt_18 : decode cX12_byteAt 18 = .ok (.goto 4, 3) := by decide +kernel
theorem dX12_byteAt_21 : decode cX12_byteAt 21 = .ok (.iconst 0, 1) := by decide +kernel
theorem dX12_byteAt_22 : decode cX12_byteAt 22 = .ok (.ireturn, 1) := by decide +kernel
theorem dX12_isLetter_0 : decode cX12_isLetter 0 = .ok (.iload_n 0, 1) := by decide +kernel
theorem dX12_isLetter_1 : decode cX12_isLetter 1 = .ok (.bipush 97, 2) := by decide +kernel
theorem dX12_isLetter_3 : decode cX12_isLetter 3 = .ok (.if_icmp .lt 13, 3) := by decide +kernel
theorem dX12_isLetter_6 : decode cX12_isLetter 6 = .ok (.iload_n 0, 1) := by decide +kernel
theorem dX12_isLetter_7 : decode cX12_isLetter 7 = .ok (.bipush 122, 2) := by decide +kernel
theorem dX12_isLetter_9 : decode cX12_isLetter 9 = .ok (.if_icmp .gt 7, 3) := by decide +kernel
theorem dX12_isLetter_12 : decode cX12_isLetter 12 = .ok (.iconst 1, 1) := by decide +kernel
theorem dX12_isLetter_13 : decode cX12_isLetter 13 = .ok (.goto 4, 3) := by decide +kernel
theorem dX12_isLetter_16 : decode cX12_isLetter 16 = .ok (.iconst 0, 1) := by decide +kernel
theorem dX12_isLetter_17 : decode cX12_isLetter 17 = .ok (.ireturn, 1) := by decide +kernel
theorem dX12_isDigit_0 : decode cX12_isDigit 0 = .ok (.iload_n 0, 1) := by decide +kernel
theorem dX12_isDigit_1 : decode cX12_isDigit 1 = .ok (.bipush 48, 2) := by decide +kernel
theorem dX12_isDigit_3 : decode cX12_isDigit 3 = .ok (.if_icmp .lt 13, 3) := by decide +kernel
theorem dX12_isDigit_6 : decode cX12_isDigit 6 = .ok (.iload_n 0, 1) := by decide +kernel
theorem dX12_isDigit_7 : decode cX12_isDigit 7 = .ok (.bipush 57, 2) := by decide +kernel
theorem dX12_isDigit_9 : decode cX12_isDigit 9 = .ok (.if_icmp .gt 7, 3) := by decide +kernel
theorem dX12_isDigit_12 : decode cX12_isDigit 12 = .ok (.iconst 1, 1) := by decide +kernel
theorem dX12_isDigit_13 : decode cX12_isDigit 13 = .ok (.goto 4, 3) := by decide +kernel
theorem dX12_isDigit_16 : decode cX12_isDigit 16 = .ok (.iconst 0, 1) := by decide +kernel
theorem dX12_isDigit_17 : decode cX12_isDigit 17 = .ok (.ireturn, 1) := by decide +kernel
theorem dX12_scan_0 : decode cX12_scan 0 = .ok (.aload_n 0, 1) := by decide +kernel
theorem dX12_scan_1 : decode cX12_scan 1 = .ok (.getfield 30, 3) := by decide +kernel
theorem dX12_scan_4 : decode cX12_scan 4 = .ok (.aload_n 0, 1) := by decide +kernel
theorem dX12_scan_5 : decode cX12_scan 5 = .ok (.getfield 23, 3) := by decide +kernel
theorem dX12_scan_8 : decode cX12_scan 8 = .ok (.if_icmp .ge 44, 3) := by decide +kernel
theorem dX12_scan_11 : decode cX12_scan 11 = .ok (.aload_n 0, 1) := by decide +kernel
theorem dX12_scan_12 : decode cX12_scan 12 = .ok (.getfield 26, 3) := by decide +kernel
theorem dX12_scan_15 : decode cX12_scan 15 = .ok (.aload_n 0, 1) := by decide +kernel
theorem dX12_scan_16 : decode cX12_scan 16 = .ok (.getfield 30, 3) := by decide +kernel
theorem dX12_scan_19 : decode cX12_scan 19 = .ok (.baload, 1) := by decide +kernel
theorem dX12_scan_20 : decode cX12_scan 20 = .ok (.bipush 32, 2) := by decide +kernel
theorem dX12_scan_22 : decode cX12_scan 22 = .ok (.if_icmp .eq 17, 3) := by decide +kernel
theorem dX12_scan_25 : decode cX12_scan 25 = .ok (.aload_n 0, 1) := by decide +kernel
theorem dX12_scan_26 : decode cX12_scan 26 = .ok (.getfield 26, 3) := by decide +kernel
theorem dX12_scan_29 : decode cX12_scan 29 = .ok (.aload_n 0, 1) := by decide +kernel
theorem dX12_scan_30 : decode cX12_scan 30 = .ok (.getfield 30, 3) := by decide +kernel
theorem dX12_scan_33 : decode cX12_scan 33 = .ok (.baload, 1) := by decide +kernel
theorem dX12_scan_34 : decode cX12_scan 34 = .ok (.bipush 10, 2) := by decide +kernel
theorem dX12_scan_36 : decode cX12_scan 36 = .ok (.if_icmp .ne 16, 3) := by decide +kernel
theorem dX12_scan_39 : decode cX12_scan 39 = .ok (.aload_n 0, 1) := by decide +kernel
theorem dX12_scan_40 : decode cX12_scan 40 = .ok (.dup, 1) := by decide +kernel
theorem dX12_scan_41 : decode cX12_scan 41 = .ok (.getfield 30, 3) := by decide +kernel
theorem dX12_scan_44 : decode cX12_scan 44 = .ok (.iconst 1, 1) := by decide +kernel
theorem dX12_scan_45 : decode cX12_scan 45 = .ok (.iadd, 1) := by decide +kernel
theorem dX12_scan_46 : decode cX12_scan 46 = .ok (.putfield 30, 3) := by decide +kernel
theorem dX12_scan_49 : decode cX12_scan 49 = .ok (.goto (-49), 3) := by decide +kernel
theorem dX12_scan_52 : decode cX12_scan 52 = .ok (.aload_n 0, 1) := by decide +kernel
theorem dX12_scan_53 : decode cX12_scan 53 = .ok (.aload_n 0, 1) := by decide +kernel
theorem dX12_scan_54 : decode cX12_scan 54 = .ok (.getfield 30, 3) := by decide +kernel
theorem dX12_scan_57 : decode cX12_scan 57 = .ok (.putfield 13, 3) := by decide +kernel
theorem dX12_scan_60 : decode cX12_scan 60 = .ok (.aload_n 0, 1) := by decide +kernel
theorem dX12_scan_61 : decode cX12_scan 61 = .ok (.aload_n 0, 1) := by decide +kernel
theorem dX12_scan_62 : decode cX12_scan 62 = .ok (.getfield 13, 3) := by decide +kernel
theorem dX12_scan_65 : decode cX12_scan 65 = .ok (.invokevirtual 33, 3) := by decide +kernel
theorem dX12_scan_68 : decode cX12_scan 68 = .ok (.istore_n 1, 1) := by decide +kernel
theorem dX12_scan_69 : decode cX12_scan 69 = .ok (.aload_n 0, 1) := by decide +kernel
theorem dX12_scan_70 : decode cX12_scan 70 = .ok (.getfield 13, 3) := by decide +kernel
theorem dX12_scan_73 : decode cX12_scan 73 = .ok (.aload_n 0, 1) := by decide +kernel
theorem dX12_scan_74 : decode cX12_scan 74 = .ok (.getfield 23, 3) := by decide +kernel
theorem dX12_scan_77 : decode cX12_scan 77 = .ok (.if_icmp .ne 11, 3) := by decide +kernel
theorem dX12_scan_80 : decode cX12_scan 80 = .ok (.aload_n 0, 1) := by decide +kernel
theorem dX12_scan_81 : decode cX12_scan 81 = .ok (.iconst 0, 1) := by decide +kernel
theorem dX12_scan_82 : decode cX12_scan 82 = .ok (.putfield 37, 3) := by decide +kernel
theorem dX12_scan_85 : decode cX12_scan 85 = .ok (.goto 170, 3) := by decide +kernel
theorem dX12_scan_88 : decode cX12_scan 88 = .ok (.iload_n 1, 1) := by decide +kernel
theorem dX12_scan_89 : decode cX12_scan 89 = .ok (.invokestatic 40, 3) := by decide +kernel
theorem dX12_scan_92 : decode cX12_scan 92 = .ok (.ifCond .eq 38, 3) := by decide +kernel
theorem dX12_scan_95 : decode cX12_scan 95 = .ok (.aload_n 0, 1) := by decide +kernel
theorem dX12_scan_96 : decode cX12_scan 96 = .ok (.aload_n 0, 1) := by decide +kernel
theorem dX12_scan_97 : decode cX12_scan 97 = .ok (.getfield 30, 3) := by decide +kernel
theorem dX12_scan_100 : decode cX12_scan 100 = .ok (.invokevirtual 33, 3) := by decide +kernel
theorem dX12_scan_103 : decode cX12_scan 103 = .ok (.invokestatic 40, 3) := by decide +kernel
theorem dX12_scan_106 : decode cX12_scan 106 = .ok (.ifCond .eq 16, 3) := by decide +kernel
theorem dX12_scan_109 : decode cX12_scan 109 = .ok (.aload_n 0, 1) := by decide +kernel
theorem dX12_scan_110 : decode cX12_scan 110 = .ok (.dup, 1) := by decide +kernel
theorem dX12_scan_111 : decode cX12_scan 111 = .ok (.getfield 30, 3) := by decide +kernel
theorem dX12_scan_114 : decode cX12_scan 114 = .ok (.iconst 1, 1) := by decide +kernel
theorem dX12_scan_115 : decode cX12_scan 115 = .ok (.iadd, 1) := by decide +kernel
theorem dX12_scan_116 : decode cX12_scan 116 = .ok (.putfield 30, 3) := by decide +kernel
theorem dX12_scan_119 : decode cX12_scan 119 = .ok (.goto (-24), 3) := by decide +kernel
theorem dX12_scan_122 : decode cX12_scan 122 = .ok (.aload_n 0, 1) := by decide +kernel
theorem dX12_scan_123 : decode cX12_scan 123 = .ok (.iconst 1, 1) := by decide +kernel
theorem dX12_scan_124 : decode cX12_scan 124 = .ok (.putfield 37, 3) := by decide +kernel
theorem dX12_scan_127 : decode cX12_scan 127 = .ok (.goto 128, 3) := by decide +kernel
theorem dX12_scan_130 : decode cX12_scan 130 = .ok (.iload_n 1, 1) := by decide +kernel
theorem dX12_scan_131 : decode cX12_scan 131 = .ok (.invokestatic 44, 3) := by decide +kernel
theorem dX12_scan_134 : decode cX12_scan 134 = .ok (.ifCond .eq 96, 3) := by decide +kernel
theorem dX12_scan_137 : decode cX12_scan 137 = .ok (.aload_n 0, 1) := by decide +kernel
theorem dX12_scan_138 : decode cX12_scan 138 = .ok (.iconst 0, 1) := by decide +kernel
theorem dX12_scan_139 : decode cX12_scan 139 = .ok (.putfield 47, 3) := by decide +kernel
theorem dX12_scan_142 : decode cX12_scan 142 = .ok (.aload_n 0, 1) := by decide +kernel
theorem dX12_scan_143 : decode cX12_scan 143 = .ok (.aload_n 0, 1) := by decide +kernel
theorem dX12_scan_144 : decode cX12_scan 144 = .ok (.getfield 30, 3) := by decide +kernel
theorem dX12_scan_147 : decode cX12_scan 147 = .ok (.invokevirtual 33, 3) := by decide +kernel
theorem dX12_scan_150 : decode cX12_scan 150 = .ok (.invokestatic 44, 3) := by decide +kernel
theorem dX12_scan_153 : decode cX12_scan 153 = .ok (.ifCond .eq 52, 3) := by decide +kernel
theorem dX12_scan_156 : decode cX12_scan 156 = .ok (.aload_n 0, 1) := by decide +kernel
theorem dX12_scan_157 : decode cX12_scan 157 = .ok (.getfield 30, 3) := by decide +kernel
theorem dX12_scan_160 : decode cX12_scan 160 = .ok (.aload_n 0, 1) := by decide +kernel
theorem dX12_scan_161 : decode cX12_scan 161 = .ok (.getfield 13, 3) := by decide +kernel
theorem dX12_scan_164 : decode cX12_scan 164 = .ok (.isub, 1) := by decide +kernel
theorem dX12_scan_165 : decode cX12_scan 165 = .ok (.iconst 4, 1) := by decide +kernel
theorem dX12_scan_166 : decode cX12_scan 166 = .ok (.if_icmp .ge 26, 3) := by decide +kernel
theorem dX12_scan_169 : decode cX12_scan 169 = .ok (.aload_n 0, 1) := by decide +kernel
theorem dX12_scan_170 : decode cX12_scan 170 = .ok (.bipush 10, 2) := by decide +kernel
theorem dX12_scan_172 : decode cX12_scan 172 = .ok (.aload_n 0, 1) := by decide +kernel
theorem dX12_scan_173 : decode cX12_scan 173 = .ok (.getfield 47, 3) := by decide +kernel
theorem dX12_scan_176 : decode cX12_scan 176 = .ok (.imul, 1) := by decide +kernel
theorem dX12_scan_177 : decode cX12_scan 177 = .ok (.aload_n 0, 1) := by decide +kernel
theorem dX12_scan_178 : decode cX12_scan 178 = .ok (.aload_n 0, 1) := by decide +kernel
theorem dX12_scan_179 : decode cX12_scan 179 = .ok (.getfield 30, 3) := by decide +kernel
theorem dX12_scan_182 : decode cX12_scan 182 = .ok (.invokevirtual 33, 3) := by decide +kernel
theorem dX12_scan_185 : decode cX12_scan 185 = .ok (.iadd, 1) := by decide +kernel
theorem dX12_scan_186 : decode cX12_scan 186 = .ok (.bipush 48, 2) := by decide +kernel
theorem dX12_scan_188 : decode cX12_scan 188 = .ok (.isub, 1) := by decide +kernel
theorem dX12_scan_189 : decode cX12_scan 189 = .ok (.putfield 47, 3) := by decide +kernel
theorem dX12_scan_192 : decode cX12_scan 192 = .ok (.aload_n 0, 1) := by decide +kernel
theorem dX12_scan_193 : decode cX12_scan 193 = .ok (.dup, 1) := by decide +kernel
theorem dX12_scan_194 : decode cX12_scan 194 = .ok (.getfield 30, 3) := by decide +kernel
theorem dX12_scan_197 : decode cX12_scan 197 = .ok (.iconst 1, 1) := by decide +kernel
theorem dX12_scan_198 : decode cX12_scan 198 = .ok (.iadd, 1) := by decide +kernel
theorem dX12_scan_199 : decode cX12_scan 199 = .ok (.putfield 30, 3) := by decide +kernel
theorem dX12_scan_202 : decode cX12_scan 202 = .ok (.goto (-60), 3) := by decide +kernel
theorem dX12_scan_205 : decode cX12_scan 205 = .ok (.aload_n 0, 1) := by decide +kernel
theorem dX12_scan_206 : decode cX12_scan 206 = .ok (.aload_n 0, 1) := by decide +kernel
theorem dX12_scan_207 : decode cX12_scan 207 = .ok (.getfield 30, 3) := by decide +kernel
theorem dX12_scan_210 : decode cX12_scan 210 = .ok (.aload_n 0, 1) := by decide +kernel
theorem dX12_scan_211 : decode cX12_scan 211 = .ok (.getfield 13, 3) := by decide +kernel
theorem dX12_scan_214 : decode cX12_scan 214 = .ok (.isub, 1) := by decide +kernel
theorem dX12_scan_215 : decode cX12_scan 215 = .ok (.iconst 4, 1) := by decide +kernel
theorem dX12_scan_216 : decode cX12_scan 216 = .ok (.if_icmp .le 7, 3) := by decide +kernel
theorem dX12_scan_219 : decode cX12_scan 219 = .ok (.iconst 4, 1) := by decide +kernel
theorem dX12_scan_220 : decode cX12_scan 220 = .ok (.goto 4, 3) := by decide +kernel
theorem dX12_scan_223 : decode cX12_scan 223 = .ok (.iconst 2, 1) := by decide +kernel
theorem dX12_scan_224 : decode cX12_scan 224 = .ok (.putfield 37, 3) := by decide +kernel
theorem dX12_scan_227 : decode cX12_scan 227 = .ok (.goto 28, 3) := by decide +kernel
theorem dX12_scan_230 : decode cX12_scan 230 = .ok (.aload_n 0, 1) := by decide +kernel
theorem dX12_scan_231 : decode cX12_scan 231 = .ok (.iload_n 1, 1) := by decide +kernel
theorem dX12_scan_232 : decode cX12_scan 232 = .ok (.bipush 59, 2) := by decide +kernel
theorem dX12_scan_234 : decode cX12_scan 234 = .ok (.if_icmp .ne 7, 3) := by decide +kernel
theorem dX12_scan_237 : decode cX12_scan 237 = .ok (.iconst 3, 1) := by decide +kernel
theorem dX12_scan_238 : decode cX12_scan 238 = .ok (.goto 4, 3) := by decide +kernel
theorem dX12_scan_241 : decode cX12_scan 241 = .ok (.iconst 4, 1) := by decide +kernel
theorem dX12_scan_242 : decode cX12_scan 242 = .ok (.putfield 37, 3) := by decide +kernel
theorem dX12_scan_245 : decode cX12_scan 245 = .ok (.aload_n 0, 1) := by decide +kernel
theorem dX12_scan_246 : decode cX12_scan 246 = .ok (.dup, 1) := by decide +kernel
theorem dX12_scan_247 : decode cX12_scan 247 = .ok (.getfield 30, 3) := by decide +kernel
theorem dX12_scan_250 : decode cX12_scan 250 = .ok (.iconst 1, 1) := by decide +kernel
theorem dX12_scan_251 : decode cX12_scan 251 = .ok (.iadd, 1) := by decide +kernel
theorem dX12_scan_252 : decode cX12_scan 252 = .ok (.putfield 30, 3) := by decide +kernel
theorem dX12_scan_255 : decode cX12_scan 255 = .ok (.return_, 1) := by decide +kernel
theorem dX12_is_0 : decode cX12_is 0 = .ok (.aload_n 0, 1) := by decide +kernel
theorem dX12_is_1 : decode cX12_is 1 = .ok (.getfield 37, 3) := by decide +kernel
theorem dX12_is_4 : decode cX12_is 4 = .ok (.iconst 1, 1) := by decide +kernel
theorem dX12_is_5 : decode cX12_is 5 = .ok (.if_icmp .ne 23, 3) := by decide +kernel
theorem dX12_is_8 : decode cX12_is 8 = .ok (.aload_n 0, 1) := by decide +kernel
theorem dX12_is_9 : decode cX12_is 9 = .ok (.getfield 30, 3) := by decide +kernel
theorem dX12_is_12 : decode cX12_is 12 = .ok (.aload_n 0, 1) := by decide +kernel
theorem dX12_is_13 : decode cX12_is 13 = .ok (.getfield 13, 3) := by decide +kernel
theorem dX12_is_16 : decode cX12_is 16 = .ok (.isub, 1) := by decide +kernel
theorem dX12_is_17 : decode cX12_is 17 = .ok (.aload_n 1, 1) := by decide +kernel
theorem dX12_is_18 : decode cX12_is 18 = .ok (.invokevirtual 50, 3) := by decide +kernel
theorem dX12_is_21 : decode cX12_is 21 = .ok (.if_icmp .ne 7, 3) := by decide +kernel
theorem dX12_is_24 : decode cX12_is 24 = .ok (.iconst 1, 1) := by decide +kernel
theorem dX12_is_25 : decode cX12_is 25 = .ok (.goto 4, 3) := by decide +kernel
theorem dX12_is_28 : decode cX12_is 28 = .ok (.iconst 0, 1) := by decide +kernel
theorem dX12_is_29 : decode cX12_is 29 = .ok (.istore_n 2, 1) := by decide +kernel
theorem dX12_is_30 : decode cX12_is 30 = .ok (.iconst 0, 1) := by decide +kernel
theorem dX12_is_31 : decode cX12_is 31 = .ok (.istore_n 3, 1) := by decide +kernel
theorem dX12_is_32 : decode cX12_is 32 = .ok (.iload_n 3, 1) := by decide +kernel
theorem dX12_is_33 : decode cX12_is 33 = .ok (.aload_n 1, 1) := by decide +kernel
theorem dX12_is_34 : decode cX12_is 34 = .ok (.invokevirtual 50, 3) := by decide +kernel
theorem dX12_is_37 : decode cX12_is 37 = .ok (.if_icmp .ge 38, 3) := by decide +kernel
theorem dX12_is_40 : decode cX12_is 40 = .ok (.iload_n 2, 1) := by decide +kernel
theorem dX12_is_41 : decode cX12_is 41 = .ok (.ifCond .eq 34, 3) := by decide +kernel
theorem dX12_is_44 : decode cX12_is 44 = .ok (.aload_n 0, 1) := by decide +kernel
theorem dX12_is_45 : decode cX12_is 45 = .ok (.getfield 26, 3) := by decide +kernel
theorem dX12_is_48 : decode cX12_is 48 = .ok (.aload_n 0, 1) := by decide +kernel
theorem dX12_is_49 : decode cX12_is 49 = .ok (.getfield 13, 3) := by decide +kernel
theorem dX12_is_52 : decode cX12_is 52 = .ok (.iload_n 3, 1) := by decide +kernel
theorem dX12_is_53 : decode cX12_is 53 = .ok (.iadd, 1) := by decide +kernel
theorem dX12_is_54 : decode cX12_is 54 = .ok (.baload, 1) := by decide +kernel
theorem dX12_is_55 : decode cX12_is 55 = .ok (.aload_n 1, 1) := by decide +kernel
theorem dX12_is_56 : decode cX12_is 56 = .ok (.iload_n 3, 1) := by decide +kernel
theorem dX12_is_57 : decode cX12_is 57 = .ok (.invokevirtual 56, 3) := by decide +kernel
theorem dX12_is_60 : decode cX12_is 60 = .ok (.if_icmp .ne 7, 3) := by decide +kernel
theorem dX12_is_63 : decode cX12_is 63 = .ok (.iconst 1, 1) := by decide +kernel
theorem dX12_is_64 : decode cX12_is 64 = .ok (.goto 4, 3) := by decide +kernel
theorem dX12_is_67 : decode cX12_is 67 = .ok (.iconst 0, 1) := by decide +kernel
theorem dX12_is_68 : decode cX12_is 68 = .ok (.istore_n 2, 1) := by decide +kernel
theorem dX12_is_69 : decode cX12_is 69 = .ok (.iinc 3 1, 3) := by decide +kernel
theorem dX12_is_72 : decode cX12_is 72 = .ok (.goto (-40), 3) := by decide +kernel
theorem dX12_is_75 : decode cX12_is 75 = .ok (.iload_n 2, 1) := by decide +kernel
theorem dX12_is_76 : decode cX12_is 76 = .ok (.ireturn, 1) := by decide +kernel
theorem dX12_need_0 : decode cX12_need 0 = .ok (.aload_n 0, 1) := by decide +kernel
theorem dX12_need_1 : decode cX12_need 1 = .ok (.aload_n 1, 1) := by decide +kernel
theorem dX12_need_2 : decode cX12_need 2 = .ok (.invokevirtual 60, 3) := by decide +kernel
theorem dX12_need_5 : decode cX12_need 5 = .ok (.ifCond .ne 9, 3) := by decide +kernel
theorem dX12_need_8 : decode cX12_need 8 = .ok (.aload_n 0, 1) := by decide +kernel
theorem dX12_need_9 : decode cX12_need 9 = .ok (.iconst 1, 1) := by decide +kernel
theorem dX12_need_10 : decode cX12_need 10 = .ok (.invokevirtual 64, 3) := by decide +kernel
theorem dX12_need_13 : decode cX12_need 13 = .ok (.athrow, 1) := by decide +kernel
theorem dX12_need_14 : decode cX12_need 14 = .ok (.aload_n 0, 1) := by decide +kernel
theorem dX12_need_15 : decode cX12_need 15 = .ok (.invokevirtual 68, 3) := by decide +kernel
theorem dX12_need_18 : decode cX12_need 18 = .ok (.return_, 1) := by decide +kernel
theorem dX12_number_0 : decode cX12_number 0 = .ok (.aload_n 0, 1) := by decide +kernel
theorem dX12_number_1 : decode cX12_number 1 = .ok (.getfield 37, 3) := by decide +kernel
theorem dX12_number_4 : decode cX12_number 4 = .ok (.iconst 2, 1) := by decide +kernel
theorem dX12_number_5 : decode cX12_number 5 = .ok (.if_icmp .eq 9, 3) := by decide +kernel
theorem dX12_number_8 : decode cX12_number 8 = .ok (.aload_n 0, 1) := by decide +kernel
theorem dX12_number_9 : decode cX12_number 9 = .ok (.iconst 1, 1) := by decide +kernel
theorem dX12_number_10 : decode cX12_number 10 = .ok (.invokevirtual 64, 3) := by decide +kernel
theorem dX12_number_13 : decode cX12_number 13 = .ok (.athrow, 1) := by decide +kernel
theorem dX12_number_14 : decode cX12_number 14 = .ok (.aload_n 0, 1) := by decide +kernel
theorem dX12_number_15 : decode cX12_number 15 = .ok (.getfield 47, 3) := by decide +kernel
theorem dX12_number_18 : decode cX12_number 18 = .ok (.i2l, 1) := by decide +kernel
theorem dX12_number_19 : decode cX12_number 19 = .ok (.iload_n 1, 1) := by decide +kernel
theorem dX12_number_20 : decode cX12_number 20 = .ok (.i2l, 1) := by decide +kernel
theorem dX12_number_21 : decode cX12_number 21 = .ok (.iload_n 2, 1) := by decide +kernel
theorem dX12_number_22 : decode cX12_number 22 = .ok (.i2l, 1) := by decide +kernel
theorem dX12_number_23 : decode cX12_number 23 = .ok (.invokestatic 5, 3) := by decide +kernel
theorem dX12_number_26 : decode cX12_number 26 = .ok (.ifCond .ne 9, 3) := by decide +kernel
theorem dX12_number_29 : decode cX12_number 29 = .ok (.aload_n 0, 1) := by decide +kernel
theorem dX12_number_30 : decode cX12_number 30 = .ok (.iconst 2, 1) := by decide +kernel
theorem dX12_number_31 : decode cX12_number 31 = .ok (.invokevirtual 64, 3) := by decide +kernel
theorem dX12_number_34 : decode cX12_number 34 = .ok (.athrow, 1) := by decide +kernel
theorem dX12_number_35 : decode cX12_number 35 = .ok (.aload_n 0, 1) := by decide +kernel
theorem dX12_number_36 : decode cX12_number 36 = .ok (.getfield 47, 3) := by decide +kernel
theorem dX12_number_39 : decode cX12_number 39 = .ok (.istore_n 3, 1) := by decide +kernel
theorem dX12_number_40 : decode cX12_number 40 = .ok (.aload_n 0, 1) := by decide +kernel
theorem dX12_number_41 : decode cX12_number 41 = .ok (.invokevirtual 68, 3) := by decide +kernel
theorem dX12_number_44 : decode cX12_number 44 = .ok (.iload_n 3, 1) := by decide +kernel
theorem dX12_number_45 : decode cX12_number 45 = .ok (.ireturn, 1) := by decide +kernel
theorem dX12_kindAtHand_0 : decode cX12_kindAtHand 0 = .ok (.aload_n 0, 1) := by decide +kernel
theorem dX12_kindAtHand_1 : decode cX12_kindAtHand 1 = .ok (.ldc 72, 2) := by decide +kernel
theorem dX12_kindAtHand_3 : decode cX12_kindAtHand 3 = .ok (.invokevirtual 60, 3) := by decide +kernel
theorem dX12_kindAtHand_6 : decode cX12_kindAtHand 6 = .ok (.ifCond .eq 5, 3) := by decide +kernel
theorem dX12_kindAtHand_9 : decode cX12_kindAtHand 9 = .ok (.iconst 0, 1) := by decide +kernel
theorem dX12_kindAtHand_10 : decode cX12_kindAtHand 10 = .ok (.ireturn, 1) := by decide +kernel
theorem dX12_kindAtHand_11 : decode cX12_kindAtHand 11 = .ok (.aload_n 0, 1) := by decide +kernel
theorem dX12_kindAtHand_12 : decode cX12_kindAtHand 12 = .ok (.ldc 74, 2) := by decide +kernel
theorem dX12_kindAtHand_14 : decode cX12_kindAtHand 14 = .ok (.invokevirtual 60, 3) := by decide +kernel
theorem dX12_kindAtHand_17 : decode cX12_kindAtHand 17 = .ok (.ifCond .eq 5, 3) := by decide +kernel
theorem dX12_kindAtHand_20 : decode cX12_kindAtHand 20 = .ok (.iconst 1, 1) := by decide +kernel
theorem dX12_kindAtHand_21 : decode cX12_kindAtHand 21 = .ok (.ireturn, 1) := by decide +kernel
theorem dX12_kindAtHand_22 : decode cX12_kindAtHand 22 = .ok (.aload_n 0, 1) := by decide +kernel
theorem dX12_kindAtHand_23 : decode cX12_kindAtHand 23 = .ok (.ldc 76, 2) := by decide +kernel
theorem dX12_kindAtHand_25 : decode cX12_kindAtHand 25 = .ok (.invokevirtual 60, 3) := by decide +kernel
theorem dX12_kindAtHand_28 : decode cX12_kindAtHand 28 = .ok (.ifCond .eq 5, 3) := by decide +kernel
theorem dX12_kindAtHand_31 : decode cX12_kindAtHand 31 = .ok (.iconst 2, 1) := by decide +kernel
theorem dX12_kindAtHand_32 : decode cX12_kindAtHand 32 = .ok (.ireturn, 1) := by decide +kernel
theorem dX12_kindAtHand_33 : decode cX12_kindAtHand 33 = .ok (.aload_n 0, 1) := by decide +kernel
theorem dX12_kindAtHand_34 : decode cX12_kindAtHand 34 = .ok (.ldc 78, 2) := by decide +kernel
theorem dX12_kindAtHand_36 : decode cX12_kindAtHand 36 = .ok (.invokevirtual 60, 3) := by decide +kernel
theorem dX12_kindAtHand_39 : decode cX12_kindAtHand 39 = .ok (.ifCond .eq 5, 3) := by decide +kernel
theorem dX12_kindAtHand_42 : decode cX12_kindAtHand 42 = .ok (.iconst 3, 1) := by decide +kernel
theorem dX12_kindAtHand_43 : decode cX12_kindAtHand 43 = .ok (.ireturn, 1) := by decide +kernel
theorem dX12_kindAtHand_44 : decode cX12_kindAtHand 44 = .ok (.aload_n 0, 1) := by decide +kernel
theorem dX12_kindAtHand_45 : decode cX12_kindAtHand 45 = .ok (.ldc 80, 2) := by decide +kernel
theorem dX12_kindAtHand_47 : decode cX12_kindAtHand 47 = .ok (.invokevirtual 60, 3) := by decide +kernel
theorem dX12_kindAtHand_50 : decode cX12_kindAtHand 50 = .ok (.ifCond .eq 5, 3) := by decide +kernel
theorem dX12_kindAtHand_53 : decode cX12_kindAtHand 53 = .ok (.iconst 4, 1) := by decide +kernel
theorem dX12_kindAtHand_54 : decode cX12_kindAtHand 54 = .ok (.ireturn, 1) := by decide +kernel
theorem dX12_kindAtHand_55 : decode cX12_kindAtHand 55 = .ok (.aload_n 0, 1) := by decide +kernel
theorem dX12_kindAtHand_56 : decode cX12_kindAtHand 56 = .ok (.ldc 82, 2) := by decide +kernel
theorem dX12_kindAtHand_58 : decode cX12_kindAtHand 58 = .ok (.invokevirtual 60, 3) := by decide +kernel
theorem dX12_kindAtHand_61 : decode cX12_kindAtHand 61 = .ok (.ifCond .eq 5, 3) := by decide +kernel
theorem dX12_kindAtHand_64 : decode cX12_kindAtHand 64 = .ok (.iconst 5, 1) := by decide +kernel
theorem dX12_kindAtHand_65 : decode cX12_kindAtHand 65 = .ok (.ireturn, 1) := by decide +kernel
theorem dX12_kindAtHand_66 : decode cX12_kindAtHand 66 = .ok (.aload_n 0, 1) := by decide +kernel
theorem dX12_kindAtHand_67 : decode cX12_kindAtHand 67 = .ok (.ldc 84, 2) := by decide +kernel
theorem dX12_kindAtHand_69 : decode cX12_kindAtHand 69 = .ok (.invokevirtual 60, 3) := by decide +kernel
theorem dX12_kindAtHand_72 : decode cX12_kindAtHand 72 = .ok (.ifCond .eq 6, 3) := by decide +kernel
theorem dX12_kindAtHand_75 : decode cX12_kindAtHand 75 = .ok (.bipush 6, 2) := by decide +kernel
theorem dX12_kindAtHand_77 : decode cX12_kindAtHand 77 = .ok (.ireturn, 1) := by decide +kernel
theorem dX12_kindAtHand_78 : decode cX12_kindAtHand 78 = .ok (.aload_n 0, 1) := by decide +kernel
theorem dX12_kindAtHand_79 : decode cX12_kindAtHand 79 = .ok (.ldc 86, 2) := by decide +kernel
theorem dX12_kindAtHand_81 : decode cX12_kindAtHand 81 = .ok (.invokevirtual 60, 3) := by decide +kernel
theorem dX12_kindAtHand_84 : decode cX12_kindAtHand 84 = .ok (.ifCond .eq 8, 3) := by decide +kernel
theorem dX12_kindAtHand_87 : decode cX12_kindAtHand 87 = .ok (.bipush 7, 2) := by decide +kernel
theorem dX12_kindAtHand_89 : decode cX12_kindAtHand 89 = .ok (.goto 4, 3) := by decide +kernel
theorem dX12_kindAtHand_92 : decode cX12_kindAtHand 92 = .ok (.iconst (-1), 1) := by decide +kernel
theorem dX12_kindAtHand_93 : decode cX12_kindAtHand 93 = .ok (.ireturn, 1) := by decide +kernel
theorem dX12_readAct_0 : decode cX12_readAct 0 = .ok (.aload_n 0, 1) := by decide +kernel
theorem dX12_readAct_1 : decode cX12_readAct 1 = .ok (.getfield 88, 3) := by decide +kernel
theorem dX12_readAct_4 : decode cX12_readAct 4 = .ok (.iload_n 1, 1) := by decide +kernel
theorem dX12_readAct_5 : decode cX12_readAct 5 = .ok (.iconst 0, 1) := by decide +kernel
theorem dX12_readAct_6 : decode cX12_readAct 6 = .ok (.iastore, 1) := by decide +kernel
theorem dX12_readAct_7 : decode cX12_readAct 7 = .ok (.aload_n 0, 1) := by decide +kernel
theorem dX12_readAct_8 : decode cX12_readAct 8 = .ok (.getfield 92, 3) := by decide +kernel
theorem dX12_readAct_11 : decode cX12_readAct 11 = .ok (.iload_n 1, 1) := by decide +kernel
theorem dX12_readAct_12 : decode cX12_readAct 12 = .ok (.iconst 0, 1) := by decide +kernel
theorem dX12_readAct_13 : decode cX12_readAct 13 = .ok (.iastore, 1) := by decide +kernel
theorem dX12_readAct_14 : decode cX12_readAct 14 = .ok (.aload_n 0, 1) := by decide +kernel
theorem dX12_readAct_15 : decode cX12_readAct 15 = .ok (.getfield 95, 3) := by decide +kernel
theorem dX12_readAct_18 : decode cX12_readAct 18 = .ok (.iload_n 1, 1) := by decide +kernel
theorem dX12_readAct_19 : decode cX12_readAct 19 = .ok (.iconst (-1), 1) := by decide +kernel
theorem dX12_readAct_20 : decode cX12_readAct 20 = .ok (.iastore, 1) := by decide +kernel
theorem dX12_readAct_21 : decode cX12_readAct 21 = .ok (.aload_n 0, 1) := by decide +kernel
theorem dX12_readAct_22 : decode cX12_readAct 22 = .ok (.getfield 98, 3) := by decide +kernel
theorem dX12_readAct_25 : decode cX12_readAct 25 = .ok (.iload_n 1, 1) := by decide +kernel
theorem dX12_readAct_26 : decode cX12_readAct 26 = .ok (.iconst 0, 1) := by decide +kernel
theorem dX12_readAct_27 : decode cX12_readAct 27 = .ok (.iastore, 1) := by decide +kernel
theorem dX12_readAct_28 : decode cX12_readAct 28 = .ok (.aload_n 0, 1) := by decide +kernel
theorem dX12_readAct_29 : decode cX12_readAct 29 = .ok (.iconst 0, 1) := by decide +kernel
theorem dX12_readAct_30 : decode cX12_readAct 30 = .ok (.putfield 101, 3) := by decide +kernel
theorem dX12_readAct_33 : decode cX12_readAct 33 = .ok (.aload_n 0, 1) := by decide +kernel
theorem dX12_readAct_34 : decode cX12_readAct 34 = .ok (.getfield 37, 3) := by decide +kernel
theorem dX12_readAct_37 : decode cX12_readAct 37 = .ok (.ifCond .eq 48, 3) := by decide +kernel
theorem dX12_readAct_40 : decode cX12_readAct 40 = .ok (.aload_n 0, 1) := by decide +kernel
theorem dX12_readAct_41 : decode cX12_readAct 41 = .ok (.invokevirtual 105, 3) := by decide +kernel
theorem dX12_readAct_44 : decode cX12_readAct 44 = .ok (.istore_n 2, 1) := by decide +kernel
theorem dX12_readAct_45 : decode cX12_readAct 45 = .ok (.iload_n 2, 1) := by decide +kernel
theorem dX12_readAct_46 : decode cX12_readAct 46 = .ok (.iconst (-1), 1) := by decide +kernel
theorem dX12_readAct_47 : decode cX12_readAct 47 = .ok (.if_icmp .eq 12, 3) := by decide +kernel
theorem dX12_readAct_50 : decode cX12_readAct 50 = .ok (.aload_n 0, 1) := by decide +kernel
theorem dX12_readAct_51 : decode cX12_readAct 51 = .ok (.iload_n 1, 1) := by decide +kernel
theorem dX12_readAct_52 : decode cX12_readAct 52 = .ok (.iload_n 2, 1) := by decide +kernel
theorem dX12_readAct_53 : decode cX12_readAct 53 = .ok (.invokevirtual 108, 3) := by decide +kernel
theorem dX12_readAct_56 : decode cX12_readAct 56 = .ok (.goto 8, 3) := by decide +kernel
theorem dX12_readAct_59 : decode cX12_readAct 59 = .ok (.aload_n 0, 1) := by decide +kernel
theorem dX12_readAct_60 : decode cX12_readAct 60 = .ok (.iload_n 1, 1) := by decide +kernel
theorem dX12_readAct_61 : decode cX12_readAct 61 = .ok (.invokevirtual 112, 3) := by decide +kernel
theorem dX12_readAct_64 : decode cX12_readAct 64 = .ok (.aload_n 0, 1) := by decide +kernel
theorem dX12_readAct_65 : decode cX12_readAct 65 = .ok (.getfield 37, 3) := by decide +kernel
theorem dX12_readAct_68 : decode cX12_readAct 68 = .ok (.iconst 3, 1) := by decide +kernel
theorem dX12_readAct_69 : decode cX12_readAct 69 = .ok (.if_icmp .eq 9, 3) := by decide +kernel
theorem dX12_readAct_72 : decode cX12_readAct 72 = .ok (.aload_n 0, 1) := by decide +kernel
theorem dX12_readAct_73 : decode cX12_readAct 73 = .ok (.iconst 1, 1) := by decide +kernel
theorem dX12_readAct_74 : decode cX12_readAct 74 = .ok (.invokevirtual 64, 3) := by decide +kernel
theorem dX12_readAct_77 : decode cX12_readAct 77 = .ok (.athrow, 1) := by decide +kernel
theorem dX12_readAct_78 : decode cX12_readAct 78 = .ok (.aload_n 0, 1) := by decide +kernel
theorem dX12_readAct_79 : decode cX12_readAct 79 = .ok (.invokevirtual 68, 3) := by decide +kernel
theorem dX12_readAct_82 : decode cX12_readAct 82 = .ok (.goto (-49), 3) := by decide +kernel
theorem dX12_readAct_85 : decode cX12_readAct 85 = .ok (.return_, 1) := by decide +kernel
theorem dX12_readOther_0 : decode cX12_readOther 0 = .ok (.aload_n 0, 1) := by decide +kernel
theorem dX12_readOther_1 : decode cX12_readOther 1 = .ok (.ldc 116, 2) := by decide +kernel
theorem dX12_readOther_3 : decode cX12_readOther 3 = .ok (.invokevirtual 60, 3) := by decide +kernel
theorem dX12_readOther_6 : decode cX12_readOther 6 = .ok (.ifCond .eq 76, 3) := by decide +kernel
theorem dX12_readOther_9 : decode cX12_readOther 9 = .ok (.aload_n 0, 1) := by decide +kernel
theorem dX12_readOther_10 : decode cX12_readOther 10 = .ok (.invokevirtual 68, 3) := by decide +kernel
theorem dX12_readOther_13 : decode cX12_readOther 13 = .ok (.aload_n 0, 1) := by decide +kernel
theorem dX12_readOther_14 : decode cX12_readOther 14 = .ok (.getfield 37, 3) := by decide +kernel
theorem dX12_readOther_17 : decode cX12_readOther 17 = .ok (.iconst 2, 1) := by decide +kernel
theorem dX12_readOther_18 : decode cX12_readOther 18 = .ok (.if_icmp .ne 37, 3) := by decide +kernel
theorem dX12_readOther_21 : decode cX12_readOther 21 = .ok (.aload_n 0, 1) := by decide +kernel
theorem dX12_readOther_22 : decode cX12_readOther 22 = .ok (.getfield 47, 3) := by decide +kernel
theorem dX12_readOther_25 : decode cX12_readOther 25 = .ok (.aload_n 0, 1) := by decide +kernel
theorem dX12_readOther_26 : decode cX12_readOther 26 = .ok (.getfield 118, 3) := by decide +kernel
theorem dX12_readOther_29 : decode cX12_readOther 29 = .ok (.if_icmp .ge 26, 3) := by decide +kernel
theorem dX12_readOther_32 : decode cX12_readOther 32 = .ok (.aload_n 0, 1) := by decide +kernel
theorem dX12_readOther_33 : decode cX12_readOther 33 = .ok (.getfield 98, 3) := by decide +kernel
theorem dX12_readOther_36 : decode cX12_readOther 36 = .ok (.iload_n 1, 1) := by decide +kernel
theorem dX12_readOther_37 : decode cX12_readOther 37 = .ok (.iaload, 1) := by decide +kernel
theorem dX12_readOther_38 : decode cX12_readOther 38 = .ok (.aload_n 0, 1) := by decide +kernel
theorem dX12_readOther_39 : decode cX12_readOther 39 = .ok (.getfield 47, 3) := by decide +kernel
theorem dX12_readOther_42 : decode cX12_readOther 42 = .ok (.ishr, 1) := by decide +kernel
theorem dX12_readOther_43 : decode cX12_readOther 43 = .ok (.iconst 1, 1) := by decide +kernel
theorem dX12_readOther_44 : decode cX12_readOther 44 = .ok (.iand, 1) := by decide +kernel
theorem dX12_readOther_45 : decode cX12_readOther 45 = .ok (.iconst 1, 1) := by decide +kernel
theorem dX12_readOther_46 : decode cX12_readOther 46 = .ok (.if_icmp .ne 9, 3) := by decide +kernel
theorem dX12_readOther_49 : decode cX12_readOther 49 = .ok (.aload_n 0, 1) := by decide +kernel
theorem dX12_readOther_50 : decode cX12_readOther 50 = .ok (.iconst 3, 1) := by decide +kernel
theorem dX12_readOther_51 : decode cX12_readOther 51 = .ok (.invokevirtual 64, 3) := by decide +kernel
theorem dX12_readOther_54 : decode cX12_readOther 54 = .ok (.athrow, 1) := by decide +kernel
theorem dX12_readOther_55 : decode cX12_readOther 55 = .ok (.aload_n 0, 1) := by decide +kernel
theorem dX12_readOther_56 : decode cX12_readOther 56 = .ok (.iconst 0, 1) := by decide +kernel
theorem dX12_readOther_57 : decode cX12_readOther 57 = .ok (.aload_n 0, 1) := by decide +kernel
theorem dX12_readOther_58 : decode cX12_readOther 58 = .ok (.getfield 118, 3) := by decide +kernel
theorem dX12_readOther_61 : decode cX12_readOther 61 = .ok (.iconst 1, 1) := by decide +kernel
theorem dX12_readOther_62 : decode cX12_readOther 62 = .ok (.isub, 1) := by decide +kernel
theorem dX12_readOther_63 : decode cX12_readOther 63 = .ok (.invokevirtual 121, 3) := by decide +kernel
theorem dX12_readOther_66 : decode cX12_readOther 66 = .ok (.istore_n 2, 1) := by decide +kernel
theorem dX12_readOther_67 : decode cX12_readOther 67 = .ok (.aload_n 0, 1) := by decide +kernel
theorem dX12_readOther_68 : decode cX12_readOther 68 = .ok (.getfield 98, 3) := by decide +kernel
theorem dX12_readOther_71 : decode cX12_readOther 71 = .ok (.iload_n 1, 1) := by decide +kernel
theorem dX12_readOther_72 : decode cX12_readOther 72 = .ok (.dup2, 1) := by decide +kernel
theorem dX12_readOther_73 : decode cX12_readOther 73 = .ok (.iaload, 1) := by decide +kernel
theorem dX12_readOther_74 : decode cX12_readOther 74 = .ok (.iconst 1, 1) := by decide +kernel
theorem dX12_readOther_75 : decode cX12_readOther 75 = .ok (.iload_n 2, 1) := by decide +kernel
theorem dX12_readOther_76 : decode cX12_readOther 76 = .ok (.ishl, 1) := by decide +kernel
theorem dX12_readOther_77 : decode cX12_readOther 77 = .ok (.ior, 1) := by decide +kernel
theorem dX12_readOther_78 : decode cX12_readOther 78 = .ok (.iastore, 1) := by decide +kernel
theorem dX12_readOther_79 : decode cX12_readOther 79 = .ok (.goto 102, 3) := by decide +kernel
theorem dX12_readOther_82 : decode cX12_readOther 82 = .ok (.aload_n 0, 1) := by decide +kernel
theorem dX12_readOther_83 : decode cX12_readOther 83 = .ok (.ldc 125, 2) := by decide +kernel
theorem dX12_readOther_85 : decode cX12_readOther 85 = .ok (.invokevirtual 60, 3) := by decide +kernel
theorem dX12_readOther_88 : decode cX12_readOther 88 = .ok (.ifCond .eq 42, 3) := by decide +kernel
theorem dX12_readOther_91 : decode cX12_readOther 91 = .ok (.aload_n 0, 1) := by decide +kernel
theorem dX12_readOther_92 : decode cX12_readOther 92 = .ok (.getfield 101, 3) := by decide +kernel
theorem dX12_readOther_95 : decode cX12_readOther 95 = .ok (.ifCond .eq 9, 3) := by decide +kernel
theorem dX12_readOther_98 : decode cX12_readOther 98 = .ok (.aload_n 0, 1) := by decide +kernel
theorem dX12_readOther_99 : decode cX12_readOther 99 = .ok (.iconst 3, 1) := by decide +kernel
theorem dX12_readOther_100 : decode cX12_readOther 100 = .ok (.invokevirtual 64, 3) := by decide +kernel
theorem dX12_readOther_103 : decode cX12_readOther 103 = .ok (.athrow, 1) := by decide +kernel
theorem dX12_readOther_104 : decode cX12_readOther 104 = .ok (.aload_n 0, 1) := by decide +kernel
theorem dX12_readOther_105 : decode cX12_readOther 105 = .ok (.iconst 1, 1) := by decide +kernel
theorem dX12_readOther_106 : decode cX12_readOther 106 = .ok (.putfield 101, 3) := by decide +kernel
theorem dX12_readOther_109 : decode cX12_readOther 109 = .ok (.aload_n 0, 1) := by decide +kernel
theorem dX12_readOther_110 : decode cX12_readOther 110 = .ok (.invokevirtual 68, 3) := by decide +kernel
theorem dX12_readOther_113 : decode cX12_readOther 113 = .ok (.aload_n 0, 1) := by decide +kernel
theorem dX12_readOther_114 : decode cX12_readOther 114 = .ok (.getfield 92, 3) := by decide +kernel
theorem dX12_readOther_117 : decode cX12_readOther 117 = .ok (.iload_n 1, 1) := by decide +kernel
theorem dX12_readOther_118 : decode cX12_readOther 118 = .ok (.aload_n 0, 1) := by decide +kernel
theorem dX12_readOther_119 : decode cX12_readOther 119 = .ok (.iconst 0, 1) := by decide +kernel
theorem dX12_readOther_120 : decode cX12_readOther 120 = .ok (.sipush 9999, 3) := by decide +kernel
theorem dX12_readOther_123 : decode cX12_readOther 123 = .ok (.invokevirtual 121, 3) := by decide +kernel
theorem dX12_readOther_126 : decode cX12_readOther 126 = .ok (.iastore, 1) := by decide +kernel
theorem dX12_readOther_127 : decode cX12_readOther 127 = .ok (.goto 54, 3) := by decide +kernel
theorem dX12_readOther_130 : decode cX12_readOther 130 = .ok (.aload_n 0, 1) := by decide +kernel
theorem dX12_readOther_131 : decode cX12_readOther 131 = .ok (.ldc 126, 2) := by decide +kernel
theorem dX12_readOther_133 : decode cX12_readOther 133 = .ok (.invokevirtual 60, 3) := by decide +kernel
theorem dX12_readOther_136 : decode cX12_readOther 136 = .ok (.ifCond .eq 39, 3) := by decide +kernel
theorem dX12_readOther_139 : decode cX12_readOther 139 = .ok (.aload_n 0, 1) := by decide +kernel
theorem dX12_readOther_140 : decode cX12_readOther 140 = .ok (.getfield 95, 3) := by decide +kernel
theorem dX12_readOther_143 : decode cX12_readOther 143 = .ok (.iload_n 1, 1) := by decide +kernel
theorem dX12_readOther_144 : decode cX12_readOther 144 = .ok (.iaload, 1) := by decide +kernel
theorem dX12_readOther_145 : decode cX12_readOther 145 = .ok (.iconst (-1), 1) := by decide +kernel
theorem dX12_readOther_146 : decode cX12_readOther 146 = .ok (.if_icmp .eq 9, 3) := by decide +kernel
theorem dX12_readOther_149 : decode cX12_readOther 149 = .ok (.aload_n 0, 1) := by decide +kernel
theorem dX12_readOther_150 : decode cX12_readOther 150 = .ok (.iconst 3, 1) := by decide +kernel
theorem dX12_readOther_151 : decode cX12_readOther 151 = .ok (.invokevirtual 64, 3) := by decide +kernel
theorem dX12_readOther_154 : decode cX12_readOther 154 = .ok (.athrow, 1) := by decide +kernel
theorem dX12_readOther_155 : decode cX12_readOther 155 = .ok (.aload_n 0, 1) := by decide +kernel
theorem dX12_readOther_156 : decode cX12_readOther 156 = .ok (.invokevirtual 68, 3) := by decide +kernel
theorem dX12_readOther_159 : decode cX12_readOther 159 = .ok (.aload_n 0, 1) := by decide +kernel
theorem dX12_readOther_160 : decode cX12_readOther 160 = .ok (.getfield 95, 3) := by decide +kernel
theorem dX12_readOther_163 : decode cX12_readOther 163 = .ok (.iload_n 1, 1) := by decide +kernel
theorem dX12_readOther_164 : decode cX12_readOther 164 = .ok (.aload_n 0, 1) := by decide +kernel
theorem dX12_readOther_165 : decode cX12_readOther 165 = .ok (.iconst 0, 1) := by decide +kernel
theorem dX12_readOther_166 : decode cX12_readOther 166 = .ok (.bipush 100, 2) := by decide +kernel
theorem dX12_readOther_168 : decode cX12_readOther 168 = .ok (.invokevirtual 121, 3) := by decide +kernel
theorem dX12_readOther_171 : decode cX12_readOther 171 = .ok (.iastore, 1) := by decide +kernel
theorem dX12_readOther_172 : decode cX12_readOther 172 = .ok (.goto 9, 3) := by decide +kernel
theorem dX12_readOther_175 : decode cX12_readOther 175 = .ok (.aload_n 0, 1) := by decide +kernel
theorem dX12_readOther_176 : decode cX12_readOther 176 = .ok (.iconst 1, 1) := by decide +kernel
theorem dX12_readOther_177 : decode cX12_readOther 177 = .ok (.invokevirtual 64, 3) := by decide +kernel
theorem dX12_readOther_180 : decode cX12_readOther 180 = .ok (.athrow, 1) := by decide +kernel
theorem dX12_readOther_181 : decode cX12_readOther 181 = .ok (.return_, 1) := by decide +kernel
theorem dX12_readRule_0 : decode cX12_readRule 0 = .ok (.aload_n 0, 1) := by decide +kernel
theorem dX12_readRule_1 : decode cX12_readRule 1 = .ok (.getfield 88, 3) := by decide +kernel
theorem dX12_readRule_4 : decode cX12_readRule 4 = .ok (.iload_n 1, 1) := by decide +kernel
theorem dX12_readRule_5 : decode cX12_readRule 5 = .ok (.iaload, 1) := by decide +kernel
theorem dX12_readRule_6 : decode cX12_readRule 6 = .ok (.bipush 12, 2) := by decide +kernel
theorem dX12_readRule_8 : decode cX12_readRule 8 = .ok (.if_icmp .ne 9, 3) := by decide +kernel
theorem dX12_readRule_11 : decode cX12_readRule 11 = .ok (.aload_n 0, 1) := by decide +kernel
theorem dX12_readRule_12 : decode cX12_readRule 12 = .ok (.iconst 4, 1) := by decide +kernel
theorem dX12_readRule_13 : decode cX12_readRule 13 = .ok (.invokevirtual 64, 3) := by decide +kernel
theorem dX12_readRule_16 : decode cX12_readRule 16 = .ok (.athrow, 1) := by decide +kernel
theorem dX12_readRule_17 : decode cX12_readRule 17 = .ok (.bipush 12, 2) := by decide +kernel
theorem dX12_readRule_19 : decode cX12_readRule 19 = .ok (.iload_n 1, 1) := by decide +kernel
theorem dX12_readRule_20 : decode cX12_readRule 20 = .ok (.imul, 1) := by decide +kernel
theorem dX12_readRule_21 : decode cX12_readRule 21 = .ok (.aload_n 0, 1) := by decide +kernel
theorem dX12_readRule_22 : decode cX12_readRule 22 = .ok (.getfield 88, 3) := by decide +kernel
theorem dX12_readRule_25 : decode cX12_readRule 25 = .ok (.iload_n 1, 1) := by decide +kernel
theorem dX12_readRule_26 : decode cX12_readRule 26 = .ok (.iaload, 1) := by decide +kernel
theorem dX12_readRule_27 : decode cX12_readRule 27 = .ok (.iadd, 1) := by decide +kernel
theorem dX12_readRule_28 : decode cX12_readRule 28 = .ok (.istore_n 3, 1) := by decide +kernel
theorem dX12_readRule_29 : decode cX12_readRule 29 = .ok (.aload_n 0, 1) := by decide +kernel
theorem dX12_readRule_30 : decode cX12_readRule 30 = .ok (.getfield 127, 3) := by decide +kernel
theorem dX12_readRule_33 : decode cX12_readRule 33 = .ok (.iload_n 3, 1) := by decide +kernel
theorem dX12_readRule_34 : decode cX12_readRule 34 = .ok (.iload_n 2, 1) := by decide +kernel
theorem dX12_readRule_35 : decode cX12_readRule 35 = .ok (.iastore, 1) := by decide +kernel
theorem dX12_readRule_36 : decode cX12_readRule 36 = .ok (.aload_n 0, 1) := by decide +kernel
theorem dX12_readRule_37 : decode cX12_readRule 37 = .ok (.invokevirtual 68, 3) := by decide +kernel
theorem dX12_readRule_40 : decode cX12_readRule 40 = .ok (.aload_n 0, 1) := by decide +kernel
theorem dX12_readRule_41 : decode cX12_readRule 41 = .ok (.getfield 130, 3) := by decide +kernel
theorem dX12_readRule_44 : decode cX12_readRule 44 = .ok (.iload_n 3, 1) := by decide +kernel
theorem dX12_readRule_45 : decode cX12_readRule 45 = .ok (.aload_n 0, 1) := by decide +kernel
theorem dX12_readRule_46 : decode cX12_readRule 46 = .ok (.iconst 0, 1) := by decide +kernel
theorem dX12_readRule_47 : decode cX12_readRule 47 = .ok (.iload_n 2, 1) := by decide +kernel
theorem dX12_readRule_48 : decode cX12_readRule 48 = .ok (.iconst 5, 1) := by decide +kernel
theorem dX12_readRule_49 : decode cX12_readRule 49 = .ok (.if_icmp .ne 8, 3) := by decide +kernel
theorem dX12_readRule_52 : decode cX12_readRule 52 = .ok (.bipush 15, 2) := by decide +kernel
theorem dX12_readRule_54 : decode cX12_readRule 54 = .ok (.goto 17, 3) := by decide +kernel
theorem dX12_readRule_57 : decode cX12_readRule 57 = .ok (.iload_n 2, 1) := by decide +kernel
theorem dX12_readRule_58 : decode cX12_readRule 58 = .ok (.bipush 6, 2) := by decide +kernel
theorem dX12_readRule_60 : decode cX12_readRule 60 = .ok (.if_icmp .lt 8, 3) := by decide +kernel
theorem dX12_readRule_63 : decode cX12_readRule 63 = .ok (.bipush 7, 2) := by decide +kernel
theorem dX12_readRule_65 : decode cX12_readRule 65 = .ok (.goto 6, 3) := by decide +kernel
theorem dX12_readRule_68 : decode cX12_readRule 68 = .ok (.sipush 9999, 3) := by decide +kernel
theorem dX12_readRule_71 : decode cX12_readRule 71 = .ok (.invokevirtual 121, 3) := by decide +kernel
theorem dX12_readRule_74 : decode cX12_readRule 74 = .ok (.iastore, 1) := by decide +kernel
theorem dX12_readRule_75 : decode cX12_readRule 75 = .ok (.aload_n 0, 1) := by decide +kernel
theorem dX12_readRule_76 : decode cX12_readRule 76 = .ok (.getfield 132, 3) := by decide +kernel
theorem dX12_readRule_79 : decode cX12_readRule 79 = .ok (.iload_n 3, 1) := by decide +kernel
theorem dX12_readRule_80 : decode cX12_readRule 80 = .ok (.iconst 0, 1) := by decide +kernel
theorem dX12_readRule_81 : decode cX12_readRule 81 = .ok (.iastore, 1) := by decide +kernel
theorem dX12_readRule_82 : decode cX12_readRule 82 = .ok (.aload_n 0, 1) := by decide +kernel
theorem dX12_readRule_83 : decode cX12_readRule 83 = .ok (.getfield 135, 3) := by decide +kernel
theorem dX12_readRule_86 : decode cX12_readRule 86 = .ok (.iload_n 3, 1) := by decide +kernel
theorem dX12_readRule_87 : decode cX12_readRule 87 = .ok (.bipush 9, 2) := by decide +kernel
theorem dX12_readRule_89 : decode cX12_readRule 89 = .ok (.iastore, 1) := by decide +kernel
theorem dX12_readRule_90 : decode cX12_readRule 90 = .ok (.aload_n 0, 1) := by decide +kernel
theorem dX12_readRule_91 : decode cX12_readRule 91 = .ok (.ldc 138, 2) := by decide +kernel
theorem dX12_readRule_93 : decode cX12_readRule 93 = .ok (.invokevirtual 60, 3) := by decide +kernel
theorem dX12_readRule_96 : decode cX12_readRule 96 = .ok (.ifCond .eq 10, 3) := by decide +kernel
theorem dX12_readRule_99 : decode cX12_readRule 99 = .ok (.aload_n 0, 1) := by decide +kernel
theorem dX12_readRule_100 : decode cX12_readRule 100 = .ok (.invokevirtual 68, 3) := by decide +kernel
theorem dX12_readRule_103 : decode cX12_readRule 103 = .ok (.goto 46, 3) := by decide +kernel
theorem dX12_readRule_106 : decode cX12_readRule 106 = .ok (.aload_n 0, 1) := by decide +kernel
theorem dX12_readRule_107 : decode cX12_readRule 107 = .ok (.ldc 140, 2) := by decide +kernel
theorem dX12_readRule_109 : decode cX12_readRule 109 = .ok (.invokevirtual 142, 3) := by decide +kernel
theorem dX12_readRule_112 : decode cX12_readRule 112 = .ok (.aload_n 0, 1) := by decide +kernel
theorem dX12_readRule_113 : decode cX12_readRule 113 = .ok (.getfield 132, 3) := by decide +kernel
theorem dX12_readRule_116 : decode cX12_readRule 116 = .ok (.iload_n 3, 1) := by decide +kernel
theorem dX12_readRule_117 : decode cX12_readRule 117 = .ok (.aload_n 0, 1) := by decide +kernel
theorem dX12_readRule_118 : decode cX12_readRule 118 = .ok (.iconst 0, 1) := by decide +kernel
theorem dX12_readRule_119 : decode cX12_readRule 119 = .ok (.bipush 9, 2) := by decide +kernel
theorem dX12_readRule_121 : decode cX12_readRule 121 = .ok (.invokevirtual 121, 3) := by decide +kernel
theorem dX12_readRule_124 : decode cX12_readRule 124 = .ok (.iastore, 1) := by decide +kernel
theorem dX12_readRule_125 : decode cX12_readRule 125 = .ok (.aload_n 0, 1) := by decide +kernel
theorem dX12_readRule_126 : decode cX12_readRule 126 = .ok (.ldc 146, 2) := by decide +kernel
theorem dX12_readRule_128 : decode cX12_readRule 128 = .ok (.invokevirtual 142, 3) := by decide +kernel
theorem dX12_readRule_131 : decode cX12_readRule 131 = .ok (.aload_n 0, 1) := by decide +kernel
theorem dX12_readRule_132 : decode cX12_readRule 132 = .ok (.getfield 135, 3) := by decide +kernel
theorem dX12_readRule_135 : decode cX12_readRule 135 = .ok (.iload_n 3, 1) := by decide +kernel
theorem dX12_readRule_136 : decode cX12_readRule 136 = .ok (.aload_n 0, 1) := by decide +kernel
theorem dX12_readRule_137 : decode cX12_readRule 137 = .ok (.aload_n 0, 1) := by decide +kernel
theorem dX12_readRule_138 : decode cX12_readRule 138 = .ok (.getfield 132, 3) := by decide +kernel
theorem dX12_readRule_141 : decode cX12_readRule 141 = .ok (.iload_n 3, 1) := by decide +kernel
theorem dX12_readRule_142 : decode cX12_readRule 142 = .ok (.iaload, 1) := by decide +kernel
theorem dX12_readRule_143 : decode cX12_readRule 143 = .ok (.bipush 9, 2) := by decide +kernel
theorem dX12_readRule_145 : decode cX12_readRule 145 = .ok (.invokevirtual 121, 3) := by decide +kernel
theorem dX12_readRule_148 : decode cX12_readRule 148 = .ok (.iastore, 1) := by decide +kernel
theorem dX12_readRule_149 : decode cX12_readRule 149 = .ok (.aload_n 0, 1) := by decide +kernel
theorem dX12_readRule_150 : decode cX12_readRule 150 = .ok (.getfield 148, 3) := by decide +kernel
theorem dX12_readRule_153 : decode cX12_readRule 153 = .ok (.iload_n 3, 1) := by decide +kernel
theorem dX12_readRule_154 : decode cX12_readRule 154 = .ok (.aload_n 0, 1) := by decide +kernel
theorem dX12_readRule_155 : decode cX12_readRule 155 = .ok (.ldc 151, 2) := by decide +kernel
theorem dX12_readRule_157 : decode cX12_readRule 157 = .ok (.invokevirtual 60, 3) := by decide +kernel
theorem dX12_readRule_160 : decode cX12_readRule 160 = .ok (.ifCond .eq 7, 3) := by decide +kernel
theorem dX12_readRule_163 : decode cX12_readRule 163 = .ok (.iconst 0, 1) := by decide +kernel
theorem dX12_readRule_164 : decode cX12_readRule 164 = .ok (.goto 43, 3) := by decide +kernel
theorem dX12_readRule_167 : decode cX12_readRule 167 = .ok (.aload_n 0, 1) := by decide +kernel
theorem dX12_readRule_168 : decode cX12_readRule 168 = .ok (.ldc 153, 2) := by decide +kernel
theorem dX12_readRule_170 : decode cX12_readRule 170 = .ok (.invokevirtual 60, 3) := by decide +kernel
theorem dX12_readRule_173 : decode cX12_readRule 173 = .ok (.ifCond .eq 7, 3) := by decide +kernel
theorem dX12_readRule_176 : decode cX12_readRule 176 = .ok (.iconst 1, 1) := by decide +kernel
theorem dX12_readRule_177 : decode cX12_readRule 177 = .ok (.goto 30, 3) := by decide +kernel
theorem dX12_readRule_180 : decode cX12_readRule 180 = .ok (.aload_n 0, 1) := by decide +kernel
theorem dX12_readRule_181 : decode cX12_readRule 181 = .ok (.ldc 155, 2) := by decide +kernel
theorem dX12_readRule_183 : decode cX12_readRule 183 = .ok (.invokevirtual 60, 3) := by decide +kernel
theorem dX12_readRule_186 : decode cX12_readRule 186 = .ok (.ifCond .eq 7, 3) := by decide +kernel
theorem dX12_readRule_189 : decode cX12_readRule 189 = .ok (.iconst 2, 1) := by decide +kernel
theorem dX12_readRule_190 : decode cX12_readRule 190 = .ok (.goto 17, 3) := by decide +kernel
theorem dX12_readRule_193 : decode cX12_readRule 193 = .ok (.aload_n 0, 1) := by decide +kernel
theorem dX12_readRule_194 : decode cX12_readRule 194 = .ok (.ldc 157, 2) := by decide +kernel
theorem dX12_readRule_196 : decode cX12_readRule 196 = .ok (.invokevirtual 60, 3) := by decide +kernel
theorem dX12_readRule_199 : decode cX12_readRule 199 = .ok (.ifCond .eq 7, 3) := by decide +kernel
theorem dX12_readRule_202 : decode cX12_readRule 202 = .ok (.iconst 3, 1) := by decide +kernel
theorem dX12_readRule_203 : decode cX12_readRule 203 = .ok (.goto 4, 3) := by decide +kernel
theorem dX12_readRule_206 : decode cX12_readRule 206 = .ok (.iconst (-1), 1) := by decide +kernel
theorem dX12_readRule_207 : decode cX12_readRule 207 = .ok (.iastore, 1) := by decide +kernel
theorem dX12_readRule_208 : decode cX12_readRule 208 = .ok (.aload_n 0, 1) := by decide +kernel
theorem dX12_readRule_209 : decode cX12_readRule 209 = .ok (.getfield 148, 3) := by decide +kernel
theorem dX12_readRule_212 : decode cX12_readRule 212 = .ok (.iload_n 3, 1) := by decide +kernel
theorem dX12_readRule_213 : decode cX12_readRule 213 = .ok (.iaload, 1) := by decide +kernel
theorem dX12_readRule_214 : decode cX12_readRule 214 = .ok (.iconst (-1), 1) := by decide +kernel
theorem dX12_readRule_215 : decode cX12_readRule 215 = .ok (.if_icmp .ne 9, 3) := by decide +kernel
theorem dX12_readRule_218 : decode cX12_readRule 218 = .ok (.aload_n 0, 1) := by decide +kernel
theorem dX12_readRule_219 : decode cX12_readRule 219 = .ok (.iconst 1, 1) := by decide +kernel
theorem dX12_readRule_220 : decode cX12_readRule 220 = .ok (.invokevirtual 64, 3) := by decide +kernel
theorem dX12_readRule_223 : decode cX12_readRule 223 = .ok (.athrow, 1) := by decide +kernel
theorem dX12_readRule_224 : decode cX12_readRule 224 = .ok (.aload_n 0, 1) := by decide +kernel
theorem dX12_readRule_225 : decode cX12_readRule 225 = .ok (.invokevirtual 68, 3) := by decide +kernel
theorem dX12_readRule_228 : decode cX12_readRule 228 = .ok (.aload_n 0, 1) := by decide +kernel
theorem dX12_readRule_229 : decode cX12_readRule 229 = .ok (.ldc 159, 2) := by decide +kernel
theorem dX12_readRule_231 : decode cX12_readRule 231 = .ok (.invokevirtual 142, 3) := by decide +kernel
theorem dX12_readRule_234 : decode cX12_readRule 234 = .ok (.aload_n 0, 1) := by decide +kernel
theorem dX12_readRule_235 : decode cX12_readRule 235 = .ok (.getfield 161, 3) := by decide +kernel
theorem dX12_readRule_238 : decode cX12_readRule 238 = .ok (.iload_n 3, 1) := by decide +kernel
theorem dX12_readRule_239 : decode cX12_readRule 239 = .ok (.aload_n 0, 1) := by decide +kernel
theorem dX12_readRule_240 : decode cX12_readRule 240 = .ok (.iconst 0, 1) := by decide +kernel
theorem dX12_readRule_241 : decode cX12_readRule 241 = .ok (.sipush 9999, 3) := by decide +kernel
theorem dX12_readRule_244 : decode cX12_readRule 244 = .ok (.invokevirtual 121, 3) := by decide +kernel
theorem dX12_readRule_247 : decode cX12_readRule 247 = .ok (.iastore, 1) := by decide +kernel
theorem dX12_readRule_248 : decode cX12_readRule 248 = .ok (.aload_n 0, 1) := by decide +kernel
theorem dX12_readRule_249 : decode cX12_readRule 249 = .ok (.getfield 88, 3) := by decide +kernel
theorem dX12_readRule_252 : decode cX12_readRule 252 = .ok (.iload_n 1, 1) := by decide +kernel
theorem dX12_readRule_253 : decode cX12_readRule 253 = .ok (.dup2, 1) := by decide +kernel
theorem dX12_readRule_254 : decode cX12_readRule 254 = .ok (.iaload, 1) := by decide +kernel
theorem dX12_readRule_255 : decode cX12_readRule 255 = .ok (.iconst 1, 1) := by decide +kernel
theorem dX12_readRule_256 : decode cX12_readRule 256 = .ok (.iadd, 1) := by decide +kernel
theorem dX12_readRule_257 : decode cX12_readRule 257 = .ok (.iastore, 1) := by decide +kernel
theorem dX12_readRule_258 : decode cX12_readRule 258 = .ok (.return_, 1) := by decide +kernel
theorem dX12_init_0 : decode cX12_init 0 = .ok (.aload_n 0, 1) := by decide +kernel
theorem dX12_init_1 : decode cX12_init 1 = .ok (.invokespecial 163, 3) := by decide +kernel
theorem dX12_init_4 : decode cX12_init 4 = .ok (.aload_n 0, 1) := by decide +kernel
theorem dX12_init_5 : decode cX12_init 5 = .ok (.bipush 13, 2) := by decide +kernel
theorem dX12_init_7 : decode cX12_init 7 = .ok (.newarray .int, 2) := by decide +kernel
theorem dX12_init_9 : decode cX12_init 9 = .ok (.putfield 168, 3) := by decide +kernel
theorem dX12_init_12 : decode cX12_init 12 = .ok (.aload_n 0, 1) := by decide +kernel
theorem dX12_init_13 : decode cX12_init 13 = .ok (.bipush 13, 2) := by decide +kernel
theorem dX12_init_15 : decode cX12_init 15 = .ok (.newarray .int, 2) := by decide +kernel
theorem dX12_init_17 : decode cX12_init 17 = .ok (.putfield 88, 3) := by decide +kernel
theorem dX12_init_20 : decode cX12_init 20 = .ok (.aload_n 0, 1) := by decide +kernel
theorem dX12_init_21 : decode cX12_init 21 = .ok (.bipush 13, 2) := by decide +kernel
theorem dX12_init_23 : decode cX12_init 23 = .ok (.newarray .int, 2) := by decide +kernel
theorem dX12_init_25 : decode cX12_init 25 = .ok (.putfield 92, 3) := by decide +kernel
theorem dX12_init_28 : decode cX12_init 28 = .ok (.aload_n 0, 1) := by decide +kernel
theorem dX12_init_29 : decode cX12_init 29 = .ok (.bipush 13, 2) := by decide +kernel
theorem dX12_init_31 : decode cX12_init 31 = .ok (.newarray .int, 2) := by decide +kernel
theorem dX12_init_33 : decode cX12_init 33 = .ok (.putfield 95, 3) := by decide +kernel
theorem dX12_init_36 : decode cX12_init 36 = .ok (.aload_n 0, 1) := by decide +kernel
theorem dX12_init_37 : decode cX12_init 37 = .ok (.bipush 13, 2) := by decide +kernel
theorem dX12_init_39 : decode cX12_init 39 = .ok (.newarray .int, 2) := by decide +kernel
theorem dX12_init_41 : decode cX12_init 41 = .ok (.putfield 98, 3) := by decide +kernel
theorem dX12_init_44 : decode cX12_init 44 = .ok (.aload_n 0, 1) := by decide +kernel
theorem dX12_init_45 : decode cX12_init 45 = .ok (.sipush 156, 3) := by decide +kernel
theorem dX12_init_48 : decode cX12_init 48 = .ok (.newarray .int, 2) := by decide +kernel
theorem dX12_init_50 : decode cX12_init 50 = .ok (.putfield 127, 3) := by decide +kernel
theorem dX12_init_53 : decode cX12_init 53 = .ok (.aload_n 0, 1) := by decide +kernel
theorem dX12_init_54 : decode cX12_init 54 = .ok (.sipush 156, 3) := by decide +kernel
theorem dX12_init_57 : decode cX12_init 57 = .ok (.newarray .int, 2) := by decide +kernel
theorem dX12_init_59 : decode cX12_init 59 = .ok (.putfield 130, 3) := by decide +kernel
theorem dX12_init_62 : decode cX12_init 62 = .ok (.aload_n 0, 1) := by decide +kernel
theorem dX12_init_63 : decode cX12_init 63 = .ok (.sipush 156, 3) := by decide +kernel
theorem dX12_init_66 : decode cX12_init 66 = .ok (.newarray .int, 2) := by decide +kernel
theorem dX12_init_68 : decode cX12_init 68 = .ok (.putfield 132, 3) := by decide +kernel
theorem dX12_init_71 : decode cX12_init 71 = .ok (.aload_n 0, 1) := by decide +kernel
theorem dX12_init_72 : decode cX12_init 72 = .ok (.sipush 156, 3) := by decide +kernel
theorem dX12_init_75 : decode cX12_init 75 = .ok (.newarray .int, 2) := by decide +kernel
theorem dX12_init_77 : decode cX12_init 77 = .ok (.putfield 135, 3) := by decide +kernel
theorem dX12_init_80 : decode cX12_init 80 = .ok (.aload_n 0, 1) := by decide +kernel
theorem dX12_init_81 : decode cX12_init 81 = .ok (.sipush 156, 3) := by decide +kernel
theorem dX12_init_84 : decode cX12_init 84 = .ok (.newarray .int, 2) := by decide +kernel
theorem dX12_init_86 : decode cX12_init 86 = .ok (.putfield 148, 3) := by decide +kernel
theorem dX12_init_89 : decode cX12_init 89 = .ok (.aload_n 0, 1) := by decide +kernel
theorem dX12_init_90 : decode cX12_init 90 = .ok (.sipush 156, 3) := by decide +kernel
theorem dX12_init_93 : decode cX12_init 93 = .ok (.newarray .int, 2) := by decide +kernel
theorem dX12_init_95 : decode cX12_init 95 = .ok (.putfield 161, 3) := by decide +kernel
theorem dX12_init_98 : decode cX12_init 98 = .ok (.aload_n 0, 1) := by decide +kernel
theorem dX12_init_99 : decode cX12_init 99 = .ok (.new 171, 3) := by decide +kernel
theorem dX12_init_102 : decode cX12_init 102 = .ok (.dup, 1) := by decide +kernel
theorem dX12_init_103 : decode cX12_init 103 = .ok (.invokespecial 173, 3) := by decide +kernel
theorem dX12_init_106 : decode cX12_init 106 = .ok (.putfield 19, 3) := by decide +kernel
theorem dX12_init_109 : decode cX12_init 109 = .ok (.aload_n 0, 1) := by decide +kernel
theorem dX12_init_110 : decode cX12_init 110 = .ok (.sipush 800, 3) := by decide +kernel
theorem dX12_init_113 : decode cX12_init 113 = .ok (.newarray .byte, 2) := by decide +kernel
theorem dX12_init_115 : decode cX12_init 115 = .ok (.putfield 26, 3) := by decide +kernel
theorem dX12_init_118 : decode cX12_init 118 = .ok (.aload_n 0, 1) := by decide +kernel
theorem dX12_init_119 : decode cX12_init 119 = .ok (.iconst (-1), 1) := by decide +kernel
theorem dX12_init_120 : decode cX12_init 120 = .ok (.putfield 16, 3) := by decide +kernel
theorem dX12_init_123 : decode cX12_init 123 = .ok (.aload_n 0, 1) := by decide +kernel
theorem dX12_init_124 : decode cX12_init 124 = .ok (.bipush 30, 2) := by decide +kernel
theorem dX12_init_126 : decode cX12_init 126 = .ok (.newarray .int, 2) := by decide +kernel
theorem dX12_init_128 : decode cX12_init 128 = .ok (.putfield 174, 3) := by decide +kernel
theorem dX12_init_131 : decode cX12_init 131 = .ok (.aload_n 0, 1) := by decide +kernel
theorem dX12_init_132 : decode cX12_init 132 = .ok (.sipush 360, 3) := by decide +kernel
theorem dX12_init_135 : decode cX12_init 135 = .ok (.newarray .int, 2) := by decide +kernel
theorem dX12_init_137 : decode cX12_init 137 = .ok (.putfield 177, 3) := by decide +kernel
theorem dX12_init_140 : decode cX12_init 140 = .ok (.aload_n 0, 1) := by decide +kernel
theorem dX12_init_141 : decode cX12_init 141 = .ok (.sipush 360, 3) := by decide +kernel
theorem dX12_init_144 : decode cX12_init 144 = .ok (.newarray .int, 2) := by decide +kernel
theorem dX12_init_146 : decode cX12_init 146 = .ok (.putfield 180, 3) := by decide +kernel
theorem dX12_init_149 : decode cX12_init 149 = .ok (.aload_n 0, 1) := by decide +kernel
theorem dX12_init_150 : decode cX12_init 150 = .ok (.bipush 30, 2) := by decide +kernel
theorem dX12_init_152 : decode cX12_init 152 = .ok (.newarray .int, 2) := by decide +kernel
theorem dX12_init_154 : decode cX12_init 154 = .ok (.putfield 183, 3) := by decide +kernel
theorem dX12_init_157 : decode cX12_init 157 = .ok (.aload_n 0, 1) := by decide +kernel
theorem dX12_init_158 : decode cX12_init 158 = .ok (.bipush 120, 2) := by decide +kernel
theorem dX12_init_160 : decode cX12_init 160 = .ok (.newarray .int, 2) := by decide +kernel
theorem dX12_init_162 : decode cX12_init 162 = .ok (.putfield 186, 3) := by decide +kernel
theorem dX12_init_165 : decode cX12_init 165 = .ok (.aload_n 0, 1) := by decide +kernel
theorem dX12_init_166 : decode cX12_init 166 = .ok (.bipush 120, 2) := by decide +kernel
theorem dX12_init_168 : decode cX12_init 168 = .ok (.newarray .int, 2) := by decide +kernel
theorem dX12_init_170 : decode cX12_init 170 = .ok (.putfield 189, 3) := by decide +kernel
theorem dX12_init_173 : decode cX12_init 173 = .ok (.aload_n 0, 1) := by decide +kernel
theorem dX12_init_174 : decode cX12_init 174 = .ok (.bipush 20, 2) := by decide +kernel
theorem dX12_init_176 : decode cX12_init 176 = .ok (.newarray .int, 2) := by decide +kernel
theorem dX12_init_178 : decode cX12_init 178 = .ok (.putfield 192, 3) := by decide +kernel
theorem dX12_init_181 : decode cX12_init 181 = .ok (.aload_n 0, 1) := by decide +kernel
theorem dX12_init_182 : decode cX12_init 182 = .ok (.bipush 20, 2) := by decide +kernel
theorem dX12_init_184 : decode cX12_init 184 = .ok (.newarray .int, 2) := by decide +kernel
theorem dX12_init_186 : decode cX12_init 186 = .ok (.putfield 195, 3) := by decide +kernel
theorem dX12_init_189 : decode cX12_init 189 = .ok (.aload_n 0, 1) := by decide +kernel
theorem dX12_init_190 : decode cX12_init 190 = .ok (.sipush 200, 3) := by decide +kernel
theorem dX12_init_193 : decode cX12_init 193 = .ok (.newarray .int, 2) := by decide +kernel
theorem dX12_init_195 : decode cX12_init 195 = .ok (.putfield 198, 3) := by decide +kernel
theorem dX12_init_198 : decode cX12_init 198 = .ok (.aload_n 0, 1) := by decide +kernel
theorem dX12_init_199 : decode cX12_init 199 = .ok (.bipush 40, 2) := by decide +kernel
theorem dX12_init_201 : decode cX12_init 201 = .ok (.newarray .int, 2) := by decide +kernel
theorem dX12_init_203 : decode cX12_init 203 = .ok (.putfield 201, 3) := by decide +kernel
theorem dX12_init_206 : decode cX12_init 206 = .ok (.aload_n 0, 1) := by decide +kernel
theorem dX12_init_207 : decode cX12_init 207 = .ok (.bipush 40, 2) := by decide +kernel
theorem dX12_init_209 : decode cX12_init 209 = .ok (.newarray .int, 2) := by decide +kernel
theorem dX12_init_211 : decode cX12_init 211 = .ok (.putfield 203, 3) := by decide +kernel
theorem dX12_init_214 : decode cX12_init 214 = .ok (.aload_n 0, 1) := by decide +kernel
theorem dX12_init_215 : decode cX12_init 215 = .ok (.bipush 40, 2) := by decide +kernel
theorem dX12_init_217 : decode cX12_init 217 = .ok (.newarray .int, 2) := by decide +kernel
theorem dX12_init_219 : decode cX12_init 219 = .ok (.putfield 205, 3) := by decide +kernel
theorem dX12_init_222 : decode cX12_init 222 = .ok (.aload_n 0, 1) := by decide +kernel
theorem dX12_init_223 : decode cX12_init 223 = .ok (.bipush 30, 2) := by decide +kernel
theorem dX12_init_225 : decode cX12_init 225 = .ok (.newarray .int, 2) := by decide +kernel
theorem dX12_init_227 : decode cX12_init 227 = .ok (.putfield 208, 3) := by decide +kernel
theorem dX12_init_230 : decode cX12_init 230 = .ok (.aload_n 0, 1) := by decide +kernel
theorem dX12_init_231 : decode cX12_init 231 = .ok (.bipush 30, 2) := by decide +kernel
theorem dX12_init_233 : decode cX12_init 233 = .ok (.newarray .int, 2) := by decide +kernel
theorem dX12_init_235 : decode cX12_init 235 = .ok (.putfield 211, 3) := by decide +kernel
theorem dX12_init_238 : decode cX12_init 238 = .ok (.aload_n 0, 1) := by decide +kernel
theorem dX12_init_239 : decode cX12_init 239 = .ok (.bipush 30, 2) := by decide +kernel
theorem dX12_init_241 : decode cX12_init 241 = .ok (.newarray .int, 2) := by decide +kernel
theorem dX12_init_243 : decode cX12_init 243 = .ok (.putfield 214, 3) := by decide +kernel
theorem dX12_init_246 : decode cX12_init 246 = .ok (.aload_n 0, 1) := by decide +kernel
theorem dX12_init_247 : decode cX12_init 247 = .ok (.bipush 30, 2) := by decide +kernel
theorem dX12_init_249 : decode cX12_init 249 = .ok (.newarray .int, 2) := by decide +kernel
theorem dX12_init_251 : decode cX12_init 251 = .ok (.putfield 217, 3) := by decide +kernel
theorem dX12_init_254 : decode cX12_init 254 = .ok (.aload_n 0, 1) := by decide +kernel
theorem dX12_init_255 : decode cX12_init 255 = .ok (.bipush 30, 2) := by decide +kernel
theorem dX12_init_257 : decode cX12_init 257 = .ok (.newarray .int, 2) := by decide +kernel
theorem dX12_init_259 : decode cX12_init 259 = .ok (.putfield 220, 3) := by decide +kernel
theorem dX12_init_262 : decode cX12_init 262 = .ok (.aload_n 0, 1) := by decide +kernel
theorem dX12_init_263 : decode cX12_init 263 = .ok (.bipush 30, 2) := by decide +kernel
theorem dX12_init_265 : decode cX12_init 265 = .ok (.newarray .int, 2) := by decide +kernel
theorem dX12_init_267 : decode cX12_init 267 = .ok (.putfield 223, 3) := by decide +kernel
theorem dX12_init_270 : decode cX12_init 270 = .ok (.aload_n 0, 1) := by decide +kernel
theorem dX12_init_271 : decode cX12_init 271 = .ok (.bipush 7, 2) := by decide +kernel
theorem dX12_init_273 : decode cX12_init 273 = .ok (.newarray .int, 2) := by decide +kernel
theorem dX12_init_275 : decode cX12_init 275 = .ok (.putfield 226, 3) := by decide +kernel
theorem dX12_init_278 : decode cX12_init 278 = .ok (.aload_n 0, 1) := by decide +kernel
theorem dX12_init_279 : decode cX12_init 279 = .ok (.bipush 60, 2) := by decide +kernel
theorem dX12_init_281 : decode cX12_init 281 = .ok (.newarray .int, 2) := by decide +kernel
theorem dX12_init_283 : decode cX12_init 283 = .ok (.putfield 229, 3) := by decide +kernel
theorem dX12_init_286 : decode cX12_init 286 = .ok (.aload_n 0, 1) := by decide +kernel
theorem dX12_init_287 : decode cX12_init 287 = .ok (.bipush 60, 2) := by decide +kernel
theorem dX12_init_289 : decode cX12_init 289 = .ok (.newarray .int, 2) := by decide +kernel
theorem dX12_init_291 : decode cX12_init 291 = .ok (.putfield 232, 3) := by decide +kernel
theorem dX12_init_294 : decode cX12_init 294 = .ok (.aload_n 0, 1) := by decide +kernel
theorem dX12_init_295 : decode cX12_init 295 = .ok (.bipush 60, 2) := by decide +kernel
theorem dX12_init_297 : decode cX12_init 297 = .ok (.newarray .int, 2) := by decide +kernel
theorem dX12_init_299 : decode cX12_init 299 = .ok (.putfield 235, 3) := by decide +kernel
theorem dX12_init_302 : decode cX12_init 302 = .ok (.aload_n 0, 1) := by decide +kernel
theorem dX12_init_303 : decode cX12_init 303 = .ok (.bipush 60, 2) := by decide +kernel
theorem dX12_init_305 : decode cX12_init 305 = .ok (.newarray .int, 2) := by decide +kernel
theorem dX12_init_307 : decode cX12_init 307 = .ok (.putfield 238, 3) := by decide +kernel
theorem dX12_init_310 : decode cX12_init 310 = .ok (.aload_n 0, 1) := by decide +kernel
theorem dX12_init_311 : decode cX12_init 311 = .ok (.bipush 60, 2) := by decide +kernel
theorem dX12_init_313 : decode cX12_init 313 = .ok (.newarray .int, 2) := by decide +kernel
theorem dX12_init_315 : decode cX12_init 315 = .ok (.putfield 241, 3) := by decide +kernel
theorem dX12_init_318 : decode cX12_init 318 = .ok (.aload_n 0, 1) := by decide +kernel
theorem dX12_init_319 : decode cX12_init 319 = .ok (.bipush 60, 2) := by decide +kernel
theorem dX12_init_321 : decode cX12_init 321 = .ok (.newarray .int, 2) := by decide +kernel
theorem dX12_init_323 : decode cX12_init 323 = .ok (.putfield 244, 3) := by decide +kernel
theorem dX12_init_326 : decode cX12_init 326 = .ok (.aload_n 0, 1) := by decide +kernel
theorem dX12_init_327 : decode cX12_init 327 = .ok (.bipush 60, 2) := by decide +kernel
theorem dX12_init_329 : decode cX12_init 329 = .ok (.newarray .int, 2) := by decide +kernel
theorem dX12_init_331 : decode cX12_init 331 = .ok (.putfield 247, 3) := by decide +kernel
theorem dX12_init_334 : decode cX12_init 334 = .ok (.aload_n 0, 1) := by decide +kernel
theorem dX12_init_335 : decode cX12_init 335 = .ok (.iconst 5, 1) := by decide +kernel
theorem dX12_init_336 : decode cX12_init 336 = .ok (.newarray .int, 2) := by decide +kernel
theorem dX12_init_338 : decode cX12_init 338 = .ok (.putfield 250, 3) := by decide +kernel
theorem dX12_init_341 : decode cX12_init 341 = .ok (.iconst 0, 1) := by decide +kernel
theorem dX12_init_342 : decode cX12_init 342 = .ok (.istore_n 1, 1) := by decide +kernel
theorem dX12_init_343 : decode cX12_init 343 = .ok (.iload_n 1, 1) := by decide +kernel
theorem dX12_init_344 : decode cX12_init 344 = .ok (.bipush 7, 2) := by decide +kernel
theorem dX12_init_346 : decode cX12_init 346 = .ok (.if_icmp .ge 16, 3) := by decide +kernel
theorem dX12_init_349 : decode cX12_init 349 = .ok (.aload_n 0, 1) := by decide +kernel
theorem dX12_init_350 : decode cX12_init 350 = .ok (.getfield 226, 3) := by decide +kernel
theorem dX12_init_353 : decode cX12_init 353 = .ok (.iload_n 1, 1) := by decide +kernel
theorem dX12_init_354 : decode cX12_init 354 = .ok (.iconst 1, 1) := by decide +kernel
theorem dX12_init_355 : decode cX12_init 355 = .ok (.iastore, 1) := by decide +kernel
theorem dX12_init_356 : decode cX12_init 356 = .ok (.iinc 1 1, 3) := by decide +kernel
theorem dX12_init_359 : decode cX12_init 359 = .ok (.goto (-16), 3) := by decide +kernel
theorem dX12_init_362 : decode cX12_init 362 = .ok (.return_, 1) := by decide +kernel
theorem dX12_feed_0 : decode cX12_feed 0 = .ok (.aload_n 0, 1) := by decide +kernel
theorem dX12_feed_1 : decode cX12_feed 1 = .ok (.getfield 253, 3) := by decide +kernel
theorem dX12_feed_4 : decode cX12_feed 4 = .ok (.bipush 20, 2) := by decide +kernel
theorem dX12_feed_6 : decode cX12_feed 6 = .ok (.iadd, 1) := by decide +kernel
theorem dX12_feed_7 : decode cX12_feed 7 = .ok (.sipush 800, 3) := by decide +kernel
theorem dX12_feed_10 : decode cX12_feed 10 = .ok (.if_icmp .le 6, 3) := by decide +kernel
theorem dX12_feed_13 : decode cX12_feed 13 = .ok (.bipush (-3), 2) := by decide +kernel
theorem dX12_feed_15 : decode cX12_feed 15 = .ok (.ireturn, 1) := by decide +kernel
theorem dX12_feed_16 : decode cX12_feed 16 = .ok (.aload_n 0, 1) := by decide +kernel
theorem dX12_feed_17 : decode cX12_feed 17 = .ok (.iload_n 1, 1) := by decide +kernel
theorem dX12_feed_18 : decode cX12_feed 18 = .ok (.invokevirtual 256, 3) := by decide +kernel
theorem dX12_feed_21 : decode cX12_feed 21 = .ok (.aload_n 0, 1) := by decide +kernel
theorem dX12_feed_22 : decode cX12_feed 22 = .ok (.iload_n 2, 1) := by decide +kernel
theorem dX12_feed_23 : decode cX12_feed 23 = .ok (.invokevirtual 256, 3) := by decide +kernel
theorem dX12_feed_26 : decode cX12_feed 26 = .ok (.aload_n 0, 1) := by decide +kernel
theorem dX12_feed_27 : decode cX12_feed 27 = .ok (.iload_n 3, 1) := by decide +kernel
theorem dX12_feed_28 : decode cX12_feed 28 = .ok (.invokevirtual 256, 3) := by decide +kernel
theorem dX12_feed_31 : decode cX12_feed 31 = .ok (.aload_n 0, 1) := by decide +kernel
theorem dX12_feed_32 : decode cX12_feed 32 = .ok (.iload 4, 2) := by decide +kernel
theorem dX12_feed_34 : decode cX12_feed 34 = .ok (.invokevirtual 256, 3) := by decide +kernel
theorem dX12_feed_37 : decode cX12_feed 37 = .ok (.aload_n 0, 1) := by decide +kernel
theorem dX12_feed_38 : decode cX12_feed 38 = .ok (.iload 5, 2) := by decide +kernel
theorem dX12_feed_40 : decode cX12_feed 40 = .ok (.invokevirtual 256, 3) := by decide +kernel
theorem dX12_feed_43 : decode cX12_feed 43 = .ok (.aload_n 0, 1) := by decide +kernel
theorem dX12_feed_44 : decode cX12_feed 44 = .ok (.getfield 253, 3) := by decide +kernel
theorem dX12_feed_47 : decode cX12_feed 47 = .ok (.ireturn, 1) := by decide +kernel
theorem dX12_lay_0 : decode cX12_lay 0 = .ok (.bipush 24, 2) := by decide +kernel
theorem dX12_lay_2 : decode cX12_lay 2 = .ok (.istore_n 2, 1) := by decide +kernel
theorem dX12_lay_3 : decode cX12_lay 3 = .ok (.iload_n 2, 1) := by decide +kernel
theorem dX12_lay_4 : decode cX12_lay 4 = .ok (.ifCond .lt 32, 3) := by decide +kernel
theorem dX12_lay_7 : decode cX12_lay 7 = .ok (.aload_n 0, 1) := by decide +kernel
theorem dX12_lay_8 : decode cX12_lay 8 = .ok (.getfield 26, 3) := by decide +kernel
theorem dX12_lay_11 : decode cX12_lay 11 = .ok (.aload_n 0, 1) := by decide +kernel
theorem dX12_lay_12 : decode cX12_lay 12 = .ok (.getfield 253, 3) := by decide +kernel
theorem dX12_lay_15 : decode cX12_lay 15 = .ok (.iload_n 1, 1) := by decide +kernel
theorem dX12_lay_16 : decode cX12_lay 16 = .ok (.iload_n 2, 1) := by decide +kernel
theorem dX12_lay_17 : decode cX12_lay 17 = .ok (.ishr, 1) := by decide +kernel
theorem dX12_lay_18 : decode cX12_lay 18 = .ok (.i2b, 1) := by decide +kernel
theorem dX12_lay_19 : decode cX12_lay 19 = .ok (.bastore, 1) := by decide +kernel
theorem dX12_lay_20 : decode cX12_lay 20 = .ok (.aload_n 0, 1) := by decide +kernel
theorem dX12_lay_21 : decode cX12_lay 21 = .ok (.dup, 1) := by decide +kernel
theorem dX12_lay_22 : decode cX12_lay 22 = .ok (.getfield 253, 3) := by decide +kernel
theorem dX12_lay_25 : decode cX12_lay 25 = .ok (.iconst 1, 1) := by decide +kernel
theorem dX12_lay_26 : decode cX12_lay 26 = .ok (.iadd, 1) := by decide +kernel
theorem dX12_lay_27 : decode cX12_lay 27 = .ok (.putfield 253, 3) := by decide +kernel
theorem dX12_lay_30 : decode cX12_lay 30 = .ok (.iinc 2 (-8), 3) := by decide +kernel
theorem dX12_lay_33 : decode cX12_lay 33 = .ok (.goto (-30), 3) := by decide +kernel
theorem dX12_lay_36 : decode cX12_lay 36 = .ok (.return_, 1) := by decide +kernel
theorem dX12_end_0 : decode cX12_end 0 = .ok (.iload_n 1, 1) := by decide +kernel
theorem dX12_end_1 : decode cX12_end 1 = .ok (.i2l, 1) := by decide +kernel
theorem dX12_end_2 : decode cX12_end 2 = .ok (.lconst 0, 1) := by decide +kernel
theorem dX12_end_3 : decode cX12_end 3 = .ok (.aload_n 0, 1) := by decide +kernel
theorem dX12_end_4 : decode cX12_end 4 = .ok (.getfield 253, 3) := by decide +kernel
theorem dX12_end_7 : decode cX12_end 7 = .ok (.i2l, 1) := by decide +kernel
theorem dX12_end_8 : decode cX12_end 8 = .ok (.invokestatic 5, 3) := by decide +kernel
theorem dX12_end_11 : decode cX12_end 11 = .ok (.ifCond .ne 5, 3) := by decide +kernel
theorem dX12_end_14 : decode cX12_end 14 = .ok (.iconst (-1), 1) := by decide +kernel
theorem dX12_end_15 : decode cX12_end 15 = .ok (.ireturn, 1) := by decide +kernel
theorem dX12_end_16 : decode cX12_end 16 = .ok (.aload_n 0, 1) := by decide +kernel
theorem dX12_end_17 : decode cX12_end 17 = .ok (.iload_n 1, 1) := by decide +kernel
theorem dX12_end_18 : decode cX12_end 18 = .ok (.putfield 253, 3) := by decide +kernel
theorem dX12_end_21 : decode cX12_end 21 = .ok (.iload_n 1, 1) := by decide +kernel
theorem dX12_end_22 : decode cX12_end 22 = .ok (.ireturn, 1) := by decide +kernel
theorem dX12_act_0 : decode cX12_act 0 = .ok (.aload_n 0, 1) := by decide +kernel
theorem dX12_act_1 : decode cX12_act 1 = .ok (.aload_n 0, 1) := by decide +kernel
theorem dX12_act_2 : decode cX12_act 2 = .ok (.getfield 253, 3) := by decide +kernel
theorem dX12_act_5 : decode cX12_act 5 = .ok (.putfield 23, 3) := by decide +kernel
theorem dX12_act_8 : decode cX12_act 8 = .ok (.aload_n 0, 1) := by decide +kernel
theorem dX12_act_9 : decode cX12_act 9 = .ok (.iconst 0, 1) := by decide +kernel
theorem dX12_act_10 : decode cX12_act 10 = .ok (.putfield 253, 3) := by decide +kernel
theorem dX12_act_13 : decode cX12_act 13 = .ok (.aload_n 0, 1) := by decide +kernel
theorem dX12_act_14 : decode cX12_act 14 = .ok (.iconst 0, 1) := by decide +kernel
theorem dX12_act_15 : decode cX12_act 15 = .ok (.putfield 30, 3) := by decide +kernel
theorem dX12_act_18 : decode cX12_act 18 = .ok (.iload_n 1, 1) := by decide +kernel
theorem dX12_act_19 : decode cX12_act 19 = .ok (.invokestatic 259, 3) := by decide +kernel
theorem dX12_act_22 : decode cX12_act 22 = .ok (.ifCond .eq 25, 3) := by decide +kernel
theorem dX12_act_25 : decode cX12_act 25 = .ok (.aload_n 0, 1) := by decide +kernel
theorem dX12_act_26 : decode cX12_act 26 = .ok (.getfield 118, 3) := by decide +kernel
theorem dX12_act_29 : decode cX12_act 29 = .ok (.ifCond .le 21, 3) := by decide +kernel
theorem dX12_act_32 : decode cX12_act 32 = .ok (.iload_n 1, 1) := by decide +kernel
theorem dX12_act_33 : decode cX12_act 33 = .ok (.aload_n 0, 1) := by decide +kernel
theorem dX12_act_34 : decode cX12_act 34 = .ok (.getfield 168, 3) := by decide +kernel
theorem dX12_act_37 : decode cX12_act 37 = .ok (.aload_n 0, 1) := by decide +kernel
theorem dX12_act_38 : decode cX12_act 38 = .ok (.getfield 118, 3) := by decide +kernel
theorem dX12_act_41 : decode cX12_act 41 = .ok (.iconst 1, 1) := by decide +kernel
theorem dX12_act_42 : decode cX12_act 42 = .ok (.isub, 1) := by decide +kernel
theorem dX12_act_43 : decode cX12_act 43 = .ok (.iaload, 1) := by decide +kernel
theorem dX12_act_44 : decode cX12_act 44 = .ok (.if_icmp .ge 6, 3) := by decide +kernel
theorem dX12_act_47 : decode cX12_act 47 = .ok (.bipush (-2), 2) := by decide +kernel
theorem dX12_act_49 : decode cX12_act 49 = .ok (.ireturn, 1) := by decide +kernel
theorem dX12_act_50 : decode cX12_act 50 = .ok (.aload_n 0, 1) := by decide +kernel
theorem dX12_act_51 : decode cX12_act 51 = .ok (.iconst 0, 1) := by decide +kernel
theorem dX12_act_52 : decode cX12_act 52 = .ok (.putfield 9, 3) := by decide +kernel
theorem dX12_act_55 : decode cX12_act 55 = .ok (.aload_n 0, 1) := by decide +kernel
theorem dX12_act_56 : decode cX12_act 56 = .ok (.iconst (-1), 1) := by decide +kernel
theorem dX12_act_57 : decode cX12_act 57 = .ok (.putfield 16, 3) := by decide +kernel
theorem dX12_act_60 : decode cX12_act 60 = .ok (.aload_n 0, 1) := by decide +kernel
theorem dX12_act_61 : decode cX12_act 61 = .ok (.invokevirtual 68, 3) := by decide +kernel
theorem dX12_act_64 : decode cX12_act 64 = .ok (.aload_n 0, 1) := by decide +kernel
theorem dX12_act_65 : decode cX12_act 65 = .ok (.aload_n 0, 1) := by decide +kernel
theorem dX12_act_66 : decode cX12_act 66 = .ok (.getfield 118, 3) := by decide +kernel
theorem dX12_act_69 : decode cX12_act 69 = .ok (.invokevirtual 262, 3) := by decide +kernel
theorem dX12_act_72 : decode cX12_act 72 = .ok (.goto 6, 3) := by decide +kernel
theorem dX12_act_75 : decode cX12_act 75 = .ok (.astore_n 2, 1) := by decide +kernel
theorem dX12_act_76 : decode cX12_act 76 = .ok (.iconst (-1), 1) := by decide +kernel
theorem dX12_act_77 : decode cX12_act 77 = .ok (.ireturn, 1) := by decide +kernel
theorem dX12_act_78 : decode cX12_act 78 = .ok (.aload_n 0, 1) := by decide +kernel
theorem dX12_act_79 : decode cX12_act 79 = .ok (.getfield 118, 3) := by decide +kernel
theorem dX12_act_82 : decode cX12_act 82 = .ok (.bipush 12, 2) := by decide +kernel
theorem dX12_act_84 : decode cX12_act 84 = .ok (.if_icmp .ne 6, 3) := by decide +kernel
theorem dX12_act_87 : decode cX12_act 87 = .ok (.bipush (-3), 2) := by decide +kernel
theorem dX12_act_89 : decode cX12_act 89 = .ok (.ireturn, 1) := by decide +kernel
theorem dX12_act_90 : decode cX12_act 90 = .ok (.aload_n 0, 1) := by decide +kernel
theorem dX12_act_91 : decode cX12_act 91 = .ok (.getfield 168, 3) := by decide +kernel
theorem dX12_act_94 : decode cX12_act 94 = .ok (.aload_n 0, 1) := by decide +kernel
theorem dX12_act_95 : decode cX12_act 95 = .ok (.getfield 118, 3) := by decide +kernel
theorem dX12_act_98 : decode cX12_act 98 = .ok (.iload_n 1, 1) := by decide +kernel
theorem dX12_act_99 : decode cX12_act 99 = .ok (.iastore, 1) := by decide +kernel
theorem dX12_act_100 : decode cX12_act 100 = .ok (.aload_n 0, 1) := by decide +kernel
theorem dX12_act_101 : decode cX12_act 101 = .ok (.dup, 1) := by decide +kernel
theorem dX12_act_102 : decode cX12_act 102 = .ok (.getfield 118, 3) := by decide +kernel
theorem dX12_act_105 : decode cX12_act 105 = .ok (.iconst 1, 1) := by decide +kernel
theorem dX12_act_106 : decode cX12_act 106 = .ok (.iadd, 1) := by decide +kernel
theorem dX12_act_107 : decode cX12_act 107 = .ok (.putfield 118, 3) := by decide +kernel
theorem dX12_act_110 : decode cX12_act 110 = .ok (.aload_n 0, 1) := by decide +kernel
theorem dX12_act_111 : decode cX12_act 111 = .ok (.getfield 118, 3) := by decide +kernel
theorem dX12_act_114 : decode cX12_act 114 = .ok (.iconst 1, 1) := by decide +kernel
theorem dX12_act_115 : decode cX12_act 115 = .ok (.isub, 1) := by decide +kernel
theorem dX12_act_116 : decode cX12_act 116 = .ok (.ireturn, 1) := by decide +kernel
theorem dX12_fault_0 : decode cX12_fault 0 = .ok (.iload_n 1, 1) := by decide +kernel
theorem dX12_fault_1 : decode cX12_fault 1 = .ok (.ifCond .ne 10, 3) := by decide +kernel
theorem dX12_fault_4 : decode cX12_fault 4 = .ok (.aload_n 0, 1) := by decide +kernel
theorem dX12_fault_5 : decode cX12_fault 5 = .ok (.getfield 9, 3) := by decide +kernel
theorem dX12_fault_8 : decode cX12_fault 8 = .ok (.goto 16, 3) := by decide +kernel
theorem dX12_fault_11 : decode cX12_fault 11 = .ok (.iload_n 1, 1) := by decide +kernel
theorem dX12_fault_12 : decode cX12_fault 12 = .ok (.iconst 1, 1) := by decide +kernel
theorem dX12_fault_13 : decode cX12_fault 13 = .ok (.if_icmp .ne 10, 3) := by decide +kernel
theorem dX12_fault_16 : decode cX12_fault 16 = .ok (.aload_n 0, 1) := by decide +kernel
theorem dX12_fault_17 : decode cX12_fault 17 = .ok (.getfield 16, 3) := by decide +kernel
theorem dX12_fault_20 : decode cX12_fault 20 = .ok (.goto 4, 3) := by decide +kernel
theorem dX12_fault_23 : decode cX12_fault 23 = .ok (.iconst (-1), 1) := by decide +kernel
theorem dX12_fault_24 : decode cX12_fault 24 = .ok (.ireturn, 1) := by decide +kernel
theorem dX12_isAct_0 : decode cX12_isAct 0 = .ok (.iload_n 1, 1) := by decide +kernel
theorem dX12_isAct_1 : decode cX12_isAct 1 = .ok (.i2l, 1) := by decide +kernel
theorem dX12_isAct_2 : decode cX12_isAct 2 = .ok (.lconst 0, 1) := by decide +kernel
theorem dX12_isAct_3 : decode cX12_isAct 3 = .ok (.aload_n 0, 1) := by decide +kernel
theorem dX12_isAct_4 : decode cX12_isAct 4 = .ok (.getfield 118, 3) := by decide +kernel
theorem dX12_isAct_7 : decode cX12_isAct 7 = .ok (.i2l, 1) := by decide +kernel
theorem dX12_isAct_8 : decode cX12_isAct 8 = .ok (.lconst 1, 1) := by decide +kernel
theorem dX12_isAct_9 : decode cX12_isAct 9 = .ok (.lsub, 1) := by decide +kernel
theorem dX12_isAct_10 : decode cX12_isAct 10 = .ok (.invokestatic 5, 3) := by decide +kernel
theorem dX12_isAct_13 : decode cX12_isAct 13 = .ok (.ireturn, 1) := by decide +kernel
theorem dX12_told_0 : decode cX12_told 0 = .ok (.aload_n 0, 1) := by decide +kernel
theorem dX12_told_1 : decode cX12_told 1 = .ok (.iload_n 1, 1) := by decide +kernel
theorem dX12_told_2 : decode cX12_told 2 = .ok (.invokevirtual 265, 3) := by decide +kernel
theorem dX12_told_5 : decode cX12_told 5 = .ok (.ifCond .ne 6, 3) := by decide +kernel
theorem dX12_told_8 : decode cX12_told 8 = .ok (.bipush (-9), 2) := by decide +kernel
theorem dX12_told_10 : decode cX12_told 10 = .ok (.ireturn, 1) := by decide +kernel
theorem dX12_told_11 : decode cX12_told 11 = .ok (.iload_n 2, 1) := by decide +kernel
theorem dX12_told_12 : decode cX12_told 12 = .ok (.tableswitch 71 0 4 #[36, 43, 50, 57, 64], 36) := by decide +kernel
theorem dX12_told_48 : decode cX12_told 48 = .ok (.aload_n 0, 1) := by decide +kernel
theorem dX12_told_49 : decode cX12_told 49 = .ok (.getfield 168, 3) := by decide +kernel
theorem dX12_told_52 : decode cX12_told 52 = .ok (.iload_n 1, 1) := by decide +kernel
theorem dX12_told_53 : decode cX12_told 53 = .ok (.iaload, 1) := by decide +kernel
theorem dX12_told_54 : decode cX12_told 54 = .ok (.ireturn, 1) := by decide +kernel
theorem dX12_told_55 : decode cX12_told 55 = .ok (.aload_n 0, 1) := by decide +kernel
theorem dX12_told_56 : decode cX12_told 56 = .ok (.getfield 88, 3) := by decide +kernel
theorem dX12_told_59 : decode cX12_told 59 = .ok (.iload_n 1, 1) := by decide +kernel
theorem dX12_told_60 : decode cX12_told 60 = .ok (.iaload, 1) := by decide +kernel
theorem dX12_told_61 : decode cX12_told 61 = .ok (.ireturn, 1) := by decide +kernel
theorem dX12_told_62 : decode cX12_told 62 = .ok (.aload_n 0, 1) := by decide +kernel
theorem dX12_told_63 : decode cX12_told 63 = .ok (.getfield 92, 3) := by decide +kernel
theorem dX12_told_66 : decode cX12_told 66 = .ok (.iload_n 1, 1) := by decide +kernel
theorem dX12_told_67 : decode cX12_told 67 = .ok (.iaload, 1) := by decide +kernel
theorem dX12_told_68 : decode cX12_told 68 = .ok (.ireturn, 1) := by decide +kernel
theorem dX12_told_69 : decode cX12_told 69 = .ok (.aload_n 0, 1) := by decide +kernel
theorem dX12_told_70 : decode cX12_told 70 = .ok (.getfield 95, 3) := by decide +kernel
theorem dX12_told_73 : decode cX12_told 73 = .ok (.iload_n 1, 1) := by decide +kernel
theorem dX12_told_74 : decode cX12_told 74 = .ok (.iaload, 1) := by decide +kernel
theorem dX12_told_75 : decode cX12_told 75 = .ok (.ireturn, 1) := by decide +kernel
theorem dX12_told_76 : decode cX12_told 76 = .ok (.aload_n 0, 1) := by decide +kernel
theorem dX12_told_77 : decode cX12_told 77 = .ok (.getfield 98, 3) := by decide +kernel
theorem dX12_told_80 : decode cX12_told 80 = .ok (.iload_n 1, 1) := by decide +kernel
theorem dX12_told_81 : decode cX12_told 81 = .ok (.iaload, 1) := by decide +kernel
theorem dX12_told_82 : decode cX12_told 82 = .ok (.ireturn, 1) := by decide +kernel
theorem dX12_told_83 : decode cX12_told 83 = .ok (.bipush (-9), 2) := by decide +kernel
theorem dX12_told_85 : decode cX12_told 85 = .ok (.ireturn, 1) := by decide +kernel
theorem dX12_rule_0 : decode cX12_rule 0 = .ok (.aload_n 0, 1) := by decide +kernel
theorem dX12_rule_1 : decode cX12_rule 1 = .ok (.iload_n 1, 1) := by decide +kernel
theorem dX12_rule_2 : decode cX12_rule 2 = .ok (.invokevirtual 265, 3) := by decide +kernel
theorem dX12_rule_5 : decode cX12_rule 5 = .ok (.ifCond .eq 21, 3) := by decide +kernel
theorem dX12_rule_8 : decode cX12_rule 8 = .ok (.iload_n 2, 1) := by decide +kernel
theorem dX12_rule_9 : decode cX12_rule 9 = .ok (.i2l, 1) := by decide +kernel
theorem dX12_rule_10 : decode cX12_rule 10 = .ok (.lconst 0, 1) := by decide +kernel
theorem dX12_rule_11 : decode cX12_rule 11 = .ok (.aload_n 0, 1) := by decide +kernel
theorem dX12_rule_12 : decode cX12_rule 12 = .ok (.getfield 88, 3) := by decide +kernel
theorem dX12_rule_15 : decode cX12_rule 15 = .ok (.iload_n 1, 1) := by decide +kernel
theorem dX12_rule_16 : decode cX12_rule 16 = .ok (.iaload, 1) := by decide +kernel
theorem dX12_rule_17 : decode cX12_rule 17 = .ok (.i2l, 1) := by decide +kernel
theorem dX12_rule_18 : decode cX12_rule 18 = .ok (.lconst 1, 1) := by decide +kernel
theorem dX12_rule_19 : decode cX12_rule 19 = .ok (.lsub, 1) := by decide +kernel
theorem dX12_rule_20 : decode cX12_rule 20 = .ok (.invokestatic 5, 3) := by decide +kernel
theorem dX12_rule_23 : decode cX12_rule 23 = .ok (.ifCond .ne 6, 3) := by decide +kernel
theorem dX12_rule_26 : decode cX12_rule 26 = .ok (.bipush (-9), 2) := by decide +kernel
theorem dX12_rule_28 : decode cX12_rule 28 = .ok (.ireturn, 1) := by decide +kernel
theorem dX12_rule_29 : decode cX12_rule 29 = .ok (.bipush 12, 2) := by decide +kernel
theorem dX12_rule_31 : decode cX12_rule 31 = .ok (.iload_n 1, 1) := by decide +kernel
theorem dX12_rule_32 : decode cX12_rule 32 = .ok (.imul, 1) := by decide +kernel
theorem dX12_rule_33 : decode cX12_rule 33 = .ok (.iload_n 2, 1) := by decide +kernel
theorem dX12_rule_34 : decode cX12_rule 34 = .ok (.iadd, 1) := by decide +kernel
theorem dX12_rule_35 : decode cX12_rule 35 = .ok (.istore 4, 2) := by decide +kernel
theorem dX12_rule_37 : decode cX12_rule 37 = .ok (.iload_n 3, 1) := by decide +kernel
theorem dX12_rule_38 : decode cX12_rule 38 = .ok (.tableswitch 86 0 5 #[38, 46, 54, 62, 70, 78], 38) := by decide +kernel
theorem dX12_rule_76 : decode cX12_rule 76 = .ok (.aload_n 0, 1) := by decide +kernel
theorem dX12_rule_77 : decode cX12_rule 77 = .ok (.getfield 127, 3) := by decide +kernel
theorem dX12_rule_80 : decode cX12_rule 80 = .ok (.iload 4, 2) := by decide +kernel
theorem dX12_rule_82 : decode cX12_rule 82 = .ok (.iaload, 1) := by decide +kernel
theorem dX12_rule_83 : decode cX12_rule 83 = .ok (.ireturn, 1) := by decide +kernel
theorem dX12_rule_84 : decode cX12_rule 84 = .ok (.aload_n 0, 1) := by decide +kernel
theorem dX12_rule_85 : decode cX12_rule 85 = .ok (.getfield 130, 3) := by decide +kernel
theorem dX12_rule_88 : decode cX12_rule 88 = .ok (.iload 4, 2) := by decide +kernel
theorem dX12_rule_90 : decode cX12_rule 90 = .ok (.iaload, 1) := by decide +kernel
theorem dX12_rule_91 : decode cX12_rule 91 = .ok (.ireturn, 1) := by decide +kernel
theorem dX12_rule_92 : decode cX12_rule 92 = .ok (.aload_n 0, 1) := by decide +kernel
theorem dX12_rule_93 : decode cX12_rule 93 = .ok (.getfield 132, 3) := by decide +kernel
theorem dX12_rule_96 : decode cX12_rule 96 = .ok (.iload 4, 2) := by decide +kernel
theorem dX12_rule_98 : decode cX12_rule 98 = .ok (.iaload, 1) := by decide +kernel
theorem dX12_rule_99 : decode cX12_rule 99 = .ok (.ireturn, 1) := by decide +kernel
theorem dX12_rule_100 : decode cX12_rule 100 = .ok (.aload_n 0, 1) := by decide +kernel
theorem dX12_rule_101 : decode cX12_rule 101 = .ok (.getfield 135, 3) := by decide +kernel
theorem dX12_rule_104 : decode cX12_rule 104 = .ok (.iload 4, 2) := by decide +kernel
theorem dX12_rule_106 : decode cX12_rule 106 = .ok (.iaload, 1) := by decide +kernel
theorem dX12_rule_107 : decode cX12_rule 107 = .ok (.ireturn, 1) := by decide +kernel
theorem dX12_rule_108 : decode cX12_rule 108 = .ok (.aload_n 0, 1) := by decide +kernel
theorem dX12_rule_109 : decode cX12_rule 109 = .ok (.getfield 148, 3) := by decide +kernel
theorem dX12_rule_112 : decode cX12_rule 112 = .ok (.iload 4, 2) := by decide +kernel
theorem dX12_rule_114 : decode cX12_rule 114 = .ok (.iaload, 1) := by decide +kernel
theorem dX12_rule_115 : decode cX12_rule 115 = .ok (.ireturn, 1) := by decide +kernel
theorem dX12_rule_116 : decode cX12_rule 116 = .ok (.aload_n 0, 1) := by decide +kernel
theorem dX12_rule_117 : decode cX12_rule 117 = .ok (.getfield 161, 3) := by decide +kernel
theorem dX12_rule_120 : decode cX12_rule 120 = .ok (.iload 4, 2) := by decide +kernel
theorem dX12_rule_122 : decode cX12_rule 122 = .ok (.iaload, 1) := by decide +kernel
theorem dX12_rule_123 : decode cX12_rule 123 = .ok (.ireturn, 1) := by decide +kernel
theorem dX12_rule_124 : decode cX12_rule 124 = .ok (.bipush (-9), 2) := by decide +kernel
theorem dX12_rule_126 : decode cX12_rule 126 = .ok (.ireturn, 1) := by decide +kernel
theorem dX12_isInForce_0 : decode cX12_isInForce 0 = .ok (.aload_n 0, 1) := by decide +kernel
theorem dX12_isInForce_1 : decode cX12_isInForce 1 = .ok (.getfield 168, 3) := by decide +kernel
theorem dX12_isInForce_4 : decode cX12_isInForce 4 = .ok (.iload_n 1, 1) := by decide +kernel
theorem dX12_isInForce_5 : decode cX12_isInForce 5 = .ok (.iaload, 1) := by decide +kernel
theorem dX12_isInForce_6 : decode cX12_isInForce 6 = .ok (.iload_n 2, 1) := by decide +kernel
theorem dX12_isInForce_7 : decode cX12_isInForce 7 = .ok (.if_icmp .le 5, 3) := by decide +kernel
theorem dX12_isInForce_10 : decode cX12_isInForce 10 = .ok (.iconst 0, 1) := by decide +kernel
theorem dX12_isInForce_11 : decode cX12_isInForce 11 = .ok (.ireturn, 1) := by decide +kernel
theorem dX12_isInForce_12 : decode cX12_isInForce 12 = .ok (.iconst 0, 1) := by decide +kernel
theorem dX12_isInForce_13 : decode cX12_isInForce 13 = .ok (.istore_n 3, 1) := by decide +kernel
theorem dX12_isInForce_14 : decode cX12_isInForce 14 = .ok (.iload_n 3, 1) := by decide +kernel
theorem dX12_isInForce_15 : decode cX12_isInForce 15 = .ok (.aload_n 0, 1) := by decide +kernel
theorem dX12_isInForce_16 : decode cX12_isInForce 16 = .ok (.getfield 118, 3) := by decide +kernel
theorem dX12_isInForce_19 : decode cX12_isInForce 19 = .ok (.if_icmp .ge 35, 3) := by decide +kernel
theorem dX12_isInForce_22 : decode cX12_isInForce 22 = .ok (.aload_n 0, 1) := by decide +kernel
theorem dX12_isInForce_23 : decode cX12_isInForce 23 = .ok (.getfield 168, 3) := by decide +kernel
theorem dX12_isInForce_26 : decode cX12_isInForce 26 = .ok (.iload_n 3, 1) := by decide +kernel
theorem dX12_isInForce_27 : decode cX12_isInForce 27 = .ok (.iaload, 1) := by decide +kernel
theorem dX12_isInForce_28 : decode cX12_isInForce 28 = .ok (.iload_n 2, 1) := by decide +kernel
theorem dX12_isInForce_29 : decode cX12_isInForce 29 = .ok (.if_icmp .gt 19, 3) := by decide +kernel
theorem dX12_isInForce_32 : decode cX12_isInForce 32 = .ok (.aload_n 0, 1) := by decide +kernel
theorem dX12_isInForce_33 : decode cX12_isInForce 33 = .ok (.getfield 98, 3) := by decide +kernel
theorem dX12_isInForce_36 : decode cX12_isInForce 36 = .ok (.iload_n 3, 1) := by decide +kernel
theorem dX12_isInForce_37 : decode cX12_isInForce 37 = .ok (.iaload, 1) := by decide +kernel
theorem dX12_isInForce_38 : decode cX12_isInForce 38 = .ok (.iload_n 1, 1) := by decide +kernel
theorem dX12_isInForce_39 : decode cX12_isInForce 39 = .ok (.ishr, 1) := by decide +kernel
theorem dX12_isInForce_40 : decode cX12_isInForce 40 = .ok (.iconst 1, 1) := by decide +kernel
theorem dX12_isInForce_41 : decode cX12_isInForce 41 = .ok (.iand, 1) := by decide +kernel
theorem dX12_isInForce_42 : decode cX12_isInForce 42 = .ok (.iconst 1, 1) := by decide +kernel
theorem dX12_isInForce_43 : decode cX12_isInForce 43 = .ok (.if_icmp .ne 5, 3) := by decide +kernel
theorem dX12_isInForce_46 : decode cX12_isInForce 46 = .ok (.iconst 0, 1) := by decide +kernel
theorem dX12_isInForce_47 : decode cX12_isInForce 47 = .ok (.ireturn, 1) := by decide +kernel
theorem dX12_isInForce_48 : decode cX12_isInForce 48 = .ok (.iinc 3 1, 3) := by decide +kernel
theorem dX12_isInForce_51 : decode cX12_isInForce 51 = .ok (.goto (-37), 3) := by decide +kernel
theorem dX12_isInForce_54 : decode cX12_isInForce 54 = .ok (.iconst 1, 1) := by decide +kernel
theorem dX12_isInForce_55 : decode cX12_isInForce 55 = .ok (.ireturn, 1) := by decide +kernel
theorem dX12_force_0 : decode cX12_force 0 = .ok (.iload_n 1, 1) := by decide +kernel
theorem dX12_force_1 : decode cX12_force 1 = .ok (.invokestatic 259, 3) := by decide +kernel
theorem dX12_force_4 : decode cX12_force 4 = .ok (.ifCond .ne 6, 3) := by decide +kernel
theorem dX12_force_7 : decode cX12_force 7 = .ok (.bipush (-2), 2) := by decide +kernel
theorem dX12_force_9 : decode cX12_force 9 = .ok (.ireturn, 1) := by decide +kernel
theorem dX12_force_10 : decode cX12_force 10 = .ok (.iconst 0, 1) := by decide +kernel
theorem dX12_force_11 : decode cX12_force 11 = .ok (.istore_n 2, 1) := by decide +kernel
theorem dX12_force_12 : decode cX12_force 12 = .ok (.iconst 0, 1) := by decide +kernel
theorem dX12_force_13 : decode cX12_force 13 = .ok (.istore_n 3, 1) := by decide +kernel
theorem dX12_force_14 : decode cX12_force 14 = .ok (.iload_n 3, 1) := by decide +kernel
theorem dX12_force_15 : decode cX12_force 15 = .ok (.aload_n 0, 1) := by decide +kernel
theorem dX12_force_16 : decode cX12_force 16 = .ok (.getfield 118, 3) := by decide +kernel
theorem dX12_force_19 : decode cX12_force 19 = .ok (.if_icmp .ge 28, 3) := by decide +kernel
theorem dX12_force_22 : decode cX12_force 22 = .ok (.iload_n 2, 1) := by decide +kernel
theorem dX12_force_23 : decode cX12_force 23 = .ok (.aload_n 0, 1) := by decide +kernel
theorem dX12_force_24 : decode cX12_force 24 = .ok (.iload_n 3, 1) := by decide +kernel
theorem dX12_force_25 : decode cX12_force 25 = .ok (.iload_n 1, 1) := by decide +kernel
theorem dX12_force_26 : decode cX12_force 26 = .ok (.invokevirtual 268, 3) := by decide +kernel
theorem dX12_force_29 : decode cX12_force 29 = .ok (.ifCond .eq 9, 3) := by decide +kernel
theorem dX12_force_32 : decode cX12_force 32 = .ok (.iconst 1, 1) := by decide +kernel
theorem dX12_force_33 : decode cX12_force 33 = .ok (.iload_n 3, 1) := by decide +kernel
theorem dX12_force_34 : decode cX12_force 34 = .ok (.ishl, 1) := by decide +kernel
theorem dX12_force_35 : decode cX12_force 35 = .ok (.goto 4, 3) := by decide +kernel
theorem dX12_force_38 : decode cX12_force 38 = .ok (.iconst 0, 1) := by decide +kernel
theorem dX12_force_39 : decode cX12_force 39 = .ok (.ior, 1) := by decide +kernel
theorem dX12_force_40 : decode cX12_force 40 = .ok (.istore_n 2, 1) := by decide +kernel
theorem dX12_force_41 : decode cX12_force 41 = .ok (.iinc 3 1, 3) := by decide +kernel
theorem dX12_force_44 : decode cX12_force 44 = .ok (.goto (-30), 3) := by decide +kernel
theorem dX12_force_47 : decode cX12_force 47 = .ok (.iload_n 2, 1) := by decide +kernel
theorem dX12_force_48 : decode cX12_force 48 = .ok (.ireturn, 1) := by decide +kernel
theorem dX12_isPerson_0 : decode cX12_isPerson 0 = .ok (.iload_n 0, 1) := by decide +kernel
theorem dX12_isPerson_1 : decode cX12_isPerson 1 = .ok (.i2l, 1) := by decide +kernel
theorem dX12_isPerson_2 : decode cX12_isPerson 2 = .ok (.lconst 0, 1) := by decide +kernel
theorem dX12_isPerson_3 : decode cX12_isPerson 3 = .ok (.ldc2_w 272, 3) := by decide +kernel
theorem dX12_isPerson_6 : decode cX12_isPerson 6 = .ok (.invokestatic 5, 3) := by decide +kernel
theorem dX12_isPerson_9 : decode cX12_isPerson 9 = .ok (.ireturn, 1) := by decide +kernel
theorem dX12_areDays_0 : decode cX12_areDays 0 = .ok (.iload_n 0, 1) := by decide +kernel
theorem dX12_areDays_1 : decode cX12_areDays 1 = .ok (.invokestatic 259, 3) := by decide +kernel
theorem dX12_areDays_4 : decode cX12_areDays 4 = .ok (.ifCond .eq 20, 3) := by decide +kernel
theorem dX12_areDays_7 : decode cX12_areDays 7 = .ok (.iload_n 1, 1) := by decide +kernel
theorem dX12_areDays_8 : decode cX12_areDays 8 = .ok (.i2l, 1) := by decide +kernel
theorem dX12_areDays_9 : decode cX12_areDays 9 = .ok (.iload_n 0, 1) := by decide +kernel
theorem dX12_areDays_10 : decode cX12_areDays 10 = .ok (.i2l, 1) := by decide +kernel
theorem dX12_areDays_11 : decode cX12_areDays 11 = .ok (.ldc2_w 3, 3) := by decide +kernel
theorem dX12_areDays_14 : decode cX12_areDays 14 = .ok (.invokestatic 5, 3) := by decide +kernel
theorem dX12_areDays_17 : decode cX12_areDays 17 = .ok (.ifCond .eq 7, 3) := by decide +kernel
theorem dX12_areDays_20 : decode cX12_areDays 20 = .ok (.iconst 1, 1) := by decide +kernel
theorem dX12_areDays_21 : decode cX12_areDays 21 = .ok (.goto 4, 3) := by decide +kernel
theorem dX12_areDays_24 : decode cX12_areDays 24 = .ok (.iconst 0, 1) := by decide +kernel
theorem dX12_areDays_25 : decode cX12_areDays 25 = .ok (.ireturn, 1) := by decide +kernel
theorem dX12_rank_0 : decode cX12_rank 0 = .ok (.iload_n 1, 1) := by decide +kernel
theorem dX12_rank_1 : decode cX12_rank 1 = .ok (.invokestatic 274, 3) := by decide +kernel
theorem dX12_rank_4 : decode cX12_rank 4 = .ok (.ifCond .eq 22, 3) := by decide +kernel
theorem dX12_rank_7 : decode cX12_rank 7 = .ok (.iload_n 2, 1) := by decide +kernel
theorem dX12_rank_8 : decode cX12_rank 8 = .ok (.invokestatic 259, 3) := by decide +kernel
theorem dX12_rank_11 : decode cX12_rank 11 = .ok (.ifCond .eq 15, 3) := by decide +kernel
theorem dX12_rank_14 : decode cX12_rank 14 = .ok (.iload_n 3, 1) := by decide +kernel
theorem dX12_rank_15 : decode cX12_rank 15 = .ok (.i2l, 1) := by decide +kernel
theorem dX12_rank_16 : decode cX12_rank 16 = .ok (.lconst 0, 1) := by decide +kernel
theorem dX12_rank_17 : decode cX12_rank 17 = .ok (.ldc2_w 277, 3) := by decide +kernel
theorem dX12_rank_20 : decode cX12_rank 20 = .ok (.invokestatic 5, 3) := by decide +kernel
theorem dX12_rank_23 : decode cX12_rank 23 = .ok (.ifCond .ne 6, 3) := by decide +kernel
theorem dX12_rank_26 : decode cX12_rank 26 = .ok (.bipush (-2), 2) := by decide +kernel
theorem dX12_rank_28 : decode cX12_rank 28 = .ok (.ireturn, 1) := by decide +kernel
theorem dX12_rank_29 : decode cX12_rank 29 = .ok (.aload_n 0, 1) := by decide +kernel
theorem dX12_rank_30 : decode cX12_rank 30 = .ok (.getfield 174, 3) := by decide +kernel
theorem dX12_rank_33 : decode cX12_rank 33 = .ok (.iload_n 1, 1) := by decide +kernel
theorem dX12_rank_34 : decode cX12_rank 34 = .ok (.iaload, 1) := by decide +kernel
theorem dX12_rank_35 : decode cX12_rank 35 = .ok (.bipush 12, 2) := by decide +kernel
theorem dX12_rank_37 : decode cX12_rank 37 = .ok (.if_icmp .ne 6, 3) := by decide +kernel
theorem dX12_rank_40 : decode cX12_rank 40 = .ok (.bipush (-3), 2) := by decide +kernel
theorem dX12_rank_42 : decode cX12_rank 42 = .ok (.ireturn, 1) := by decide +kernel
theorem dX12_rank_43 : decode cX12_rank 43 = .ok (.aload_n 0, 1) := by decide +kernel
theorem dX12_rank_44 : decode cX12_rank 44 = .ok (.getfield 177, 3) := by decide +kernel
theorem dX12_rank_47 : decode cX12_rank 47 = .ok (.bipush 12, 2) := by decide +kernel
theorem dX12_rank_49 : decode cX12_rank 49 = .ok (.iload_n 1, 1) := by decide +kernel
theorem dX12_rank_50 : decode cX12_rank 50 = .ok (.imul, 1) := by decide +kernel
theorem dX12_rank_51 : decode cX12_rank 51 = .ok (.aload_n 0, 1) := by decide +kernel
theorem dX12_rank_52 : decode cX12_rank 52 = .ok (.getfield 174, 3) := by decide +kernel
theorem dX12_rank_55 : decode cX12_rank 55 = .ok (.iload_n 1, 1) := by decide +kernel
theorem dX12_rank_56 : decode cX12_rank 56 = .ok (.iaload, 1) := by decide +kernel
theorem dX12_rank_57 : decode cX12_rank 57 = .ok (.iadd, 1) := by decide +kernel
theorem dX12_rank_58 : decode cX12_rank 58 = .ok (.iload_n 2, 1) := by decide +kernel
theorem dX12_rank_59 : decode cX12_rank 59 = .ok (.iastore, 1) := by decide +kernel
theorem dX12_rank_60 : decode cX12_rank 60 = .ok (.aload_n 0, 1) := by decide +kernel
theorem dX12_rank_61 : decode cX12_rank 61 = .ok (.getfield 180, 3) := by decide +kernel
theorem dX12_rank_64 : decode cX12_rank 64 = .ok (.bipush 12, 2) := by decide +kernel
theorem dX12_rank_66 : decode cX12_rank 66 = .ok (.iload_n 1, 1) := by decide +kernel
theorem dX12_rank_67 : decode cX12_rank 67 = .ok (.imul, 1) := by decide +kernel
theorem dX12_rank_68 : decode cX12_rank 68 = .ok (.aload_n 0, 1) := by decide +kernel
theorem dX12_rank_69 : decode cX12_rank 69 = .ok (.getfield 174, 3) := by decide +kernel
theorem dX12_rank_72 : decode cX12_rank 72 = .ok (.iload_n 1, 1) := by decide +kernel
theorem dX12_rank_73 : decode cX12_rank 73 = .ok (.iaload, 1) := by decide +kernel
theorem dX12_rank_74 : decode cX12_rank 74 = .ok (.iadd, 1) := by decide +kernel
theorem dX12_rank_75 : decode cX12_rank 75 = .ok (.iload_n 3, 1) := by decide +kernel
theorem dX12_rank_76 : decode cX12_rank 76 = .ok (.iastore, 1) := by decide +kernel
theorem dX12_rank_77 : decode cX12_rank 77 = .ok (.aload_n 0, 1) := by decide +kernel
theorem dX12_rank_78 : decode cX12_rank 78 = .ok (.getfield 174, 3) := by decide +kernel
theorem dX12_rank_81 : decode cX12_rank 81 = .ok (.iload_n 1, 1) := by decide +kernel
theorem dX12_rank_82 : decode cX12_rank 82 = .ok (.dup2, 1) := by decide +kernel
theorem dX12_rank_83 : decode cX12_rank 83 = .ok (.iaload, 1) := by decide +kernel
theorem dX12_rank_84 : decode cX12_rank 84 = .ok (.iconst 1, 1) := by decide +kernel
theorem dX12_rank_85 : decode cX12_rank 85 = .ok (.iadd, 1) := by decide +kernel
theorem dX12_rank_86 : decode cX12_rank 86 = .ok (.iastore, 1) := by decide +kernel
theorem dX12_rank_87 : decode cX12_rank 87 = .ok (.aload_n 0, 1) := by decide +kernel
theorem dX12_rank_88 : decode cX12_rank 88 = .ok (.getfield 174, 3) := by decide +kernel
theorem dX12_rank_91 : decode cX12_rank 91 = .ok (.iload_n 1, 1) := by decide +kernel
theorem dX12_rank_92 : decode cX12_rank 92 = .ok (.iaload, 1) := by decide +kernel
theorem dX12_rank_93 : decode cX12_rank 93 = .ok (.ireturn, 1) := by decide +kernel
theorem dX12_feast_0 : decode cX12_feast 0 = .ok (.iload_n 1, 1) := by decide +kernel
theorem dX12_feast_1 : decode cX12_feast 1 = .ok (.iload_n 2, 1) := by decide +kernel
theorem dX12_feast_2 : decode cX12_feast 2 = .ok (.invokestatic 279, 3) := by decide +kernel
theorem dX12_feast_5 : decode cX12_feast 5 = .ok (.ifCond .ne 6, 3) := by decide +kernel
theorem dX12_feast_8 : decode cX12_feast 8 = .ok (.bipush (-2), 2) := by decide +kernel
theorem dX12_feast_10 : decode cX12_feast 10 = .ok (.ireturn, 1) := by decide +kernel
theorem dX12_feast_11 : decode cX12_feast 11 = .ok (.aload_n 0, 1) := by decide +kernel
theorem dX12_feast_12 : decode cX12_feast 12 = .ok (.getfield 282, 3) := by decide +kernel
theorem dX12_feast_15 : decode cX12_feast 15 = .ok (.bipush 20, 2) := by decide +kernel
theorem dX12_feast_17 : decode cX12_feast 17 = .ok (.if_icmp .ne 6, 3) := by decide +kernel
theorem dX12_feast_20 : decode cX12_feast 20 = .ok (.bipush (-3), 2) := by decide +kernel
theorem dX12_feast_22 : decode cX12_feast 22 = .ok (.ireturn, 1) := by decide +kernel
theorem dX12_feast_23 : decode cX12_feast 23 = .ok (.aload_n 0, 1) := by decide +kernel
theorem dX12_feast_24 : decode cX12_feast 24 = .ok (.getfield 192, 3) := by decide +kernel
theorem dX12_feast_27 : decode cX12_feast 27 = .ok (.aload_n 0, 1) := by decide +kernel
theorem dX12_feast_28 : decode cX12_feast 28 = .ok (.getfield 282, 3) := by decide +kernel
theorem dX12_feast_31 : decode cX12_feast 31 = .ok (.iload_n 1, 1) := by decide +kernel
theorem dX12_feast_32 : decode cX12_feast 32 = .ok (.iastore, 1) := by decide +kernel
theorem dX12_feast_33 : decode cX12_feast 33 = .ok (.aload_n 0, 1) := by decide +kernel
theorem dX12_feast_34 : decode cX12_feast 34 = .ok (.getfield 195, 3) := by decide +kernel
theorem dX12_feast_37 : decode cX12_feast 37 = .ok (.aload_n 0, 1) := by decide +kernel
theorem dX12_feast_38 : decode cX12_feast 38 = .ok (.getfield 282, 3) := by decide +kernel
theorem dX12_feast_41 : decode cX12_feast 41 = .ok (.iload_n 2, 1) := by decide +kernel
theorem dX12_feast_42 : decode cX12_feast 42 = .ok (.iastore, 1) := by decide +kernel
theorem dX12_feast_43 : decode cX12_feast 43 = .ok (.aload_n 0, 1) := by decide +kernel
theorem dX12_feast_44 : decode cX12_feast 44 = .ok (.dup, 1) := by decide +kernel
theorem dX12_feast_45 : decode cX12_feast 45 = .ok (.getfield 282, 3) := by decide +kernel
theorem dX12_feast_48 : decode cX12_feast 48 = .ok (.iconst 1, 1) := by decide +kernel
theorem dX12_feast_49 : decode cX12_feast 49 = .ok (.iadd, 1) := by decide +kernel
theorem dX12_feast_50 : decode cX12_feast 50 = .ok (.putfield 282, 3) := by decide +kernel
theorem dX12_feast_53 : decode cX12_feast 53 = .ok (.aload_n 0, 1) := by decide +kernel
theorem dX12_feast_54 : decode cX12_feast 54 = .ok (.getfield 282, 3) := by decide +kernel
theorem dX12_feast_57 : decode cX12_feast 57 = .ok (.ireturn, 1) := by decide +kernel
theorem dX12_wedding_0 : decode cX12_wedding 0 = .ok (.iload_n 1, 1) := by decide +kernel
theorem dX12_wedding_1 : decode cX12_wedding 1 = .ok (.invokestatic 274, 3) := by decide +kernel
theorem dX12_wedding_4 : decode cX12_wedding 4 = .ok (.ifCond .eq 11, 3) := by decide +kernel
theorem dX12_wedding_7 : decode cX12_wedding 7 = .ok (.iload_n 2, 1) := by decide +kernel
theorem dX12_wedding_8 : decode cX12_wedding 8 = .ok (.iload_n 3, 1) := by decide +kernel
theorem dX12_wedding_9 : decode cX12_wedding 9 = .ok (.invokestatic 279, 3) := by decide +kernel
theorem dX12_wedding_12 : decode cX12_wedding 12 = .ok (.ifCond .ne 6, 3) := by decide +kernel
theorem dX12_wedding_15 : decode cX12_wedding 15 = .ok (.bipush (-2), 2) := by decide +kernel
theorem dX12_wedding_17 : decode cX12_wedding 17 = .ok (.ireturn, 1) := by decide +kernel
theorem dX12_wedding_18 : decode cX12_wedding 18 = .ok (.aload_n 0, 1) := by decide +kernel
theorem dX12_wedding_19 : decode cX12_wedding 19 = .ok (.getfield 183, 3) := by decide +kernel
theorem dX12_wedding_22 : decode cX12_wedding 22 = .ok (.iload_n 1, 1) := by decide +kernel
theorem dX12_wedding_23 : decode cX12_wedding 23 = .ok (.iaload, 1) := by decide +kernel
theorem dX12_wedding_24 : decode cX12_wedding 24 = .ok (.iconst 4, 1) := by decide +kernel
theorem dX12_wedding_25 : decode cX12_wedding 25 = .ok (.if_icmp .ne 6, 3) := by decide +kernel
theorem dX12_wedding_28 : decode cX12_wedding 28 = .ok (.bipush (-3), 2) := by decide +kernel
theorem dX12_wedding_30 : decode cX12_wedding 30 = .ok (.ireturn, 1) := by decide +kernel
theorem dX12_wedding_31 : decode cX12_wedding 31 = .ok (.aload_n 0, 1) := by decide +kernel
theorem dX12_wedding_32 : decode cX12_wedding 32 = .ok (.getfield 186, 3) := by decide +kernel
theorem dX12_wedding_35 : decode cX12_wedding 35 = .ok (.iconst 4, 1) := by decide +kernel
theorem dX12_wedding_36 : decode cX12_wedding 36 = .ok (.iload_n 1, 1) := by decide +kernel
theorem dX12_wedding_37 : decode cX12_wedding 37 = .ok (.imul, 1) := by decide +kernel
theorem dX12_wedding_38 : decode cX12_wedding 38 = .ok (.aload_n 0, 1) := by decide +kernel
theorem dX12_wedding_39 : decode cX12_wedding 39 = .ok (.getfield 183, 3) := by decide +kernel
theorem dX12_wedding_42 : decode cX12_wedding 42 = .ok (.iload_n 1, 1) := by decide +kernel
theorem dX12_wedding_43 : decode cX12_wedding 43 = .ok (.iaload, 1) := by decide +kernel
theorem dX12_wedding_44 : decode cX12_wedding 44 = .ok (.iadd, 1) := by decide +kernel
theorem dX12_wedding_45 : decode cX12_wedding 45 = .ok (.iload_n 2, 1) := by decide +kernel
theorem dX12_wedding_46 : decode cX12_wedding 46 = .ok (.iastore, 1) := by decide +kernel
theorem dX12_wedding_47 : decode cX12_wedding 47 = .ok (.aload_n 0, 1) := by decide +kernel
theorem dX12_wedding_48 : decode cX12_wedding 48 = .ok (.getfield 189, 3) := by decide +kernel
theorem dX12_wedding_51 : decode cX12_wedding 51 = .ok (.iconst 4, 1) := by decide +kernel
theorem dX12_wedding_52 : decode cX12_wedding 52 = .ok (.iload_n 1, 1) := by decide +kernel
theorem dX12_wedding_53 : decode cX12_wedding 53 = .ok (.imul, 1) := by decide +kernel
theorem dX12_wedding_54 : decode cX12_wedding 54 = .ok (.aload_n 0, 1) := by decide +kernel
theorem dX12_wedding_55 : decode cX12_wedding 55 = .ok (.getfield 183, 3) := by decide +kernel
theorem dX12_wedding_58 : decode cX12_wedding 58 = .ok (.iload_n 1, 1) := by decide +kernel
theorem dX12_wedding_59 : decode cX12_wedding 59 = .ok (.iaload, 1) := by decide +kernel
theorem dX12_wedding_60 : decode cX12_wedding 60 = .ok (.iadd, 1) := by decide +kernel
theorem dX12_wedding_61 : decode cX12_wedding 61 = .ok (.iload_n 3, 1) := by decide +kernel
theorem dX12_wedding_62 : decode cX12_wedding 62 = .ok (.iastore, 1) := by decide +kernel
theorem dX12_wedding_63 : decode cX12_wedding 63 = .ok (.aload_n 0, 1) := by decide +kernel
theorem dX12_wedding_64 : decode cX12_wedding 64 = .ok (.getfield 183, 3) := by decide +kernel
theorem dX12_wedding_67 : decode cX12_wedding 67 = .ok (.iload_n 1, 1) := by decide +kernel
theorem dX12_wedding_68 : decode cX12_wedding 68 = .ok (.dup2, 1) := by decide +kernel
theorem dX12_wedding_69 : decode cX12_wedding 69 = .ok (.iaload, 1) := by decide +kernel
theorem dX12_wedding_70 : decode cX12_wedding 70 = .ok (.iconst 1, 1) := by decide +kernel
theorem dX12_wedding_71 : decode cX12_wedding 71 = .ok (.iadd, 1) := by decide +kernel
theorem dX12_wedding_72 : decode cX12_wedding 72 = .ok (.iastore, 1) := by decide +kernel
theorem dX12_wedding_73 : decode cX12_wedding 73 = .ok (.aload_n 0, 1) := by decide +kernel
theorem dX12_wedding_74 : decode cX12_wedding 74 = .ok (.getfield 183, 3) := by decide +kernel
theorem dX12_wedding_77 : decode cX12_wedding 77 = .ok (.iload_n 1, 1) := by decide +kernel
theorem dX12_wedding_78 : decode cX12_wedding 78 = .ok (.iaload, 1) := by decide +kernel
theorem dX12_wedding_79 : decode cX12_wedding 79 = .ok (.ireturn, 1) := by decide +kernel
theorem dX12_rankOf_0 : decode cX12_rankOf 0 = .ok (.iconst (-1), 1) := by decide +kernel
theorem dX12_rankOf_1 : decode cX12_rankOf 1 = .ok (.istore_n 3, 1) := by decide +kernel
theorem dX12_rankOf_2 : decode cX12_rankOf 2 = .ok (.bipush 12, 2) := by decide +kernel
theorem dX12_rankOf_4 : decode cX12_rankOf 4 = .ok (.iload_n 1, 1) := by decide +kernel
theorem dX12_rankOf_5 : decode cX12_rankOf 5 = .ok (.imul, 1) := by decide +kernel
theorem dX12_rankOf_6 : decode cX12_rankOf 6 = .ok (.istore 4, 2) := by decide +kernel
theorem dX12_rankOf_8 : decode cX12_rankOf 8 = .ok (.iload 4, 2) := by decide +kernel
theorem dX12_rankOf_10 : decode cX12_rankOf 10 = .ok (.bipush 12, 2) := by decide +kernel
theorem dX12_rankOf_12 : decode cX12_rankOf 12 = .ok (.iload_n 1, 1) := by decide +kernel
theorem dX12_rankOf_13 : decode cX12_rankOf 13 = .ok (.imul, 1) := by decide +kernel
theorem dX12_rankOf_14 : decode cX12_rankOf 14 = .ok (.aload_n 0, 1) := by decide +kernel
theorem dX12_rankOf_15 : decode cX12_rankOf 15 = .ok (.getfield 174, 3) := by decide +kernel
theorem dX12_rankOf_18 : decode cX12_rankOf 18 = .ok (.iload_n 1, 1) := by decide +kernel
theorem dX12_rankOf_19 : decode cX12_rankOf 19 = .ok (.iaload, 1) := by decide +kernel
theorem dX12_rankOf_20 : decode cX12_rankOf 20 = .ok (.iadd, 1) := by decide +kernel
theorem dX12_rankOf_21 : decode cX12_rankOf 21 = .ok (.if_icmp .ge 44, 3) := by decide +kernel
theorem dX12_rankOf_24 : decode cX12_rankOf 24 = .ok (.aload_n 0, 1) := by decide +kernel
theorem dX12_rankOf_25 : decode cX12_rankOf 25 = .ok (.getfield 177, 3) := by decide +kernel
theorem dX12_rankOf_28 : decode cX12_rankOf 28 = .ok (.iload 4, 2) := by decide +kernel
theorem dX12_rankOf_30 : decode cX12_rankOf 30 = .ok (.iaload, 1) := by decide +kernel
theorem dX12_rankOf_31 : decode cX12_rankOf 31 = .ok (.iload_n 2, 1) := by decide +kernel
theorem dX12_rankOf_32 : decode cX12_rankOf 32 = .ok (.if_icmp .gt 27, 3) := by decide +kernel
theorem dX12_rankOf_35 : decode cX12_rankOf 35 = .ok (.iload_n 3, 1) := by decide +kernel
theorem dX12_rankOf_36 : decode cX12_rankOf 36 = .ok (.iconst (-1), 1) := by decide +kernel
theorem dX12_rankOf_37 : decode cX12_rankOf 37 = .ok (.if_icmp .eq 19, 3) := by decide +kernel
theorem dX12_rankOf_40 : decode cX12_rankOf 40 = .ok (.aload_n 0, 1) := by decide +kernel
theorem dX12_rankOf_41 : decode cX12_rankOf 41 = .ok (.getfield 177, 3) := by decide +kernel
theorem dX12_rankOf_44 : decode cX12_rankOf 44 = .ok (.iload 4, 2) := by decide +kernel
theorem dX12_rankOf_46 : decode cX12_rankOf 46 = .ok (.iaload, 1) := by decide +kernel
theorem dX12_rankOf_47 : decode cX12_rankOf 47 = .ok (.aload_n 0, 1) := by decide +kernel
theorem dX12_rankOf_48 : decode cX12_rankOf 48 = .ok (.getfield 177, 3) := by decide +kernel
theorem dX12_rankOf_51 : decode cX12_rankOf 51 = .ok (.iload_n 3, 1) := by decide +kernel
theorem dX12_rankOf_52 : decode cX12_rankOf 52 = .ok (.iaload, 1) := by decide +kernel
theorem dX12_rankOf_53 : decode cX12_rankOf 53 = .ok (.if_icmp .lt 6, 3) := by decide +kernel
theorem dX12_rankOf_56 : decode cX12_rankOf 56 = .ok (.iload 4, 2) := by decide +kernel
theorem dX12_rankOf_58 : decode cX12_rankOf 58 = .ok (.istore_n 3, 1) := by decide +kernel
theorem dX12_rankOf_59 : decode cX12_rankOf 59 = .ok (.iinc 4 1, 3) := by decide +kernel
theorem dX12_rankOf_62 : decode cX12_rankOf 62 = .ok (.goto (-54), 3) := by decide +kernel
theorem dX12_rankOf_65 : decode cX12_rankOf 65 = .ok (.iload_n 3, 1) := by decide +kernel
theorem dX12_rankOf_66 : decode cX12_rankOf 66 = .ok (.iconst (-1), 1) := by decide +kernel
theorem dX12_rankOf_67 : decode cX12_rankOf 67 = .ok (.if_icmp .ne 7, 3) := by decide +kernel
theorem dX12_rankOf_70 : decode cX12_rankOf 70 = .ok (.iconst 5, 1) := by decide +kernel
theorem dX12_rankOf_71 : decode cX12_rankOf 71 = .ok (.goto 9, 3) := by decide +kernel
theorem dX12_rankOf_74 : decode cX12_rankOf 74 = .ok (.aload_n 0, 1) := by decide +kernel
theorem dX12_rankOf_75 : decode cX12_rankOf 75 = .ok (.getfield 180, 3) := by decide +kernel
theorem dX12_rankOf_78 : decode cX12_rankOf 78 = .ok (.iload_n 3, 1) := by decide +kernel
theorem dX12_rankOf_79 : decode cX12_rankOf 79 = .ok (.iaload, 1) := by decide +kernel
theorem dX12_rankOf_80 : decode cX12_rankOf 80 = .ok (.ireturn, 1) := by decide +kernel
theorem dX12_occasionOf_0 : decode cX12_occasionOf 0 = .ok (.iconst 4, 1) := by decide +kernel
theorem dX12_occasionOf_1 : decode cX12_occasionOf 1 = .ok (.iload_n 1, 1) := by decide +kernel
theorem dX12_occasionOf_2 : decode cX12_occasionOf 2 = .ok (.imul, 1) := by decide +kernel
theorem dX12_occasionOf_3 : decode cX12_occasionOf 3 = .ok (.istore_n 3, 1) := by decide +kernel
theorem dX12_occasionOf_4 : decode cX12_occasionOf 4 = .ok (.iload_n 3, 1) := by decide +kernel
theorem dX12_occasionOf_5 : decode cX12_occasionOf 5 = .ok (.iconst 4, 1) := by decide +kernel
theorem dX12_occasionOf_6 : decode cX12_occasionOf 6 = .ok (.iload_n 1, 1) := by decide +kernel
theorem dX12_occasionOf_7 : decode cX12_occasionOf 7 = .ok (.imul, 1) := by decide +kernel
theorem dX12_occasionOf_8 : decode cX12_occasionOf 8 = .ok (.aload_n 0, 1) := by decide +kernel
theorem dX12_occasionOf_9 : decode cX12_occasionOf 9 = .ok (.getfield 183, 3) := by decide +kernel
theorem dX12_occasionOf_12 : decode cX12_occasionOf 12 = .ok (.iload_n 1, 1) := by decide +kernel
theorem dX12_occasionOf_13 : decode cX12_occasionOf 13 = .ok (.iaload, 1) := by decide +kernel
theorem dX12_occasionOf_14 : decode cX12_occasionOf 14 = .ok (.iadd, 1) := by decide +kernel
theorem dX12_occasionOf_15 : decode cX12_occasionOf 15 = .ok (.if_icmp .ge 33, 3) := by decide +kernel
theorem dX12_occasionOf_18 : decode cX12_occasionOf 18 = .ok (.iload_n 2, 1) := by decide +kernel
theorem dX12_occasionOf_19 : decode cX12_occasionOf 19 = .ok (.i2l, 1) := by decide +kernel
theorem dX12_occasionOf_20 : decode cX12_occasionOf 20 = .ok (.aload_n 0, 1) := by decide +kernel
theorem dX12_occasionOf_21 : decode cX12_occasionOf 21 = .ok (.getfield 186, 3) := by decide +kernel
theorem dX12_occasionOf_24 : decode cX12_occasionOf 24 = .ok (.iload_n 3, 1) := by decide +kernel
theorem dX12_occasionOf_25 : decode cX12_occasionOf 25 = .ok (.iaload, 1) := by decide +kernel
theorem dX12_occasionOf_26 : decode cX12_occasionOf 26 = .ok (.i2l, 1) := by decide +kernel
theorem dX12_occasionOf_27 : decode cX12_occasionOf 27 = .ok (.aload_n 0, 1) := by decide +kernel
theorem dX12_occasionOf_28 : decode cX12_occasionOf 28 = .ok (.getfield 189, 3) := by decide +kernel
theorem dX12_occasionOf_31 : decode cX12_occasionOf 31 = .ok (.iload_n 3, 1) := by decide +kernel
theorem dX12_occasionOf_32 : decode cX12_occasionOf 32 = .ok (.iaload, 1) := by decide +kernel
theorem dX12_occasionOf_33 : decode cX12_occasionOf 33 = .ok (.i2l, 1) := by decide +kernel
theorem dX12_occasionOf_34 : decode cX12_occasionOf 34 = .ok (.invokestatic 5, 3) := by decide +kernel
theorem dX12_occasionOf_37 : decode cX12_occasionOf 37 = .ok (.ifCond .eq 5, 3) := by decide +kernel
theorem dX12_occasionOf_40 : decode cX12_occasionOf 40 = .ok (.iconst 2, 1) := by decide +kernel
theorem dX12_occasionOf_41 : decode cX12_occasionOf 41 = .ok (.ireturn, 1) := by decide +kernel
theorem dX12_occasionOf_42 : decode cX12_occasionOf 42 = .ok (.iinc 3 1, 3) := by decide +kernel
theorem dX12_occasionOf_45 : decode cX12_occasionOf 45 = .ok (.goto (-41), 3) := by decide +kernel
theorem dX12_occasionOf_48 : decode cX12_occasionOf 48 = .ok (.iconst 0, 1) := by decide +kernel
theorem dX12_occasionOf_49 : decode cX12_occasionOf 49 = .ok (.istore_n 3, 1) := by decide +kernel
theorem dX12_occasionOf_50 : decode cX12_occasionOf 50 = .ok (.iload_n 3, 1) := by decide +kernel
theorem dX12_occasionOf_51 : decode cX12_occasionOf 51 = .ok (.aload_n 0, 1) := by decide +kernel
theorem dX12_occasionOf_52 : decode cX12_occasionOf 52 = .ok (.getfield 282, 3) := by decide +kernel
theorem dX12_occasionOf_55 : decode cX12_occasionOf 55 = .ok (.if_icmp .ge 33, 3) := by decide +kernel
theorem dX12_occasionOf_58 : decode cX12_occasionOf 58 = .ok (.iload_n 2, 1) := by decide +kernel
theorem dX12_occasionOf_59 : decode cX12_occasionOf 59 = .ok (.i2l, 1) := by decide +kernel
theorem dX12_occasionOf_60 : decode cX12_occasionOf 60 = .ok (.aload_n 0, 1) := by decide +kernel
theorem dX12_occasionOf_61 : decode cX12_occasionOf 61 = .ok (.getfield 192, 3) := by decide +kernel
theorem dX12_occasionOf_64 : decode cX12_occasionOf 64 = .ok (.iload_n 3, 1) := by decide +kernel
theorem dX12_occasionOf_65 : decode cX12_occasionOf 65 = .ok (.iaload, 1) := by decide +kernel
theorem dX12_occasionOf_66 : decode cX12_occasionOf 66 = .ok (.i2l, 1) := by decide +kernel
theorem dX12_occasionOf_67 : decode cX12_occasionOf 67 = .ok (.aload_n 0, 1) := by decide +kernel
theorem dX12_occasionOf_68 : decode cX12_occasionOf 68 = .ok (.getfield 195, 3) := by decide +kernel
theorem dX12_occasionOf_71 : decode cX12_occasionOf 71 = .ok (.iload_n 3, 1) := by decide +kernel
theorem dX12_occasionOf_72 : decode cX12_occasionOf 72 = .ok (.iaload, 1) := by decide +kernel
theorem dX12_occasionOf_73 : decode cX12_occasionOf 73 = .ok (.i2l, 1) := by decide +kernel
theorem dX12_occasionOf_74 : decode cX12_occasionOf 74 = .ok (.invokestatic 5, 3) := by decide +kernel
theorem dX12_occasionOf_77 : decode cX12_occasionOf 77 = .ok (.ifCond .eq 5, 3) := by decide +kernel
theorem dX12_occasionOf_80 : decode cX12_occasionOf 80 = .ok (.iconst 1, 1) := by decide +kernel
theorem dX12_occasionOf_81 : decode cX12_occasionOf 81 = .ok (.ireturn, 1) := by decide +kernel
theorem dX12_occasionOf_82 : decode cX12_occasionOf 82 = .ok (.iinc 3 1, 3) := by decide +kernel
theorem dX12_occasionOf_85 : decode cX12_occasionOf 85 = .ok (.goto (-35), 3) := by decide +kernel
theorem dX12_occasionOf_88 : decode cX12_occasionOf 88 = .ok (.iconst 0, 1) := by decide +kernel
theorem dX12_occasionOf_89 : decode cX12_occasionOf 89 = .ok (.ireturn, 1) := by decide +kernel
theorem dX12_on_0 : decode cX12_on 0 = .ok (.iload_n 1, 1) := by decide +kernel
theorem dX12_on_1 : decode cX12_on 1 = .ok (.invokestatic 274, 3) := by decide +kernel
theorem dX12_on_4 : decode cX12_on 4 = .ok (.ifCond .eq 20, 3) := by decide +kernel
theorem dX12_on_7 : decode cX12_on 7 = .ok (.iload_n 2, 1) := by decide +kernel
theorem dX12_on_8 : decode cX12_on 8 = .ok (.invokestatic 259, 3) := by decide +kernel
theorem dX12_on_11 : decode cX12_on 11 = .ok (.ifCond .eq 13, 3) := by decide +kernel
theorem dX12_on_14 : decode cX12_on 14 = .ok (.iload_n 3, 1) := by decide +kernel
theorem dX12_on_15 : decode cX12_on 15 = .ok (.i2l, 1) := by decide +kernel
theorem dX12_on_16 : decode cX12_on 16 = .ok (.lconst 0, 1) := by decide +kernel
