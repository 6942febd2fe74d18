theorem dX6_heldOn_41 : decode cX6_heldOn 41 = .ok (.getfield 25, 3) := by decide +kernel
theorem dX6_heldOn_44 : decode cX6_heldOn 44 = .ok (.iload 6, 2) := by decide +kernel
theorem dX6_heldOn_46 : decode cX6_heldOn 46 = .ok (.iaload, 1) := by decide +kernel
theorem dX6_heldOn_47 : decode cX6_heldOn 47 = .ok (.iload 5, 2) := by decide +kernel
theorem dX6_heldOn_49 : decode cX6_heldOn 49 = .ok (.if_icmp .lt 21, 3) := by decide +kernel
theorem dX6_heldOn_52 : decode cX6_heldOn 52 = .ok (.aload_n 0, 1) := by decide +kernel
theorem dX6_heldOn_53 : decode cX6_heldOn 53 = .ok (.getfield 25, 3) := by decide +kernel
theorem dX6_heldOn_56 : decode cX6_heldOn 56 = .ok (.iload 6, 2) := by decide +kernel
theorem dX6_heldOn_58 : decode cX6_heldOn 58 = .ok (.iaload, 1) := by decide +kernel
theorem dX6_heldOn_59 : decode cX6_heldOn 59 = .ok (.istore 5, 2) := by decide +kernel
theorem dX6_heldOn_61 : decode cX6_heldOn 61 = .ok (.aload_n 0, 1) := by decide +kernel
theorem dX6_heldOn_62 : decode cX6_heldOn 62 = .ok (.getfield 28, 3) := by decide +kernel
theorem dX6_heldOn_65 : decode cX6_heldOn 65 = .ok (.iload 6, 2) := by decide +kernel
theorem dX6_heldOn_67 : decode cX6_heldOn 67 = .ok (.iaload, 1) := by decide +kernel
theorem dX6_heldOn_68 : decode cX6_heldOn 68 = .ok (.istore 4, 2) := by decide +kernel
theorem dX6_heldOn_70 : decode cX6_heldOn 70 = .ok (.iinc 6 1, 3) := by decide +kernel
theorem dX6_heldOn_73 : decode cX6_heldOn 73 = .ok (.goto (-64), 3) := by decide +kernel
theorem dX6_heldOn_76 : decode cX6_heldOn 76 = .ok (.iload 4, 2) := by decide +kernel
theorem dX6_heldOn_78 : decode cX6_heldOn 78 = .ok (.ireturn, 1) := by decide +kernel
theorem dX6_spanOver_0 : decode cX6_spanOver 0 = .ok (.iconst 0, 1) := by decide +kernel
theorem dX6_spanOver_1 : decode cX6_spanOver 1 = .ok (.istore_n 3, 1) := by decide +kernel
theorem dX6_spanOver_2 : decode cX6_spanOver 2 = .ok (.iload_n 3, 1) := by decide +kernel
theorem dX6_spanOver_3 : decode cX6_spanOver 3 = .ok (.aload_n 0, 1) := by decide +kernel
theorem dX6_spanOver_4 : decode cX6_spanOver 4 = .ok (.getfield 9, 3) := by decide +kernel
theorem dX6_spanOver_7 : decode cX6_spanOver 7 = .ok (.if_icmp .ge 41, 3) := by decide +kernel
theorem dX6_spanOver_10 : decode cX6_spanOver 10 = .ok (.aload_n 0, 1) := by decide +kernel
theorem dX6_spanOver_11 : decode cX6_spanOver 11 = .ok (.getfield 21, 3) := by decide +kernel
theorem dX6_spanOver_14 : decode cX6_spanOver 14 = .ok (.iload_n 3, 1) := by decide +kernel
theorem dX6_spanOver_15 : decode cX6_spanOver 15 = .ok (.iaload, 1) := by decide +kernel
theorem dX6_spanOver_16 : decode cX6_spanOver 16 = .ok (.iload_n 1, 1) := by decide +kernel
theorem dX6_spanOver_17 : decode cX6_spanOver 17 = .ok (.if_icmp .ne 25, 3) := by decide +kernel
theorem dX6_spanOver_20 : decode cX6_spanOver 20 = .ok (.aload_n 0, 1) := by decide +kernel
theorem dX6_spanOver_21 : decode cX6_spanOver 21 = .ok (.getfield 25, 3) := by decide +kernel
theorem dX6_spanOver_24 : decode cX6_spanOver 24 = .ok (.iload_n 3, 1) := by decide +kernel
theorem dX6_spanOver_25 : decode cX6_spanOver 25 = .ok (.iaload, 1) := by decide +kernel
theorem dX6_spanOver_26 : decode cX6_spanOver 26 = .ok (.iload_n 2, 1) := by decide +kernel
theorem dX6_spanOver_27 : decode cX6_spanOver 27 = .ok (.if_icmp .gt 15, 3) := by decide +kernel
theorem dX6_spanOver_30 : decode cX6_spanOver 30 = .ok (.iload_n 2, 1) := by decide +kernel
theorem dX6_spanOver_31 : decode cX6_spanOver 31 = .ok (.aload_n 0, 1) := by decide +kernel
theorem dX6_spanOver_32 : decode cX6_spanOver 32 = .ok (.getfield 28, 3) := by decide +kernel
theorem dX6_spanOver_35 : decode cX6_spanOver 35 = .ok (.iload_n 3, 1) := by decide +kernel
theorem dX6_spanOver_36 : decode cX6_spanOver 36 = .ok (.iaload, 1) := by decide +kernel
theorem dX6_spanOver_37 : decode cX6_spanOver 37 = .ok (.if_icmp .gt 5, 3) := by decide +kernel
theorem dX6_spanOver_40 : decode cX6_spanOver 40 = .ok (.iconst 1, 1) := by decide +kernel
theorem dX6_spanOver_41 : decode cX6_spanOver 41 = .ok (.ireturn, 1) := by decide +kernel
theorem dX6_spanOver_42 : decode cX6_spanOver 42 = .ok (.iinc 3 1, 3) := by decide +kernel
theorem dX6_spanOver_45 : decode cX6_spanOver 45 = .ok (.goto (-43), 3) := by decide +kernel
theorem dX6_spanOver_48 : decode cX6_spanOver 48 = .ok (.iconst 0, 1) := by decide +kernel
theorem dX6_spanOver_49 : decode cX6_spanOver 49 = .ok (.ireturn, 1) := by decide +kernel
theorem dX7_init_0 : decode cX7_init 0 = .ok (.aload_n 0, 1) := by decide +kernel
theorem dX7_init_1 : decode cX7_init 1 = .ok (.invokespecial 3, 3) := by decide +kernel
theorem dX7_init_4 : decode cX7_init 4 = .ok (.aload_n 0, 1) := by decide +kernel
theorem dX7_init_5 : decode cX7_init 5 = .ok (.iload_n 1, 1) := by decide +kernel
theorem dX7_init_6 : decode cX7_init 6 = .ok (.putfield 9, 3) := by decide +kernel
theorem dX7_init_9 : decode cX7_init 9 = .ok (.aload_n 0, 1) := by decide +kernel
theorem dX7_init_10 : decode cX7_init 10 = .ok (.iload_n 2, 1) := by decide +kernel
theorem dX7_init_11 : decode cX7_init 11 = .ok (.putfield 15, 3) := by decide +kernel
theorem dX7_init_14 : decode cX7_init 14 = .ok (.aload_n 0, 1) := by decide +kernel
theorem dX7_init_15 : decode cX7_init 15 = .ok (.iload_n 3, 1) := by decide +kernel
theorem dX7_init_16 : decode cX7_init 16 = .ok (.putfield 18, 3) := by decide +kernel
theorem dX7_init_19 : decode cX7_init 19 = .ok (.aload_n 0, 1) := by decide +kernel
theorem dX7_init_20 : decode cX7_init 20 = .ok (.iload 4, 2) := by decide +kernel
theorem dX7_init_22 : decode cX7_init 22 = .ok (.putfield 21, 3) := by decide +kernel
theorem dX7_init_25 : decode cX7_init 25 = .ok (.aload_n 0, 1) := by decide +kernel
theorem dX7_init_26 : decode cX7_init 26 = .ok (.iload 5, 2) := by decide +kernel
theorem dX7_init_28 : decode cX7_init 28 = .ok (.putfield 24, 3) := by decide +kernel
theorem dX7_init_31 : decode cX7_init 31 = .ok (.aload_n 0, 1) := by decide +kernel
theorem dX7_init_32 : decode cX7_init 32 = .ok (.iload 6, 2) := by decide +kernel
theorem dX7_init_34 : decode cX7_init 34 = .ok (.putfield 27, 3) := by decide +kernel
theorem dX7_init_37 : decode cX7_init 37 = .ok (.return_, 1) := by decide +kernel
theorem dX7_concerns_0 : decode cX7_concerns 0 = .ok (.aload_n 0, 1) := by decide +kernel
theorem dX7_concerns_1 : decode cX7_concerns 1 = .ok (.getfield 18, 3) := by decide +kernel
theorem dX7_concerns_4 : decode cX7_concerns 4 = .ok (.aload_n 1, 1) := by decide +kernel
theorem dX7_concerns_5 : decode cX7_concerns 5 = .ok (.getfield 30, 3) := by decide +kernel
theorem dX7_concerns_8 : decode cX7_concerns 8 = .ok (.if_icmp .gt 18, 3) := by decide +kernel
theorem dX7_concerns_11 : decode cX7_concerns 11 = .ok (.aload_n 1, 1) := by decide +kernel
theorem dX7_concerns_12 : decode cX7_concerns 12 = .ok (.getfield 30, 3) := by decide +kernel
theorem dX7_concerns_15 : decode cX7_concerns 15 = .ok (.aload_n 0, 1) := by decide +kernel
theorem dX7_concerns_16 : decode cX7_concerns 16 = .ok (.getfield 21, 3) := by decide +kernel
theorem dX7_concerns_19 : decode cX7_concerns 19 = .ok (.if_icmp .gt 7, 3) := by decide +kernel
theorem dX7_concerns_22 : decode cX7_concerns 22 = .ok (.iconst 1, 1) := by decide +kernel
theorem dX7_concerns_23 : decode cX7_concerns 23 = .ok (.goto 4, 3) := by decide +kernel
theorem dX7_concerns_26 : decode cX7_concerns 26 = .ok (.iconst 0, 1) := by decide +kernel
theorem dX7_concerns_27 : decode cX7_concerns 27 = .ok (.istore_n 2, 1) := by decide +kernel
theorem dX7_concerns_28 : decode cX7_concerns 28 = .ok (.iload_n 2, 1) := by decide +kernel
theorem dX7_concerns_29 : decode cX7_concerns 29 = .ok (.ifCond .eq 26, 3) := by decide +kernel
theorem dX7_concerns_32 : decode cX7_concerns 32 = .ok (.aload_n 0, 1) := by decide +kernel
theorem dX7_concerns_33 : decode cX7_concerns 33 = .ok (.getfield 24, 3) := by decide +kernel
theorem dX7_concerns_36 : decode cX7_concerns 36 = .ok (.iconst 3, 1) := by decide +kernel
theorem dX7_concerns_37 : decode cX7_concerns 37 = .ok (.if_icmp .eq 14, 3) := by decide +kernel
theorem dX7_concerns_40 : decode cX7_concerns 40 = .ok (.aload_n 0, 1) := by decide +kernel
theorem dX7_concerns_41 : decode cX7_concerns 41 = .ok (.getfield 24, 3) := by decide +kernel
theorem dX7_concerns_44 : decode cX7_concerns 44 = .ok (.aload_n 1, 1) := by decide +kernel
theorem dX7_concerns_45 : decode cX7_concerns 45 = .ok (.getfield 35, 3) := by decide +kernel
theorem dX7_concerns_48 : decode cX7_concerns 48 = .ok (.if_icmp .ne 7, 3) := by decide +kernel
theorem dX7_concerns_51 : decode cX7_concerns 51 = .ok (.iconst 1, 1) := by decide +kernel
theorem dX7_concerns_52 : decode cX7_concerns 52 = .ok (.goto 4, 3) := by decide +kernel
theorem dX7_concerns_55 : decode cX7_concerns 55 = .ok (.iconst 0, 1) := by decide +kernel
theorem dX7_concerns_56 : decode cX7_concerns 56 = .ok (.ireturn, 1) := by decide +kernel
theorem dX7_isOffended_0 : decode cX7_isOffended 0 = .ok (.aload_n 0, 1) := by decide +kernel
theorem dX7_isOffended_1 : decode cX7_isOffended 1 = .ok (.getfield 9, 3) := by decide +kernel
theorem dX7_isOffended_4 : decode cX7_isOffended 4 = .ok (.tableswitch 85 5 7 #[28, 45, 65], 28) := by decide +kernel
theorem dX7_isOffended_32 : decode cX7_isOffended 32 = .ok (.aload_n 1, 1) := by decide +kernel
theorem dX7_isOffended_33 : decode cX7_isOffended 33 = .ok (.getfield 38, 3) := by decide +kernel
theorem dX7_isOffended_36 : decode cX7_isOffended 36 = .ok (.aload_n 0, 1) := by decide +kernel
theorem dX7_isOffended_37 : decode cX7_isOffended 37 = .ok (.getfield 15, 3) := by decide +kernel
theorem dX7_isOffended_40 : decode cX7_isOffended 40 = .ok (.if_icmp .ne 7, 3) := by decide +kernel
theorem dX7_isOffended_43 : decode cX7_isOffended 43 = .ok (.iconst 1, 1) := by decide +kernel
theorem dX7_isOffended_44 : decode cX7_isOffended 44 = .ok (.goto 4, 3) := by decide +kernel
theorem dX7_isOffended_47 : decode cX7_isOffended 47 = .ok (.iconst 0, 1) := by decide +kernel
theorem dX7_isOffended_48 : decode cX7_isOffended 48 = .ok (.ireturn, 1) := by decide +kernel
theorem dX7_isOffended_49 : decode cX7_isOffended 49 = .ok (.aload_n 1, 1) := by decide +kernel
theorem dX7_isOffended_50 : decode cX7_isOffended 50 = .ok (.getfield 41, 3) := by decide +kernel
theorem dX7_isOffended_53 : decode cX7_isOffended 53 = .ok (.getfield 45, 3) := by decide +kernel
theorem dX7_isOffended_56 : decode cX7_isOffended 56 = .ok (.aload_n 0, 1) := by decide +kernel
theorem dX7_isOffended_57 : decode cX7_isOffended 57 = .ok (.getfield 15, 3) := by decide +kernel
theorem dX7_isOffended_60 : decode cX7_isOffended 60 = .ok (.if_icmp .ne 7, 3) := by decide +kernel
theorem dX7_isOffended_63 : decode cX7_isOffended 63 = .ok (.iconst 1, 1) := by decide +kernel
theorem dX7_isOffended_64 : decode cX7_isOffended 64 = .ok (.goto 4, 3) := by decide +kernel
theorem dX7_isOffended_67 : decode cX7_isOffended 67 = .ok (.iconst 0, 1) := by decide +kernel
theorem dX7_isOffended_68 : decode cX7_isOffended 68 = .ok (.ireturn, 1) := by decide +kernel
theorem dX7_isOffended_69 : decode cX7_isOffended 69 = .ok (.aload_n 1, 1) := by decide +kernel
theorem dX7_isOffended_70 : decode cX7_isOffended 70 = .ok (.getfield 41, 3) := by decide +kernel
theorem dX7_isOffended_73 : decode cX7_isOffended 73 = .ok (.getfield 45, 3) := by decide +kernel
theorem dX7_isOffended_76 : decode cX7_isOffended 76 = .ok (.aload_n 0, 1) := by decide +kernel
theorem dX7_isOffended_77 : decode cX7_isOffended 77 = .ok (.getfield 15, 3) := by decide +kernel
theorem dX7_isOffended_80 : decode cX7_isOffended 80 = .ok (.if_icmp .eq 7, 3) := by decide +kernel
theorem dX7_isOffended_83 : decode cX7_isOffended 83 = .ok (.iconst 1, 1) := by decide +kernel
theorem dX7_isOffended_84 : decode cX7_isOffended 84 = .ok (.goto 4, 3) := by decide +kernel
theorem dX7_isOffended_87 : decode cX7_isOffended 87 = .ok (.iconst 0, 1) := by decide +kernel
theorem dX7_isOffended_88 : decode cX7_isOffended 88 = .ok (.ireturn, 1) := by decide +kernel
theorem dX7_isOffended_89 : decode cX7_isOffended 89 = .ok (.aload_n 1, 1) := by decide +kernel
theorem dX7_isOffended_90 : decode cX7_isOffended 90 = .ok (.getfield 41, 3) := by decide +kernel
theorem dX7_isOffended_93 : decode cX7_isOffended 93 = .ok (.aload_n 0, 1) := by decide +kernel
theorem dX7_isOffended_94 : decode cX7_isOffended 94 = .ok (.getfield 9, 3) := by decide +kernel
theorem dX7_isOffended_97 : decode cX7_isOffended 97 = .ok (.invokevirtual 50, 3) := by decide +kernel
theorem dX7_isOffended_100 : decode cX7_isOffended 100 = .ok (.aload_n 0, 1) := by decide +kernel
theorem dX7_isOffended_101 : decode cX7_isOffended 101 = .ok (.getfield 15, 3) := by decide +kernel
theorem dX7_isOffended_104 : decode cX7_isOffended 104 = .ok (.if_icmp .le 7, 3) := by decide +kernel
theorem dX7_isOffended_107 : decode cX7_isOffended 107 = .ok (.iconst 1, 1) := by decide +kernel
theorem dX7_isOffended_108 : decode cX7_isOffended 108 = .ok (.goto 4, 3) := by decide +kernel
theorem dX7_isOffended_111 : decode cX7_isOffended 111 = .ok (.iconst 0, 1) := by decide +kernel
theorem dX7_isOffended_112 : decode cX7_isOffended 112 = .ok (.ireturn, 1) := by decide +kernel
theorem dX8_init_0 : decode cX8_init 0 = .ok (.aload_n 0, 1) := by decide +kernel
theorem dX8_init_1 : decode cX8_init 1 = .ok (.invokespecial 3, 3) := by decide +kernel
theorem dX8_init_4 : decode cX8_init 4 = .ok (.aload_n 0, 1) := by decide +kernel
theorem dX8_init_5 : decode cX8_init 5 = .ok (.sipush 800, 3) := by decide +kernel
theorem dX8_init_8 : decode cX8_init 8 = .ok (.newarray .byte, 2) := by decide +kernel
theorem dX8_init_10 : decode cX8_init 10 = .ok (.putfield 9, 3) := by decide +kernel
theorem dX8_init_13 : decode cX8_init 13 = .ok (.aload_n 0, 1) := by decide +kernel
theorem dX8_init_14 : decode cX8_init 14 = .ok (.iconst 0, 1) := by decide +kernel
theorem dX8_init_15 : decode cX8_init 15 = .ok (.putfield 15, 3) := by decide +kernel
theorem dX8_init_18 : decode cX8_init 18 = .ok (.return_, 1) := by decide +kernel
theorem dX8_size_0 : decode cX8_size 0 = .ok (.aload_n 0, 1) := by decide +kernel
theorem dX8_size_1 : decode cX8_size 1 = .ok (.getfield 15, 3) := by decide +kernel
theorem dX8_size_4 : decode cX8_size 4 = .ok (.ireturn, 1) := by decide +kernel
theorem dX8_put_0 : decode cX8_put 0 = .ok (.bipush 24, 2) := by decide +kernel
theorem dX8_put_2 : decode cX8_put 2 = .ok (.istore_n 2, 1) := by decide +kernel
theorem dX8_put_3 : decode cX8_put 3 = .ok (.iload_n 2, 1) := by decide +kernel
theorem dX8_put_4 : decode cX8_put 4 = .ok (.ifCond .lt 44, 3) := by decide +kernel
theorem dX8_put_7 : decode cX8_put 7 = .ok (.aload_n 0, 1) := by decide +kernel
theorem dX8_put_8 : decode cX8_put 8 = .ok (.getfield 15, 3) := by decide +kernel
theorem dX8_put_11 : decode cX8_put 11 = .ok (.aload_n 0, 1) := by decide +kernel
theorem dX8_put_12 : decode cX8_put 12 = .ok (.getfield 9, 3) := by decide +kernel
theorem dX8_put_15 : decode cX8_put 15 = .ok (.arraylength, 1) := by decide +kernel
theorem dX8_put_16 : decode cX8_put 16 = .ok (.if_icmp .ge 26, 3) := by decide +kernel
theorem dX8_put_19 : decode cX8_put 19 = .ok (.aload_n 0, 1) := by decide +kernel
theorem dX8_put_20 : decode cX8_put 20 = .ok (.getfield 9, 3) := by decide +kernel
theorem dX8_put_23 : decode cX8_put 23 = .ok (.aload_n 0, 1) := by decide +kernel
theorem dX8_put_24 : decode cX8_put 24 = .ok (.getfield 15, 3) := by decide +kernel
theorem dX8_put_27 : decode cX8_put 27 = .ok (.iload_n 1, 1) := by decide +kernel
theorem dX8_put_28 : decode cX8_put 28 = .ok (.iload_n 2, 1) := by decide +kernel
theorem dX8_put_29 : decode cX8_put 29 = .ok (.iushr, 1) := by decide +kernel
theorem dX8_put_30 : decode cX8_put 30 = .ok (.i2b, 1) := by decide +kernel
theorem dX8_put_31 : decode cX8_put 31 = .ok (.bastore, 1) := by decide +kernel
theorem dX8_put_32 : decode cX8_put 32 = .ok (.aload_n 0, 1) := by decide +kernel
theorem dX8_put_33 : decode cX8_put 33 = .ok (.dup, 1) := by decide +kernel
theorem dX8_put_34 : decode cX8_put 34 = .ok (.getfield 15, 3) := by decide +kernel
theorem dX8_put_37 : decode cX8_put 37 = .ok (.iconst 1, 1) := by decide +kernel
theorem dX8_put_38 : decode cX8_put 38 = .ok (.iadd, 1) := by decide +kernel
theorem dX8_put_39 : decode cX8_put 39 = .ok (.putfield 15, 3) := by decide +kernel
theorem dX8_put_42 : decode cX8_put 42 = .ok (.iinc 2 (-8), 3) := by decide +kernel
theorem dX8_put_45 : decode cX8_put 45 = .ok (.goto (-42), 3) := by decide +kernel
theorem dX8_put_48 : decode cX8_put 48 = .ok (.return_, 1) := by decide +kernel
theorem dX8_cutTo_0 : decode cX8_cutTo 0 = .ok (.iload_n 1, 1) := by decide +kernel
theorem dX8_cutTo_1 : decode cX8_cutTo 1 = .ok (.ifCond .lt 16, 3) := by decide +kernel
theorem dX8_cutTo_4 : decode cX8_cutTo 4 = .ok (.iload_n 1, 1) := by decide +kernel
theorem dX8_cutTo_5 : decode cX8_cutTo 5 = .ok (.aload_n 0, 1) := by decide +kernel
theorem dX8_cutTo_6 : decode cX8_cutTo 6 = .ok (.getfield 15, 3) := by decide +kernel
theorem dX8_cutTo_9 : decode cX8_cutTo 9 = .ok (.if_icmp .gt 8, 3) := by decide +kernel
theorem dX8_cutTo_12 : decode cX8_cutTo 12 = .ok (.aload_n 0, 1) := by decide +kernel
theorem dX8_cutTo_13 : decode cX8_cutTo 13 = .ok (.iload_n 1, 1) := by decide +kernel
theorem dX8_cutTo_14 : decode cX8_cutTo 14 = .ok (.putfield 15, 3) := by decide +kernel
theorem dX8_cutTo_17 : decode cX8_cutTo 17 = .ok (.return_, 1) := by decide +kernel
theorem dX8_byteAt_0 : decode cX8_byteAt 0 = .ok (.iload_n 1, 1) := by decide +kernel
theorem dX8_byteAt_1 : decode cX8_byteAt 1 = .ok (.ifCond .lt 33, 3) := by decide +kernel
theorem dX8_byteAt_4 : decode cX8_byteAt 4 = .ok (.iload_n 1, 1) := by decide +kernel
theorem dX8_byteAt_5 : decode cX8_byteAt 5 = .ok (.aload_n 0, 1) := by decide +kernel
theorem dX8_byteAt_6 : decode cX8_byteAt 6 = .ok (.getfield 15, 3) := by decide +kernel
theorem dX8_byteAt_9 : decode cX8_byteAt 9 = .ok (.if_icmp .ge 25, 3) := by decide +kernel
theorem dX8_byteAt_12 : decode cX8_byteAt 12 = .ok (.iload_n 1, 1) := by decide +kernel
theorem dX8_byteAt_13 : decode cX8_byteAt 13 = .ok (.aload_n 0, 1) := by decide +kernel
theorem dX8_byteAt_14 : decode cX8_byteAt 14 = .ok (.getfield 9, 3) := by decide +kernel
theorem dX8_byteAt_17 : decode cX8_byteAt 17 = .ok (.arraylength, 1) := by decide +kernel
theorem dX8_byteAt_18 : decode cX8_byteAt 18 = .ok (.if_icmp .ge 16, 3) := by decide +kernel
theorem dX8_byteAt_21 : decode cX8_byteAt 21 = .ok (.aload_n 0, 1) := by decide +kernel
theorem dX8_byteAt_22 : decode cX8_byteAt 22 = .ok (.getfield 9, 3) := by decide +kernel
theorem dX8_byteAt_25 : decode cX8_byteAt 25 = .ok (.iload_n 1, 1) := by decide +kernel
theorem dX8_byteAt_26 : decode cX8_byteAt 26 = .ok (.baload, 1) := by decide +kernel
theorem dX8_byteAt_27 : decode cX8_byteAt 27 = .ok (.sipush 255, 3) := by decide +kernel
theorem dX8_byteAt_30 : decode cX8_byteAt 30 = .ok (.iand, 1) := by decide +kernel
theorem dX8_byteAt_31 : decode cX8_byteAt 31 = .ok (.goto 4, 3) := by decide +kernel
theorem dX8_byteAt_34 : decode cX8_byteAt 34 = .ok (.iconst (-1), 1) := by decide +kernel
theorem dX8_byteAt_35 : decode cX8_byteAt 35 = .ok (.ireturn, 1) := by decide +kernel
theorem dX9_init_0 : decode cX9_init 0 = .ok (.aload_n 0, 1) := by decide +kernel
theorem dX9_init_1 : decode cX9_init 1 = .ok (.invokespecial 3, 3) := by decide +kernel
theorem dX9_init_4 : decode cX9_init 4 = .ok (.aload_n 0, 1) := by decide +kernel
theorem dX9_init_5 : decode cX9_init 5 = .ok (.iconst 5, 1) := by decide +kernel
theorem dX9_init_6 : decode cX9_init 6 = .ok (.putfield 9, 3) := by decide +kernel
theorem dX9_init_9 : decode cX9_init 9 = .ok (.aload_n 0, 1) := by decide +kernel
theorem dX9_init_10 : decode cX9_init 10 = .ok (.iconst 0, 1) := by decide +kernel
theorem dX9_init_11 : decode cX9_init 11 = .ok (.putfield 15, 3) := by decide +kernel
theorem dX9_init_14 : decode cX9_init 14 = .ok (.aload_n 0, 1) := by decide +kernel
theorem dX9_init_15 : decode cX9_init 15 = .ok (.new 18, 3) := by decide +kernel
theorem dX9_init_18 : decode cX9_init 18 = .ok (.dup, 1) := by decide +kernel
theorem dX9_init_19 : decode cX9_init 19 = .ok (.iconst 0, 1) := by decide +kernel
theorem dX9_init_20 : decode cX9_init 20 = .ok (.iconst 0, 1) := by decide +kernel
theorem dX9_init_21 : decode cX9_init 21 = .ok (.iconst 0, 1) := by decide +kernel
theorem dX9_init_22 : decode cX9_init 22 = .ok (.iconst 0, 1) := by decide +kernel
theorem dX9_init_23 : decode cX9_init 23 = .ok (.iconst 0, 1) := by decide +kernel
theorem dX9_init_24 : decode cX9_init 24 = .ok (.iconst 0, 1) := by decide +kernel
theorem dX9_init_25 : decode cX9_init 25 = .ok (.iconst 0, 1) := by decide +kernel
theorem dX9_init_26 : decode cX9_init 26 = .ok (.invokespecial 20, 3) := by decide +kernel
theorem dX9_init_29 : decode cX9_init 29 = .ok (.putfield 23, 3) := by decide +kernel
theorem dX9_init_32 : decode cX9_init 32 = .ok (.aload_n 0, 1) := by decide +kernel
theorem dX9_init_33 : decode cX9_init 33 = .ok (.iconst 0, 1) := by decide +kernel
theorem dX9_init_34 : decode cX9_init 34 = .ok (.putfield 27, 3) := by decide +kernel
theorem dX9_init_37 : decode cX9_init 37 = .ok (.aload_n 0, 1) := by decide +kernel
theorem dX9_init_38 : decode cX9_init 38 = .ok (.iconst 0, 1) := by decide +kernel
theorem dX9_init_39 : decode cX9_init 39 = .ok (.putfield 30, 3) := by decide +kernel
theorem dX9_init_42 : decode cX9_init 42 = .ok (.return_, 1) := by decide +kernel
theorem dX9_take_0 : decode cX9_take 0 = .ok (.aload_n 0, 1) := by decide +kernel
theorem dX9_take_1 : decode cX9_take 1 = .ok (.iload_n 1, 1) := by decide +kernel
theorem dX9_take_2 : decode cX9_take 2 = .ok (.putfield 9, 3) := by decide +kernel
theorem dX9_take_5 : decode cX9_take 5 = .ok (.aload_n 0, 1) := by decide +kernel
theorem dX9_take_6 : decode cX9_take 6 = .ok (.iload_n 2, 1) := by decide +kernel
theorem dX9_take_7 : decode cX9_take 7 = .ok (.putfield 15, 3) := by decide +kernel
theorem dX9_take_10 : decode cX9_take 10 = .ok (.aload_n 0, 1) := by decide +kernel
theorem dX9_take_11 : decode cX9_take 11 = .ok (.aload_n 3, 1) := by decide +kernel
theorem dX9_take_12 : decode cX9_take 12 = .ok (.putfield 23, 3) := by decide +kernel
theorem dX9_take_15 : decode cX9_take 15 = .ok (.aload_n 0, 1) := by decide +kernel
theorem dX9_take_16 : decode cX9_take 16 = .ok (.iload 4, 2) := by decide +kernel
theorem dX9_take_18 : decode cX9_take 18 = .ok (.putfield 27, 3) := by decide +kernel
theorem dX9_take_21 : decode cX9_take 21 = .ok (.aload_n 0, 1) := by decide +kernel
theorem dX9_take_22 : decode cX9_take 22 = .ok (.iload 5, 2) := by decide +kernel
theorem dX9_take_24 : decode cX9_take 24 = .ok (.putfield 30, 3) := by decide +kernel
theorem dX9_take_27 : decode cX9_take 27 = .ok (.return_, 1) := by decide +kernel
theorem dX10_init_0 : decode cX10_init 0 = .ok (.aload_n 0, 1) := by decide +kernel
theorem dX10_init_1 : decode cX10_init 1 = .ok (.invokespecial 1, 3) := by decide +kernel
theorem dX10_init_4 : decode cX10_init 4 = .ok (.aload_n 0, 1) := by decide +kernel
theorem dX10_init_5 : decode cX10_init 5 = .ok (.new 7, 3) := by decide +kernel
theorem dX10_init_8 : decode cX10_init 8 = .ok (.dup, 1) := by decide +kernel
theorem dX10_init_9 : decode cX10_init 9 = .ok (.invokespecial 9, 3) := by decide +kernel
theorem dX10_init_12 : decode cX10_init 12 = .ok (.putfield 10, 3) := by decide +kernel
theorem dX10_init_15 : decode cX10_init 15 = .ok (.aload_n 0, 1) := by decide +kernel
theorem dX10_init_16 : decode cX10_init 16 = .ok (.new 16, 3) := by decide +kernel
theorem dX10_init_19 : decode cX10_init 19 = .ok (.dup, 1) := by decide +kernel
theorem dX10_init_20 : decode cX10_init 20 = .ok (.invokespecial 18, 3) := by decide +kernel
theorem dX10_init_23 : decode cX10_init 23 = .ok (.putfield 19, 3) := by decide +kernel
theorem dX10_init_26 : decode cX10_init 26 = .ok (.aload_n 0, 1) := by decide +kernel
theorem dX10_init_27 : decode cX10_init 27 = .ok (.new 23, 3) := by decide +kernel
theorem dX10_init_30 : decode cX10_init 30 = .ok (.dup, 1) := by decide +kernel
theorem dX10_init_31 : decode cX10_init 31 = .ok (.sipush 360, 3) := by decide +kernel
theorem dX10_init_34 : decode cX10_init 34 = .ok (.invokespecial 25, 3) := by decide +kernel
theorem dX10_init_37 : decode cX10_init 37 = .ok (.putfield 28, 3) := by decide +kernel
theorem dX10_init_40 : decode cX10_init 40 = .ok (.aload_n 0, 1) := by decide +kernel
theorem dX10_init_41 : decode cX10_init 41 = .ok (.new 23, 3) := by decide +kernel
theorem dX10_init_44 : decode cX10_init 44 = .ok (.dup, 1) := by decide +kernel
theorem dX10_init_45 : decode cX10_init 45 = .ok (.bipush 120, 2) := by decide +kernel
theorem dX10_init_47 : decode cX10_init 47 = .ok (.invokespecial 25, 3) := by decide +kernel
theorem dX10_init_50 : decode cX10_init 50 = .ok (.putfield 32, 3) := by decide +kernel
theorem dX10_init_53 : decode cX10_init 53 = .ok (.aload_n 0, 1) := by decide +kernel
theorem dX10_init_54 : decode cX10_init 54 = .ok (.new 23, 3) := by decide +kernel
theorem dX10_init_57 : decode cX10_init 57 = .ok (.dup, 1) := by decide +kernel
theorem dX10_init_58 : decode cX10_init 58 = .ok (.bipush 20, 2) := by decide +kernel
theorem dX10_init_60 : decode cX10_init 60 = .ok (.invokespecial 25, 3) := by decide +kernel
theorem dX10_init_63 : decode cX10_init 63 = .ok (.putfield 35, 3) := by decide +kernel
theorem dX10_init_66 : decode cX10_init 66 = .ok (.aload_n 0, 1) := by decide +kernel
theorem dX10_init_67 : decode cX10_init 67 = .ok (.new 23, 3) := by decide +kernel
theorem dX10_init_70 : decode cX10_init 70 = .ok (.dup, 1) := by decide +kernel
theorem dX10_init_71 : decode cX10_init 71 = .ok (.bipush 30, 2) := by decide +kernel
theorem dX10_init_73 : decode cX10_init 73 = .ok (.invokespecial 25, 3) := by decide +kernel
theorem dX10_init_76 : decode cX10_init 76 = .ok (.putfield 38, 3) := by decide +kernel
theorem dX10_init_79 : decode cX10_init 79 = .ok (.aload_n 0, 1) := by decide +kernel
theorem dX10_init_80 : decode cX10_init 80 = .ok (.bipush 40, 2) := by decide +kernel
theorem dX10_init_82 : decode cX10_init 82 = .ok (.anewarray 41, 3) := by decide +kernel
theorem dX10_init_85 : decode cX10_init 85 = .ok (.putfield 43, 3) := by decide +kernel
theorem dX10_init_88 : decode cX10_init 88 = .ok (.aload_n 0, 1) := by decide +kernel
theorem dX10_init_89 : decode cX10_init 89 = .ok (.iconst 0, 1) := by decide +kernel
theorem dX10_init_90 : decode cX10_init 90 = .ok (.putfield 47, 3) := by decide +kernel
theorem dX10_init_93 : decode cX10_init 93 = .ok (.aload_n 0, 1) := by decide +kernel
theorem dX10_init_94 : decode cX10_init 94 = .ok (.bipush 60, 2) := by decide +kernel
theorem dX10_init_96 : decode cX10_init 96 = .ok (.anewarray 51, 3) := by decide +kernel
theorem dX10_init_99 : decode cX10_init 99 = .ok (.putfield 53, 3) := by decide +kernel
theorem dX10_init_102 : decode cX10_init 102 = .ok (.aload_n 0, 1) := by decide +kernel
theorem dX10_init_103 : decode cX10_init 103 = .ok (.iconst 0, 1) := by decide +kernel
theorem dX10_init_104 : decode cX10_init 104 = .ok (.putfield 57, 3) := by decide +kernel
theorem dX10_init_107 : decode cX10_init 107 = .ok (.aload_n 0, 1) := by decide +kernel
theorem dX10_init_108 : decode cX10_init 108 = .ok (.bipush 30, 2) := by decide +kernel
theorem dX10_init_110 : decode cX10_init 110 = .ok (.newarray .int, 2) := by decide +kernel
theorem dX10_init_112 : decode cX10_init 112 = .ok (.putfield 60, 3) := by decide +kernel
theorem dX10_init_115 : decode cX10_init 115 = .ok (.aload_n 0, 1) := by decide +kernel
theorem dX10_init_116 : decode cX10_init 116 = .ok (.bipush 30, 2) := by decide +kernel
theorem dX10_init_118 : decode cX10_init 118 = .ok (.newarray .int, 2) := by decide +kernel
theorem dX10_init_120 : decode cX10_init 120 = .ok (.putfield 64, 3) := by decide +kernel
theorem dX10_init_123 : decode cX10_init 123 = .ok (.aload_n 0, 1) := by decide +kernel
theorem dX10_init_124 : decode cX10_init 124 = .ok (.bipush 30, 2) := by decide +kernel
theorem dX10_init_126 : decode cX10_init 126 = .ok (.newarray .int, 2) := by decide +kernel
theorem dX10_init_128 : decode cX10_init 128 = .ok (.putfield 67, 3) := by decide +kernel
theorem dX10_init_131 : decode cX10_init 131 = .ok (.aload_n 0, 1) := by decide +kernel
theorem dX10_init_132 : decode cX10_init 132 = .ok (.iconst 0, 1) := by decide +kernel
theorem dX10_init_133 : decode cX10_init 133 = .ok (.putfield 70, 3) := by decide +kernel
theorem dX10_init_136 : decode cX10_init 136 = .ok (.aload_n 0, 1) := by decide +kernel
theorem dX10_init_137 : decode cX10_init 137 = .ok (.bipush 7, 2) := by decide +kernel
theorem dX10_init_139 : decode cX10_init 139 = .ok (.newarray .int, 2) := by decide +kernel
theorem dX10_init_141 : decode cX10_init 141 = .ok (.putfield 73, 3) := by decide +kernel
theorem dX10_init_144 : decode cX10_init 144 = .ok (.aload_n 0, 1) := by decide +kernel
theorem dX10_init_145 : decode cX10_init 145 = .ok (.new 76, 3) := by decide +kernel
theorem dX10_init_148 : decode cX10_init 148 = .ok (.dup, 1) := by decide +kernel
theorem dX10_init_149 : decode cX10_init 149 = .ok (.invokespecial 78, 3) := by decide +kernel
theorem dX10_init_152 : decode cX10_init 152 = .ok (.putfield 79, 3) := by decide +kernel
theorem dX10_init_155 : decode cX10_init 155 = .ok (.aload_n 0, 1) := by decide +kernel
theorem dX10_init_156 : decode cX10_init 156 = .ok (.new 83, 3) := by decide +kernel
theorem dX10_init_159 : decode cX10_init 159 = .ok (.dup, 1) := by decide +kernel
theorem dX10_init_160 : decode cX10_init 160 = .ok (.invokespecial 85, 3) := by decide +kernel
theorem dX10_init_163 : decode cX10_init 163 = .ok (.putfield 86, 3) := by decide +kernel
theorem dX10_init_166 : decode cX10_init 166 = .ok (.iconst 0, 1) := by decide +kernel
theorem dX10_init_167 : decode cX10_init 167 = .ok (.istore_n 1, 1) := by decide +kernel
theorem dX10_init_168 : decode cX10_init 168 = .ok (.iload_n 1, 1) := by decide +kernel
theorem dX10_init_169 : decode cX10_init 169 = .ok (.aload_n 0, 1) := by decide +kernel
theorem dX10_init_170 : decode cX10_init 170 = .ok (.getfield 73, 3) := by decide +kernel
theorem dX10_init_173 : decode cX10_init 173 = .ok (.arraylength, 1) := by decide +kernel
theorem dX10_init_174 : decode cX10_init 174 = .ok (.if_icmp .ge 16, 3) := by decide +kernel
theorem dX10_init_177 : decode cX10_init 177 = .ok (.aload_n 0, 1) := by decide +kernel
theorem dX10_init_178 : decode cX10_init 178 = .ok (.getfield 73, 3) := by decide +kernel
theorem dX10_init_181 : decode cX10_init 181 = .ok (.iload_n 1, 1) := by decide +kernel
theorem dX10_init_182 : decode cX10_init 182 = .ok (.iconst 1, 1) := by decide +kernel
theorem dX10_init_183 : decode cX10_init 183 = .ok (.iastore, 1) := by decide +kernel
theorem dX10_init_184 : decode cX10_init 184 = .ok (.iinc 1 1, 3) := by decide +kernel
theorem dX10_init_187 : decode cX10_init 187 = .ok (.goto (-19), 3) := by decide +kernel
theorem dX10_init_190 : decode cX10_init 190 = .ok (.return_, 1) := by decide +kernel
theorem dX10_feed_0 : decode cX10_feed 0 = .ok (.aload_n 0, 1) := by decide +kernel
theorem dX10_feed_1 : decode cX10_feed 1 = .ok (.getfield 10, 3) := by decide +kernel
theorem dX10_feed_4 : decode cX10_feed 4 = .ok (.getfield 90, 3) := by decide +kernel
theorem dX10_feed_7 : decode cX10_feed 7 = .ok (.astore 6, 2) := by decide +kernel
theorem dX10_feed_9 : decode cX10_feed 9 = .ok (.aload 6, 2) := by decide +kernel
theorem dX10_feed_11 : decode cX10_feed 11 = .ok (.invokevirtual 94, 3) := by decide +kernel
theorem dX10_feed_14 : decode cX10_feed 14 = .ok (.bipush 20, 2) := by decide +kernel
theorem dX10_feed_16 : decode cX10_feed 16 = .ok (.iadd, 1) := by decide +kernel
theorem dX10_feed_17 : decode cX10_feed 17 = .ok (.sipush 800, 3) := by decide +kernel
theorem dX10_feed_20 : decode cX10_feed 20 = .ok (.if_icmp .le 6, 3) := by decide +kernel
theorem dX10_feed_23 : decode cX10_feed 23 = .ok (.bipush (-3), 2) := by decide +kernel
theorem dX10_feed_25 : decode cX10_feed 25 = .ok (.ireturn, 1) := by decide +kernel
theorem dX10_feed_26 : decode cX10_feed 26 = .ok (.aload 6, 2) := by decide +kernel
theorem dX10_feed_28 : decode cX10_feed 28 = .ok (.iload_n 1, 1) := by decide +kernel
theorem dX10_feed_29 : decode cX10_feed 29 = .ok (.invokevirtual 100, 3) := by decide +kernel
theorem dX10_feed_32 : decode cX10_feed 32 = .ok (.aload 6, 2) := by decide +kernel
theorem dX10_feed_34 : decode cX10_feed 34 = .ok (.iload_n 2, 1) := by decide +kernel
theorem dX10_feed_35 : decode cX10_feed 35 = .ok (.invokevirtual 100, 3) := by decide +kernel
theorem dX10_feed_38 : decode cX10_feed 38 = .ok (.aload 6, 2) := by decide +kernel
theorem dX10_feed_40 : decode cX10_feed 40 = .ok (.iload_n 3, 1) := by decide +kernel
theorem dX10_feed_41 : decode cX10_feed 41 = .ok (.invokevirtual 100, 3) := by decide +kernel
theorem dX10_feed_44 : decode cX10_feed 44 = .ok (.aload 6, 2) := by decide +kernel
theorem dX10_feed_46 : decode cX10_feed 46 = .ok (.iload 4, 2) := by decide +kernel
theorem dX10_feed_48 : decode cX10_feed 48 = .ok (.invokevirtual 100, 3) := by decide +kernel
theorem dX10_feed_51 : decode cX10_feed 51 = .ok (.aload 6, 2) := by decide +kernel
theorem dX10_feed_53 : decode cX10_feed 53 = .ok (.iload 5, 2) := by decide +kernel
theorem dX10_feed_55 : decode cX10_feed 55 = .ok (.invokevirtual 100, 3) := by decide +kernel
theorem dX10_feed_58 : decode cX10_feed 58 = .ok (.aload 6, 2) := by decide +kernel
theorem dX10_feed_60 : decode cX10_feed 60 = .ok (.invokevirtual 94, 3) := by decide +kernel
theorem dX10_feed_63 : decode cX10_feed 63 = .ok (.ireturn, 1) := by decide +kernel
theorem dX10_end_0 : decode cX10_end 0 = .ok (.iload_n 1, 1) := by decide +kernel
theorem dX10_end_1 : decode cX10_end 1 = .ok (.ifCond .lt 17, 3) := by decide +kernel
theorem dX10_end_4 : decode cX10_end 4 = .ok (.iload_n 1, 1) := by decide +kernel
theorem dX10_end_5 : decode cX10_end 5 = .ok (.aload_n 0, 1) := by decide +kernel
theorem dX10_end_6 : decode cX10_end 6 = .ok (.getfield 10, 3) := by decide +kernel
theorem dX10_end_9 : decode cX10_end 9 = .ok (.getfield 90, 3) := by decide +kernel
theorem dX10_end_12 : decode cX10_end 12 = .ok (.invokevirtual 94, 3) := by decide +kernel
theorem dX10_end_15 : decode cX10_end 15 = .ok (.if_icmp .le 5, 3) := by decide +kernel
theorem dX10_end_18 : decode cX10_end 18 = .ok (.iconst (-1), 1) := by decide +kernel
theorem dX10_end_19 : decode cX10_end 19 = .ok (.ireturn, 1) := by decide +kernel
theorem dX10_end_20 : decode cX10_end 20 = .ok (.aload_n 0, 1) := by decide +kernel
theorem dX10_end_21 : decode cX10_end 21 = .ok (.getfield 10, 3) := by decide +kernel
theorem dX10_end_24 : decode cX10_end 24 = .ok (.getfield 90, 3) := by decide +kernel
theorem dX10_end_27 : decode cX10_end 27 = .ok (.iload_n 1, 1) := by decide +kernel
theorem dX10_end_28 : decode cX10_end 28 = .ok (.invokevirtual 103, 3) := by decide +kernel
theorem dX10_end_31 : decode cX10_end 31 = .ok (.iload_n 1, 1) := by decide +kernel
theorem dX10_end_32 : decode cX10_end 32 = .ok (.ireturn, 1) := by decide +kernel
theorem dX10_rank_0 : decode cX10_rank 0 = .ok (.iload_n 1, 1) := by decide +kernel
theorem dX10_rank_1 : decode cX10_rank 1 = .ok (.invokestatic 106, 3) := by decide +kernel
theorem dX10_rank_4 : decode cX10_rank 4 = .ok (.ifCond .eq 17, 3) := by decide +kernel
theorem dX10_rank_7 : decode cX10_rank 7 = .ok (.iload_n 2, 1) := by decide +kernel
theorem dX10_rank_8 : decode cX10_rank 8 = .ok (.invokestatic 110, 3) := by decide +kernel
theorem dX10_rank_11 : decode cX10_rank 11 = .ok (.ifCond .eq 10, 3) := by decide +kernel
theorem dX10_rank_14 : decode cX10_rank 14 = .ok (.iload_n 3, 1) := by decide +kernel
theorem dX10_rank_15 : decode cX10_rank 15 = .ok (.invokestatic 113, 3) := by decide +kernel
theorem dX10_rank_18 : decode cX10_rank 18 = .ok (.ifCond .ne 6, 3) := by decide +kernel
theorem dX10_rank_21 : decode cX10_rank 21 = .ok (.bipush (-2), 2) := by decide +kernel
theorem dX10_rank_23 : decode cX10_rank 23 = .ok (.ireturn, 1) := by decide +kernel
theorem dX10_rank_24 : decode cX10_rank 24 = .ok (.aload_n 0, 1) := by decide +kernel
theorem dX10_rank_25 : decode cX10_rank 25 = .ok (.getfield 28, 3) := by decide +kernel
theorem dX10_rank_28 : decode cX10_rank 28 = .ok (.iload_n 1, 1) := by decide +kernel
theorem dX10_rank_29 : decode cX10_rank 29 = .ok (.invokevirtual 116, 3) := by decide +kernel
theorem dX10_rank_32 : decode cX10_rank 32 = .ok (.bipush 12, 2) := by decide +kernel
theorem dX10_rank_34 : decode cX10_rank 34 = .ok (.if_icmp .lt 6, 3) := by decide +kernel
theorem dX10_rank_37 : decode cX10_rank 37 = .ok (.bipush (-3), 2) := by decide +kernel
theorem dX10_rank_39 : decode cX10_rank 39 = .ok (.ireturn, 1) := by decide +kernel
theorem dX10_rank_40 : decode cX10_rank 40 = .ok (.aload_n 0, 1) := by decide +kernel
theorem dX10_rank_41 : decode cX10_rank 41 = .ok (.getfield 28, 3) := by decide +kernel
theorem dX10_rank_44 : decode cX10_rank 44 = .ok (.iload_n 1, 1) := by decide +kernel
theorem dX10_rank_45 : decode cX10_rank 45 = .ok (.iload_n 2, 1) := by decide +kernel
theorem dX10_rank_46 : decode cX10_rank 46 = .ok (.iload_n 3, 1) := by decide +kernel
theorem dX10_rank_47 : decode cX10_rank 47 = .ok (.invokevirtual 120, 3) := by decide +kernel
theorem dX10_rank_50 : decode cX10_rank 50 = .ok (.aload_n 0, 1) := by decide +kernel
theorem dX10_rank_51 : decode cX10_rank 51 = .ok (.getfield 28, 3) := by decide +kernel
theorem dX10_rank_54 : decode cX10_rank 54 = .ok (.iload_n 1, 1) := by decide +kernel
theorem dX10_rank_55 : decode cX10_rank 55 = .ok (.invokevirtual 116, 3) := by decide +kernel
theorem dX10_rank_58 : decode cX10_rank 58 = .ok (.ireturn, 1) := by decide +kernel
theorem dX10_feast_0 : decode cX10_feast 0 = .ok (.iload_n 1, 1) := by decide +kernel
theorem dX10_feast_1 : decode cX10_feast 1 = .ok (.iload_n 2, 1) := by decide +kernel
theorem dX10_feast_2 : decode cX10_feast 2 = .ok (.invokestatic 124, 3) := by decide +kernel
theorem dX10_feast_5 : decode cX10_feast 5 = .ok (.ifCond .ne 6, 3) := by decide +kernel
theorem dX10_feast_8 : decode cX10_feast 8 = .ok (.bipush (-2), 2) := by decide +kernel
theorem dX10_feast_10 : decode cX10_feast 10 = .ok (.ireturn, 1) := by decide +kernel
theorem dX10_feast_11 : decode cX10_feast 11 = .ok (.aload_n 0, 1) := by decide +kernel
theorem dX10_feast_12 : decode cX10_feast 12 = .ok (.getfield 35, 3) := by decide +kernel
theorem dX10_feast_15 : decode cX10_feast 15 = .ok (.invokevirtual 128, 3) := by decide +kernel
theorem dX10_feast_18 : decode cX10_feast 18 = .ok (.bipush 20, 2) := by decide +kernel
theorem dX10_feast_20 : decode cX10_feast 20 = .ok (.if_icmp .lt 6, 3) := by decide +kernel
theorem dX10_feast_23 : decode cX10_feast 23 = .ok (.bipush (-3), 2) := by decide +kernel
theorem dX10_feast_25 : decode cX10_feast 25 = .ok (.ireturn, 1) := by decide +kernel
theorem dX10_feast_26 : decode cX10_feast 26 = .ok (.aload_n 0, 1) := by decide +kernel
theorem dX10_feast_27 : decode cX10_feast 27 = .ok (.getfield 35, 3) := by decide +kernel
theorem dX10_feast_30 : decode cX10_feast 30 = .ok (.iconst 0, 1) := by decide +kernel
theorem dX10_feast_31 : decode cX10_feast 31 = .ok (.iload_n 1, 1) := by decide +kernel
theorem dX10_feast_32 : decode cX10_feast 32 = .ok (.iload_n 2, 1) := by decide +kernel
theorem dX10_feast_33 : decode cX10_feast 33 = .ok (.invokevirtual 120, 3) := by decide +kernel
theorem dX10_feast_36 : decode cX10_feast 36 = .ok (.aload_n 0, 1) := by decide +kernel
theorem dX10_feast_37 : decode cX10_feast 37 = .ok (.getfield 35, 3) := by decide +kernel
theorem dX10_feast_40 : decode cX10_feast 40 = .ok (.invokevirtual 128, 3) := by decide +kernel
theorem dX10_feast_43 : decode cX10_feast 43 = .ok (.ireturn, 1) := by decide +kernel
theorem dX10_wedding_0 : decode cX10_wedding 0 = .ok (.iload_n 1, 1) := by decide +kernel
theorem dX10_wedding_1 : decode cX10_wedding 1 = .ok (.invokestatic 106, 3) := by decide +kernel
theorem dX10_wedding_4 : decode cX10_wedding 4 = .ok (.ifCond .eq 11, 3) := by decide +kernel
theorem dX10_wedding_7 : decode cX10_wedding 7 = .ok (.iload_n 2, 1) := by decide +kernel
theorem dX10_wedding_8 : decode cX10_wedding 8 = .ok (.iload_n 3, 1) := by decide +kernel
theorem dX10_wedding_9 : decode cX10_wedding 9 = .ok (.invokestatic 124, 3) := by decide +kernel
theorem dX10_wedding_12 : decode cX10_wedding 12 = .ok (.ifCond .ne 6, 3) := by decide +kernel
theorem dX10_wedding_15 : decode cX10_wedding 15 = .ok (.bipush (-2), 2) := by decide +kernel
theorem dX10_wedding_17 : decode cX10_wedding 17 = .ok (.ireturn, 1) := by decide +kernel
theorem dX10_wedding_18 : decode cX10_wedding 18 = .ok (.aload_n 0, 1) := by decide +kernel
theorem dX10_wedding_19 : decode cX10_wedding 19 = .ok (.getfield 32, 3) := by decide +kernel
theorem dX10_wedding_22 : decode cX10_wedding 22 = .ok (.iload_n 1, 1) := by decide +kernel
theorem dX10_wedding_23 : decode cX10_wedding 23 = .ok (.invokevirtual 116, 3) := by decide +kernel
theorem dX10_wedding_26 : decode cX10_wedding 26 = .ok (.iconst 4, 1) := by decide +kernel
theorem dX10_wedding_27 : decode cX10_wedding 27 = .ok (.if_icmp .lt 6, 3) := by decide +kernel
theorem dX10_wedding_30 : decode cX10_wedding 30 = .ok (.bipush (-3), 2) := by decide +kernel
theorem dX10_wedding_32 : decode cX10_wedding 32 = .ok (.ireturn, 1) := by decide +kernel
theorem dX10_wedding_33 : decode cX10_wedding 33 = .ok (.aload_n 0, 1) := by decide +kernel
theorem dX10_wedding_34 : decode cX10_wedding 34 = .ok (.getfield 32, 3) := by decide +kernel
theorem dX10_wedding_37 : decode cX10_wedding 37 = .ok (.iload_n 1, 1) := by decide +kernel
theorem dX10_wedding_38 : decode cX10_wedding 38 = .ok (.iload_n 2, 1) := by decide +kernel
theorem dX10_wedding_39 : decode cX10_wedding 39 = .ok (.iload_n 3, 1) := by decide +kernel
theorem dX10_wedding_40 : decode cX10_wedding 40 = .ok (.invokevirtual 120, 3) := by decide +kernel
theorem dX10_wedding_43 : decode cX10_wedding 43 = .ok (.aload_n 0, 1) := by decide +kernel
theorem dX10_wedding_44 : decode cX10_wedding 44 = .ok (.getfield 32, 3) := by decide +kernel
theorem dX10_wedding_47 : decode cX10_wedding 47 = .ok (.iload_n 1, 1) := by decide +kernel
theorem dX10_wedding_48 : decode cX10_wedding 48 = .ok (.invokevirtual 116, 3) := by decide +kernel
theorem dX10_wedding_51 : decode cX10_wedding 51 = .ok (.ireturn, 1) := by decide +kernel
theorem dX10_on_0 : decode cX10_on 0 = .ok (.iload_n 1, 1) := by decide +kernel
theorem dX10_on_1 : decode cX10_on 1 = .ok (.invokestatic 106, 3) := by decide +kernel
theorem dX10_on_4 : decode cX10_on 4 = .ok (.ifCond .eq 10, 3) := by decide +kernel
theorem dX10_on_7 : decode cX10_on 7 = .ok (.iload_n 2, 1) := by decide +kernel
theorem dX10_on_8 : decode cX10_on 8 = .ok (.invokestatic 110, 3) := by decide +kernel
theorem dX10_on_11 : decode cX10_on 11 = .ok (.ifCond .ne 6, 3) := by decide +kernel
theorem dX10_on_14 : decode cX10_on 14 = .ok (.bipush (-2), 2) := by decide +kernel
theorem dX10_on_16 : decode cX10_on 16 = .ok (.ireturn, 1) := by decide +kernel
theorem dX10_on_17 : decode cX10_on 17 = .ok (.iload_n 3, 1) := by decide +kernel
theorem dX10_on_18 : decode cX10_on 18 = .ok (.lookupswitch 40 #[(0, 26), (1, 33)], 26) := by decide +kernel
theorem dX10_on_44 : decode cX10_on 44 = .ok (.aload_n 0, 1) := by decide +kernel
theorem dX10_on_45 : decode cX10_on 45 = .ok (.iload_n 1, 1) := by decide +kernel
theorem dX10_on_46 : decode cX10_on 46 = .ok (.iload_n 2, 1) := by decide +kernel
theorem dX10_on_47 : decode cX10_on 47 = .ok (.invokevirtual 129, 3) := by decide +kernel
theorem dX10_on_50 : decode cX10_on 50 = .ok (.ireturn, 1) := by decide +kernel
theorem dX10_on_51 : decode cX10_on 51 = .ok (.aload_n 0, 1) := by decide +kernel
theorem dX10_on_52 : decode cX10_on 52 = .ok (.iload_n 1, 1) := by decide +kernel
theorem dX10_on_53 : decode cX10_on 53 = .ok (.iload_n 2, 1) := by decide +kernel
theorem dX10_on_54 : decode cX10_on 54 = .ok (.invokevirtual 133, 3) := by decide +kernel
theorem dX10_on_57 : decode cX10_on 57 = .ok (.ireturn, 1) := by decide +kernel
theorem dX10_on_58 : decode cX10_on 58 = .ok (.bipush (-2), 2) := by decide +kernel
theorem dX10_on_60 : decode cX10_on 60 = .ok (.ireturn, 1) := by decide +kernel
theorem dX10_gown_0 : decode cX10_gown 0 = .ok (.iload_n 1, 1) := by decide +kernel
theorem dX10_gown_1 : decode cX10_gown 1 = .ok (.invokestatic 136, 3) := by decide +kernel
theorem dX10_gown_4 : decode cX10_gown 4 = .ok (.ifCond .eq 37, 3) := by decide +kernel
theorem dX10_gown_7 : decode cX10_gown 7 = .ok (.iload_n 2, 1) := by decide +kernel
theorem dX10_gown_8 : decode cX10_gown 8 = .ok (.invokestatic 136, 3) := by decide +kernel
theorem dX10_gown_11 : decode cX10_gown 11 = .ok (.ifCond .eq 30, 3) := by decide +kernel
theorem dX10_gown_14 : decode cX10_gown 14 = .ok (.iload_n 3, 1) := by decide +kernel
theorem dX10_gown_15 : decode cX10_gown 15 = .ok (.invokestatic 136, 3) := by decide +kernel
theorem dX10_gown_18 : decode cX10_gown 18 = .ok (.ifCond .eq 23, 3) := by decide +kernel
theorem dX10_gown_21 : decode cX10_gown 21 = .ok (.iload 4, 2) := by decide +kernel
theorem dX10_gown_23 : decode cX10_gown 23 = .ok (.invokestatic 136, 3) := by decide +kernel
theorem dX10_gown_26 : decode cX10_gown 26 = .ok (.ifCond .eq 15, 3) := by decide +kernel
theorem dX10_gown_29 : decode cX10_gown 29 = .ok (.iload 5, 2) := by decide +kernel
theorem dX10_gown_31 : decode cX10_gown 31 = .ok (.invokestatic 136, 3) := by decide +kernel
theorem dX10_gown_34 : decode cX10_gown 34 = .ok (.ifCond .eq 7, 3) := by decide +kernel
theorem dX10_gown_37 : decode cX10_gown 37 = .ok (.iconst 1, 1) := by decide +kernel
theorem dX10_gown_38 : decode cX10_gown 38 = .ok (.goto 4, 3) := by decide +kernel
theorem dX10_gown_41 : decode cX10_gown 41 = .ok (.iconst 0, 1) := by decide +kernel
theorem dX10_gown_42 : decode cX10_gown 42 = .ok (.istore 8, 2) := by decide +kernel
theorem dX10_gown_44 : decode cX10_gown 44 = .ok (.iload 8, 2) := by decide +kernel
theorem dX10_gown_46 : decode cX10_gown 46 = .ok (.ifCond .eq 19, 3) := by decide +kernel
theorem dX10_gown_49 : decode cX10_gown 49 = .ok (.iload 6, 2) := by decide +kernel
theorem dX10_gown_51 : decode cX10_gown 51 = .ok (.invokestatic 139, 3) := by decide +kernel
theorem dX10_gown_54 : decode cX10_gown 54 = .ok (.ifCond .eq 11, 3) := by decide +kernel
theorem dX10_gown_57 : decode cX10_gown 57 = .ok (.iload 7, 2) := by decide +kernel
theorem dX10_gown_59 : decode cX10_gown 59 = .ok (.invokestatic 142, 3) := by decide +kernel
theorem dX10_gown_62 : decode cX10_gown 62 = .ok (.ifCond .ne 6, 3) := by decide +kernel
theorem dX10_gown_65 : decode cX10_gown 65 = .ok (.bipush (-2), 2) := by decide +kernel
theorem dX10_gown_67 : decode cX10_gown 67 = .ok (.ireturn, 1) := by decide +kernel
theorem dX10_gown_68 : decode cX10_gown 68 = .ok (.aload_n 0, 1) := by decide +kernel
theorem dX10_gown_69 : decode cX10_gown 69 = .ok (.getfield 47, 3) := by decide +kernel
theorem dX10_gown_72 : decode cX10_gown 72 = .ok (.bipush 40, 2) := by decide +kernel
theorem dX10_gown_74 : decode cX10_gown 74 = .ok (.if_icmp .lt 6, 3) := by decide +kernel
theorem dX10_gown_77 : decode cX10_gown 77 = .ok (.bipush (-3), 2) := by decide +kernel
theorem dX10_gown_79 : decode cX10_gown 79 = .ok (.ireturn, 1) := by decide +kernel
theorem dX10_gown_80 : decode cX10_gown 80 = .ok (.aload_n 0, 1) := by decide +kernel
theorem dX10_gown_81 : decode cX10_gown 81 = .ok (.getfield 43, 3) := by decide +kernel
theorem dX10_gown_84 : decode cX10_gown 84 = .ok (.aload_n 0, 1) := by decide +kernel
theorem dX10_gown_85 : decode cX10_gown 85 = .ok (.getfield 47, 3) := by decide +kernel
theorem dX10_gown_88 : decode cX10_gown 88 = .ok (.new 41, 3) := by decide +kernel
theorem dX10_gown_91 : decode cX10_gown 91 = .ok (.dup, 1) := by decide +kernel
theorem dX10_gown_92 : decode cX10_gown 92 = .ok (.iload_n 1, 1) := by decide +kernel
theorem dX10_gown_93 : decode cX10_gown 93 = .ok (.iload_n 2, 1) := by decide +kernel
theorem dX10_gown_94 : decode cX10_gown 94 = .ok (.iload_n 3, 1) := by decide +kernel
theorem dX10_gown_95 : decode cX10_gown 95 = .ok (.iload 4, 2) := by decide +kernel
theorem dX10_gown_97 : decode cX10_gown 97 = .ok (.iload 5, 2) := by decide +kernel
theorem dX10_gown_99 : decode cX10_gown 99 = .ok (.iload 6, 2) := by decide +kernel
theorem dX10_gown_101 : decode cX10_gown 101 = .ok (.iload 7, 2) := by decide +kernel
theorem dX10_gown_103 : decode cX10_gown 103 = .ok (.invokespecial 145, 3) := by decide +kernel
theorem dX10_gown_106 : decode cX10_gown 106 = .ok (.aastore, 1) := by decide +kernel
theorem dX10_gown_107 : decode cX10_gown 107 = .ok (.aload_n 0, 1) := by decide +kernel
theorem dX10_gown_108 : decode cX10_gown 108 = .ok (.dup, 1) := by decide +kernel
theorem dX10_gown_109 : decode cX10_gown 109 = .ok (.getfield 47, 3) := by decide +kernel
theorem dX10_gown_112 : decode cX10_gown 112 = .ok (.iconst 1, 1) := by decide +kernel
theorem dX10_gown_113 : decode cX10_gown 113 = .ok (.iadd, 1) := by decide +kernel
theorem dX10_gown_114 : decode cX10_gown 114 = .ok (.putfield 47, 3) := by decide +kernel
theorem dX10_gown_117 : decode cX10_gown 117 = .ok (.aload_n 0, 1) := by decide +kernel
theorem dX10_gown_118 : decode cX10_gown 118 = .ok (.getfield 47, 3) := by decide +kernel
theorem dX10_gown_121 : decode cX10_gown 121 = .ok (.iconst 1, 1) := by decide +kernel
theorem dX10_gown_122 : decode cX10_gown 122 = .ok (.isub, 1) := by decide +kernel
theorem dX10_gown_123 : decode cX10_gown 123 = .ok (.ireturn, 1) := by decide +kernel
theorem dX10_seal_0 : decode cX10_seal 0 = .ok (.aload_n 0, 1) := by decide +kernel
theorem dX10_seal_1 : decode cX10_seal 1 = .ok (.iload_n 1, 1) := by decide +kernel
theorem dX10_seal_2 : decode cX10_seal 2 = .ok (.invokevirtual 148, 3) := by decide +kernel
theorem dX10_seal_5 : decode cX10_seal 5 = .ok (.astore_n 3, 1) := by decide +kernel
theorem dX10_seal_6 : decode cX10_seal 6 = .ok (.aload_n 3, 1) := by decide +kernel
theorem dX10_seal_7 : decode cX10_seal 7 = .ok (.ifnull 10, 3) := by decide +kernel
theorem dX10_seal_10 : decode cX10_seal 10 = .ok (.iload_n 2, 1) := by decide +kernel
theorem dX10_seal_11 : decode cX10_seal 11 = .ok (.invokestatic 110, 3) := by decide +kernel
theorem dX10_seal_14 : decode cX10_seal 14 = .ok (.ifCond .ne 6, 3) := by decide +kernel
theorem dX10_seal_17 : decode cX10_seal 17 = .ok (.bipush (-2), 2) := by decide +kernel
theorem dX10_seal_19 : decode cX10_seal 19 = .ok (.ireturn, 1) := by decide +kernel
theorem dX10_seal_20 : decode cX10_seal 20 = .ok (.aload_n 3, 1) := by decide +kernel
theorem dX10_seal_21 : decode cX10_seal 21 = .ok (.getfield 152, 3) := by decide +kernel
theorem dX10_seal_24 : decode cX10_seal 24 = .ok (.iconst (-1), 1) := by decide +kernel
theorem dX10_seal_25 : decode cX10_seal 25 = .ok (.if_icmp .eq 6, 3) := by decide +kernel
theorem dX10_seal_28 : decode cX10_seal 28 = .ok (.bipush (-4), 2) := by decide +kernel
theorem dX10_seal_30 : decode cX10_seal 30 = .ok (.ireturn, 1) := by decide +kernel
theorem dX10_seal_31 : decode cX10_seal 31 = .ok (.aload_n 3, 1) := by decide +kernel
theorem dX10_seal_32 : decode cX10_seal 32 = .ok (.iload_n 2, 1) := by decide +kernel
theorem dX10_seal_33 : decode cX10_seal 33 = .ok (.putfield 152, 3) := by decide +kernel
theorem dX10_seal_36 : decode cX10_seal 36 = .ok (.iconst 1, 1) := by decide +kernel
theorem dX10_seal_37 : decode cX10_seal 37 = .ok (.ireturn, 1) := by decide +kernel
theorem dX10_about_0 : decode cX10_about 0 = .ok (.aload_n 0, 1) := by decide +kernel
theorem dX10_about_1 : decode cX10_about 1 = .ok (.iload_n 1, 1) := by decide +kernel
theorem dX10_about_2 : decode cX10_about 2 = .ok (.invokevirtual 148, 3) := by decide +kernel
theorem dX10_about_5 : decode cX10_about 5 = .ok (.astore_n 3, 1) := by decide +kernel
theorem dX10_about_6 : decode cX10_about 6 = .ok (.aload_n 3, 1) := by decide +kernel
theorem dX10_about_7 : decode cX10_about 7 = .ok (.ifnonnull 5, 3) := by decide +kernel
theorem dX10_about_10 : decode cX10_about 10 = .ok (.iconst (-1), 1) := by decide +kernel
theorem dX10_about_11 : decode cX10_about 11 = .ok (.ireturn, 1) := by decide +kernel
theorem dX10_about_12 : decode cX10_about 12 = .ok (.iload_n 2, 1) := by decide +kernel
theorem dX10_about_13 : decode cX10_about 13 = .ok (.tableswitch 42 5 7 #[27, 32, 37], 27) := by decide +kernel
theorem dX10_about_40 : decode cX10_about 40 = .ok (.aload_n 3, 1) := by decide +kernel
theorem dX10_about_41 : decode cX10_about 41 = .ok (.getfield 155, 3) := by decide +kernel
theorem dX10_about_44 : decode cX10_about 44 = .ok (.ireturn, 1) := by decide +kernel
theorem dX10_about_45 : decode cX10_about 45 = .ok (.aload_n 3, 1) := by decide +kernel
theorem dX10_about_46 : decode cX10_about 46 = .ok (.getfield 158, 3) := by decide +kernel
theorem dX10_about_49 : decode cX10_about 49 = .ok (.ireturn, 1) := by decide +kernel
theorem dX10_about_50 : decode cX10_about 50 = .ok (.aload_n 3, 1) := by decide +kernel
theorem dX10_about_51 : decode cX10_about 51 = .ok (.getfield 152, 3) := by decide +kernel
theorem dX10_about_54 : decode cX10_about 54 = .ok (.ireturn, 1) := by decide +kernel
theorem dX10_about_55 : decode cX10_about 55 = .ok (.aload_n 3, 1) := by decide +kernel
theorem dX10_about_56 : decode cX10_about 56 = .ok (.iload_n 2, 1) := by decide +kernel
theorem dX10_about_57 : decode cX10_about 57 = .ok (.invokevirtual 161, 3) := by decide +kernel
theorem dX10_about_60 : decode cX10_about 60 = .ok (.ireturn, 1) := by decide +kernel
theorem dX10_like_0 : decode cX10_like 0 = .ok (.iload_n 1, 1) := by decide +kernel
theorem dX10_like_1 : decode cX10_like 1 = .ok (.invokestatic 139, 3) := by decide +kernel
theorem dX10_like_4 : decode cX10_like 4 = .ok (.ifCond .eq 22, 3) := by decide +kernel
theorem dX10_like_7 : decode cX10_like 7 = .ok (.iload_n 2, 1) := by decide +kernel
theorem dX10_like_8 : decode cX10_like 8 = .ok (.invokestatic 139, 3) := by decide +kernel
theorem dX10_like_11 : decode cX10_like 11 = .ok (.ifCond .eq 15, 3) := by decide +kernel
theorem dX10_like_14 : decode cX10_like 14 = .ok (.iload_n 2, 1) := by decide +kernel
theorem dX10_like_15 : decode cX10_like 15 = .ok (.iload_n 1, 1) := by decide +kernel
theorem dX10_like_16 : decode cX10_like 16 = .ok (.if_icmp .ge 10, 3) := by decide +kernel
theorem dX10_like_19 : decode cX10_like 19 = .ok (.iload_n 3, 1) := by decide +kernel
theorem dX10_like_20 : decode cX10_like 20 = .ok (.invokestatic 110, 3) := by decide +kernel
theorem dX10_like_23 : decode cX10_like 23 = .ok (.ifCond .ne 6, 3) := by decide +kernel
theorem dX10_like_26 : decode cX10_like 26 = .ok (.bipush (-2), 2) := by decide +kernel
theorem dX10_like_28 : decode cX10_like 28 = .ok (.ireturn, 1) := by decide +kernel
theorem dX10_like_29 : decode cX10_like 29 = .ok (.aload_n 0, 1) := by decide +kernel
theorem dX10_like_30 : decode cX10_like 30 = .ok (.getfield 38, 3) := by decide +kernel
theorem dX10_like_33 : decode cX10_like 33 = .ok (.invokevirtual 128, 3) := by decide +kernel
theorem dX10_like_36 : decode cX10_like 36 = .ok (.bipush 30, 2) := by decide +kernel
theorem dX10_like_38 : decode cX10_like 38 = .ok (.if_icmp .lt 6, 3) := by decide +kernel
theorem dX10_like_41 : decode cX10_like 41 = .ok (.bipush (-3), 2) := by decide +kernel
theorem dX10_like_43 : decode cX10_like 43 = .ok (.ireturn, 1) := by decide +kernel
theorem dX10_like_44 : decode cX10_like 44 = .ok (.aload_n 0, 1) := by decide +kernel
theorem dX10_like_45 : decode cX10_like 45 = .ok (.getfield 38, 3) := by decide +kernel
theorem dX10_like_48 : decode cX10_like 48 = .ok (.iload_n 1, 1) := by decide +kernel
theorem dX10_like_49 : decode cX10_like 49 = .ok (.iload_n 3, 1) := by decide +kernel
theorem dX10_like_50 : decode cX10_like 50 = .ok (.iload_n 2, 1) := by decide +kernel
theorem dX10_like_51 : decode cX10_like 51 = .ok (.invokevirtual 120, 3) := by decide +kernel
theorem dX10_like_54 : decode cX10_like 54 = .ok (.aload_n 0, 1) := by decide +kernel
theorem dX10_like_55 : decode cX10_like 55 = .ok (.getfield 38, 3) := by decide +kernel
theorem dX10_like_58 : decode cX10_like 58 = .ok (.invokevirtual 128, 3) := by decide +kernel
theorem dX10_like_61 : decode cX10_like 61 = .ok (.ireturn, 1) := by decide +kernel
theorem dX10_counts_0 : decode cX10_counts 0 = .ok (.iload_n 1, 1) := by decide +kernel
theorem dX10_counts_1 : decode cX10_counts 1 = .ok (.invokestatic 139, 3) := by decide +kernel
theorem dX10_counts_4 : decode cX10_counts 4 = .ok (.ifCond .eq 10, 3) := by decide +kernel
theorem dX10_counts_7 : decode cX10_counts 7 = .ok (.iload_n 2, 1) := by decide +kernel
theorem dX10_counts_8 : decode cX10_counts 8 = .ok (.invokestatic 110, 3) := by decide +kernel
theorem dX10_counts_11 : decode cX10_counts 11 = .ok (.ifCond .ne 6, 3) := by decide +kernel
theorem dX10_counts_14 : decode cX10_counts 14 = .ok (.bipush (-2), 2) := by decide +kernel
theorem dX10_counts_16 : decode cX10_counts 16 = .ok (.ireturn, 1) := by decide +kernel
theorem dX10_counts_17 : decode cX10_counts 17 = .ok (.aload_n 0, 1) := by decide +kernel
theorem dX10_counts_18 : decode cX10_counts 18 = .ok (.iload_n 1, 1) := by decide +kernel
theorem dX10_counts_19 : decode cX10_counts 19 = .ok (.iload_n 2, 1) := by decide +kernel
theorem dX10_counts_20 : decode cX10_counts 20 = .ok (.invokevirtual 164, 3) := by decide +kernel
theorem dX10_counts_23 : decode cX10_counts 23 = .ok (.ireturn, 1) := by decide +kernel
theorem dX10_act_0 : decode cX10_act 0 = .ok (.iload_n 1, 1) := by decide +kernel
theorem dX10_act_1 : decode cX10_act 1 = .ok (.invokestatic 110, 3) := by decide +kernel
theorem dX10_act_4 : decode cX10_act 4 = .ok (.ifCond .eq 18, 3) := by decide +kernel
theorem dX10_act_7 : decode cX10_act 7 = .ok (.iload_n 1, 1) := by decide +kernel
theorem dX10_act_8 : decode cX10_act 8 = .ok (.aload_n 0, 1) := by decide +kernel
theorem dX10_act_9 : decode cX10_act 9 = .ok (.getfield 19, 3) := by decide +kernel
theorem dX10_act_12 : decode cX10_act 12 = .ok (.invokevirtual 167, 3) := by decide +kernel
theorem dX10_act_15 : decode cX10_act 15 = .ok (.if_icmp .lt 7, 3) := by decide +kernel
theorem dX10_act_18 : decode cX10_act 18 = .ok (.iconst 1, 1) := by decide +kernel
theorem dX10_act_19 : decode cX10_act 19 = .ok (.goto 4, 3) := by decide +kernel
theorem dX10_act_22 : decode cX10_act 22 = .ok (.iconst 0, 1) := by decide +kernel
theorem dX10_act_23 : decode cX10_act 23 = .ok (.istore_n 2, 1) := by decide +kernel
theorem dX10_act_24 : decode cX10_act 24 = .ok (.iload_n 2, 1) := by decide +kernel
theorem dX10_act_25 : decode cX10_act 25 = .ok (.ifCond .eq 17, 3) := by decide +kernel
theorem dX10_act_28 : decode cX10_act 28 = .ok (.aload_n 0, 1) := by decide +kernel
theorem dX10_act_29 : decode cX10_act 29 = .ok (.getfield 10, 3) := by decide +kernel
theorem dX10_act_32 : decode cX10_act 32 = .ok (.aload_n 0, 1) := by decide +kernel
theorem dX10_act_33 : decode cX10_act 33 = .ok (.getfield 19, 3) := by decide +kernel
theorem dX10_act_36 : decode cX10_act 36 = .ok (.invokevirtual 170, 3) := by decide +kernel
theorem dX10_act_39 : decode cX10_act 39 = .ok (.invokevirtual 171, 3) := by decide +kernel
theorem dX10_act_42 : decode cX10_act 42 = .ok (.aload_n 0, 1) := by decide +kernel
theorem dX10_act_43 : decode cX10_act 43 = .ok (.getfield 10, 3) := by decide +kernel
theorem dX10_act_46 : decode cX10_act 46 = .ok (.getfield 90, 3) := by decide +kernel
theorem dX10_act_49 : decode cX10_act 49 = .ok (.iconst 0, 1) := by decide +kernel
theorem dX10_act_50 : decode cX10_act 50 = .ok (.invokevirtual 103, 3) := by decide +kernel
theorem dX10_act_53 : decode cX10_act 53 = .ok (.iload_n 2, 1) := by decide +kernel
theorem dX10_act_54 : decode cX10_act 54 = .ok (.ifCond .ne 6, 3) := by decide +kernel
theorem dX10_act_57 : decode cX10_act 57 = .ok (.bipush (-2), 2) := by decide +kernel
theorem dX10_act_59 : decode cX10_act 59 = .ok (.ireturn, 1) := by decide +kernel
theorem dX10_act_60 : decode cX10_act 60 = .ok (.aload_n 0, 1) := by decide +kernel
theorem dX10_act_61 : decode cX10_act 61 = .ok (.getfield 10, 3) := by decide +kernel
theorem dX10_act_64 : decode cX10_act 64 = .ok (.invokevirtual 174, 3) := by decide +kernel
theorem dX10_act_67 : decode cX10_act 67 = .ok (.ifCond .eq 5, 3) := by decide +kernel
theorem dX10_act_70 : decode cX10_act 70 = .ok (.iconst (-1), 1) := by decide +kernel
theorem dX10_act_71 : decode cX10_act 71 = .ok (.ireturn, 1) := by decide +kernel
theorem dX10_act_72 : decode cX10_act 72 = .ok (.aload_n 0, 1) := by decide +kernel
theorem dX10_act_73 : decode cX10_act 73 = .ok (.getfield 19, 3) := by decide +kernel
theorem dX10_act_76 : decode cX10_act 76 = .ok (.invokevirtual 170, 3) := by decide +kernel
theorem dX10_act_79 : decode cX10_act 79 = .ok (.bipush 12, 2) := by decide +kernel
theorem dX10_act_81 : decode cX10_act 81 = .ok (.if_icmp .lt 6, 3) := by decide +kernel
theorem dX10_act_84 : decode cX10_act 84 = .ok (.bipush (-3), 2) := by decide +kernel
theorem dX10_act_86 : decode cX10_act 86 = .ok (.ireturn, 1) := by decide +kernel
theorem dX10_act_87 : decode cX10_act 87 = .ok (.aload_n 0, 1) := by decide +kernel
theorem dX10_act_88 : decode cX10_act 88 = .ok (.getfield 19, 3) := by decide +kernel
theorem dX10_act_91 : decode cX10_act 91 = .ok (.aload_n 0, 1) := by decide +kernel
theorem dX10_act_92 : decode cX10_act 92 = .ok (.getfield 10, 3) := by decide +kernel
theorem dX10_act_95 : decode cX10_act 95 = .ok (.invokevirtual 177, 3) := by decide +kernel
theorem dX10_act_98 : decode cX10_act 98 = .ok (.iload_n 1, 1) := by decide +kernel
theorem dX10_act_99 : decode cX10_act 99 = .ok (.invokevirtual 181, 3) := by decide +kernel
theorem dX10_act_102 : decode cX10_act 102 = .ok (.aload_n 0, 1) := by decide +kernel
theorem dX10_act_103 : decode cX10_act 103 = .ok (.getfield 19, 3) := by decide +kernel
theorem dX10_act_106 : decode cX10_act 106 = .ok (.invokevirtual 170, 3) := by decide +kernel
theorem dX10_act_109 : decode cX10_act 109 = .ok (.iconst 1, 1) := by decide +kernel
theorem dX10_act_110 : decode cX10_act 110 = .ok (.isub, 1) := by decide +kernel
theorem dX10_act_111 : decode cX10_act 111 = .ok (.ireturn, 1) := by decide +kernel
theorem dX10_fault_0 : decode cX10_fault 0 = .ok (.iload_n 1, 1) := by decide +kernel
theorem dX10_fault_1 : decode cX10_fault 1 = .ok (.lookupswitch 43 #[(0, 27), (1, 35)], 27) := by decide +kernel
theorem dX10_fault_28 : decode cX10_fault 28 = .ok (.aload_n 0, 1) := by decide +kernel
theorem dX10_fault_29 : decode cX10_fault 29 = .ok (.getfield 10, 3) := by decide +kernel
theorem dX10_fault_32 : decode cX10_fault 32 = .ok (.invokevirtual 174, 3) := by decide +kernel
theorem dX10_fault_35 : decode cX10_fault 35 = .ok (.ireturn, 1) := by decide +kernel
theorem dX10_fault_36 : decode cX10_fault 36 = .ok (.aload_n 0, 1) := by decide +kernel
theorem dX10_fault_37 : decode cX10_fault 37 = .ok (.getfield 10, 3) := by decide +kernel
theorem dX10_fault_40 : decode cX10_fault 40 = .ok (.invokevirtual 184, 3) := by decide +kernel
theorem dX10_fault_43 : decode cX10_fault 43 = .ok (.ireturn, 1) := by decide +kernel
theorem dX10_fault_44 : decode cX10_fault 44 = .ok (.iconst (-1), 1) := by decide +kernel
theorem dX10_fault_45 : decode cX10_fault 45 = .ok (.ireturn, 1) := by decide +kernel
theorem dX10_told_0 : decode cX10_told 0 = .ok (.aload_n 0, 1) := by decide +kernel
theorem dX10_told_1 : decode cX10_told 1 = .ok (.getfield 19, 3) := by decide +kernel
theorem dX10_told_4 : decode cX10_told 4 = .ok (.iload_n 1, 1) := by decide +kernel
theorem dX10_told_5 : decode cX10_told 5 = .ok (.invokevirtual 187, 3) := by decide +kernel
theorem dX10_told_8 : decode cX10_told 8 = .ok (.astore_n 3, 1) := by decide +kernel
theorem dX10_told_9 : decode cX10_told 9 = .ok (.aload_n 3, 1) := by decide +kernel
theorem dX10_told_10 : decode cX10_told 10 = .ok (.ifnonnull 6, 3) := by decide +kernel
theorem dX10_told_13 : decode cX10_told 13 = .ok (.bipush (-9), 2) := by decide +kernel
theorem dX10_told_15 : decode cX10_told 15 = .ok (.ireturn, 1) := by decide +kernel
theorem dX10_told_16 : decode cX10_told 16 = .ok (.iload_n 2, 1) := by decide +kernel
theorem dX10_told_17 : decode cX10_told 17 = .ok (.tableswitch 60 0 4 #[35, 40, 45, 50, 55], 35) := by decide +kernel
theorem dX10_told_52 : decode cX10_told 52 = .ok (.aload_n 3, 1) := by decide +kernel
theorem dX10_told_53 : decode cX10_told 53 = .ok (.getfield 191, 3) := by decide +kernel
theorem dX10_told_56 : decode cX10_told 56 = .ok (.ireturn, 1) := by decide +kernel
theorem dX10_told_57 : decode cX10_told 57 = .ok (.aload_n 3, 1) := by decide +kernel
theorem dX10_told_58 : decode cX10_told 58 = .ok (.getfield 196, 3) := by decide +kernel
theorem dX10_told_61 : decode cX10_told 61 = .ok (.ireturn, 1) := by decide +kernel
theorem dX10_told_62 : decode cX10_told 62 = .ok (.aload_n 3, 1) := by decide +kernel
theorem dX10_told_63 : decode cX10_told 63 = .ok (.invokevirtual 199, 3) := by decide +kernel
theorem dX10_told_66 : decode cX10_told 66 = .ok (.ireturn, 1) := by decide +kernel
theorem dX10_told_67 : decode cX10_told 67 = .ok (.aload_n 3, 1) := by decide +kernel
theorem dX10_told_68 : decode cX10_told 68 = .ok (.getfield 202, 3) := by decide +kernel
theorem dX10_told_71 : decode cX10_told 71 = .ok (.ireturn, 1) := by decide +kernel
theorem dX10_told_72 : decode cX10_told 72 = .ok (.aload_n 3, 1) := by decide +kernel
theorem dX10_told_73 : decode cX10_told 73 = .ok (.getfield 205, 3) := by decide +kernel
theorem dX10_told_76 : decode cX10_told 76 = .ok (.ireturn, 1) := by decide +kernel
theorem dX10_told_77 : decode cX10_told 77 = .ok (.bipush (-9), 2) := by decide +kernel
theorem dX10_told_79 : decode cX10_told 79 = .ok (.ireturn, 1) := by decide +kernel
theorem dX10_rule_0 : decode cX10_rule 0 = .ok (.aload_n 0, 1) := by decide +kernel
theorem dX10_rule_1 : decode cX10_rule 1 = .ok (.getfield 19, 3) := by decide +kernel
theorem dX10_rule_4 : decode cX10_rule 4 = .ok (.iload_n 1, 1) := by decide +kernel
theorem dX10_rule_5 : decode cX10_rule 5 = .ok (.invokevirtual 187, 3) := by decide +kernel
theorem dX10_rule_8 : decode cX10_rule 8 = .ok (.astore 4, 2) := by decide +kernel
theorem dX10_rule_10 : decode cX10_rule 10 = .ok (.aload 4, 2) := by decide +kernel
theorem dX10_rule_12 : decode cX10_rule 12 = .ok (.ifnonnull 6, 3) := by decide +kernel
theorem dX10_rule_15 : decode cX10_rule 15 = .ok (.bipush (-9), 2) := by decide +kernel
theorem dX10_rule_17 : decode cX10_rule 17 = .ok (.ireturn, 1) := by decide +kernel
theorem dX10_rule_18 : decode cX10_rule 18 = .ok (.aload 4, 2) := by decide +kernel
theorem dX10_rule_20 : decode cX10_rule 20 = .ok (.iload_n 2, 1) := by decide +kernel
theorem dX10_rule_21 : decode cX10_rule 21 = .ok (.invokevirtual 208, 3) := by decide +kernel
theorem dX10_rule_24 : decode cX10_rule 24 = .ok (.astore 5, 2) := by decide +kernel
theorem dX10_rule_26 : decode cX10_rule 26 = .ok (.aload 5, 2) := by decide +kernel
theorem dX10_rule_28 : decode cX10_rule 28 = .ok (.ifnonnull 6, 3) := by decide +kernel
theorem dX10_rule_31 : decode cX10_rule 31 = .ok (.bipush (-9), 2) := by decide +kernel
theorem dX10_rule_33 : decode cX10_rule 33 = .ok (.ireturn, 1) := by decide +kernel
theorem dX10_rule_34 : decode cX10_rule 34 = .ok (.iload_n 3, 1) := by decide +kernel
theorem dX10_rule_35 : decode cX10_rule 35 = .ok (.tableswitch 73 0 5 #[37, 43, 49, 55, 61, 67], 37) := by decide +kernel
theorem dX10_rule_72 : decode cX10_rule 72 = .ok (.aload 5, 2) := by decide +kernel
theorem dX10_rule_74 : decode cX10_rule 74 = .ok (.getfield 212, 3) := by decide +kernel
theorem dX10_rule_77 : decode cX10_rule 77 = .ok (.ireturn, 1) := by decide +kernel
theorem dX10_rule_78 : decode cX10_rule 78 = .ok (.aload 5, 2) := by decide +kernel
theorem dX10_rule_80 : decode cX10_rule 80 = .ok (.getfield 217, 3) := by decide +kernel
theorem dX10_rule_83 : decode cX10_rule 83 = .ok (.ireturn, 1) := by decide +kernel
theorem dX10_rule_84 : decode cX10_rule 84 = .ok (.aload 5, 2) := by decide +kernel
theorem dX10_rule_86 : decode cX10_rule 86 = .ok (.getfield 220, 3) := by decide +kernel
theorem dX10_rule_89 : decode cX10_rule 89 = .ok (.ireturn, 1) := by decide +kernel
theorem dX10_rule_90 : decode cX10_rule 90 = .ok (.aload 5, 2) := by decide +kernel
theorem dX10_rule_92 : decode cX10_rule 92 = .ok (.getfield 223, 3) := by decide +kernel
theorem dX10_rule_95 : decode cX10_rule 95 = .ok (.ireturn, 1) := by decide +kernel
theorem dX10_rule_96 : decode cX10_rule 96 = .ok (.aload 5, 2) := by decide +kernel
theorem dX10_rule_98 : decode cX10_rule 98 = .ok (.getfield 226, 3) := by decide +kernel
theorem dX10_rule_101 : decode cX10_rule 101 = .ok (.ireturn, 1) := by decide +kernel
theorem dX10_rule_102 : decode cX10_rule 102 = .ok (.aload 5, 2) := by decide +kernel
theorem dX10_rule_104 : decode cX10_rule 104 = .ok (.getfield 229, 3) := by decide +kernel
theorem dX10_rule_107 : decode cX10_rule 107 = .ok (.ireturn, 1) := by decide +kernel
theorem dX10_rule_108 : decode cX10_rule 108 = .ok (.bipush (-9), 2) := by decide +kernel
theorem dX10_rule_110 : decode cX10_rule 110 = .ok (.ireturn, 1) := by decide +kernel
theorem dX10_force_0 : decode cX10_force 0 = .ok (.iload_n 1, 1) := by decide +kernel
theorem dX10_force_1 : decode cX10_force 1 = .ok (.invokestatic 110, 3) := by decide +kernel
theorem dX10_force_4 : decode cX10_force 4 = .ok (.ifCond .ne 6, 3) := by decide +kernel
theorem dX10_force_7 : decode cX10_force 7 = .ok (.bipush (-2), 2) := by decide +kernel
theorem dX10_force_9 : decode cX10_force 9 = .ok (.ireturn, 1) := by decide +kernel
theorem dX10_force_10 : decode cX10_force 10 = .ok (.aload_n 0, 1) := by decide +kernel
theorem dX10_force_11 : decode cX10_force 11 = .ok (.getfield 19, 3) := by decide +kernel
theorem dX10_force_14 : decode cX10_force 14 = .ok (.iload_n 1, 1) := by decide +kernel
theorem dX10_force_15 : decode cX10_force 15 = .ok (.invokevirtual 232, 3) := by decide +kernel
theorem dX10_force_18 : decode cX10_force 18 = .ok (.ireturn, 1) := by decide +kernel
theorem dX10_fine_0 : decode cX10_fine 0 = .ok (.aload_n 0, 1) := by decide +kernel
theorem dX10_fine_1 : decode cX10_fine 1 = .ok (.iload_n 1, 1) := by decide +kernel
theorem dX10_fine_2 : decode cX10_fine 2 = .ok (.iload_n 2, 1) := by decide +kernel
theorem dX10_fine_3 : decode cX10_fine 3 = .ok (.iload_n 3, 1) := by decide +kernel
theorem dX10_fine_4 : decode cX10_fine 4 = .ok (.invokevirtual 235, 3) := by decide +kernel
theorem dX10_fine_7 : decode cX10_fine 7 = .ok (.ifCond .ne 6, 3) := by decide +kernel
theorem dX10_fine_10 : decode cX10_fine 10 = .ok (.bipush (-2), 2) := by decide +kernel
theorem dX10_fine_12 : decode cX10_fine 12 = .ok (.ireturn, 1) := by decide +kernel
theorem dX10_fine_13 : decode cX10_fine 13 = .ok (.aload_n 0, 1) := by decide +kernel
theorem dX10_fine_14 : decode cX10_fine 14 = .ok (.iload_n 1, 1) := by decide +kernel
theorem dX10_fine_15 : decode cX10_fine 15 = .ok (.invokevirtual 239, 3) := by decide +kernel
theorem dX10_fine_18 : decode cX10_fine 18 = .ok (.ireturn, 1) := by decide +kernel
theorem dX10_broken_0 : decode cX10_broken 0 = .ok (.aload_n 0, 1) := by decide +kernel
theorem dX10_broken_1 : decode cX10_broken 1 = .ok (.getfield 19, 3) := by decide +kernel
theorem dX10_broken_4 : decode cX10_broken 4 = .ok (.iload 4, 2) := by decide +kernel
theorem dX10_broken_6 : decode cX10_broken 6 = .ok (.invokevirtual 187, 3) := by decide +kernel
theorem dX10_broken_9 : decode cX10_broken 9 = .ok (.ifnull 13, 3) := by decide +kernel
theorem dX10_broken_12 : decode cX10_broken 12 = .ok (.aload_n 0, 1) := by decide +kernel
theorem dX10_broken_13 : decode cX10_broken 13 = .ok (.iload_n 1, 1) := by decide +kernel
theorem dX10_broken_14 : decode cX10_broken 14 = .ok (.iload_n 2, 1) := by decide +kernel
theorem dX10_broken_15 : decode cX10_broken 15 = .ok (.iload_n 3, 1) := by decide +kernel
theorem dX10_broken_16 : decode cX10_broken 16 = .ok (.invokevirtual 235, 3) := by decide +kernel
theorem dX10_broken_19 : decode cX10_broken 19 = .ok (.ifCond .ne 6, 3) := by decide +kernel
theorem dX10_broken_22 : decode cX10_broken 22 = .ok (.bipush (-2), 2) := by decide +kernel
theorem dX10_broken_24 : decode cX10_broken 24 = .ok (.ireturn, 1) := by decide +kernel
theorem dX10_broken_25 : decode cX10_broken 25 = .ok (.aload_n 0, 1) := by decide +kernel
theorem dX10_broken_26 : decode cX10_broken 26 = .ok (.getfield 19, 3) := by decide +kernel
theorem dX10_broken_29 : decode cX10_broken 29 = .ok (.iload 4, 2) := by decide +kernel
theorem dX10_broken_31 : decode cX10_broken 31 = .ok (.aload_n 0, 1) := by decide +kernel
theorem dX10_broken_32 : decode cX10_broken 32 = .ok (.getfield 79, 3) := by decide +kernel
theorem dX10_broken_35 : decode cX10_broken 35 = .ok (.invokevirtual 242, 3) := by decide +kernel
theorem dX10_broken_38 : decode cX10_broken 38 = .ok (.ireturn, 1) := by decide +kernel
theorem dX10_letter_0 : decode cX10_letter 0 = .ok (.iload_n 1, 1) := by decide +kernel
theorem dX10_letter_1 : decode cX10_letter 1 = .ok (.invokestatic 106, 3) := by decide +kernel
theorem dX10_letter_4 : decode cX10_letter 4 = .ok (.ifCond .eq 31, 3) := by decide +kernel
theorem dX10_letter_7 : decode cX10_letter 7 = .ok (.iload_n 2, 1) := by decide +kernel
theorem dX10_letter_8 : decode cX10_letter 8 = .ok (.invokestatic 106, 3) := by decide +kernel
theorem dX10_letter_11 : decode cX10_letter 11 = .ok (.ifCond .eq 24, 3) := by decide +kernel
theorem dX10_letter_14 : decode cX10_letter 14 = .ok (.iload_n 1, 1) := by decide +kernel
theorem dX10_letter_15 : decode cX10_letter 15 = .ok (.iload_n 2, 1) := by decide +kernel
theorem dX10_letter_16 : decode cX10_letter 16 = .ok (.if_icmp .eq 19, 3) := by decide +kernel
theorem dX10_letter_19 : decode cX10_letter 19 = .ok (.aload_n 0, 1) := by decide +kernel
theorem dX10_letter_20 : decode cX10_letter 20 = .ok (.iload_n 3, 1) := by decide +kernel
theorem dX10_letter_21 : decode cX10_letter 21 = .ok (.invokevirtual 148, 3) := by decide +kernel
theorem dX10_letter_24 : decode cX10_letter 24 = .ok (.ifnull 11, 3) := by decide +kernel
theorem dX10_letter_27 : decode cX10_letter 27 = .ok (.iload 4, 2) := by decide +kernel
theorem dX10_letter_29 : decode cX10_letter 29 = .ok (.invokestatic 110, 3) := by decide +kernel
theorem dX10_letter_32 : decode cX10_letter 32 = .ok (.ifCond .ne 6, 3) := by decide +kernel
theorem dX10_letter_35 : decode cX10_letter 35 = .ok (.bipush (-2), 2) := by decide +kernel
theorem dX10_letter_37 : decode cX10_letter 37 = .ok (.ireturn, 1) := by decide +kernel
theorem dX10_letter_38 : decode cX10_letter 38 = .ok (.aload_n 0, 1) := by decide +kernel
theorem dX10_letter_39 : decode cX10_letter 39 = .ok (.getfield 57, 3) := by decide +kernel
theorem dX10_letter_42 : decode cX10_letter 42 = .ok (.bipush 60, 2) := by decide +kernel
theorem dX10_letter_44 : decode cX10_letter 44 = .ok (.if_icmp .lt 6, 3) := by decide +kernel
theorem dX10_letter_47 : decode cX10_letter 47 = .ok (.bipush (-3), 2) := by decide +kernel
theorem dX10_letter_49 : decode cX10_letter 49 = .ok (.ireturn, 1) := by decide +kernel
theorem dX10_letter_50 : decode cX10_letter 50 = .ok (.aload_n 0, 1) := by decide +kernel
theorem dX10_letter_51 : decode cX10_letter 51 = .ok (.getfield 53, 3) := by decide +kernel
theorem dX10_letter_54 : decode cX10_letter 54 = .ok (.aload_n 0, 1) := by decide +kernel
theorem dX10_letter_55 : decode cX10_letter 55 = .ok (.getfield 57, 3) := by decide +kernel
theorem dX10_letter_58 : decode cX10_letter 58 = .ok (.new 51, 3) := by decide +kernel
theorem dX10_letter_61 : decode cX10_letter 61 = .ok (.dup, 1) := by decide +kernel
theorem dX10_letter_62 : decode cX10_letter 62 = .ok (.iload_n 1, 1) := by decide +kernel
theorem dX10_letter_63 : decode cX10_letter 63 = .ok (.iload_n 2, 1) := by decide +kernel
theorem dX10_letter_64 : decode cX10_letter 64 = .ok (.iload_n 3, 1) := by decide +kernel
theorem dX10_letter_65 : decode cX10_letter 65 = .ok (.iload 4, 2) := by decide +kernel
theorem dX10_letter_67 : decode cX10_letter 67 = .ok (.invokespecial 246, 3) := by decide +kernel
theorem dX10_letter_70 : decode cX10_letter 70 = .ok (.aastore, 1) := by decide +kernel
theorem dX10_letter_71 : decode cX10_letter 71 = .ok (.aload_n 0, 1) := by decide +kernel
theorem dX10_letter_72 : decode cX10_letter 72 = .ok (.dup, 1) := by decide +kernel
theorem dX10_letter_73 : decode cX10_letter 73 = .ok (.getfield 57, 3) := by decide +kernel
theorem dX10_letter_76 : decode cX10_letter 76 = .ok (.iconst 1, 1) := by decide +kernel
theorem dX10_letter_77 : decode cX10_letter 77 = .ok (.iadd, 1) := by decide +kernel
theorem dX10_letter_78 : decode cX10_letter 78 = .ok (.putfield 57, 3) := by decide +kernel
theorem dX10_letter_81 : decode cX10_letter 81 = .ok (.aload_n 0, 1) := by decide +kernel
theorem dX10_letter_82 : decode cX10_letter 82 = .ok (.getfield 57, 3) := by decide +kernel
theorem dX10_letter_85 : decode cX10_letter 85 = .ok (.iconst 1, 1) := by decide +kernel
theorem dX10_letter_86 : decode cX10_letter 86 = .ok (.isub, 1) := by decide +kernel
theorem dX10_letter_87 : decode cX10_letter 87 = .ok (.ireturn, 1) := by decide +kernel
theorem dX10_judge_0 : decode cX10_judge 0 = .ok (.aload_n 0, 1) := by decide +kernel
theorem dX10_judge_1 : decode cX10_judge 1 = .ok (.iload_n 1, 1) := by decide +kernel
theorem dX10_judge_2 : decode cX10_judge 2 = .ok (.invokevirtual 249, 3) := by decide +kernel
theorem dX10_judge_5 : decode cX10_judge 5 = .ok (.astore_n 2, 1) := by decide +kernel
theorem dX10_judge_6 : decode cX10_judge 6 = .ok (.aload_n 2, 1) := by decide +kernel
theorem dX10_judge_7 : decode cX10_judge 7 = .ok (.ifnonnull 6, 3) := by decide +kernel
theorem dX10_judge_10 : decode cX10_judge 10 = .ok (.bipush (-2), 2) := by decide +kernel
theorem dX10_judge_12 : decode cX10_judge 12 = .ok (.ireturn, 1) := by decide +kernel
theorem dX10_judge_13 : decode cX10_judge 13 = .ok (.aload_n 2, 1) := by decide +kernel
theorem dX10_judge_14 : decode cX10_judge 14 = .ok (.getfield 253, 3) := by decide +kernel
theorem dX10_judge_17 : decode cX10_judge 17 = .ok (.ifCond .eq 6, 3) := by decide +kernel
theorem dX10_judge_20 : decode cX10_judge 20 = .ok (.bipush (-4), 2) := by decide +kernel
theorem dX10_judge_22 : decode cX10_judge 22 = .ok (.ireturn, 1) := by decide +kernel
theorem dX10_judge_23 : decode cX10_judge 23 = .ok (.aload_n 0, 1) := by decide +kernel
theorem dX10_judge_24 : decode cX10_judge 24 = .ok (.aload_n 2, 1) := by decide +kernel
theorem dX10_judge_25 : decode cX10_judge 25 = .ok (.invokevirtual 256, 3) := by decide +kernel
theorem dX10_judge_28 : decode cX10_judge 28 = .ok (.ifCond .eq 10, 3) := by decide +kernel
theorem dX10_judge_31 : decode cX10_judge 31 = .ok (.aload_n 2, 1) := by decide +kernel
theorem dX10_judge_32 : decode cX10_judge 32 = .ok (.iconst 3, 1) := by decide +kernel
theorem dX10_judge_33 : decode cX10_judge 33 = .ok (.putfield 253, 3) := by decide +kernel
theorem dX10_judge_36 : decode cX10_judge 36 = .ok (.iconst 3, 1) := by decide +kernel
theorem dX10_judge_37 : decode cX10_judge 37 = .ok (.ireturn, 1) := by decide +kernel
theorem dX10_judge_38 : decode cX10_judge 38 = .ok (.aload_n 0, 1) := by decide +kernel
theorem dX10_judge_39 : decode cX10_judge 39 = .ok (.aload_n 2, 1) := by decide +kernel
theorem dX10_judge_40 : decode cX10_judge 40 = .ok (.getfield 260, 3) := by decide +kernel
theorem dX10_judge_43 : decode cX10_judge 43 = .ok (.aload_n 2, 1) := by decide +kernel
theorem dX10_judge_44 : decode cX10_judge 44 = .ok (.getfield 263, 3) := by decide +kernel
theorem dX10_judge_47 : decode cX10_judge 47 = .ok (.aload_n 2, 1) := by decide +kernel
theorem dX10_judge_48 : decode cX10_judge 48 = .ok (.getfield 266, 3) := by decide +kernel
theorem dX10_judge_51 : decode cX10_judge 51 = .ok (.invokevirtual 235, 3) := by decide +kernel
theorem dX10_judge_54 : decode cX10_judge 54 = .ok (.ifCond .eq 14, 3) := by decide +kernel
theorem dX10_judge_57 : decode cX10_judge 57 = .ok (.aload_n 0, 1) := by decide +kernel
theorem dX10_judge_58 : decode cX10_judge 58 = .ok (.aload_n 2, 1) := by decide +kernel
theorem dX10_judge_59 : decode cX10_judge 59 = .ok (.getfield 260, 3) := by decide +kernel
theorem dX10_judge_62 : decode cX10_judge 62 = .ok (.invokevirtual 239, 3) := by decide +kernel
theorem dX10_judge_65 : decode cX10_judge 65 = .ok (.goto 4, 3) := by decide +kernel
theorem dX10_judge_68 : decode cX10_judge 68 = .ok (.iconst 0, 1) := by decide +kernel
theorem dX10_judge_69 : decode cX10_judge 69 = .ok (.istore_n 3, 1) := by decide +kernel
theorem dX10_judge_70 : decode cX10_judge 70 = .ok (.iload_n 3, 1) := by decide +kernel
theorem dX10_judge_71 : decode cX10_judge 71 = .ok (.ifCond .le 12, 3) := by decide +kernel
theorem dX10_judge_74 : decode cX10_judge 74 = .ok (.aload_n 0, 1) := by decide +kernel
theorem dX10_judge_75 : decode cX10_judge 75 = .ok (.aload_n 2, 1) := by decide +kernel
theorem dX10_judge_76 : decode cX10_judge 76 = .ok (.iload_n 3, 1) := by decide +kernel
theorem dX10_judge_77 : decode cX10_judge 77 = .ok (.invokevirtual 269, 3) := by decide +kernel
theorem dX10_judge_80 : decode cX10_judge 80 = .ok (.goto 8, 3) := by decide +kernel
theorem dX10_judge_83 : decode cX10_judge 83 = .ok (.aload_n 0, 1) := by decide +kernel
theorem dX10_judge_84 : decode cX10_judge 84 = .ok (.aload_n 2, 1) := by decide +kernel
theorem dX10_judge_85 : decode cX10_judge 85 = .ok (.invokevirtual 273, 3) := by decide +kernel
theorem dX10_judge_88 : decode cX10_judge 88 = .ok (.aload_n 2, 1) := by decide +kernel
theorem dX10_judge_89 : decode cX10_judge 89 = .ok (.getfield 253, 3) := by decide +kernel
theorem dX10_judge_92 : decode cX10_judge 92 = .ok (.ireturn, 1) := by decide +kernel
theorem dX10_lettered_0 : decode cX10_lettered 0 = .ok (.aload_n 0, 1) := by decide +kernel
theorem dX10_lettered_1 : decode cX10_lettered 1 = .ok (.iload_n 1, 1) := by decide +kernel
theorem dX10_lettered_2 : decode cX10_lettered 2 = .ok (.invokevirtual 249, 3) := by decide +kernel
theorem dX10_lettered_5 : decode cX10_lettered 5 = .ok (.astore_n 3, 1) := by decide +kernel
theorem dX10_lettered_6 : decode cX10_lettered 6 = .ok (.aload_n 3, 1) := by decide +kernel
theorem dX10_lettered_7 : decode cX10_lettered 7 = .ok (.ifnonnull 6, 3) := by decide +kernel
theorem dX10_lettered_10 : decode cX10_lettered 10 = .ok (.bipush (-9), 2) := by decide +kernel
theorem dX10_lettered_12 : decode cX10_lettered 12 = .ok (.ireturn, 1) := by decide +kernel
theorem dX10_lettered_13 : decode cX10_lettered 13 = .ok (.iload_n 2, 1) := by decide +kernel
theorem dX10_lettered_14 : decode cX10_lettered 14 = .ok (.tableswitch 77 0 6 #[42, 47, 52, 57, 62, 67, 72], 42) := by decide +kernel
theorem dX10_lettered_56 : decode cX10_lettered 56 = .ok (.aload_n 3, 1) := by decide +kernel
theorem dX10_lettered_57 : decode cX10_lettered 57 = .ok (.getfield 277, 3) := by decide +kernel
theorem dX10_lettered_60 : decode cX10_lettered 60 = .ok (.ireturn, 1) := by decide +kernel
theorem dX10_lettered_61 : decode cX10_lettered 61 = .ok (.aload_n 3, 1) := by decide +kernel
theorem dX10_lettered_62 : decode cX10_lettered 62 = .ok (.getfield 260, 3) := by decide +kernel
theorem dX10_lettered_65 : decode cX10_lettered 65 = .ok (.ireturn, 1) := by decide +kernel
theorem dX10_lettered_66 : decode cX10_lettered 66 = .ok (.aload_n 3, 1) := by decide +kernel
theorem dX10_lettered_67 : decode cX10_lettered 67 = .ok (.getfield 263, 3) := by decide +kernel
theorem dX10_lettered_70 : decode cX10_lettered 70 = .ok (.ireturn, 1) := by decide +kernel
theorem dX10_lettered_71 : decode cX10_lettered 71 = .ok (.aload_n 3, 1) := by decide +kernel
theorem dX10_lettered_72 : decode cX10_lettered 72 = .ok (.getfield 266, 3) := by decide +kernel
theorem dX10_lettered_75 : decode cX10_lettered 75 = .ok (.ireturn, 1) := by decide +kernel
theorem dX10_lettered_76 : decode cX10_lettered 76 = .ok (.aload_n 3, 1) := by decide +kernel
theorem dX10_lettered_77 : decode cX10_lettered 77 = .ok (.getfield 253, 3) := by decide +kernel
theorem dX10_lettered_80 : decode cX10_lettered 80 = .ok (.ireturn, 1) := by decide +kernel
theorem dX10_lettered_81 : decode cX10_lettered 81 = .ok (.aload_n 3, 1) := by decide +kernel
theorem dX10_lettered_82 : decode cX10_lettered 82 = .ok (.getfield 280, 3) := by decide +kernel
theorem dX10_lettered_85 : decode cX10_lettered 85 = .ok (.ireturn, 1) := by decide +kernel
theorem dX10_lettered_86 : decode cX10_lettered 86 = .ok (.aload_n 3, 1) := by decide +kernel
theorem dX10_lettered_87 : decode cX10_lettered 87 = .ok (.getfield 281, 3) := by decide +kernel
theorem dX10_lettered_90 : decode cX10_lettered 90 = .ok (.ireturn, 1) := by decide +kernel
theorem dX10_lettered_91 : decode cX10_lettered 91 = .ok (.bipush (-9), 2) := by decide +kernel
theorem dX10_lettered_93 : decode cX10_lettered 93 = .ok (.ireturn, 1) := by decide +kernel
theorem dX10_person_0 : decode cX10_person 0 = .ok (.iload_n 1, 1) := by decide +kernel
theorem dX10_person_1 : decode cX10_person 1 = .ok (.invokestatic 106, 3) := by decide +kernel
theorem dX10_person_4 : decode cX10_person 4 = .ok (.ifCond .ne 6, 3) := by decide +kernel
theorem dX10_person_7 : decode cX10_person 7 = .ok (.bipush (-2), 2) := by decide +kernel
theorem dX10_person_9 : decode cX10_person 9 = .ok (.ireturn, 1) := by decide +kernel
theorem dX10_person_10 : decode cX10_person 10 = .ok (.iload_n 2, 1) := by decide +kernel
theorem dX10_person_11 : decode cX10_person 11 = .ok (.tableswitch 46 0 2 #[25, 32, 39], 25) := by decide +kernel
theorem dX10_person_36 : decode cX10_person 36 = .ok (.aload_n 0, 1) := by decide +kernel
theorem dX10_person_37 : decode cX10_person 37 = .ok (.getfield 60, 3) := by decide +kernel
theorem dX10_person_40 : decode cX10_person 40 = .ok (.iload_n 1, 1) := by decide +kernel
theorem dX10_person_41 : decode cX10_person 41 = .ok (.iaload, 1) := by decide +kernel
theorem dX10_person_42 : decode cX10_person 42 = .ok (.ireturn, 1) := by decide +kernel
theorem dX10_person_43 : decode cX10_person 43 = .ok (.aload_n 0, 1) := by decide +kernel
theorem dX10_person_44 : decode cX10_person 44 = .ok (.getfield 64, 3) := by decide +kernel
theorem dX10_person_47 : decode cX10_person 47 = .ok (.iload_n 1, 1) := by decide +kernel
theorem dX10_person_48 : decode cX10_person 48 = .ok (.iaload, 1) := by decide +kernel
theorem dX10_person_49 : decode cX10_person 49 = .ok (.ireturn, 1) := by decide +kernel
theorem dX10_person_50 : decode cX10_person 50 = .ok (.aload_n 0, 1) := by decide +kernel
theorem dX10_person_51 : decode cX10_person 51 = .ok (.getfield 67, 3) := by decide +kernel
theorem dX10_person_54 : decode cX10_person 54 = .ok (.iload_n 1, 1) := by decide +kernel
theorem dX10_person_55 : decode cX10_person 55 = .ok (.iaload, 1) := by decide +kernel
theorem dX10_person_56 : decode cX10_person 56 = .ok (.ireturn, 1) := by decide +kernel
theorem dX10_person_57 : decode cX10_person 57 = .ok (.bipush (-2), 2) := by decide +kernel
theorem dX10_person_59 : decode cX10_person 59 = .ok (.ireturn, 1) := by decide +kernel
theorem dX10_price_0 : decode cX10_price 0 = .ok (.iload_n 1, 1) := by decide +kernel
theorem dX10_price_1 : decode cX10_price 1 = .ok (.ifCond .lt 20, 3) := by decide +kernel
theorem dX10_price_4 : decode cX10_price 4 = .ok (.iload_n 1, 1) := by decide +kernel
theorem dX10_price_5 : decode cX10_price 5 = .ok (.bipush 7, 2) := by decide +kernel
theorem dX10_price_7 : decode cX10_price 7 = .ok (.if_icmp .ge 14, 3) := by decide +kernel
theorem dX10_price_10 : decode cX10_price 10 = .ok (.iload_n 2, 1) := by decide +kernel
theorem dX10_price_11 : decode cX10_price 11 = .ok (.ifCond .lt 10, 3) := by decide +kernel
theorem dX10_price_14 : decode cX10_price 14 = .ok (.iload_n 2, 1) := by decide +kernel
theorem dX10_price_15 : decode cX10_price 15 = .ok (.sipush 999, 3) := by decide +kernel
theorem dX10_price_18 : decode cX10_price 18 = .ok (.if_icmp .le 6, 3) := by decide +kernel
theorem dX10_price_21 : decode cX10_price 21 = .ok (.bipush (-2), 2) := by decide +kernel
theorem dX10_price_23 : decode cX10_price 23 = .ok (.ireturn, 1) := by decide +kernel
theorem dX10_price_24 : decode cX10_price 24 = .ok (.aload_n 0, 1) := by decide +kernel
theorem dX10_price_25 : decode cX10_price 25 = .ok (.getfield 73, 3) := by decide +kernel
theorem dX10_price_28 : decode cX10_price 28 = .ok (.iload_n 1, 1) := by decide +kernel
theorem dX10_price_29 : decode cX10_price 29 = .ok (.iaload, 1) := by decide +kernel
theorem dX10_price_30 : decode cX10_price 30 = .ok (.istore_n 3, 1) := by decide +kernel
theorem dX10_price_31 : decode cX10_price 31 = .ok (.aload_n 0, 1) := by decide +kernel
theorem dX10_price_32 : decode cX10_price 32 = .ok (.getfield 73, 3) := by decide +kernel
theorem dX10_price_35 : decode cX10_price 35 = .ok (.iload_n 1, 1) := by decide +kernel
theorem dX10_price_36 : decode cX10_price 36 = .ok (.iload_n 2, 1) := by decide +kernel
theorem dX10_price_37 : decode cX10_price 37 = .ok (.iastore, 1) := by decide +kernel
theorem dX10_price_38 : decode cX10_price 38 = .ok (.iload_n 3, 1) := by decide +kernel
theorem dX10_price_39 : decode cX10_price 39 = .ok (.ireturn, 1) := by decide +kernel
theorem dX10_alter_0 : decode cX10_alter 0 = .ok (.aload_n 0, 1) := by decide +kernel
theorem dX10_alter_1 : decode cX10_alter 1 = .ok (.iload_n 1, 1) := by decide +kernel
theorem dX10_alter_2 : decode cX10_alter 2 = .ok (.iload_n 2, 1) := by decide +kernel
theorem dX10_alter_3 : decode cX10_alter 3 = .ok (.iload_n 3, 1) := by decide +kernel
theorem dX10_alter_4 : decode cX10_alter 4 = .ok (.invokevirtual 235, 3) := by decide +kernel
theorem dX10_alter_7 : decode cX10_alter 7 = .ok (.ifCond .ne 6, 3) := by decide +kernel
theorem dX10_alter_10 : decode cX10_alter 10 = .ok (.bipush (-2), 2) := by decide +kernel
theorem dX10_alter_12 : decode cX10_alter 12 = .ok (.ireturn, 1) := by decide +kernel
theorem dX10_alter_13 : decode cX10_alter 13 = .ok (.aload_n 0, 1) := by decide +kernel
theorem dX10_alter_14 : decode cX10_alter 14 = .ok (.invokevirtual 284, 3) := by decide +kernel
theorem dX10_alter_17 : decode cX10_alter 17 = .ok (.ireturn, 1) := by decide +kernel
theorem dX10_best_0 : decode cX10_best 0 = .ok (.aload_n 0, 1) := by decide +kernel
theorem dX10_best_1 : decode cX10_best 1 = .ok (.iload_n 1, 1) := by decide +kernel
theorem dX10_best_2 : decode cX10_best 2 = .ok (.iload_n 2, 1) := by decide +kernel
theorem dX10_best_3 : decode cX10_best 3 = .ok (.iload_n 3, 1) := by decide +kernel
theorem dX10_best_4 : decode cX10_best 4 = .ok (.invokevirtual 235, 3) := by decide +kernel
theorem dX10_best_7 : decode cX10_best 7 = .ok (.ifCond .ne 6, 3) := by decide +kernel
theorem dX10_best_10 : decode cX10_best 10 = .ok (.bipush (-2), 2) := by decide +kernel
theorem dX10_best_12 : decode cX10_best 12 = .ok (.ireturn, 1) := by decide +kernel
theorem dX10_best_13 : decode cX10_best 13 = .ok (.aload_n 0, 1) := by decide +kernel
theorem dX10_best_14 : decode cX10_best 14 = .ok (.iload_n 1, 1) := by decide +kernel
theorem dX10_best_15 : decode cX10_best 15 = .ok (.invokevirtual 239, 3) := by decide +kernel
theorem dX10_best_18 : decode cX10_best 18 = .ok (.istore 4, 2) := by decide +kernel
theorem dX10_best_20 : decode cX10_best 20 = .ok (.iload 4, 2) := by decide +kernel
theorem dX10_best_22 : decode cX10_best 22 = .ok (.ifCond .ne 5, 3) := by decide +kernel
theorem dX10_best_25 : decode cX10_best 25 = .ok (.iconst 0, 1) := by decide +kernel
theorem dX10_best_26 : decode cX10_best 26 = .ok (.ireturn, 1) := by decide +kernel
theorem dX10_best_27 : decode cX10_best 27 = .ok (.aload_n 0, 1) := by decide +kernel
theorem dX10_best_28 : decode cX10_best 28 = .ok (.invokevirtual 284, 3) := by decide +kernel
theorem dX10_best_31 : decode cX10_best 31 = .ok (.istore 5, 2) := by decide +kernel
theorem dX10_best_33 : decode cX10_best 33 = .ok (.iload 5, 2) := by decide +kernel
theorem dX10_best_35 : decode cX10_best 35 = .ok (.iconst (-1), 1) := by decide +kernel
theorem dX10_best_36 : decode cX10_best 36 = .ok (.if_icmp .eq 14, 3) := by decide +kernel
theorem dX10_best_39 : decode cX10_best 39 = .ok (.iload 5, 2) := by decide +kernel
theorem dX10_best_41 : decode cX10_best 41 = .ok (.iload 4, 2) := by decide +kernel
theorem dX10_best_43 : decode cX10_best 43 = .ok (.if_icmp .gt 7, 3) := by decide +kernel
theorem dX10_best_46 : decode cX10_best 46 = .ok (.iconst 1, 1) := by decide +kernel
theorem dX10_best_47 : decode cX10_best 47 = .ok (.goto 4, 3) := by decide +kernel
theorem dX10_best_50 : decode cX10_best 50 = .ok (.iconst 2, 1) := by decide +kernel
theorem dX10_best_51 : decode cX10_best 51 = .ok (.ireturn, 1) := by decide +kernel
theorem dX10_worn_0 : decode cX10_worn 0 = .ok (.aload_n 0, 1) := by decide +kernel
theorem dX10_worn_1 : decode cX10_worn 1 = .ok (.iload_n 1, 1) := by decide +kernel
theorem dX10_worn_2 : decode cX10_worn 2 = .ok (.invokevirtual 148, 3) := by decide +kernel
theorem dX10_worn_5 : decode cX10_worn 5 = .ok (.astore 6, 2) := by decide +kernel
theorem dX10_worn_7 : decode cX10_worn 7 = .ok (.aload 6, 2) := by decide +kernel
theorem dX10_worn_9 : decode cX10_worn 9 = .ok (.ifnull 40, 3) := by decide +kernel
theorem dX10_worn_12 : decode cX10_worn 12 = .ok (.iload_n 2, 1) := by decide +kernel
theorem dX10_worn_13 : decode cX10_worn 13 = .ok (.invokestatic 113, 3) := by decide +kernel
theorem dX10_worn_16 : decode cX10_worn 16 = .ok (.ifCond .eq 33, 3) := by decide +kernel
theorem dX10_worn_19 : decode cX10_worn 19 = .ok (.iload_n 3, 1) := by decide +kernel
theorem dX10_worn_20 : decode cX10_worn 20 = .ok (.iload 4, 2) := by decide +kernel
theorem dX10_worn_22 : decode cX10_worn 22 = .ok (.invokestatic 124, 3) := by decide +kernel
theorem dX10_worn_25 : decode cX10_worn 25 = .ok (.ifCond .eq 24, 3) := by decide +kernel
theorem dX10_worn_28 : decode cX10_worn 28 = .ok (.iload 4, 2) := by decide +kernel
theorem dX10_worn_30 : decode cX10_worn 30 = .ok (.iload_n 3, 1) := by decide +kernel
theorem dX10_worn_31 : decode cX10_worn 31 = .ok (.isub, 1) := by decide +kernel
theorem dX10_worn_32 : decode cX10_worn 32 = .ok (.sipush 500, 3) := by decide +kernel
theorem dX10_worn_35 : decode cX10_worn 35 = .ok (.if_icmp .ge 14, 3) := by decide +kernel
theorem dX10_worn_38 : decode cX10_worn 38 = .ok (.iload 5, 2) := by decide +kernel
theorem dX10_worn_40 : decode cX10_worn 40 = .ok (.ifCond .lt 9, 3) := by decide +kernel
theorem dX10_worn_43 : decode cX10_worn 43 = .ok (.iload 5, 2) := by decide +kernel
theorem dX10_worn_45 : decode cX10_worn 45 = .ok (.iconst 2, 1) := by decide +kernel
theorem dX10_worn_46 : decode cX10_worn 46 = .ok (.if_icmp .le 6, 3) := by decide +kernel
theorem dX10_worn_49 : decode cX10_worn 49 = .ok (.bipush (-2), 2) := by decide +kernel
theorem dX10_worn_51 : decode cX10_worn 51 = .ok (.ireturn, 1) := by decide +kernel
theorem dX10_worn_52 : decode cX10_worn 52 = .ok (.iconst 0, 1) := by decide +kernel
theorem dX10_worn_53 : decode cX10_worn 53 = .ok (.istore 7, 2) := by decide +kernel
theorem dX10_worn_55 : decode cX10_worn 55 = .ok (.iconst (-1), 1) := by decide +kernel
theorem dX10_worn_56 : decode cX10_worn 56 = .ok (.istore 8, 2) := by decide +kernel
theorem dX10_worn_58 : decode cX10_worn 58 = .ok (.iconst (-1), 1) := by decide +kernel
theorem dX10_worn_59 : decode cX10_worn 59 = .ok (.istore 9, 2) := by decide +kernel
theorem dX10_worn_61 : decode cX10_worn 61 = .ok (.iload_n 3, 1) := by decide +kernel
theorem dX10_worn_62 : decode cX10_worn 62 = .ok (.istore 10, 2) := by decide +kernel
theorem dX10_worn_64 : decode cX10_worn 64 = .ok (.iload 10, 2) := by decide +kernel
theorem dX10_worn_66 : decode cX10_worn 66 = .ok (.iload 4, 2) := by decide +kernel
theorem dX10_worn_68 : decode cX10_worn 68 = .ok (.if_icmp .gt 69, 3) := by decide +kernel
theorem dX10_worn_71 : decode cX10_worn 71 = .ok (.aload_n 0, 1) := by decide +kernel
theorem dX10_worn_72 : decode cX10_worn 72 = .ok (.getfield 79, 3) := by decide +kernel
theorem dX10_worn_75 : decode cX10_worn 75 = .ok (.iload_n 2, 1) := by decide +kernel
theorem dX10_worn_76 : decode cX10_worn 76 = .ok (.iconst 0, 1) := by decide +kernel
theorem dX10_worn_77 : decode cX10_worn 77 = .ok (.aload 6, 2) := by decide +kernel
theorem dX10_worn_79 : decode cX10_worn 79 = .ok (.iload 10, 2) := by decide +kernel
theorem dX10_worn_81 : decode cX10_worn 81 = .ok (.aload_n 0, 1) := by decide +kernel
theorem dX10_worn_82 : decode cX10_worn 82 = .ok (.aload 6, 2) := by decide +kernel
theorem dX10_worn_84 : decode cX10_worn 84 = .ok (.getfield 155, 3) := by decide +kernel
theorem dX10_worn_87 : decode cX10_worn 87 = .ok (.iload 10, 2) := by decide +kernel
theorem dX10_worn_89 : decode cX10_worn 89 = .ok (.invokevirtual 164, 3) := by decide +kernel
theorem dX10_worn_92 : decode cX10_worn 92 = .ok (.invokevirtual 287, 3) := by decide +kernel
theorem dX10_worn_95 : decode cX10_worn 95 = .ok (.aload_n 0, 1) := by decide +kernel
theorem dX10_worn_96 : decode cX10_worn 96 = .ok (.getfield 19, 3) := by decide +kernel
theorem dX10_worn_99 : decode cX10_worn 99 = .ok (.aload_n 0, 1) := by decide +kernel
theorem dX10_worn_100 : decode cX10_worn 100 = .ok (.getfield 79, 3) := by decide +kernel
theorem dX10_worn_103 : decode cX10_worn 103 = .ok (.invokevirtual 291, 3) := by decide +kernel
theorem dX10_worn_106 : decode cX10_worn 106 = .ok (.ifCond .ne 25, 3) := by decide +kernel
theorem dX10_worn_109 : decode cX10_worn 109 = .ok (.iinc 7 1, 3) := by decide +kernel
theorem dX10_worn_112 : decode cX10_worn 112 = .ok (.iload 8, 2) := by decide +kernel
theorem dX10_worn_114 : decode cX10_worn 114 = .ok (.iconst (-1), 1) := by decide +kernel
theorem dX10_worn_115 : decode cX10_worn 115 = .ok (.if_icmp .ne 8, 3) := by decide +kernel
theorem dX10_worn_118 : decode cX10_worn 118 = .ok (.iload 10, 2) := by decide +kernel
theorem dX10_worn_120 : decode cX10_worn 120 = .ok (.goto 5, 3) := by decide +kernel
theorem dX10_worn_123 : decode cX10_worn 123 = .ok (.iload 8, 2) := by decide +kernel
theorem dX10_worn_125 : decode cX10_worn 125 = .ok (.istore 8, 2) := by decide +kernel
theorem dX10_worn_127 : decode cX10_worn 127 = .ok (.iload 10, 2) := by decide +kernel
theorem dX10_worn_129 : decode cX10_worn 129 = .ok (.istore 9, 2) := by decide +kernel
theorem dX10_worn_131 : decode cX10_worn 131 = .ok (.iinc 10 1, 3) := by decide +kernel
theorem dX10_worn_134 : decode cX10_worn 134 = .ok (.goto (-70), 3) := by decide +kernel
theorem dX10_worn_137 : decode cX10_worn 137 = .ok (.iload 5, 2) := by decide +kernel
theorem dX10_worn_139 : decode cX10_worn 139 = .ok (.ifCond .ne 6, 3) := by decide +kernel
theorem dX10_worn_142 : decode cX10_worn 142 = .ok (.iload 7, 2) := by decide +kernel
theorem dX10_worn_144 : decode cX10_worn 144 = .ok (.ireturn, 1) := by decide +kernel
theorem dX10_worn_145 : decode cX10_worn 145 = .ok (.iload 5, 2) := by decide +kernel
theorem dX10_worn_147 : decode cX10_worn 147 = .ok (.iconst 1, 1) := by decide +kernel
theorem dX10_worn_148 : decode cX10_worn 148 = .ok (.if_icmp .ne 8, 3) := by decide +kernel
theorem dX10_worn_151 : decode cX10_worn 151 = .ok (.iload 8, 2) := by decide +kernel
theorem dX10_worn_153 : decode cX10_worn 153 = .ok (.goto 5, 3) := by decide +kernel
theorem dX10_worn_156 : decode cX10_worn 156 = .ok (.iload 9, 2) := by decide +kernel
theorem dX10_worn_158 : decode cX10_worn 158 = .ok (.ireturn, 1) := by decide +kernel
theorem dX10_count_0 : decode cX10_count 0 = .ok (.iload_n 1, 1) := by decide +kernel
theorem dX10_count_1 : decode cX10_count 1 = .ok (.tableswitch 93 0 6 #[43, 51, 56, 61, 66, 74, 82], 43) := by decide +kernel
theorem dX10_count_44 : decode cX10_count 44 = .ok (.aload_n 0, 1) := by decide +kernel
theorem dX10_count_45 : decode cX10_count 45 = .ok (.getfield 19, 3) := by decide +kernel
theorem dX10_count_48 : decode cX10_count 48 = .ok (.invokevirtual 170, 3) := by decide +kernel
theorem dX10_count_51 : decode cX10_count 51 = .ok (.ireturn, 1) := by decide +kernel
theorem dX10_count_52 : decode cX10_count 52 = .ok (.aload_n 0, 1) := by decide +kernel
theorem dX10_count_53 : decode cX10_count 53 = .ok (.getfield 47, 3) := by decide +kernel
theorem dX10_count_56 : decode cX10_count 56 = .ok (.ireturn, 1) := by decide +kernel
theorem dX10_count_57 : decode cX10_count 57 = .ok (.aload_n 0, 1) := by decide +kernel
theorem dX10_count_58 : decode cX10_count 58 = .ok (.getfield 57, 3) := by decide +kernel
theorem dX10_count_61 : decode cX10_count 61 = .ok (.ireturn, 1) := by decide +kernel
theorem dX10_count_62 : decode cX10_count 62 = .ok (.aload_n 0, 1) := by decide +kernel
theorem dX10_count_63 : decode cX10_count 63 = .ok (.getfield 70, 3) := by decide +kernel
theorem dX10_count_66 : decode cX10_count 66 = .ok (.ireturn, 1) := by decide +kernel
theorem dX10_count_67 : decode cX10_count 67 = .ok (.aload_n 0, 1) := by decide +kernel
theorem dX10_count_68 : decode cX10_count 68 = .ok (.getfield 38, 3) := by decide +kernel
theorem dX10_count_71 : decode cX10_count 71 = .ok (.invokevirtual 128, 3) := by decide +kernel
theorem dX10_count_74 : decode cX10_count 74 = .ok (.ireturn, 1) := by decide +kernel
theorem dX10_count_75 : decode cX10_count 75 = .ok (.aload_n 0, 1) := by decide +kernel
theorem dX10_count_76 : decode cX10_count 76 = .ok (.getfield 35, 3) := by decide +kernel
theorem dX10_count_79 : decode cX10_count 79 = .ok (.invokevirtual 128, 3) := by decide +kernel
theorem dX10_count_82 : decode cX10_count 82 = .ok (.ireturn, 1) := by decide +kernel
theorem dX10_count_83 : decode cX10_count 83 = .ok (.aload_n 0, 1) := by decide +kernel
theorem dX10_count_84 : decode cX10_count 84 = .ok (.getfield 10, 3) := by decide +kernel
theorem dX10_count_87 : decode cX10_count 87 = .ok (.getfield 90, 3) := by decide +kernel
theorem dX10_count_90 : decode cX10_count 90 = .ok (.invokevirtual 94, 3) := by decide +kernel
theorem dX10_count_93 : decode cX10_count 93 = .ok (.ireturn, 1) := by decide +kernel
theorem dX10_count_94 : decode cX10_count 94 = .ok (.iconst (-1), 1) := by decide +kernel
theorem dX10_count_95 : decode cX10_count 95 = .ok (.ireturn, 1) := by decide +kernel
theorem dX10_isPerson_0 : decode cX10_isPerson 0 = .ok (.iload_n 0, 1) := by decide +kernel
theorem dX10_isPerson_1 : decode cX10_isPerson 1 = .ok (.ifCond .lt 13, 3) := by decide +kernel
theorem dX10_isPerson_4 : decode cX10_isPerson 4 = .ok (.iload_n 0, 1) := by decide +kernel
theorem dX10_isPerson_5 : decode cX10_isPerson 5 = .ok (.bipush 30, 2) := by decide +kernel
theorem dX10_isPerson_7 : decode cX10_isPerson 7 = .ok (.if_icmp .ge 7, 3) := by decide +kernel
theorem dX10_isPerson_10 : decode cX10_isPerson 10 = .ok (.iconst 1, 1) := by decide +kernel
theorem dX10_isPerson_11 : decode cX10_isPerson 11 = .ok (.goto 4, 3) := by decide +kernel
theorem dX10_isPerson_14 : decode cX10_isPerson 14 = .ok (.iconst 0, 1) := by decide +kernel
theorem dX10_isPerson_15 : decode cX10_isPerson 15 = .ok (.ireturn, 1) := by decide +kernel
theorem dX10_isDay_0 : decode cX10_isDay 0 = .ok (.iload_n 0, 1) := by decide +kernel
theorem dX10_isDay_1 : decode cX10_isDay 1 = .ok (.ifCond .lt 14, 3) := by decide +kernel
theorem dX10_isDay_4 : decode cX10_isDay 4 = .ok (.iload_n 0, 1) := by decide +kernel
theorem dX10_isDay_5 : decode cX10_isDay 5 = .ok (.sipush 9999, 3) := by decide +kernel
theorem dX10_isDay_8 : decode cX10_isDay 8 = .ok (.if_icmp .gt 7, 3) := by decide +kernel
theorem dX10_isDay_11 : decode cX10_isDay 11 = .ok (.iconst 1, 1) := by decide +kernel
theorem dX10_isDay_12 : decode cX10_isDay 12 = .ok (.goto 4, 3) := by decide +kernel
theorem dX10_isDay_15 : decode cX10_isDay 15 = .ok (.iconst 0, 1) := by decide +kernel
theorem dX10_isDay_16 : decode cX10_isDay 16 = .ok (.ireturn, 1) := by decide +kernel
theorem dX10_isSpan_0 : decode cX10_isSpan 0 = .ok (.iload_n 0, 1) := by decide +kernel
theorem dX10_isSpan_1 : decode cX10_isSpan 1 = .ok (.invokestatic 110, 3) := by decide +kernel
theorem dX10_isSpan_4 : decode cX10_isSpan 4 = .ok (.ifCond .eq 19, 3) := by decide +kernel
theorem dX10_isSpan_7 : decode cX10_isSpan 7 = .ok (.iload_n 1, 1) := by decide +kernel
theorem dX10_isSpan_8 : decode cX10_isSpan 8 = .ok (.invokestatic 110, 3) := by decide +kernel
theorem dX10_isSpan_11 : decode cX10_isSpan 11 = .ok (.ifCond .eq 12, 3) := by decide +kernel
theorem dX10_isSpan_14 : decode cX10_isSpan 14 = .ok (.iload_n 0, 1) := by decide +kernel
theorem dX10_isSpan_15 : decode cX10_isSpan 15 = .ok (.iload_n 1, 1) := by decide +kernel
theorem dX10_isSpan_16 : decode cX10_isSpan 16 = .ok (.if_icmp .gt 7, 3) := by decide +kernel
theorem dX10_isSpan_19 : decode cX10_isSpan 19 = .ok (.iconst 1, 1) := by decide +kernel
theorem dX10_isSpan_20 : decode cX10_isSpan 20 = .ok (.goto 4, 3) := by decide +kernel
theorem dX10_isSpan_23 : decode cX10_isSpan 23 = .ok (.iconst 0, 1) := by decide +kernel
theorem dX10_isSpan_24 : decode cX10_isSpan 24 = .ok (.ireturn, 1) := by decide +kernel
theorem dX10_isRank_0 : decode cX10_isRank 0 = .ok (.iload_n 0, 1) := by decide +kernel
theorem dX10_isRank_1 : decode cX10_isRank 1 = .ok (.ifCond .lt 13, 3) := by decide +kernel
theorem dX10_isRank_4 : decode cX10_isRank 4 = .ok (.iload_n 0, 1) := by decide +kernel
theorem dX10_isRank_5 : decode cX10_isRank 5 = .ok (.bipush 9, 2) := by decide +kernel
theorem dX10_isRank_7 : decode cX10_isRank 7 = .ok (.if_icmp .gt 7, 3) := by decide +kernel
theorem dX10_isRank_10 : decode cX10_isRank 10 = .ok (.iconst 1, 1) := by decide +kernel
theorem dX10_isRank_11 : decode cX10_isRank 11 = .ok (.goto 4, 3) := by decide +kernel
theorem dX10_isRank_14 : decode cX10_isRank 14 = .ok (.iconst 0, 1) := by decide +kernel
theorem dX10_isRank_15 : decode cX10_isRank 15 = .ok (.ireturn, 1) := by decide +kernel
theorem dX10_isMeasure_0 : decode cX10_isMeasure 0 = .ok (.iload_n 0, 1) := by decide +kernel
theorem dX10_isMeasure_1 : decode cX10_isMeasure 1 = .ok (.ifCond .lt 14, 3) := by decide +kernel
theorem dX10_isMeasure_4 : decode cX10_isMeasure 4 = .ok (.iload_n 0, 1) := by decide +kernel
theorem dX10_isMeasure_5 : decode cX10_isMeasure 5 = .ok (.sipush 9999, 3) := by decide +kernel
theorem dX10_isMeasure_8 : decode cX10_isMeasure 8 = .ok (.if_icmp .gt 7, 3) := by decide +kernel
theorem dX10_isMeasure_11 : decode cX10_isMeasure 11 = .ok (.iconst 1, 1) := by decide +kernel
theorem dX10_isMeasure_12 : decode cX10_isMeasure 12 = .ok (.goto 4, 3) := by decide +kernel
theorem dX10_isMeasure_15 : decode cX10_isMeasure 15 = .ok (.iconst 0, 1) := by decide +kernel
theorem dX10_isMeasure_16 : decode cX10_isMeasure 16 = .ok (.ireturn, 1) := by decide +kernel
theorem dX10_isStuff_0 : decode cX10_isStuff 0 = .ok (.iload_n 0, 1) := by decide +kernel
theorem dX10_isStuff_1 : decode cX10_isStuff 1 = .ok (.ifCond .lt 13, 3) := by decide +kernel
theorem dX10_isStuff_4 : decode cX10_isStuff 4 = .ok (.iload_n 0, 1) := by decide +kernel
theorem dX10_isStuff_5 : decode cX10_isStuff 5 = .ok (.bipush 16, 2) := by decide +kernel
theorem dX10_isStuff_7 : decode cX10_isStuff 7 = .ok (.if_icmp .ge 7, 3) := by decide +kernel
theorem dX10_isStuff_10 : decode cX10_isStuff 10 = .ok (.iconst 1, 1) := by decide +kernel
theorem dX10_isStuff_11 : decode cX10_isStuff 11 = .ok (.goto 4, 3) := by decide +kernel
theorem dX10_isStuff_14 : decode cX10_isStuff 14 = .ok (.iconst 0, 1) := by decide +kernel
theorem dX10_isStuff_15 : decode cX10_isStuff 15 = .ok (.ireturn, 1) := by decide +kernel
theorem dX10_isColour_0 : decode cX10_isColour 0 = .ok (.iload_n 0, 1) := by decide +kernel
theorem dX10_isColour_1 : decode cX10_isColour 1 = .ok (.ifCond .lt 13, 3) := by decide +kernel
theorem dX10_isColour_4 : decode cX10_isColour 4 = .ok (.iload_n 0, 1) := by decide +kernel
theorem dX10_isColour_5 : decode cX10_isColour 5 = .ok (.bipush 8, 2) := by decide +kernel
theorem dX10_isColour_7 : decode cX10_isColour 7 = .ok (.if_icmp .ge 7, 3) := by decide +kernel
theorem dX10_isColour_10 : decode cX10_isColour 10 = .ok (.iconst 1, 1) := by decide +kernel
theorem dX10_isColour_11 : decode cX10_isColour 11 = .ok (.goto 4, 3) := by decide +kernel
theorem dX10_isColour_14 : decode cX10_isColour 14 = .ok (.iconst 0, 1) := by decide +kernel
theorem dX10_isColour_15 : decode cX10_isColour 15 = .ok (.ireturn, 1) := by decide +kernel
theorem dX10_findGown_0 : decode cX10_findGown 0 = .ok (.iload_n 1, 1) := by decide +kernel
theorem dX10_findGown_1 : decode cX10_findGown 1 = .ok (.ifCond .lt 29, 3) := by decide +kernel
theorem dX10_findGown_4 : decode cX10_findGown 4 = .ok (.iload_n 1, 1) := by decide +kernel
theorem dX10_findGown_5 : decode cX10_findGown 5 = .ok (.aload_n 0, 1) := by decide +kernel
theorem dX10_findGown_6 : decode cX10_findGown 6 = .ok (.getfield 47, 3) := by decide +kernel
theorem dX10_findGown_9 : decode cX10_findGown 9 = .ok (.if_icmp .ge 21, 3) := by decide +kernel
theorem dX10_findGown_12 : decode cX10_findGown 12 = .ok (.iload_n 1, 1) := by decide +kernel
theorem dX10_findGown_13 : decode cX10_findGown 13 = .ok (.aload_n 0, 1) := by decide +kernel
theorem dX10_findGown_14 : decode cX10_findGown 14 = .ok (.getfield 43, 3) := by decide +kernel
theorem dX10_findGown_17 : decode cX10_findGown 17 = .ok (.arraylength, 1) := by decide +kernel
theorem dX10_findGown_18 : decode cX10_findGown 18 = .ok (.if_icmp .ge 12, 3) := by decide +kernel
theorem dX10_findGown_21 : decode cX10_findGown 21 = .ok (.aload_n 0, 1) := by decide +kernel
theorem dX10_findGown_22 : decode cX10_findGown 22 = .ok (.getfield 43, 3) := by decide +kernel
theorem dX10_findGown_25 : decode cX10_findGown 25 = .ok (.iload_n 1, 1) := by decide +kernel
theorem dX10_findGown_26 : decode cX10_findGown 26 = .ok (.aaload, 1) := by decide +kernel
theorem dX10_findGown_27 : decode cX10_findGown 27 = .ok (.goto 4, 3) := by decide +kernel
theorem dX10_findGown_30 : decode cX10_findGown 30 = .ok (.aconst_null, 1) := by decide +kernel
theorem dX10_findGown_31 : decode cX10_findGown 31 = .ok (.areturn, 1) := by decide +kernel
theorem dX10_findLetter_0 : decode cX10_findLetter 0 = .ok (.iload_n 1, 1) := by decide +kernel
theorem dX10_findLetter_1 : decode cX10_findLetter 1 = .ok (.ifCond .lt 29, 3) := by decide +kernel
theorem dX10_findLetter_4 : decode cX10_findLetter 4 = .ok (.iload_n 1, 1) := by decide +kernel
theorem dX10_findLetter_5 : decode cX10_findLetter 5 = .ok (.aload_n 0, 1) := by decide +kernel
theorem dX10_findLetter_6 : decode cX10_findLetter 6 = .ok (.getfield 57, 3) := by decide +kernel
theorem dX10_findLetter_9 : decode cX10_findLetter 9 = .ok (.if_icmp .ge 21, 3) := by decide +kernel
theorem dX10_findLetter_12 : decode cX10_findLetter 12 = .ok (.iload_n 1, 1) := by decide +kernel
theorem dX10_findLetter_13 : decode cX10_findLetter 13 = .ok (.aload_n 0, 1) := by decide +kernel
theorem dX10_findLetter_14 : decode cX10_findLetter 14 = .ok (.getfield 53, 3) := by decide +kernel
theorem dX10_findLetter_17 : decode cX10_findLetter 17 = .ok (.arraylength, 1) := by decide +kernel
theorem dX10_findLetter_18 : decode cX10_findLetter 18 = .ok (.if_icmp .ge 12, 3) := by decide +kernel
theorem dX10_findLetter_21 : decode cX10_findLetter 21 = .ok (.aload_n 0, 1) := by decide +kernel
theorem dX10_findLetter_22 : decode cX10_findLetter 22 = .ok (.getfield 53, 3) := by decide +kernel
theorem dX10_findLetter_25 : decode cX10_findLetter 25 = .ok (.iload_n 1, 1) := by decide +kernel
theorem dX10_findLetter_26 : decode cX10_findLetter 26 = .ok (.aaload, 1) := by decide +kernel
theorem dX10_findLetter_27 : decode cX10_findLetter 27 = .ok (.goto 4, 3) := by decide +kernel
theorem dX10_findLetter_30 : decode cX10_findLetter 30 = .ok (.aconst_null, 1) := by decide +kernel
theorem dX10_findLetter_31 : decode cX10_findLetter 31 = .ok (.areturn, 1) := by decide +kernel
theorem dX10_rankOn_0 : decode cX10_rankOn 0 = .ok (.aload_n 0, 1) := by decide +kernel
theorem dX10_rankOn_1 : decode cX10_rankOn 1 = .ok (.getfield 28, 3) := by decide +kernel
theorem dX10_rankOn_4 : decode cX10_rankOn 4 = .ok (.iload_n 1, 1) := by decide +kernel
theorem dX10_rankOn_5 : decode cX10_rankOn 5 = .ok (.iload_n 2, 1) := by decide +kernel
theorem dX10_rankOn_6 : decode cX10_rankOn 6 = .ok (.iconst 5, 1) := by decide +kernel
theorem dX10_rankOn_7 : decode cX10_rankOn 7 = .ok (.invokevirtual 295, 3) := by decide +kernel
theorem dX10_rankOn_10 : decode cX10_rankOn 10 = .ok (.ireturn, 1) := by decide +kernel
theorem dX10_occasionOn_0 : decode cX10_occasionOn 0 = .ok (.aload_n 0, 1) := by decide +kernel
theorem dX10_occasionOn_1 : decode cX10_occasionOn 1 = .ok (.getfield 32, 3) := by decide +kernel
theorem dX10_occasionOn_4 : decode cX10_occasionOn 4 = .ok (.iload_n 1, 1) := by decide +kernel
theorem dX10_occasionOn_5 : decode cX10_occasionOn 5 = .ok (.iload_n 2, 1) := by decide +kernel
theorem dX10_occasionOn_6 : decode cX10_occasionOn 6 = .ok (.invokevirtual 299, 3) := by decide +kernel
theorem dX10_occasionOn_9 : decode cX10_occasionOn 9 = .ok (.ifCond .eq 5, 3) := by decide +kernel
theorem dX10_occasionOn_12 : decode cX10_occasionOn 12 = .ok (.iconst 2, 1) := by decide +kernel
theorem dX10_occasionOn_13 : decode cX10_occasionOn 13 = .ok (.ireturn, 1) := by decide +kernel
theorem dX10_occasionOn_14 : decode cX10_occasionOn 14 = .ok (.aload_n 0, 1) := by decide +kernel
theorem dX10_occasionOn_15 : decode cX10_occasionOn 15 = .ok (.getfield 35, 3) := by decide +kernel
theorem dX10_occasionOn_18 : decode cX10_occasionOn 18 = .ok (.iconst 0, 1) := by decide +kernel
theorem dX10_occasionOn_19 : decode cX10_occasionOn 19 = .ok (.iload_n 2, 1) := by decide +kernel
theorem dX10_occasionOn_20 : decode cX10_occasionOn 20 = .ok (.invokevirtual 299, 3) := by decide +kernel
theorem dX10_occasionOn_23 : decode cX10_occasionOn 23 = .ok (.ifCond .eq 7, 3) := by decide +kernel
theorem dX10_occasionOn_26 : decode cX10_occasionOn 26 = .ok (.iconst 1, 1) := by decide +kernel
theorem dX10_occasionOn_27 : decode cX10_occasionOn 27 = .ok (.goto 4, 3) := by decide +kernel
theorem dX10_occasionOn_30 : decode cX10_occasionOn 30 = .ok (.iconst 0, 1) := by decide +kernel
theorem dX10_occasionOn_31 : decode cX10_occasionOn 31 = .ok (.ireturn, 1) := by decide +kernel
theorem dX10_countsAs_0 : decode cX10_countsAs 0 = .ok (.iload_n 1, 1) := by decide +kernel
theorem dX10_countsAs_1 : decode cX10_countsAs 1 = .ok (.istore_n 3, 1) := by decide +kernel
theorem dX10_countsAs_2 : decode cX10_countsAs 2 = .ok (.iconst 0, 1) := by decide +kernel
theorem dX10_countsAs_3 : decode cX10_countsAs 3 = .ok (.istore 4, 2) := by decide +kernel
theorem dX10_countsAs_5 : decode cX10_countsAs 5 = .ok (.iload 4, 2) := by decide +kernel
theorem dX10_countsAs_7 : decode cX10_countsAs 7 = .ok (.bipush 16, 2) := by decide +kernel
theorem dX10_countsAs_9 : decode cX10_countsAs 9 = .ok (.if_icmp .ge 32, 3) := by decide +kernel
theorem dX10_countsAs_12 : decode cX10_countsAs 12 = .ok (.aload_n 0, 1) := by decide +kernel
theorem dX10_countsAs_13 : decode cX10_countsAs 13 = .ok (.getfield 38, 3) := by decide +kernel
theorem dX10_countsAs_16 : decode cX10_countsAs 16 = .ok (.iload_n 3, 1) := by decide +kernel
theorem dX10_countsAs_17 : decode cX10_countsAs 17 = .ok (.iload_n 2, 1) := by decide +kernel
theorem dX10_countsAs_18 : decode cX10_countsAs 18 = .ok (.iload_n 3, 1) := by decide +kernel
theorem dX10_countsAs_19 : decode cX10_countsAs 19 = .ok (.invokevirtual 295, 3) := by decide +kernel
theorem dX10_countsAs_22 : decode cX10_countsAs 22 = .ok (.istore 5, 2) := by decide +kernel
theorem dX10_countsAs_24 : decode cX10_countsAs 24 = .ok (.iload 5, 2) := by decide +kernel
theorem dX10_countsAs_26 : decode cX10_countsAs 26 = .ok (.iload_n 3, 1) := by decide +kernel
theorem dX10_countsAs_27 : decode cX10_countsAs 27 = .ok (.if_icmp .ne 5, 3) := by decide +kernel
theorem dX10_countsAs_30 : decode cX10_countsAs 30 = .ok (.iload_n 3, 1) := by decide +kernel
theorem dX10_countsAs_31 : decode cX10_countsAs 31 = .ok (.ireturn, 1) := by decide +kernel
theorem dX10_countsAs_32 : decode cX10_countsAs 32 = .ok (.iload 5, 2) := by decide +kernel
theorem dX10_countsAs_34 : decode cX10_countsAs 34 = .ok (.istore_n 3, 1) := by decide +kernel
theorem dX10_countsAs_35 : decode cX10_countsAs 35 = .ok (.iinc 4 1, 3) := by decide +kernel
theorem dX10_countsAs_38 : decode cX10_countsAs 38 = .ok (.goto (-33), 3) := by decide +kernel
theorem dX10_countsAs_41 : decode cX10_countsAs 41 = .ok (.iload_n 3, 1) := by decide +kernel
theorem dX10_countsAs_42 : decode cX10_countsAs 42 = .ok (.ireturn, 1) := by decide +kernel
theorem dX10_putOn_0 : decode cX10_putOn 0 = .ok (.aload_n 0, 1) := by decide +kernel
theorem dX10_putOn_1 : decode cX10_putOn 1 = .ok (.iload_n 2, 1) := by decide +kernel
theorem dX10_putOn_2 : decode cX10_putOn 2 = .ok (.invokevirtual 148, 3) := by decide +kernel
theorem dX10_putOn_5 : decode cX10_putOn 5 = .ok (.astore 4, 2) := by decide +kernel
theorem dX10_putOn_7 : decode cX10_putOn 7 = .ok (.iload_n 1, 1) := by decide +kernel
theorem dX10_putOn_8 : decode cX10_putOn 8 = .ok (.invokestatic 106, 3) := by decide +kernel
theorem dX10_putOn_11 : decode cX10_putOn 11 = .ok (.ifCond .eq 15, 3) := by decide +kernel
theorem dX10_putOn_14 : decode cX10_putOn 14 = .ok (.aload 4, 2) := by decide +kernel
theorem dX10_putOn_16 : decode cX10_putOn 16 = .ok (.ifnull 10, 3) := by decide +kernel
theorem dX10_putOn_19 : decode cX10_putOn 19 = .ok (.iload_n 3, 1) := by decide +kernel
theorem dX10_putOn_20 : decode cX10_putOn 20 = .ok (.invokestatic 110, 3) := by decide +kernel
theorem dX10_putOn_23 : decode cX10_putOn 23 = .ok (.ifCond .ne 5, 3) := by decide +kernel
theorem dX10_putOn_26 : decode cX10_putOn 26 = .ok (.iconst 0, 1) := by decide +kernel
theorem dX10_putOn_27 : decode cX10_putOn 27 = .ok (.ireturn, 1) := by decide +kernel
theorem dX10_putOn_28 : decode cX10_putOn 28 = .ok (.aload_n 0, 1) := by decide +kernel
theorem dX10_putOn_29 : decode cX10_putOn 29 = .ok (.getfield 79, 3) := by decide +kernel
theorem dX10_putOn_32 : decode cX10_putOn 32 = .ok (.aload_n 0, 1) := by decide +kernel
theorem dX10_putOn_33 : decode cX10_putOn 33 = .ok (.iload_n 1, 1) := by decide +kernel
theorem dX10_putOn_34 : decode cX10_putOn 34 = .ok (.iload_n 3, 1) := by decide +kernel
theorem dX10_putOn_35 : decode cX10_putOn 35 = .ok (.invokevirtual 129, 3) := by decide +kernel
theorem dX10_putOn_38 : decode cX10_putOn 38 = .ok (.aload_n 0, 1) := by decide +kernel
theorem dX10_putOn_39 : decode cX10_putOn 39 = .ok (.iload_n 1, 1) := by decide +kernel
theorem dX10_putOn_40 : decode cX10_putOn 40 = .ok (.iload_n 3, 1) := by decide +kernel
theorem dX10_putOn_41 : decode cX10_putOn 41 = .ok (.invokevirtual 133, 3) := by decide +kernel
theorem dX10_putOn_44 : decode cX10_putOn 44 = .ok (.aload 4, 2) := by decide +kernel
theorem dX10_putOn_46 : decode cX10_putOn 46 = .ok (.iload_n 3, 1) := by decide +kernel
theorem dX10_putOn_47 : decode cX10_putOn 47 = .ok (.aload_n 0, 1) := by decide +kernel
theorem dX10_putOn_48 : decode cX10_putOn 48 = .ok (.aload 4, 2) := by decide +kernel
theorem dX10_putOn_50 : decode cX10_putOn 50 = .ok (.getfield 155, 3) := by decide +kernel
theorem dX10_putOn_53 : decode cX10_putOn 53 = .ok (.iload_n 3, 1) := by decide +kernel
theorem dX10_putOn_54 : decode cX10_putOn 54 = .ok (.invokevirtual 164, 3) := by decide +kernel
theorem dX10_putOn_57 : decode cX10_putOn 57 = .ok (.invokevirtual 287, 3) := by decide +kernel
theorem dX10_putOn_60 : decode cX10_putOn 60 = .ok (.iconst 1, 1) := by decide +kernel
theorem dX10_putOn_61 : decode cX10_putOn 61 = .ok (.ireturn, 1) := by decide +kernel
theorem dX10_fineOfWearing_0 : decode cX10_fineOfWearing 0 = .ok (.iload_n 1, 1) := by decide +kernel
theorem dX10_fineOfWearing_1 : decode cX10_fineOfWearing 1 = .ok (.invokestatic 106, 3) := by decide +kernel
theorem dX10_fineOfWearing_4 : decode cX10_fineOfWearing 4 = .ok (.ifCond .ne 5, 3) := by decide +kernel
theorem dX10_fineOfWearing_7 : decode cX10_fineOfWearing 7 = .ok (.iconst 0, 1) := by decide +kernel
theorem dX10_fineOfWearing_8 : decode cX10_fineOfWearing 8 = .ok (.ireturn, 1) := by decide +kernel
theorem dX10_fineOfWearing_9 : decode cX10_fineOfWearing 9 = .ok (.iconst 1, 1) := by decide +kernel
theorem dX10_fineOfWearing_10 : decode cX10_fineOfWearing 10 = .ok (.aload_n 0, 1) := by decide +kernel
theorem dX10_fineOfWearing_11 : decode cX10_fineOfWearing 11 = .ok (.getfield 60, 3) := by decide +kernel
theorem dX10_fineOfWearing_14 : decode cX10_fineOfWearing 14 = .ok (.iload_n 1, 1) := by decide +kernel
theorem dX10_fineOfWearing_15 : decode cX10_fineOfWearing 15 = .ok (.iaload, 1) := by decide +kernel
theorem dX10_fineOfWearing_16 : decode cX10_fineOfWearing 16 = .ok (.iadd, 1) := by decide +kernel
theorem dX10_fineOfWearing_17 : decode cX10_fineOfWearing 17 = .ok (.iconst 5, 1) := by decide +kernel
theorem dX10_fineOfWearing_18 : decode cX10_fineOfWearing 18 = .ok (.invokestatic 302, 3) := by decide +kernel
theorem dX10_fineOfWearing_21 : decode cX10_fineOfWearing 21 = .ok (.istore_n 2, 1) := by decide +kernel
theorem dX10_fineOfWearing_22 : decode cX10_fineOfWearing 22 = .ok (.aload_n 0, 1) := by decide +kernel
theorem dX10_fineOfWearing_23 : decode cX10_fineOfWearing 23 = .ok (.getfield 19, 3) := by decide +kernel
theorem dX10_fineOfWearing_26 : decode cX10_fineOfWearing 26 = .ok (.aload_n 0, 1) := by decide +kernel
theorem dX10_fineOfWearing_27 : decode cX10_fineOfWearing 27 = .ok (.getfield 79, 3) := by decide +kernel
theorem dX10_fineOfWearing_30 : decode cX10_fineOfWearing 30 = .ok (.invokevirtual 307, 3) := by decide +kernel
theorem dX10_fineOfWearing_33 : decode cX10_fineOfWearing 33 = .ok (.iload_n 2, 1) := by decide +kernel
theorem dX10_fineOfWearing_34 : decode cX10_fineOfWearing 34 = .ok (.imul, 1) := by decide +kernel
theorem dX10_fineOfWearing_35 : decode cX10_fineOfWearing 35 = .ok (.ireturn, 1) := by decide +kernel
theorem dX10_wasConvicted_0 : decode cX10_wasConvicted 0 = .ok (.iconst 0, 1) := by decide +kernel
theorem dX10_wasConvicted_1 : decode cX10_wasConvicted 1 = .ok (.istore_n 2, 1) := by decide +kernel
theorem dX10_wasConvicted_2 : decode cX10_wasConvicted 2 = .ok (.iload_n 2, 1) := by decide +kernel
theorem dX10_wasConvicted_3 : decode cX10_wasConvicted 3 = .ok (.aload_n 0, 1) := by decide +kernel
theorem dX10_wasConvicted_4 : decode cX10_wasConvicted 4 = .ok (.getfield 57, 3) := by decide +kernel
theorem dX10_wasConvicted_7 : decode cX10_wasConvicted 7 = .ok (.if_icmp .ge 37, 3) := by decide +kernel
theorem dX10_wasConvicted_10 : decode cX10_wasConvicted 10 = .ok (.aload_n 0, 1) := by decide +kernel
theorem dX10_wasConvicted_11 : decode cX10_wasConvicted 11 = .ok (.iload_n 2, 1) := by decide +kernel
theorem dX10_wasConvicted_12 : decode cX10_wasConvicted 12 = .ok (.invokevirtual 249, 3) := by decide +kernel
theorem dX10_wasConvicted_15 : decode cX10_wasConvicted 15 = .ok (.astore_n 3, 1) := by decide +kernel
theorem dX10_wasConvicted_16 : decode cX10_wasConvicted 16 = .ok (.aload_n 3, 1) := by decide +kernel
theorem dX10_wasConvicted_17 : decode cX10_wasConvicted 17 = .ok (.ifnull 21, 3) := by decide +kernel
theorem dX10_wasConvicted_20 : decode cX10_wasConvicted 20 = .ok (.aload_n 3, 1) := by decide +kernel
theorem dX10_wasConvicted_21 : decode cX10_wasConvicted 21 = .ok (.getfield 253, 3) := by decide +kernel
theorem dX10_wasConvicted_24 : decode cX10_wasConvicted 24 = .ok (.iconst 1, 1) := by decide +kernel
theorem dX10_wasConvicted_25 : decode cX10_wasConvicted 25 = .ok (.if_icmp .ne 13, 3) := by decide +kernel
theorem dX10_wasConvicted_28 : decode cX10_wasConvicted 28 = .ok (.aload_n 3, 1) := by decide +kernel
theorem dX10_wasConvicted_29 : decode cX10_wasConvicted 29 = .ok (.aload_n 1, 1) := by decide +kernel
theorem dX10_wasConvicted_30 : decode cX10_wasConvicted 30 = .ok (.invokevirtual 311, 3) := by decide +kernel
theorem dX10_wasConvicted_33 : decode cX10_wasConvicted 33 = .ok (.ifCond .eq 5, 3) := by decide +kernel
theorem dX10_wasConvicted_36 : decode cX10_wasConvicted 36 = .ok (.iconst 1, 1) := by decide +kernel
theorem dX10_wasConvicted_37 : decode cX10_wasConvicted 37 = .ok (.ireturn, 1) := by decide +kernel
theorem dX10_wasConvicted_38 : decode cX10_wasConvicted 38 = .ok (.iinc 2 1, 3) := by decide +kernel
theorem dX10_wasConvicted_41 : decode cX10_wasConvicted 41 = .ok (.goto (-39), 3) := by decide +kernel
theorem dX10_wasConvicted_44 : decode cX10_wasConvicted 44 = .ok (.iconst 0, 1) := by decide +kernel
theorem dX10_wasConvicted_45 : decode cX10_wasConvicted 45 = .ok (.ireturn, 1) := by decide +kernel
theorem dX10_convict_0 : decode cX10_convict 0 = .ok (.aload_n 1, 1) := by decide +kernel
theorem dX10_convict_1 : decode cX10_convict 1 = .ok (.getfield 260, 3) := by decide +kernel
theorem dX10_convict_4 : decode cX10_convict 4 = .ok (.invokestatic 106, 3) := by decide +kernel
theorem dX10_convict_7 : decode cX10_convict 7 = .ok (.ifCond .eq 13, 3) := by decide +kernel
theorem dX10_convict_10 : decode cX10_convict 10 = .ok (.aload_n 1, 1) := by decide +kernel
theorem dX10_convict_11 : decode cX10_convict 11 = .ok (.getfield 277, 3) := by decide +kernel
theorem dX10_convict_14 : decode cX10_convict 14 = .ok (.invokestatic 106, 3) := by decide +kernel
theorem dX10_convict_17 : decode cX10_convict 17 = .ok (.ifCond .ne 4, 3) := by decide +kernel
theorem dX10_convict_20 : decode cX10_convict 20 = .ok (.return_, 1) := by decide +kernel
theorem dX10_convict_21 : decode cX10_convict 21 = .ok (.iload_n 2, 1) := by decide +kernel
theorem dX10_convict_22 : decode cX10_convict 22 = .ok (.i2l, 1) := by decide +kernel
theorem dX10_convict_23 : decode cX10_convict 23 = .ok (.aload_n 0, 1) := by decide +kernel
theorem dX10_convict_24 : decode cX10_convict 24 = .ok (.getfield 19, 3) := by decide +kernel
theorem dX10_convict_27 : decode cX10_convict 27 = .ok (.aload_n 1, 1) := by decide +kernel
theorem dX10_convict_28 : decode cX10_convict 28 = .ok (.getfield 266, 3) := by decide +kernel
theorem dX10_convict_31 : decode cX10_convict 31 = .ok (.invokevirtual 314, 3) := by decide +kernel
theorem dX10_convict_34 : decode cX10_convict 34 = .ok (.i2l, 1) := by decide +kernel
theorem dX10_convict_35 : decode cX10_convict 35 = .ok (.lmul, 1) := by decide +kernel
theorem dX10_convict_36 : decode cX10_convict 36 = .ok (.ldc2_w 317, 3) := by decide +kernel
theorem dX10_convict_39 : decode cX10_convict 39 = .ok (.ldiv, 1) := by decide +kernel
theorem dX10_convict_40 : decode cX10_convict 40 = .ok (.l2i, 1) := by decide +kernel
theorem dX10_convict_41 : decode cX10_convict 41 = .ok (.istore_n 3, 1) := by decide +kernel
theorem dX10_convict_42 : decode cX10_convict 42 = .ok (.aload_n 1, 1) := by decide +kernel
theorem dX10_convict_43 : decode cX10_convict 43 = .ok (.iconst 1, 1) := by decide +kernel
theorem dX10_convict_44 : decode cX10_convict 44 = .ok (.putfield 253, 3) := by decide +kernel
theorem dX10_convict_47 : decode cX10_convict 47 = .ok (.aload_n 1, 1) := by decide +kernel
theorem dX10_convict_48 : decode cX10_convict 48 = .ok (.iload_n 2, 1) := by decide +kernel
theorem dX10_convict_49 : decode cX10_convict 49 = .ok (.putfield 280, 3) := by decide +kernel
theorem dX10_convict_52 : decode cX10_convict 52 = .ok (.aload_n 1, 1) := by decide +kernel
theorem dX10_convict_53 : decode cX10_convict 53 = .ok (.iload_n 3, 1) := by decide +kernel
theorem dX10_convict_54 : decode cX10_convict 54 = .ok (.putfield 281, 3) := by decide +kernel
theorem dX10_convict_57 : decode cX10_convict 57 = .ok (.aload_n 0, 1) := by decide +kernel
theorem dX10_convict_58 : decode cX10_convict 58 = .ok (.getfield 60, 3) := by decide +kernel
theorem dX10_convict_61 : decode cX10_convict 61 = .ok (.aload_n 1, 1) := by decide +kernel
theorem dX10_convict_62 : decode cX10_convict 62 = .ok (.getfield 260, 3) := by decide +kernel
theorem dX10_convict_65 : decode cX10_convict 65 = .ok (.dup2, 1) := by decide +kernel
theorem dX10_convict_66 : decode cX10_convict 66 = .ok (.iaload, 1) := by decide +kernel
theorem dX10_convict_67 : decode cX10_convict 67 = .ok (.iconst 1, 1) := by decide +kernel
theorem dX10_convict_68 : decode cX10_convict 68 = .ok (.iadd, 1) := by decide +kernel
theorem dX10_convict_69 : decode cX10_convict 69 = .ok (.iastore, 1) := by decide +kernel
theorem dX10_convict_70 : decode cX10_convict 70 = .ok (.aload_n 0, 1) := by decide +kernel
theorem dX10_convict_71 : decode cX10_convict 71 = .ok (.getfield 64, 3) := by decide +kernel
theorem dX10_convict_74 : decode cX10_convict 74 = .ok (.aload_n 1, 1) := by decide +kernel
theorem dX10_convict_75 : decode cX10_convict 75 = .ok (.getfield 260, 3) := by decide +kernel
theorem dX10_convict_78 : decode cX10_convict 78 = .ok (.dup2, 1) := by decide +kernel
theorem dX10_convict_79 : decode cX10_convict 79 = .ok (.iaload, 1) := by decide +kernel
theorem dX10_convict_80 : decode cX10_convict 80 = .ok (.iload_n 2, 1) := by decide +kernel
theorem dX10_convict_81 : decode cX10_convict 81 = .ok (.iadd, 1) := by decide +kernel
theorem dX10_convict_82 : decode cX10_convict 82 = .ok (.iastore, 1) := by decide +kernel
theorem dX10_convict_83 : decode cX10_convict 83 = .ok (.aload_n 0, 1) := by decide +kernel
theorem dX10_convict_84 : decode cX10_convict 84 = .ok (.getfield 67, 3) := by decide +kernel
theorem dX10_convict_87 : decode cX10_convict 87 = .ok (.aload_n 1, 1) := by decide +kernel
theorem dX10_convict_88 : decode cX10_convict 88 = .ok (.getfield 277, 3) := by decide +kernel
theorem dX10_convict_91 : decode cX10_convict 91 = .ok (.dup2, 1) := by decide +kernel
theorem dX10_convict_92 : decode cX10_convict 92 = .ok (.iaload, 1) := by decide +kernel
theorem dX10_convict_93 : decode cX10_convict 93 = .ok (.iload_n 3, 1) := by decide +kernel
theorem dX10_convict_94 : decode cX10_convict 94 = .ok (.iadd, 1) := by decide +kernel
theorem dX10_convict_95 : decode cX10_convict 95 = .ok (.iastore, 1) := by decide +kernel
theorem dX10_convict_96 : decode cX10_convict 96 = .ok (.aload_n 0, 1) := by decide +kernel
theorem dX10_convict_97 : decode cX10_convict 97 = .ok (.dup, 1) := by decide +kernel
theorem dX10_convict_98 : decode cX10_convict 98 = .ok (.getfield 70, 3) := by decide +kernel
theorem dX10_convict_101 : decode cX10_convict 101 = .ok (.iload_n 2, 1) := by decide +kernel
theorem dX10_convict_102 : decode cX10_convict 102 = .ok (.iload_n 3, 1) := by decide +kernel
theorem dX10_convict_103 : decode cX10_convict 103 = .ok (.isub, 1) := by decide +kernel
theorem dX10_convict_104 : decode cX10_convict 104 = .ok (.iadd, 1) := by decide +kernel
theorem dX10_convict_105 : decode cX10_convict 105 = .ok (.putfield 70, 3) := by decide +kernel
theorem dX10_convict_108 : decode cX10_convict 108 = .ok (.return_, 1) := by decide +kernel
theorem dX10_punishFalse_0 : decode cX10_punishFalse 0 = .ok (.aload_n 1, 1) := by decide +kernel
theorem dX10_punishFalse_1 : decode cX10_punishFalse 1 = .ok (.getfield 277, 3) := by decide +kernel
theorem dX10_punishFalse_4 : decode cX10_punishFalse 4 = .ok (.invokestatic 106, 3) := by decide +kernel
theorem dX10_punishFalse_7 : decode cX10_punishFalse 7 = .ok (.ifCond .ne 4, 3) := by decide +kernel
theorem dX10_punishFalse_10 : decode cX10_punishFalse 10 = .ok (.return_, 1) := by decide +kernel
theorem dX10_punishFalse_11 : decode cX10_punishFalse 11 = .ok (.aload_n 1, 1) := by decide +kernel
theorem dX10_punishFalse_12 : decode cX10_punishFalse 12 = .ok (.iconst 2, 1) := by decide +kernel
theorem dX10_punishFalse_13 : decode cX10_punishFalse 13 = .ok (.putfield 253, 3) := by decide +kernel
theorem dX10_punishFalse_16 : decode cX10_punishFalse 16 = .ok (.aload_n 0, 1) := by decide +kernel
theorem dX10_punishFalse_17 : decode cX10_punishFalse 17 = .ok (.getfield 64, 3) := by decide +kernel
theorem dX10_punishFalse_20 : decode cX10_punishFalse 20 = .ok (.aload_n 1, 1) := by decide +kernel
theorem dX10_punishFalse_21 : decode cX10_punishFalse 21 = .ok (.getfield 277, 3) := by decide +kernel
theorem dX10_punishFalse_24 : decode cX10_punishFalse 24 = .ok (.dup2, 1) := by decide +kernel
theorem dX10_punishFalse_25 : decode cX10_punishFalse 25 = .ok (.iaload, 1) := by decide +kernel
theorem dX10_punishFalse_26 : decode cX10_punishFalse 26 = .ok (.bipush 50, 2) := by decide +kernel
theorem dX10_punishFalse_28 : decode cX10_punishFalse 28 = .ok (.iadd, 1) := by decide +kernel
theorem dX10_punishFalse_29 : decode cX10_punishFalse 29 = .ok (.iastore, 1) := by decide +kernel
theorem dX10_punishFalse_30 : decode cX10_punishFalse 30 = .ok (.aload_n 0, 1) := by decide +kernel
theorem dX10_punishFalse_31 : decode cX10_punishFalse 31 = .ok (.dup, 1) := by decide +kernel
theorem dX10_punishFalse_32 : decode cX10_punishFalse 32 = .ok (.getfield 70, 3) := by decide +kernel
theorem dX10_punishFalse_35 : decode cX10_punishFalse 35 = .ok (.bipush 50, 2) := by decide +kernel
theorem dX10_punishFalse_37 : decode cX10_punishFalse 37 = .ok (.iadd, 1) := by decide +kernel
theorem dX10_punishFalse_38 : decode cX10_punishFalse 38 = .ok (.putfield 70, 3) := by decide +kernel
theorem dX10_punishFalse_41 : decode cX10_punishFalse 41 = .ok (.return_, 1) := by decide +kernel
theorem dX10_cheapestChange_0 : decode cX10_cheapestChange 0 = .ok (.aload_n 0, 1) := by decide +kernel
theorem dX10_cheapestChange_1 : decode cX10_cheapestChange 1 = .ok (.getfield 19, 3) := by decide +kernel
theorem dX10_cheapestChange_4 : decode cX10_cheapestChange 4 = .ok (.aload_n 0, 1) := by decide +kernel
theorem dX10_cheapestChange_5 : decode cX10_cheapestChange 5 = .ok (.getfield 86, 3) := by decide +kernel
theorem dX10_cheapestChange_8 : decode cX10_cheapestChange 8 = .ok (.aload_n 0, 1) := by decide +kernel
theorem dX10_cheapestChange_9 : decode cX10_cheapestChange 9 = .ok (.getfield 79, 3) := by decide +kernel
theorem dX10_cheapestChange_12 : decode cX10_cheapestChange 12 = .ok (.invokevirtual 319, 3) := by decide +kernel
theorem dX10_cheapestChange_15 : decode cX10_cheapestChange 15 = .ok (.aload_n 0, 1) := by decide +kernel
theorem dX10_cheapestChange_16 : decode cX10_cheapestChange 16 = .ok (.invokevirtual 323, 3) := by decide +kernel
theorem dX10_cheapestChange_19 : decode cX10_cheapestChange 19 = .ok (.istore_n 1, 1) := by decide +kernel
theorem dX10_cheapestChange_20 : decode cX10_cheapestChange 20 = .ok (.aload_n 0, 1) := by decide +kernel
theorem dX10_cheapestChange_21 : decode cX10_cheapestChange 21 = .ok (.invokevirtual 326, 3) := by decide +kernel
theorem dX10_cheapestChange_24 : decode cX10_cheapestChange 24 = .ok (.istore_n 2, 1) := by decide +kernel
theorem dX10_cheapestChange_25 : decode cX10_cheapestChange 25 = .ok (.iload_n 1, 1) := by decide +kernel
theorem dX10_cheapestChange_26 : decode cX10_cheapestChange 26 = .ok (.iconst (-1), 1) := by decide +kernel
theorem dX10_cheapestChange_27 : decode cX10_cheapestChange 27 = .ok (.if_icmp .eq 8, 3) := by decide +kernel
theorem dX10_cheapestChange_30 : decode cX10_cheapestChange 30 = .ok (.iload_n 2, 1) := by decide +kernel
theorem dX10_cheapestChange_31 : decode cX10_cheapestChange 31 = .ok (.iconst (-1), 1) := by decide +kernel
theorem dX10_cheapestChange_32 : decode cX10_cheapestChange 32 = .ok (.if_icmp .ne 5, 3) := by decide +kernel
theorem dX10_cheapestChange_35 : decode cX10_cheapestChange 35 = .ok (.iconst (-1), 1) := by decide +kernel
theorem dX10_cheapestChange_36 : decode cX10_cheapestChange 36 = .ok (.ireturn, 1) := by decide +kernel
