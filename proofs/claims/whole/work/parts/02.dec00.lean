theorem dX0_init_0 : decode cX0_init 0 = .ok (.aload_n 0, 1) := by decide +kernel
theorem dX0_init_1 : decode cX0_init 1 = .ok (.invokespecial 3, 3) := by decide +kernel
theorem dX0_init_4 : decode cX0_init 4 = .ok (.aload_n 0, 1) := by decide +kernel
theorem dX0_init_5 : decode cX0_init 5 = .ok (.iconst 0, 1) := by decide +kernel
theorem dX0_init_6 : decode cX0_init 6 = .ok (.putfield 9, 3) := by decide +kernel
theorem dX0_init_9 : decode cX0_init 9 = .ok (.aload_n 0, 1) := by decide +kernel
theorem dX0_init_10 : decode cX0_init 10 = .ok (.bipush 12, 2) := by decide +kernel
theorem dX0_init_12 : decode cX0_init 12 = .ok (.anewarray 15, 3) := by decide +kernel
theorem dX0_init_15 : decode cX0_init 15 = .ok (.putfield 17, 3) := by decide +kernel
theorem dX0_init_18 : decode cX0_init 18 = .ok (.aload_n 0, 1) := by decide +kernel
theorem dX0_init_19 : decode cX0_init 19 = .ok (.iconst 0, 1) := by decide +kernel
theorem dX0_init_20 : decode cX0_init 20 = .ok (.putfield 21, 3) := by decide +kernel
theorem dX0_init_23 : decode cX0_init 23 = .ok (.aload_n 0, 1) := by decide +kernel
theorem dX0_init_24 : decode cX0_init 24 = .ok (.iconst (-1), 1) := by decide +kernel
theorem dX0_init_25 : decode cX0_init 25 = .ok (.putfield 24, 3) := by decide +kernel
theorem dX0_init_28 : decode cX0_init 28 = .ok (.aload_n 0, 1) := by decide +kernel
theorem dX0_init_29 : decode cX0_init 29 = .ok (.iconst (-1), 1) := by decide +kernel
theorem dX0_init_30 : decode cX0_init 30 = .ok (.putfield 27, 3) := by decide +kernel
theorem dX0_init_33 : decode cX0_init 33 = .ok (.aload_n 0, 1) := by decide +kernel
theorem dX0_init_34 : decode cX0_init 34 = .ok (.iconst 0, 1) := by decide +kernel
theorem dX0_init_35 : decode cX0_init 35 = .ok (.putfield 30, 3) := by decide +kernel
theorem dX0_init_38 : decode cX0_init 38 = .ok (.return_, 1) := by decide +kernel
theorem dX0_wipe_0 : decode cX0_wipe 0 = .ok (.aload_n 0, 1) := by decide +kernel
theorem dX0_wipe_1 : decode cX0_wipe 1 = .ok (.iconst 0, 1) := by decide +kernel
theorem dX0_wipe_2 : decode cX0_wipe 2 = .ok (.putfield 21, 3) := by decide +kernel
theorem dX0_wipe_5 : decode cX0_wipe 5 = .ok (.aload_n 0, 1) := by decide +kernel
theorem dX0_wipe_6 : decode cX0_wipe 6 = .ok (.iconst (-1), 1) := by decide +kernel
theorem dX0_wipe_7 : decode cX0_wipe 7 = .ok (.putfield 24, 3) := by decide +kernel
theorem dX0_wipe_10 : decode cX0_wipe 10 = .ok (.aload_n 0, 1) := by decide +kernel
theorem dX0_wipe_11 : decode cX0_wipe 11 = .ok (.iconst (-1), 1) := by decide +kernel
theorem dX0_wipe_12 : decode cX0_wipe 12 = .ok (.putfield 27, 3) := by decide +kernel
theorem dX0_wipe_15 : decode cX0_wipe 15 = .ok (.aload_n 0, 1) := by decide +kernel
theorem dX0_wipe_16 : decode cX0_wipe 16 = .ok (.iconst 0, 1) := by decide +kernel
theorem dX0_wipe_17 : decode cX0_wipe 17 = .ok (.putfield 30, 3) := by decide +kernel
theorem dX0_wipe_20 : decode cX0_wipe 20 = .ok (.return_, 1) := by decide +kernel
theorem dX0_add_0 : decode cX0_add 0 = .ok (.aload_n 0, 1) := by decide +kernel
theorem dX0_add_1 : decode cX0_add 1 = .ok (.getfield 21, 3) := by decide +kernel
theorem dX0_add_4 : decode cX0_add 4 = .ok (.aload_n 0, 1) := by decide +kernel
theorem dX0_add_5 : decode cX0_add 5 = .ok (.getfield 17, 3) := by decide +kernel
theorem dX0_add_8 : decode cX0_add 8 = .ok (.arraylength, 1) := by decide +kernel
theorem dX0_add_9 : decode cX0_add 9 = .ok (.if_icmp .ge 23, 3) := by decide +kernel
theorem dX0_add_12 : decode cX0_add 12 = .ok (.aload_n 0, 1) := by decide +kernel
theorem dX0_add_13 : decode cX0_add 13 = .ok (.getfield 17, 3) := by decide +kernel
theorem dX0_add_16 : decode cX0_add 16 = .ok (.aload_n 0, 1) := by decide +kernel
theorem dX0_add_17 : decode cX0_add 17 = .ok (.getfield 21, 3) := by decide +kernel
theorem dX0_add_20 : decode cX0_add 20 = .ok (.aload_n 1, 1) := by decide +kernel
theorem dX0_add_21 : decode cX0_add 21 = .ok (.aastore, 1) := by decide +kernel
theorem dX0_add_22 : decode cX0_add 22 = .ok (.aload_n 0, 1) := by decide +kernel
theorem dX0_add_23 : decode cX0_add 23 = .ok (.dup, 1) := by decide +kernel
theorem dX0_add_24 : decode cX0_add 24 = .ok (.getfield 21, 3) := by decide +kernel
theorem dX0_add_27 : decode cX0_add 27 = .ok (.iconst 1, 1) := by decide +kernel
theorem dX0_add_28 : decode cX0_add 28 = .ok (.iadd, 1) := by decide +kernel
theorem dX0_add_29 : decode cX0_add 29 = .ok (.putfield 21, 3) := by decide +kernel
theorem dX0_add_32 : decode cX0_add 32 = .ok (.return_, 1) := by decide +kernel
theorem dX0_findRule_0 : decode cX0_findRule 0 = .ok (.iload_n 1, 1) := by decide +kernel
theorem dX0_findRule_1 : decode cX0_findRule 1 = .ok (.ifCond .lt 29, 3) := by decide +kernel
theorem dX0_findRule_4 : decode cX0_findRule 4 = .ok (.iload_n 1, 1) := by decide +kernel
theorem dX0_findRule_5 : decode cX0_findRule 5 = .ok (.aload_n 0, 1) := by decide +kernel
theorem dX0_findRule_6 : decode cX0_findRule 6 = .ok (.getfield 21, 3) := by decide +kernel
theorem dX0_findRule_9 : decode cX0_findRule 9 = .ok (.if_icmp .ge 21, 3) := by decide +kernel
theorem dX0_findRule_12 : decode cX0_findRule 12 = .ok (.iload_n 1, 1) := by decide +kernel
theorem dX0_findRule_13 : decode cX0_findRule 13 = .ok (.aload_n 0, 1) := by decide +kernel
theorem dX0_findRule_14 : decode cX0_findRule 14 = .ok (.getfield 17, 3) := by decide +kernel
theorem dX0_findRule_17 : decode cX0_findRule 17 = .ok (.arraylength, 1) := by decide +kernel
theorem dX0_findRule_18 : decode cX0_findRule 18 = .ok (.if_icmp .ge 12, 3) := by decide +kernel
theorem dX0_findRule_21 : decode cX0_findRule 21 = .ok (.aload_n 0, 1) := by decide +kernel
theorem dX0_findRule_22 : decode cX0_findRule 22 = .ok (.getfield 17, 3) := by decide +kernel
theorem dX0_findRule_25 : decode cX0_findRule 25 = .ok (.iload_n 1, 1) := by decide +kernel
theorem dX0_findRule_26 : decode cX0_findRule 26 = .ok (.aaload, 1) := by decide +kernel
theorem dX0_findRule_27 : decode cX0_findRule 27 = .ok (.goto 4, 3) := by decide +kernel
theorem dX0_findRule_30 : decode cX0_findRule 30 = .ok (.aconst_null, 1) := by decide +kernel
theorem dX0_findRule_31 : decode cX0_findRule 31 = .ok (.areturn, 1) := by decide +kernel
theorem dX0_sealDays_0 : decode cX0_sealDays 0 = .ok (.iconst 0, 1) := by decide +kernel
theorem dX0_sealDays_1 : decode cX0_sealDays 1 = .ok (.aload_n 0, 1) := by decide +kernel
theorem dX0_sealDays_2 : decode cX0_sealDays 2 = .ok (.getfield 24, 3) := by decide +kernel
theorem dX0_sealDays_5 : decode cX0_sealDays 5 = .ok (.invokestatic 33, 3) := by decide +kernel
theorem dX0_sealDays_8 : decode cX0_sealDays 8 = .ok (.ireturn, 1) := by decide +kernel
theorem dX0_lets_0 : decode cX0_lets 0 = .ok (.aload_n 1, 1) := by decide +kernel
theorem dX0_lets_1 : decode cX0_lets 1 = .ok (.getfield 39, 3) := by decide +kernel
theorem dX0_lets_4 : decode cX0_lets 4 = .ok (.getfield 45, 3) := by decide +kernel
theorem dX0_lets_7 : decode cX0_lets 7 = .ok (.istore_n 2, 1) := by decide +kernel
theorem dX0_lets_8 : decode cX0_lets 8 = .ok (.iload_n 2, 1) := by decide +kernel
theorem dX0_lets_9 : decode cX0_lets 9 = .ok (.iconst (-1), 1) := by decide +kernel
theorem dX0_lets_10 : decode cX0_lets 10 = .ok (.if_icmp .eq 31, 3) := by decide +kernel
theorem dX0_lets_13 : decode cX0_lets 13 = .ok (.iload_n 2, 1) := by decide +kernel
theorem dX0_lets_14 : decode cX0_lets 14 = .ok (.aload_n 0, 1) := by decide +kernel
theorem dX0_lets_15 : decode cX0_lets 15 = .ok (.getfield 9, 3) := by decide +kernel
theorem dX0_lets_18 : decode cX0_lets 18 = .ok (.if_icmp .ge 23, 3) := by decide +kernel
theorem dX0_lets_21 : decode cX0_lets 21 = .ok (.aload_n 1, 1) := by decide +kernel
theorem dX0_lets_22 : decode cX0_lets 22 = .ok (.getfield 50, 3) := by decide +kernel
theorem dX0_lets_25 : decode cX0_lets 25 = .ok (.aload_n 0, 1) := by decide +kernel
theorem dX0_lets_26 : decode cX0_lets 26 = .ok (.getfield 9, 3) := by decide +kernel
theorem dX0_lets_29 : decode cX0_lets 29 = .ok (.aload_n 0, 1) := by decide +kernel
theorem dX0_lets_30 : decode cX0_lets 30 = .ok (.invokevirtual 53, 3) := by decide +kernel
theorem dX0_lets_33 : decode cX0_lets 33 = .ok (.iadd, 1) := by decide +kernel
theorem dX0_lets_34 : decode cX0_lets 34 = .ok (.if_icmp .ge 7, 3) := by decide +kernel
theorem dX0_lets_37 : decode cX0_lets 37 = .ok (.iconst 1, 1) := by decide +kernel
theorem dX0_lets_38 : decode cX0_lets 38 = .ok (.goto 4, 3) := by decide +kernel
theorem dX0_lets_41 : decode cX0_lets 41 = .ok (.iconst 0, 1) := by decide +kernel
theorem dX0_lets_42 : decode cX0_lets 42 = .ok (.ireturn, 1) := by decide +kernel
theorem dX0_brokenBits_0 : decode cX0_brokenBits 0 = .ok (.iconst 0, 1) := by decide +kernel
theorem dX0_brokenBits_1 : decode cX0_brokenBits 1 = .ok (.istore_n 2, 1) := by decide +kernel
theorem dX0_brokenBits_2 : decode cX0_brokenBits 2 = .ok (.iconst 0, 1) := by decide +kernel
theorem dX0_brokenBits_3 : decode cX0_brokenBits 3 = .ok (.istore_n 3, 1) := by decide +kernel
theorem dX0_brokenBits_4 : decode cX0_brokenBits 4 = .ok (.iload_n 3, 1) := by decide +kernel
theorem dX0_brokenBits_5 : decode cX0_brokenBits 5 = .ok (.aload_n 0, 1) := by decide +kernel
theorem dX0_brokenBits_6 : decode cX0_brokenBits 6 = .ok (.getfield 21, 3) := by decide +kernel
theorem dX0_brokenBits_9 : decode cX0_brokenBits 9 = .ok (.if_icmp .ge 45, 3) := by decide +kernel
theorem dX0_brokenBits_12 : decode cX0_brokenBits 12 = .ok (.aload_n 0, 1) := by decide +kernel
theorem dX0_brokenBits_13 : decode cX0_brokenBits 13 = .ok (.iload_n 3, 1) := by decide +kernel
theorem dX0_brokenBits_14 : decode cX0_brokenBits 14 = .ok (.invokevirtual 57, 3) := by decide +kernel
theorem dX0_brokenBits_17 : decode cX0_brokenBits 17 = .ok (.astore 4, 2) := by decide +kernel
theorem dX0_brokenBits_19 : decode cX0_brokenBits 19 = .ok (.aload 4, 2) := by decide +kernel
theorem dX0_brokenBits_21 : decode cX0_brokenBits 21 = .ok (.ifnull 27, 3) := by decide +kernel
theorem dX0_brokenBits_24 : decode cX0_brokenBits 24 = .ok (.aload 4, 2) := by decide +kernel
theorem dX0_brokenBits_26 : decode cX0_brokenBits 26 = .ok (.aload_n 1, 1) := by decide +kernel
theorem dX0_brokenBits_27 : decode cX0_brokenBits 27 = .ok (.invokevirtual 61, 3) := by decide +kernel
theorem dX0_brokenBits_30 : decode cX0_brokenBits 30 = .ok (.ifCond .eq 18, 3) := by decide +kernel
theorem dX0_brokenBits_33 : decode cX0_brokenBits 33 = .ok (.aload 4, 2) := by decide +kernel
theorem dX0_brokenBits_35 : decode cX0_brokenBits 35 = .ok (.aload_n 1, 1) := by decide +kernel
theorem dX0_brokenBits_36 : decode cX0_brokenBits 36 = .ok (.invokevirtual 65, 3) := by decide +kernel
theorem dX0_brokenBits_39 : decode cX0_brokenBits 39 = .ok (.ifCond .eq 9, 3) := by decide +kernel
theorem dX0_brokenBits_42 : decode cX0_brokenBits 42 = .ok (.iload_n 2, 1) := by decide +kernel
theorem dX0_brokenBits_43 : decode cX0_brokenBits 43 = .ok (.iconst 1, 1) := by decide +kernel
theorem dX0_brokenBits_44 : decode cX0_brokenBits 44 = .ok (.iload_n 3, 1) := by decide +kernel
theorem dX0_brokenBits_45 : decode cX0_brokenBits 45 = .ok (.ishl, 1) := by decide +kernel
theorem dX0_brokenBits_46 : decode cX0_brokenBits 46 = .ok (.ior, 1) := by decide +kernel
theorem dX0_brokenBits_47 : decode cX0_brokenBits 47 = .ok (.istore_n 2, 1) := by decide +kernel
theorem dX0_brokenBits_48 : decode cX0_brokenBits 48 = .ok (.iinc 3 1, 3) := by decide +kernel
theorem dX0_brokenBits_51 : decode cX0_brokenBits 51 = .ok (.goto (-47), 3) := by decide +kernel
theorem dX0_brokenBits_54 : decode cX0_brokenBits 54 = .ok (.iload_n 2, 1) := by decide +kernel
theorem dX0_brokenBits_55 : decode cX0_brokenBits 55 = .ok (.ireturn, 1) := by decide +kernel
theorem dX0_penceOf_0 : decode cX0_penceOf 0 = .ok (.iconst 0, 1) := by decide +kernel
theorem dX0_penceOf_1 : decode cX0_penceOf 1 = .ok (.istore_n 2, 1) := by decide +kernel
theorem dX0_penceOf_2 : decode cX0_penceOf 2 = .ok (.iconst 0, 1) := by decide +kernel
theorem dX0_penceOf_3 : decode cX0_penceOf 3 = .ok (.istore_n 3, 1) := by decide +kernel
theorem dX0_penceOf_4 : decode cX0_penceOf 4 = .ok (.iload_n 3, 1) := by decide +kernel
theorem dX0_penceOf_5 : decode cX0_penceOf 5 = .ok (.aload_n 0, 1) := by decide +kernel
theorem dX0_penceOf_6 : decode cX0_penceOf 6 = .ok (.getfield 21, 3) := by decide +kernel
theorem dX0_penceOf_9 : decode cX0_penceOf 9 = .ok (.if_icmp .ge 38, 3) := by decide +kernel
theorem dX0_penceOf_12 : decode cX0_penceOf 12 = .ok (.aload_n 0, 1) := by decide +kernel
theorem dX0_penceOf_13 : decode cX0_penceOf 13 = .ok (.iload_n 3, 1) := by decide +kernel
theorem dX0_penceOf_14 : decode cX0_penceOf 14 = .ok (.invokevirtual 57, 3) := by decide +kernel
theorem dX0_penceOf_17 : decode cX0_penceOf 17 = .ok (.astore 4, 2) := by decide +kernel
theorem dX0_penceOf_19 : decode cX0_penceOf 19 = .ok (.aload 4, 2) := by decide +kernel
theorem dX0_penceOf_21 : decode cX0_penceOf 21 = .ok (.ifnull 20, 3) := by decide +kernel
theorem dX0_penceOf_24 : decode cX0_penceOf 24 = .ok (.iload_n 1, 1) := by decide +kernel
theorem dX0_penceOf_25 : decode cX0_penceOf 25 = .ok (.iload_n 3, 1) := by decide +kernel
theorem dX0_penceOf_26 : decode cX0_penceOf 26 = .ok (.iushr, 1) := by decide +kernel
theorem dX0_penceOf_27 : decode cX0_penceOf 27 = .ok (.iconst 1, 1) := by decide +kernel
theorem dX0_penceOf_28 : decode cX0_penceOf 28 = .ok (.iand, 1) := by decide +kernel
theorem dX0_penceOf_29 : decode cX0_penceOf 29 = .ok (.iconst 1, 1) := by decide +kernel
theorem dX0_penceOf_30 : decode cX0_penceOf 30 = .ok (.if_icmp .ne 11, 3) := by decide +kernel
theorem dX0_penceOf_33 : decode cX0_penceOf 33 = .ok (.iload_n 2, 1) := by decide +kernel
theorem dX0_penceOf_34 : decode cX0_penceOf 34 = .ok (.aload 4, 2) := by decide +kernel
theorem dX0_penceOf_36 : decode cX0_penceOf 36 = .ok (.getfield 68, 3) := by decide +kernel
theorem dX0_penceOf_39 : decode cX0_penceOf 39 = .ok (.iadd, 1) := by decide +kernel
theorem dX0_penceOf_40 : decode cX0_penceOf 40 = .ok (.istore_n 2, 1) := by decide +kernel
theorem dX0_penceOf_41 : decode cX0_penceOf 41 = .ok (.iinc 3 1, 3) := by decide +kernel
theorem dX0_penceOf_44 : decode cX0_penceOf 44 = .ok (.goto (-40), 3) := by decide +kernel
theorem dX0_penceOf_47 : decode cX0_penceOf 47 = .ok (.iload_n 2, 1) := by decide +kernel
theorem dX0_penceOf_48 : decode cX0_penceOf 48 = .ok (.ireturn, 1) := by decide +kernel
theorem dX0_narrow_0 : decode cX0_narrow 0 = .ok (.iconst 0, 1) := by decide +kernel
theorem dX0_narrow_1 : decode cX0_narrow 1 = .ok (.istore_n 3, 1) := by decide +kernel
theorem dX0_narrow_2 : decode cX0_narrow 2 = .ok (.iload_n 3, 1) := by decide +kernel
theorem dX0_narrow_3 : decode cX0_narrow 3 = .ok (.aload_n 0, 1) := by decide +kernel
theorem dX0_narrow_4 : decode cX0_narrow 4 = .ok (.getfield 21, 3) := by decide +kernel
theorem dX0_narrow_7 : decode cX0_narrow 7 = .ok (.if_icmp .ge 36, 3) := by decide +kernel
theorem dX0_narrow_10 : decode cX0_narrow 10 = .ok (.aload_n 0, 1) := by decide +kernel
theorem dX0_narrow_11 : decode cX0_narrow 11 = .ok (.iload_n 3, 1) := by decide +kernel
theorem dX0_narrow_12 : decode cX0_narrow 12 = .ok (.invokevirtual 57, 3) := by decide +kernel
theorem dX0_narrow_15 : decode cX0_narrow 15 = .ok (.astore 4, 2) := by decide +kernel
theorem dX0_narrow_17 : decode cX0_narrow 17 = .ok (.aload 4, 2) := by decide +kernel
theorem dX0_narrow_19 : decode cX0_narrow 19 = .ok (.ifnull 18, 3) := by decide +kernel
theorem dX0_narrow_22 : decode cX0_narrow 22 = .ok (.aload 4, 2) := by decide +kernel
theorem dX0_narrow_24 : decode cX0_narrow 24 = .ok (.aload_n 2, 1) := by decide +kernel
theorem dX0_narrow_25 : decode cX0_narrow 25 = .ok (.invokevirtual 61, 3) := by decide +kernel
theorem dX0_narrow_28 : decode cX0_narrow 28 = .ok (.ifCond .eq 9, 3) := by decide +kernel
theorem dX0_narrow_31 : decode cX0_narrow 31 = .ok (.aload_n 1, 1) := by decide +kernel
theorem dX0_narrow_32 : decode cX0_narrow 32 = .ok (.aload 4, 2) := by decide +kernel
theorem dX0_narrow_34 : decode cX0_narrow 34 = .ok (.invokevirtual 71, 3) := by decide +kernel
theorem dX0_narrow_37 : decode cX0_narrow 37 = .ok (.iinc 3 1, 3) := by decide +kernel
theorem dX0_narrow_40 : decode cX0_narrow 40 = .ok (.goto (-38), 3) := by decide +kernel
theorem dX0_narrow_43 : decode cX0_narrow 43 = .ok (.return_, 1) := by decide +kernel
theorem dX1_init_0 : decode cX1_init 0 = .ok (.aload_n 0, 1) := by decide +kernel
theorem dX1_init_1 : decode cX1_init 1 = .ok (.invokespecial 3, 3) := by decide +kernel
theorem dX1_init_4 : decode cX1_init 4 = .ok (.aload_n 0, 1) := by decide +kernel
theorem dX1_init_5 : decode cX1_init 5 = .ok (.iconst 5, 1) := by decide +kernel
theorem dX1_init_6 : decode cX1_init 6 = .ok (.newarray .int, 2) := by decide +kernel
theorem dX1_init_8 : decode cX1_init 8 = .ok (.putfield 9, 3) := by decide +kernel
theorem dX1_init_11 : decode cX1_init 11 = .ok (.aload_n 0, 1) := by decide +kernel
theorem dX1_init_12 : decode cX1_init 12 = .ok (.iconst 0, 1) := by decide +kernel
theorem dX1_init_13 : decode cX1_init 13 = .ok (.putfield 15, 3) := by decide +kernel
theorem dX1_init_16 : decode cX1_init 16 = .ok (.aload_n 0, 1) := by decide +kernel
theorem dX1_init_17 : decode cX1_init 17 = .ok (.iconst 0, 1) := by decide +kernel
theorem dX1_init_18 : decode cX1_init 18 = .ok (.putfield 19, 3) := by decide +kernel
theorem dX1_init_21 : decode cX1_init 21 = .ok (.return_, 1) := by decide +kernel
theorem dX1_open_0 : decode cX1_open 0 = .ok (.aload_n 0, 1) := by decide +kernel
theorem dX1_open_1 : decode cX1_open 1 = .ok (.getfield 9, 3) := by decide +kernel
theorem dX1_open_4 : decode cX1_open 4 = .ok (.sipush 9999, 3) := by decide +kernel
theorem dX1_open_7 : decode cX1_open 7 = .ok (.invokestatic 22, 3) := by decide +kernel
theorem dX1_open_10 : decode cX1_open 10 = .ok (.aload_n 0, 1) := by decide +kernel
theorem dX1_open_11 : decode cX1_open 11 = .ok (.iconst 0, 1) := by decide +kernel
theorem dX1_open_12 : decode cX1_open 12 = .ok (.putfield 15, 3) := by decide +kernel
theorem dX1_open_15 : decode cX1_open 15 = .ok (.aload_n 0, 1) := by decide +kernel
theorem dX1_open_16 : decode cX1_open 16 = .ok (.iconst 0, 1) := by decide +kernel
theorem dX1_open_17 : decode cX1_open 17 = .ok (.putfield 19, 3) := by decide +kernel
theorem dX1_open_20 : decode cX1_open 20 = .ok (.return_, 1) := by decide +kernel
theorem dX1_narrow_0 : decode cX1_narrow 0 = .ok (.aload_n 1, 1) := by decide +kernel
theorem dX1_narrow_1 : decode cX1_narrow 1 = .ok (.getfield 28, 3) := by decide +kernel
theorem dX1_narrow_4 : decode cX1_narrow 4 = .ok (.tableswitch 84 5 7 #[28, 46, 64], 28) := by decide +kernel
theorem dX1_narrow_32 : decode cX1_narrow 32 = .ok (.aload_n 0, 1) := by decide +kernel
theorem dX1_narrow_33 : decode cX1_narrow 33 = .ok (.dup, 1) := by decide +kernel
theorem dX1_narrow_34 : decode cX1_narrow 34 = .ok (.getfield 15, 3) := by decide +kernel
theorem dX1_narrow_37 : decode cX1_narrow 37 = .ok (.iconst 1, 1) := by decide +kernel
theorem dX1_narrow_38 : decode cX1_narrow 38 = .ok (.aload_n 1, 1) := by decide +kernel
theorem dX1_narrow_39 : decode cX1_narrow 39 = .ok (.getfield 33, 3) := by decide +kernel
theorem dX1_narrow_42 : decode cX1_narrow 42 = .ok (.ishl, 1) := by decide +kernel
theorem dX1_narrow_43 : decode cX1_narrow 43 = .ok (.ior, 1) := by decide +kernel
theorem dX1_narrow_44 : decode cX1_narrow 44 = .ok (.putfield 15, 3) := by decide +kernel
theorem dX1_narrow_47 : decode cX1_narrow 47 = .ok (.goto 53, 3) := by decide +kernel
theorem dX1_narrow_50 : decode cX1_narrow 50 = .ok (.aload_n 0, 1) := by decide +kernel
theorem dX1_narrow_51 : decode cX1_narrow 51 = .ok (.dup, 1) := by decide +kernel
theorem dX1_narrow_52 : decode cX1_narrow 52 = .ok (.getfield 19, 3) := by decide +kernel
theorem dX1_narrow_55 : decode cX1_narrow 55 = .ok (.iconst 1, 1) := by decide +kernel
theorem dX1_narrow_56 : decode cX1_narrow 56 = .ok (.aload_n 1, 1) := by decide +kernel
theorem dX1_narrow_57 : decode cX1_narrow 57 = .ok (.getfield 33, 3) := by decide +kernel
theorem dX1_narrow_60 : decode cX1_narrow 60 = .ok (.ishl, 1) := by decide +kernel
theorem dX1_narrow_61 : decode cX1_narrow 61 = .ok (.ior, 1) := by decide +kernel
theorem dX1_narrow_62 : decode cX1_narrow 62 = .ok (.putfield 19, 3) := by decide +kernel
theorem dX1_narrow_65 : decode cX1_narrow 65 = .ok (.goto 35, 3) := by decide +kernel
theorem dX1_narrow_68 : decode cX1_narrow 68 = .ok (.aload_n 0, 1) := by decide +kernel
theorem dX1_narrow_69 : decode cX1_narrow 69 = .ok (.dup, 1) := by decide +kernel
theorem dX1_narrow_70 : decode cX1_narrow 70 = .ok (.getfield 19, 3) := by decide +kernel
theorem dX1_narrow_73 : decode cX1_narrow 73 = .ok (.iconst 1, 1) := by decide +kernel
theorem dX1_narrow_74 : decode cX1_narrow 74 = .ok (.aload_n 1, 1) := by decide +kernel
theorem dX1_narrow_75 : decode cX1_narrow 75 = .ok (.getfield 33, 3) := by decide +kernel
theorem dX1_narrow_78 : decode cX1_narrow 78 = .ok (.ishl, 1) := by decide +kernel
theorem dX1_narrow_79 : decode cX1_narrow 79 = .ok (.iconst (-1), 1) := by decide +kernel
theorem dX1_narrow_80 : decode cX1_narrow 80 = .ok (.ixor, 1) := by decide +kernel
theorem dX1_narrow_81 : decode cX1_narrow 81 = .ok (.ior, 1) := by decide +kernel
theorem dX1_narrow_82 : decode cX1_narrow 82 = .ok (.putfield 19, 3) := by decide +kernel
theorem dX1_narrow_85 : decode cX1_narrow 85 = .ok (.goto 15, 3) := by decide +kernel
theorem dX1_narrow_88 : decode cX1_narrow 88 = .ok (.aload_n 0, 1) := by decide +kernel
theorem dX1_narrow_89 : decode cX1_narrow 89 = .ok (.aload_n 1, 1) := by decide +kernel
theorem dX1_narrow_90 : decode cX1_narrow 90 = .ok (.getfield 28, 3) := by decide +kernel
theorem dX1_narrow_93 : decode cX1_narrow 93 = .ok (.aload_n 1, 1) := by decide +kernel
theorem dX1_narrow_94 : decode cX1_narrow 94 = .ok (.getfield 33, 3) := by decide +kernel
theorem dX1_narrow_97 : decode cX1_narrow 97 = .ok (.invokevirtual 36, 3) := by decide +kernel
theorem dX1_narrow_100 : decode cX1_narrow 100 = .ok (.return_, 1) := by decide +kernel
theorem dX1_lower_0 : decode cX1_lower 0 = .ok (.iload_n 1, 1) := by decide +kernel
theorem dX1_lower_1 : decode cX1_lower 1 = .ok (.ifCond .lt 28, 3) := by decide +kernel
theorem dX1_lower_4 : decode cX1_lower 4 = .ok (.iload_n 1, 1) := by decide +kernel
theorem dX1_lower_5 : decode cX1_lower 5 = .ok (.aload_n 0, 1) := by decide +kernel
theorem dX1_lower_6 : decode cX1_lower 6 = .ok (.getfield 9, 3) := by decide +kernel
theorem dX1_lower_9 : decode cX1_lower 9 = .ok (.arraylength, 1) := by decide +kernel
theorem dX1_lower_10 : decode cX1_lower 10 = .ok (.if_icmp .ge 19, 3) := by decide +kernel
theorem dX1_lower_13 : decode cX1_lower 13 = .ok (.aload_n 0, 1) := by decide +kernel
theorem dX1_lower_14 : decode cX1_lower 14 = .ok (.getfield 9, 3) := by decide +kernel
theorem dX1_lower_17 : decode cX1_lower 17 = .ok (.iload_n 1, 1) := by decide +kernel
theorem dX1_lower_18 : decode cX1_lower 18 = .ok (.aload_n 0, 1) := by decide +kernel
theorem dX1_lower_19 : decode cX1_lower 19 = .ok (.getfield 9, 3) := by decide +kernel
theorem dX1_lower_22 : decode cX1_lower 22 = .ok (.iload_n 1, 1) := by decide +kernel
theorem dX1_lower_23 : decode cX1_lower 23 = .ok (.iaload, 1) := by decide +kernel
theorem dX1_lower_24 : decode cX1_lower 24 = .ok (.iload_n 2, 1) := by decide +kernel
theorem dX1_lower_25 : decode cX1_lower 25 = .ok (.invokestatic 40, 3) := by decide +kernel
theorem dX1_lower_28 : decode cX1_lower 28 = .ok (.iastore, 1) := by decide +kernel
theorem dX1_lower_29 : decode cX1_lower 29 = .ok (.return_, 1) := by decide +kernel
theorem dX1_limitOf_0 : decode cX1_limitOf 0 = .ok (.iload_n 1, 1) := by decide +kernel
theorem dX1_limitOf_1 : decode cX1_limitOf 1 = .ok (.ifCond .lt 21, 3) := by decide +kernel
theorem dX1_limitOf_4 : decode cX1_limitOf 4 = .ok (.iload_n 1, 1) := by decide +kernel
theorem dX1_limitOf_5 : decode cX1_limitOf 5 = .ok (.aload_n 0, 1) := by decide +kernel
theorem dX1_limitOf_6 : decode cX1_limitOf 6 = .ok (.getfield 9, 3) := by decide +kernel
theorem dX1_limitOf_9 : decode cX1_limitOf 9 = .ok (.arraylength, 1) := by decide +kernel
theorem dX1_limitOf_10 : decode cX1_limitOf 10 = .ok (.if_icmp .ge 12, 3) := by decide +kernel
theorem dX1_limitOf_13 : decode cX1_limitOf 13 = .ok (.aload_n 0, 1) := by decide +kernel
theorem dX1_limitOf_14 : decode cX1_limitOf 14 = .ok (.getfield 9, 3) := by decide +kernel
theorem dX1_limitOf_17 : decode cX1_limitOf 17 = .ok (.iload_n 1, 1) := by decide +kernel
theorem dX1_limitOf_18 : decode cX1_limitOf 18 = .ok (.iaload, 1) := by decide +kernel
theorem dX1_limitOf_19 : decode cX1_limitOf 19 = .ok (.goto 6, 3) := by decide +kernel
theorem dX1_limitOf_22 : decode cX1_limitOf 22 = .ok (.sipush 9999, 3) := by decide +kernel
theorem dX1_limitOf_25 : decode cX1_limitOf 25 = .ok (.ireturn, 1) := by decide +kernel
theorem dX1_leavesStuff_0 : decode cX1_leavesStuff 0 = .ok (.aload_n 0, 1) := by decide +kernel
theorem dX1_leavesStuff_1 : decode cX1_leavesStuff 1 = .ok (.getfield 15, 3) := by decide +kernel
theorem dX1_leavesStuff_4 : decode cX1_leavesStuff 4 = .ok (.iload_n 1, 1) := by decide +kernel
theorem dX1_leavesStuff_5 : decode cX1_leavesStuff 5 = .ok (.iushr, 1) := by decide +kernel
theorem dX1_leavesStuff_6 : decode cX1_leavesStuff 6 = .ok (.iconst 1, 1) := by decide +kernel
theorem dX1_leavesStuff_7 : decode cX1_leavesStuff 7 = .ok (.iand, 1) := by decide +kernel
theorem dX1_leavesStuff_8 : decode cX1_leavesStuff 8 = .ok (.ifCond .ne 7, 3) := by decide +kernel
theorem dX1_leavesStuff_11 : decode cX1_leavesStuff 11 = .ok (.iconst 1, 1) := by decide +kernel
theorem dX1_leavesStuff_12 : decode cX1_leavesStuff 12 = .ok (.goto 4, 3) := by decide +kernel
theorem dX1_leavesStuff_15 : decode cX1_leavesStuff 15 = .ok (.iconst 0, 1) := by decide +kernel
theorem dX1_leavesStuff_16 : decode cX1_leavesStuff 16 = .ok (.ireturn, 1) := by decide +kernel
theorem dX1_leavesColour_0 : decode cX1_leavesColour 0 = .ok (.aload_n 0, 1) := by decide +kernel
theorem dX1_leavesColour_1 : decode cX1_leavesColour 1 = .ok (.getfield 19, 3) := by decide +kernel
theorem dX1_leavesColour_4 : decode cX1_leavesColour 4 = .ok (.iload_n 1, 1) := by decide +kernel
theorem dX1_leavesColour_5 : decode cX1_leavesColour 5 = .ok (.iushr, 1) := by decide +kernel
theorem dX1_leavesColour_6 : decode cX1_leavesColour 6 = .ok (.iconst 1, 1) := by decide +kernel
theorem dX1_leavesColour_7 : decode cX1_leavesColour 7 = .ok (.iand, 1) := by decide +kernel
theorem dX1_leavesColour_8 : decode cX1_leavesColour 8 = .ok (.ifCond .ne 7, 3) := by decide +kernel
theorem dX1_leavesColour_11 : decode cX1_leavesColour 11 = .ok (.iconst 1, 1) := by decide +kernel
theorem dX1_leavesColour_12 : decode cX1_leavesColour 12 = .ok (.goto 4, 3) := by decide +kernel
theorem dX1_leavesColour_15 : decode cX1_leavesColour 15 = .ok (.iconst 0, 1) := by decide +kernel
theorem dX1_leavesColour_16 : decode cX1_leavesColour 16 = .ok (.ireturn, 1) := by decide +kernel
theorem dX2_init_0 : decode cX2_init 0 = .ok (.aload_n 0, 1) := by decide +kernel
theorem dX2_init_1 : decode cX2_init 1 = .ok (.invokespecial 3, 3) := by decide +kernel
theorem dX2_init_4 : decode cX2_init 4 = .ok (.aload_n 0, 1) := by decide +kernel
theorem dX2_init_5 : decode cX2_init 5 = .ok (.bipush 12, 2) := by decide +kernel
theorem dX2_init_7 : decode cX2_init 7 = .ok (.anewarray 9, 3) := by decide +kernel
theorem dX2_init_10 : decode cX2_init 10 = .ok (.putfield 11, 3) := by decide +kernel
theorem dX2_init_13 : decode cX2_init 13 = .ok (.aload_n 0, 1) := by decide +kernel
theorem dX2_init_14 : decode cX2_init 14 = .ok (.iconst 0, 1) := by decide +kernel
theorem dX2_init_15 : decode cX2_init 15 = .ok (.putfield 17, 3) := by decide +kernel
theorem dX2_init_18 : decode cX2_init 18 = .ok (.return_, 1) := by decide +kernel
theorem dX2_size_0 : decode cX2_size 0 = .ok (.aload_n 0, 1) := by decide +kernel
theorem dX2_size_1 : decode cX2_size 1 = .ok (.getfield 17, 3) := by decide +kernel
theorem dX2_size_4 : decode cX2_size 4 = .ok (.ireturn, 1) := by decide +kernel
theorem dX2_find_0 : decode cX2_find 0 = .ok (.iload_n 1, 1) := by decide +kernel
theorem dX2_find_1 : decode cX2_find 1 = .ok (.ifCond .lt 29, 3) := by decide +kernel
theorem dX2_find_4 : decode cX2_find 4 = .ok (.iload_n 1, 1) := by decide +kernel
theorem dX2_find_5 : decode cX2_find 5 = .ok (.aload_n 0, 1) := by decide +kernel
theorem dX2_find_6 : decode cX2_find 6 = .ok (.getfield 17, 3) := by decide +kernel
theorem dX2_find_9 : decode cX2_find 9 = .ok (.if_icmp .ge 21, 3) := by decide +kernel
theorem dX2_find_12 : decode cX2_find 12 = .ok (.iload_n 1, 1) := by decide +kernel
theorem dX2_find_13 : decode cX2_find 13 = .ok (.aload_n 0, 1) := by decide +kernel
theorem dX2_find_14 : decode cX2_find 14 = .ok (.getfield 11, 3) := by decide +kernel
theorem dX2_find_17 : decode cX2_find 17 = .ok (.arraylength, 1) := by decide +kernel
theorem dX2_find_18 : decode cX2_find 18 = .ok (.if_icmp .ge 12, 3) := by decide +kernel
theorem dX2_find_21 : decode cX2_find 21 = .ok (.aload_n 0, 1) := by decide +kernel
theorem dX2_find_22 : decode cX2_find 22 = .ok (.getfield 11, 3) := by decide +kernel
theorem dX2_find_25 : decode cX2_find 25 = .ok (.iload_n 1, 1) := by decide +kernel
theorem dX2_find_26 : decode cX2_find 26 = .ok (.aaload, 1) := by decide +kernel
theorem dX2_find_27 : decode cX2_find 27 = .ok (.goto 4, 3) := by decide +kernel
theorem dX2_find_30 : decode cX2_find 30 = .ok (.aconst_null, 1) := by decide +kernel
theorem dX2_find_31 : decode cX2_find 31 = .ok (.areturn, 1) := by decide +kernel
theorem dX2_latestFirstDay_0 : decode cX2_latestFirstDay 0 = .ok (.aload_n 0, 1) := by decide +kernel
theorem dX2_latestFirstDay_1 : decode cX2_latestFirstDay 1 = .ok (.aload_n 0, 1) := by decide +kernel
theorem dX2_latestFirstDay_2 : decode cX2_latestFirstDay 2 = .ok (.getfield 17, 3) := by decide +kernel
theorem dX2_latestFirstDay_5 : decode cX2_latestFirstDay 5 = .ok (.iconst 1, 1) := by decide +kernel
theorem dX2_latestFirstDay_6 : decode cX2_latestFirstDay 6 = .ok (.isub, 1) := by decide +kernel
theorem dX2_latestFirstDay_7 : decode cX2_latestFirstDay 7 = .ok (.invokevirtual 21, 3) := by decide +kernel
theorem dX2_latestFirstDay_10 : decode cX2_latestFirstDay 10 = .ok (.astore_n 1, 1) := by decide +kernel
theorem dX2_latestFirstDay_11 : decode cX2_latestFirstDay 11 = .ok (.aload_n 1, 1) := by decide +kernel
theorem dX2_latestFirstDay_12 : decode cX2_latestFirstDay 12 = .ok (.ifnonnull 7, 3) := by decide +kernel
theorem dX2_latestFirstDay_15 : decode cX2_latestFirstDay 15 = .ok (.iconst 0, 1) := by decide +kernel
theorem dX2_latestFirstDay_16 : decode cX2_latestFirstDay 16 = .ok (.goto 7, 3) := by decide +kernel
theorem dX2_latestFirstDay_19 : decode cX2_latestFirstDay 19 = .ok (.aload_n 1, 1) := by decide +kernel
theorem dX2_latestFirstDay_20 : decode cX2_latestFirstDay 20 = .ok (.getfield 25, 3) := by decide +kernel
theorem dX2_latestFirstDay_23 : decode cX2_latestFirstDay 23 = .ok (.ireturn, 1) := by decide +kernel
theorem dX2_add_0 : decode cX2_add 0 = .ok (.aload_n 0, 1) := by decide +kernel
theorem dX2_add_1 : decode cX2_add 1 = .ok (.getfield 17, 3) := by decide +kernel
theorem dX2_add_4 : decode cX2_add 4 = .ok (.aload_n 0, 1) := by decide +kernel
theorem dX2_add_5 : decode cX2_add 5 = .ok (.getfield 11, 3) := by decide +kernel
theorem dX2_add_8 : decode cX2_add 8 = .ok (.arraylength, 1) := by decide +kernel
theorem dX2_add_9 : decode cX2_add 9 = .ok (.if_icmp .ge 28, 3) := by decide +kernel
theorem dX2_add_12 : decode cX2_add 12 = .ok (.aload_n 1, 1) := by decide +kernel
theorem dX2_add_13 : decode cX2_add 13 = .ok (.iload_n 2, 1) := by decide +kernel
theorem dX2_add_14 : decode cX2_add 14 = .ok (.putfield 25, 3) := by decide +kernel
theorem dX2_add_17 : decode cX2_add 17 = .ok (.aload_n 0, 1) := by decide +kernel
theorem dX2_add_18 : decode cX2_add 18 = .ok (.getfield 11, 3) := by decide +kernel
theorem dX2_add_21 : decode cX2_add 21 = .ok (.aload_n 0, 1) := by decide +kernel
theorem dX2_add_22 : decode cX2_add 22 = .ok (.getfield 17, 3) := by decide +kernel
theorem dX2_add_25 : decode cX2_add 25 = .ok (.aload_n 1, 1) := by decide +kernel
theorem dX2_add_26 : decode cX2_add 26 = .ok (.aastore, 1) := by decide +kernel
theorem dX2_add_27 : decode cX2_add 27 = .ok (.aload_n 0, 1) := by decide +kernel
theorem dX2_add_28 : decode cX2_add 28 = .ok (.dup, 1) := by decide +kernel
theorem dX2_add_29 : decode cX2_add 29 = .ok (.getfield 17, 3) := by decide +kernel
theorem dX2_add_32 : decode cX2_add 32 = .ok (.iconst 1, 1) := by decide +kernel
theorem dX2_add_33 : decode cX2_add 33 = .ok (.iadd, 1) := by decide +kernel
theorem dX2_add_34 : decode cX2_add 34 = .ok (.putfield 17, 3) := by decide +kernel
theorem dX2_add_37 : decode cX2_add 37 = .ok (.return_, 1) := by decide +kernel
theorem dX2_inForce_0 : decode cX2_inForce 0 = .ok (.iconst 0, 1) := by decide +kernel
theorem dX2_inForce_1 : decode cX2_inForce 1 = .ok (.istore_n 2, 1) := by decide +kernel
theorem dX2_inForce_2 : decode cX2_inForce 2 = .ok (.iconst 0, 1) := by decide +kernel
theorem dX2_inForce_3 : decode cX2_inForce 3 = .ok (.istore_n 3, 1) := by decide +kernel
theorem dX2_inForce_4 : decode cX2_inForce 4 = .ok (.iconst 0, 1) := by decide +kernel
theorem dX2_inForce_5 : decode cX2_inForce 5 = .ok (.istore 4, 2) := by decide +kernel
theorem dX2_inForce_7 : decode cX2_inForce 7 = .ok (.iload 4, 2) := by decide +kernel
theorem dX2_inForce_9 : decode cX2_inForce 9 = .ok (.aload_n 0, 1) := by decide +kernel
theorem dX2_inForce_10 : decode cX2_inForce 10 = .ok (.getfield 17, 3) := by decide +kernel
theorem dX2_inForce_13 : decode cX2_inForce 13 = .ok (.if_icmp .ge 46, 3) := by decide +kernel
theorem dX2_inForce_16 : decode cX2_inForce 16 = .ok (.aload_n 0, 1) := by decide +kernel
theorem dX2_inForce_17 : decode cX2_inForce 17 = .ok (.iload 4, 2) := by decide +kernel
theorem dX2_inForce_19 : decode cX2_inForce 19 = .ok (.invokevirtual 21, 3) := by decide +kernel
theorem dX2_inForce_22 : decode cX2_inForce 22 = .ok (.astore 5, 2) := by decide +kernel
theorem dX2_inForce_24 : decode cX2_inForce 24 = .ok (.aload 5, 2) := by decide +kernel
theorem dX2_inForce_26 : decode cX2_inForce 26 = .ok (.ifnull 27, 3) := by decide +kernel
theorem dX2_inForce_29 : decode cX2_inForce 29 = .ok (.aload 5, 2) := by decide +kernel
theorem dX2_inForce_31 : decode cX2_inForce 31 = .ok (.getfield 25, 3) := by decide +kernel
theorem dX2_inForce_34 : decode cX2_inForce 34 = .ok (.iload_n 1, 1) := by decide +kernel
theorem dX2_inForce_35 : decode cX2_inForce 35 = .ok (.if_icmp .gt 18, 3) := by decide +kernel
theorem dX2_inForce_38 : decode cX2_inForce 38 = .ok (.iload_n 2, 1) := by decide +kernel
theorem dX2_inForce_39 : decode cX2_inForce 39 = .ok (.iconst 1, 1) := by decide +kernel
theorem dX2_inForce_40 : decode cX2_inForce 40 = .ok (.iload 4, 2) := by decide +kernel
theorem dX2_inForce_42 : decode cX2_inForce 42 = .ok (.ishl, 1) := by decide +kernel
theorem dX2_inForce_43 : decode cX2_inForce 43 = .ok (.ior, 1) := by decide +kernel
theorem dX2_inForce_44 : decode cX2_inForce 44 = .ok (.istore_n 2, 1) := by decide +kernel
theorem dX2_inForce_45 : decode cX2_inForce 45 = .ok (.iload_n 3, 1) := by decide +kernel
theorem dX2_inForce_46 : decode cX2_inForce 46 = .ok (.aload 5, 2) := by decide +kernel
theorem dX2_inForce_48 : decode cX2_inForce 48 = .ok (.getfield 28, 3) := by decide +kernel
theorem dX2_inForce_51 : decode cX2_inForce 51 = .ok (.ior, 1) := by decide +kernel
theorem dX2_inForce_52 : decode cX2_inForce 52 = .ok (.istore_n 3, 1) := by decide +kernel
theorem dX2_inForce_53 : decode cX2_inForce 53 = .ok (.iinc 4 1, 3) := by decide +kernel
theorem dX2_inForce_56 : decode cX2_inForce 56 = .ok (.goto (-49), 3) := by decide +kernel
theorem dX2_inForce_59 : decode cX2_inForce 59 = .ok (.iload_n 2, 1) := by decide +kernel
theorem dX2_inForce_60 : decode cX2_inForce 60 = .ok (.iload_n 3, 1) := by decide +kernel
theorem dX2_inForce_61 : decode cX2_inForce 61 = .ok (.iconst (-1), 1) := by decide +kernel
theorem dX2_inForce_62 : decode cX2_inForce 62 = .ok (.ixor, 1) := by decide +kernel
theorem dX2_inForce_63 : decode cX2_inForce 63 = .ok (.iand, 1) := by decide +kernel
theorem dX2_inForce_64 : decode cX2_inForce 64 = .ok (.ireturn, 1) := by decide +kernel
theorem dX2_among_0 : decode cX2_among 0 = .ok (.iload_n 1, 1) := by decide +kernel
theorem dX2_among_1 : decode cX2_among 1 = .ok (.iload_n 2, 1) := by decide +kernel
theorem dX2_among_2 : decode cX2_among 2 = .ok (.iushr, 1) := by decide +kernel
theorem dX2_among_3 : decode cX2_among 3 = .ok (.iconst 1, 1) := by decide +kernel
theorem dX2_among_4 : decode cX2_among 4 = .ok (.iand, 1) := by decide +kernel
theorem dX2_among_5 : decode cX2_among 5 = .ok (.iconst 1, 1) := by decide +kernel
theorem dX2_among_6 : decode cX2_among 6 = .ok (.if_icmp .ne 11, 3) := by decide +kernel
theorem dX2_among_9 : decode cX2_among 9 = .ok (.aload_n 0, 1) := by decide +kernel
theorem dX2_among_10 : decode cX2_among 10 = .ok (.iload_n 2, 1) := by decide +kernel
theorem dX2_among_11 : decode cX2_among 11 = .ok (.invokevirtual 21, 3) := by decide +kernel
theorem dX2_among_14 : decode cX2_among 14 = .ok (.goto 4, 3) := by decide +kernel
theorem dX2_among_17 : decode cX2_among 17 = .ok (.aconst_null, 1) := by decide +kernel
theorem dX2_among_18 : decode cX2_among 18 = .ok (.areturn, 1) := by decide +kernel
theorem dX2_partOn_0 : decode cX2_partOn 0 = .ok (.aload_n 0, 1) := by decide +kernel
theorem dX2_partOn_1 : decode cX2_partOn 1 = .ok (.iload_n 1, 1) := by decide +kernel
theorem dX2_partOn_2 : decode cX2_partOn 2 = .ok (.invokevirtual 31, 3) := by decide +kernel
theorem dX2_partOn_5 : decode cX2_partOn 5 = .ok (.istore_n 2, 1) := by decide +kernel
theorem dX2_partOn_6 : decode cX2_partOn 6 = .ok (.aload_n 0, 1) := by decide +kernel
theorem dX2_partOn_7 : decode cX2_partOn 7 = .ok (.getfield 17, 3) := by decide +kernel
theorem dX2_partOn_10 : decode cX2_partOn 10 = .ok (.iconst 1, 1) := by decide +kernel
theorem dX2_partOn_11 : decode cX2_partOn 11 = .ok (.isub, 1) := by decide +kernel
theorem dX2_partOn_12 : decode cX2_partOn 12 = .ok (.istore_n 3, 1) := by decide +kernel
theorem dX2_partOn_13 : decode cX2_partOn 13 = .ok (.iload_n 3, 1) := by decide +kernel
theorem dX2_partOn_14 : decode cX2_partOn 14 = .ok (.ifCond .lt 37, 3) := by decide +kernel
theorem dX2_partOn_17 : decode cX2_partOn 17 = .ok (.aload_n 0, 1) := by decide +kernel
theorem dX2_partOn_18 : decode cX2_partOn 18 = .ok (.iload_n 2, 1) := by decide +kernel
theorem dX2_partOn_19 : decode cX2_partOn 19 = .ok (.iload_n 3, 1) := by decide +kernel
theorem dX2_partOn_20 : decode cX2_partOn 20 = .ok (.invokevirtual 35, 3) := by decide +kernel
theorem dX2_partOn_23 : decode cX2_partOn 23 = .ok (.astore 4, 2) := by decide +kernel
theorem dX2_partOn_25 : decode cX2_partOn 25 = .ok (.aload 4, 2) := by decide +kernel
theorem dX2_partOn_27 : decode cX2_partOn 27 = .ok (.ifnull 18, 3) := by decide +kernel
theorem dX2_partOn_30 : decode cX2_partOn 30 = .ok (.aload 4, 2) := by decide +kernel
theorem dX2_partOn_32 : decode cX2_partOn 32 = .ok (.getfield 39, 3) := by decide +kernel
theorem dX2_partOn_35 : decode cX2_partOn 35 = .ok (.iconst (-1), 1) := by decide +kernel
theorem dX2_partOn_36 : decode cX2_partOn 36 = .ok (.if_icmp .eq 9, 3) := by decide +kernel
theorem dX2_partOn_39 : decode cX2_partOn 39 = .ok (.aload 4, 2) := by decide +kernel
theorem dX2_partOn_41 : decode cX2_partOn 41 = .ok (.getfield 39, 3) := by decide +kernel
theorem dX2_partOn_44 : decode cX2_partOn 44 = .ok (.ireturn, 1) := by decide +kernel
theorem dX2_partOn_45 : decode cX2_partOn 45 = .ok (.iinc 3 (-1), 3) := by decide +kernel
theorem dX2_partOn_48 : decode cX2_partOn 48 = .ok (.goto (-35), 3) := by decide +kernel
theorem dX2_partOn_51 : decode cX2_partOn 51 = .ok (.iconst 0, 1) := by decide +kernel
theorem dX2_partOn_52 : decode cX2_partOn 52 = .ok (.ireturn, 1) := by decide +kernel
theorem dX2_reaching_0 : decode cX2_reaching 0 = .ok (.aload_n 0, 1) := by decide +kernel
theorem dX2_reaching_1 : decode cX2_reaching 1 = .ok (.aload_n 1, 1) := by decide +kernel
theorem dX2_reaching_2 : decode cX2_reaching 2 = .ok (.getfield 42, 3) := by decide +kernel
theorem dX2_reaching_5 : decode cX2_reaching 5 = .ok (.invokevirtual 31, 3) := by decide +kernel
theorem dX2_reaching_8 : decode cX2_reaching 8 = .ok (.istore_n 2, 1) := by decide +kernel
theorem dX2_reaching_9 : decode cX2_reaching 9 = .ok (.iconst 0, 1) := by decide +kernel
theorem dX2_reaching_10 : decode cX2_reaching 10 = .ok (.istore_n 3, 1) := by decide +kernel
theorem dX2_reaching_11 : decode cX2_reaching 11 = .ok (.iload_n 3, 1) := by decide +kernel
theorem dX2_reaching_12 : decode cX2_reaching 12 = .ok (.aload_n 0, 1) := by decide +kernel
theorem dX2_reaching_13 : decode cX2_reaching 13 = .ok (.getfield 17, 3) := by decide +kernel
theorem dX2_reaching_16 : decode cX2_reaching 16 = .ok (.if_icmp .ge 38, 3) := by decide +kernel
theorem dX2_reaching_19 : decode cX2_reaching 19 = .ok (.aload_n 0, 1) := by decide +kernel
theorem dX2_reaching_20 : decode cX2_reaching 20 = .ok (.iload_n 3, 1) := by decide +kernel
theorem dX2_reaching_21 : decode cX2_reaching 21 = .ok (.invokevirtual 21, 3) := by decide +kernel
theorem dX2_reaching_24 : decode cX2_reaching 24 = .ok (.astore 4, 2) := by decide +kernel
theorem dX2_reaching_26 : decode cX2_reaching 26 = .ok (.aload 4, 2) := by decide +kernel
theorem dX2_reaching_28 : decode cX2_reaching 28 = .ok (.ifnull 20, 3) := by decide +kernel
theorem dX2_reaching_31 : decode cX2_reaching 31 = .ok (.aload 4, 2) := by decide +kernel
theorem dX2_reaching_33 : decode cX2_reaching 33 = .ok (.aload_n 1, 1) := by decide +kernel
theorem dX2_reaching_34 : decode cX2_reaching 34 = .ok (.invokevirtual 47, 3) := by decide +kernel
theorem dX2_reaching_37 : decode cX2_reaching 37 = .ok (.ifCond .eq 11, 3) := by decide +kernel
theorem dX2_reaching_40 : decode cX2_reaching 40 = .ok (.iload_n 2, 1) := by decide +kernel
theorem dX2_reaching_41 : decode cX2_reaching 41 = .ok (.iconst 1, 1) := by decide +kernel
theorem dX2_reaching_42 : decode cX2_reaching 42 = .ok (.iload_n 3, 1) := by decide +kernel
theorem dX2_reaching_43 : decode cX2_reaching 43 = .ok (.ishl, 1) := by decide +kernel
theorem dX2_reaching_44 : decode cX2_reaching 44 = .ok (.iconst (-1), 1) := by decide +kernel
theorem dX2_reaching_45 : decode cX2_reaching 45 = .ok (.ixor, 1) := by decide +kernel
theorem dX2_reaching_46 : decode cX2_reaching 46 = .ok (.iand, 1) := by decide +kernel
theorem dX2_reaching_47 : decode cX2_reaching 47 = .ok (.istore_n 2, 1) := by decide +kernel
theorem dX2_reaching_48 : decode cX2_reaching 48 = .ok (.iinc 3 1, 3) := by decide +kernel
theorem dX2_reaching_51 : decode cX2_reaching 51 = .ok (.goto (-40), 3) := by decide +kernel
theorem dX2_reaching_54 : decode cX2_reaching 54 = .ok (.iload_n 2, 1) := by decide +kernel
theorem dX2_reaching_55 : decode cX2_reaching 55 = .ok (.ireturn, 1) := by decide +kernel
theorem dX2_brokenRules_0 : decode cX2_brokenRules 0 = .ok (.aload_n 0, 1) := by decide +kernel
theorem dX2_brokenRules_1 : decode cX2_brokenRules 1 = .ok (.aload_n 0, 1) := by decide +kernel
theorem dX2_brokenRules_2 : decode cX2_brokenRules 2 = .ok (.aload_n 2, 1) := by decide +kernel
theorem dX2_brokenRules_3 : decode cX2_brokenRules 3 = .ok (.invokevirtual 51, 3) := by decide +kernel
theorem dX2_brokenRules_6 : decode cX2_brokenRules 6 = .ok (.iload_n 1, 1) := by decide +kernel
theorem dX2_brokenRules_7 : decode cX2_brokenRules 7 = .ok (.invokevirtual 35, 3) := by decide +kernel
theorem dX2_brokenRules_10 : decode cX2_brokenRules 10 = .ok (.astore_n 3, 1) := by decide +kernel
theorem dX2_brokenRules_11 : decode cX2_brokenRules 11 = .ok (.aload_n 3, 1) := by decide +kernel
theorem dX2_brokenRules_12 : decode cX2_brokenRules 12 = .ok (.ifnonnull 7, 3) := by decide +kernel
theorem dX2_brokenRules_15 : decode cX2_brokenRules 15 = .ok (.iconst 0, 1) := by decide +kernel
theorem dX2_brokenRules_16 : decode cX2_brokenRules 16 = .ok (.goto 8, 3) := by decide +kernel
theorem dX2_brokenRules_19 : decode cX2_brokenRules 19 = .ok (.aload_n 3, 1) := by decide +kernel
theorem dX2_brokenRules_20 : decode cX2_brokenRules 20 = .ok (.aload_n 2, 1) := by decide +kernel
theorem dX2_brokenRules_21 : decode cX2_brokenRules 21 = .ok (.invokevirtual 55, 3) := by decide +kernel
theorem dX2_brokenRules_24 : decode cX2_brokenRules 24 = .ok (.ireturn, 1) := by decide +kernel
theorem dX2_penceOfBroken_0 : decode cX2_penceOfBroken 0 = .ok (.aload_n 0, 1) := by decide +kernel
theorem dX2_penceOfBroken_1 : decode cX2_penceOfBroken 1 = .ok (.aload_n 1, 1) := by decide +kernel
theorem dX2_penceOfBroken_2 : decode cX2_penceOfBroken 2 = .ok (.invokevirtual 51, 3) := by decide +kernel
theorem dX2_penceOfBroken_5 : decode cX2_penceOfBroken 5 = .ok (.istore_n 2, 1) := by decide +kernel
theorem dX2_penceOfBroken_6 : decode cX2_penceOfBroken 6 = .ok (.iconst 0, 1) := by decide +kernel
theorem dX2_penceOfBroken_7 : decode cX2_penceOfBroken 7 = .ok (.istore_n 3, 1) := by decide +kernel
theorem dX2_penceOfBroken_8 : decode cX2_penceOfBroken 8 = .ok (.iconst 0, 1) := by decide +kernel
theorem dX2_penceOfBroken_9 : decode cX2_penceOfBroken 9 = .ok (.istore 4, 2) := by decide +kernel
theorem dX2_penceOfBroken_11 : decode cX2_penceOfBroken 11 = .ok (.iload 4, 2) := by decide +kernel
theorem dX2_penceOfBroken_13 : decode cX2_penceOfBroken 13 = .ok (.aload_n 0, 1) := by decide +kernel
theorem dX2_penceOfBroken_14 : decode cX2_penceOfBroken 14 = .ok (.getfield 17, 3) := by decide +kernel
theorem dX2_penceOfBroken_17 : decode cX2_penceOfBroken 17 = .ok (.if_icmp .ge 37, 3) := by decide +kernel
theorem dX2_penceOfBroken_20 : decode cX2_penceOfBroken 20 = .ok (.aload_n 0, 1) := by decide +kernel
theorem dX2_penceOfBroken_21 : decode cX2_penceOfBroken 21 = .ok (.iload_n 2, 1) := by decide +kernel
theorem dX2_penceOfBroken_22 : decode cX2_penceOfBroken 22 = .ok (.iload 4, 2) := by decide +kernel
theorem dX2_penceOfBroken_24 : decode cX2_penceOfBroken 24 = .ok (.invokevirtual 35, 3) := by decide +kernel
theorem dX2_penceOfBroken_27 : decode cX2_penceOfBroken 27 = .ok (.astore 5, 2) := by decide +kernel
theorem dX2_penceOfBroken_29 : decode cX2_penceOfBroken 29 = .ok (.aload 5, 2) := by decide +kernel
theorem dX2_penceOfBroken_31 : decode cX2_penceOfBroken 31 = .ok (.ifnull 17, 3) := by decide +kernel
theorem dX2_penceOfBroken_34 : decode cX2_penceOfBroken 34 = .ok (.iload_n 3, 1) := by decide +kernel
theorem dX2_penceOfBroken_35 : decode cX2_penceOfBroken 35 = .ok (.aload 5, 2) := by decide +kernel
theorem dX2_penceOfBroken_37 : decode cX2_penceOfBroken 37 = .ok (.aload 5, 2) := by decide +kernel
theorem dX2_penceOfBroken_39 : decode cX2_penceOfBroken 39 = .ok (.aload_n 1, 1) := by decide +kernel
theorem dX2_penceOfBroken_40 : decode cX2_penceOfBroken 40 = .ok (.invokevirtual 55, 3) := by decide +kernel
theorem dX2_penceOfBroken_43 : decode cX2_penceOfBroken 43 = .ok (.invokevirtual 58, 3) := by decide +kernel
theorem dX2_penceOfBroken_46 : decode cX2_penceOfBroken 46 = .ok (.iadd, 1) := by decide +kernel
theorem dX2_penceOfBroken_47 : decode cX2_penceOfBroken 47 = .ok (.istore_n 3, 1) := by decide +kernel
theorem dX2_penceOfBroken_48 : decode cX2_penceOfBroken 48 = .ok (.iinc 4 1, 3) := by decide +kernel
theorem dX2_penceOfBroken_51 : decode cX2_penceOfBroken 51 = .ok (.goto (-40), 3) := by decide +kernel
theorem dX2_penceOfBroken_54 : decode cX2_penceOfBroken 54 = .ok (.iload_n 3, 1) := by decide +kernel
theorem dX2_penceOfBroken_55 : decode cX2_penceOfBroken 55 = .ok (.ireturn, 1) := by decide +kernel
theorem dX2_breaksAny_0 : decode cX2_breaksAny 0 = .ok (.aload_n 0, 1) := by decide +kernel
theorem dX2_breaksAny_1 : decode cX2_breaksAny 1 = .ok (.aload_n 1, 1) := by decide +kernel
theorem dX2_breaksAny_2 : decode cX2_breaksAny 2 = .ok (.invokevirtual 51, 3) := by decide +kernel
theorem dX2_breaksAny_5 : decode cX2_breaksAny 5 = .ok (.istore_n 2, 1) := by decide +kernel
theorem dX2_breaksAny_6 : decode cX2_breaksAny 6 = .ok (.iconst 0, 1) := by decide +kernel
theorem dX2_breaksAny_7 : decode cX2_breaksAny 7 = .ok (.istore_n 3, 1) := by decide +kernel
theorem dX2_breaksAny_8 : decode cX2_breaksAny 8 = .ok (.iload_n 3, 1) := by decide +kernel
theorem dX2_breaksAny_9 : decode cX2_breaksAny 9 = .ok (.aload_n 0, 1) := by decide +kernel
theorem dX2_breaksAny_10 : decode cX2_breaksAny 10 = .ok (.getfield 17, 3) := by decide +kernel
theorem dX2_breaksAny_13 : decode cX2_breaksAny 13 = .ok (.if_icmp .ge 33, 3) := by decide +kernel
theorem dX2_breaksAny_16 : decode cX2_breaksAny 16 = .ok (.aload_n 0, 1) := by decide +kernel
theorem dX2_breaksAny_17 : decode cX2_breaksAny 17 = .ok (.iload_n 2, 1) := by decide +kernel
theorem dX2_breaksAny_18 : decode cX2_breaksAny 18 = .ok (.iload_n 3, 1) := by decide +kernel
theorem dX2_breaksAny_19 : decode cX2_breaksAny 19 = .ok (.invokevirtual 35, 3) := by decide +kernel
theorem dX2_breaksAny_22 : decode cX2_breaksAny 22 = .ok (.astore 4, 2) := by decide +kernel
theorem dX2_breaksAny_24 : decode cX2_breaksAny 24 = .ok (.aload 4, 2) := by decide +kernel
theorem dX2_breaksAny_26 : decode cX2_breaksAny 26 = .ok (.ifnull 14, 3) := by decide +kernel
theorem dX2_breaksAny_29 : decode cX2_breaksAny 29 = .ok (.aload 4, 2) := by decide +kernel
theorem dX2_breaksAny_31 : decode cX2_breaksAny 31 = .ok (.aload_n 1, 1) := by decide +kernel
theorem dX2_breaksAny_32 : decode cX2_breaksAny 32 = .ok (.invokevirtual 55, 3) := by decide +kernel
theorem dX2_breaksAny_35 : decode cX2_breaksAny 35 = .ok (.ifCond .eq 5, 3) := by decide +kernel
theorem dX2_breaksAny_38 : decode cX2_breaksAny 38 = .ok (.iconst 1, 1) := by decide +kernel
theorem dX2_breaksAny_39 : decode cX2_breaksAny 39 = .ok (.ireturn, 1) := by decide +kernel
theorem dX2_breaksAny_40 : decode cX2_breaksAny 40 = .ok (.iinc 3 1, 3) := by decide +kernel
theorem dX2_breaksAny_43 : decode cX2_breaksAny 43 = .ok (.goto (-35), 3) := by decide +kernel
theorem dX2_breaksAny_46 : decode cX2_breaksAny 46 = .ok (.iconst 0, 1) := by decide +kernel
theorem dX2_breaksAny_47 : decode cX2_breaksAny 47 = .ok (.ireturn, 1) := by decide +kernel
theorem dX2_bound_0 : decode cX2_bound 0 = .ok (.aload_n 0, 1) := by decide +kernel
theorem dX2_bound_1 : decode cX2_bound 1 = .ok (.aload_n 2, 1) := by decide +kernel
theorem dX2_bound_2 : decode cX2_bound 2 = .ok (.invokevirtual 51, 3) := by decide +kernel
theorem dX2_bound_5 : decode cX2_bound 5 = .ok (.istore_n 3, 1) := by decide +kernel
theorem dX2_bound_6 : decode cX2_bound 6 = .ok (.aload_n 1, 1) := by decide +kernel
theorem dX2_bound_7 : decode cX2_bound 7 = .ok (.invokevirtual 61, 3) := by decide +kernel
theorem dX2_bound_10 : decode cX2_bound 10 = .ok (.iconst 0, 1) := by decide +kernel
theorem dX2_bound_11 : decode cX2_bound 11 = .ok (.istore 4, 2) := by decide +kernel
theorem dX2_bound_13 : decode cX2_bound 13 = .ok (.iload 4, 2) := by decide +kernel
theorem dX2_bound_15 : decode cX2_bound 15 = .ok (.aload_n 0, 1) := by decide +kernel
theorem dX2_bound_16 : decode cX2_bound 16 = .ok (.getfield 17, 3) := by decide +kernel
theorem dX2_bound_19 : decode cX2_bound 19 = .ok (.if_icmp .ge 30, 3) := by decide +kernel
theorem dX2_bound_22 : decode cX2_bound 22 = .ok (.aload_n 0, 1) := by decide +kernel
theorem dX2_bound_23 : decode cX2_bound 23 = .ok (.iload_n 3, 1) := by decide +kernel
theorem dX2_bound_24 : decode cX2_bound 24 = .ok (.iload 4, 2) := by decide +kernel
theorem dX2_bound_26 : decode cX2_bound 26 = .ok (.invokevirtual 35, 3) := by decide +kernel
theorem dX2_bound_29 : decode cX2_bound 29 = .ok (.astore 5, 2) := by decide +kernel
theorem dX2_bound_31 : decode cX2_bound 31 = .ok (.aload 5, 2) := by decide +kernel
theorem dX2_bound_33 : decode cX2_bound 33 = .ok (.ifnull 10, 3) := by decide +kernel
theorem dX2_bound_36 : decode cX2_bound 36 = .ok (.aload 5, 2) := by decide +kernel
theorem dX2_bound_38 : decode cX2_bound 38 = .ok (.aload_n 1, 1) := by decide +kernel
theorem dX2_bound_39 : decode cX2_bound 39 = .ok (.aload_n 2, 1) := by decide +kernel
theorem dX2_bound_40 : decode cX2_bound 40 = .ok (.invokevirtual 66, 3) := by decide +kernel
theorem dX2_bound_43 : decode cX2_bound 43 = .ok (.iinc 4 1, 3) := by decide +kernel
theorem dX2_bound_46 : decode cX2_bound 46 = .ok (.goto (-33), 3) := by decide +kernel
theorem dX2_bound_49 : decode cX2_bound 49 = .ok (.return_, 1) := by decide +kernel
theorem dX3_init_0 : decode cX3_init 0 = .ok (.aload_n 0, 1) := by decide +kernel
theorem dX3_init_1 : decode cX3_init 1 = .ok (.invokespecial 3, 3) := by decide +kernel
theorem dX3_init_4 : decode cX3_init 4 = .ok (.aload_n 0, 1) := by decide +kernel
theorem dX3_init_5 : decode cX3_init 5 = .ok (.iconst 5, 1) := by decide +kernel
theorem dX3_init_6 : decode cX3_init 6 = .ok (.newarray .int, 2) := by decide +kernel
theorem dX3_init_8 : decode cX3_init 8 = .ok (.putfield 9, 3) := by decide +kernel
theorem dX3_init_11 : decode cX3_init 11 = .ok (.aload_n 0, 1) := by decide +kernel
theorem dX3_init_12 : decode cX3_init 12 = .ok (.iconst (-1), 1) := by decide +kernel
theorem dX3_init_13 : decode cX3_init 13 = .ok (.putfield 15, 3) := by decide +kernel
theorem dX3_init_16 : decode cX3_init 16 = .ok (.aload_n 0, 1) := by decide +kernel
theorem dX3_init_17 : decode cX3_init 17 = .ok (.getfield 9, 3) := by decide +kernel
theorem dX3_init_20 : decode cX3_init 20 = .ok (.iconst 0, 1) := by decide +kernel
theorem dX3_init_21 : decode cX3_init 21 = .ok (.iload_n 1, 1) := by decide +kernel
theorem dX3_init_22 : decode cX3_init 22 = .ok (.iastore, 1) := by decide +kernel
theorem dX3_init_23 : decode cX3_init 23 = .ok (.aload_n 0, 1) := by decide +kernel
theorem dX3_init_24 : decode cX3_init 24 = .ok (.getfield 9, 3) := by decide +kernel
theorem dX3_init_27 : decode cX3_init 27 = .ok (.iconst 1, 1) := by decide +kernel
theorem dX3_init_28 : decode cX3_init 28 = .ok (.iload_n 2, 1) := by decide +kernel
theorem dX3_init_29 : decode cX3_init 29 = .ok (.iastore, 1) := by decide +kernel
theorem dX3_init_30 : decode cX3_init 30 = .ok (.aload_n 0, 1) := by decide +kernel
theorem dX3_init_31 : decode cX3_init 31 = .ok (.getfield 9, 3) := by decide +kernel
theorem dX3_init_34 : decode cX3_init 34 = .ok (.iconst 2, 1) := by decide +kernel
theorem dX3_init_35 : decode cX3_init 35 = .ok (.iload_n 3, 1) := by decide +kernel
theorem dX3_init_36 : decode cX3_init 36 = .ok (.iastore, 1) := by decide +kernel
theorem dX3_init_37 : decode cX3_init 37 = .ok (.aload_n 0, 1) := by decide +kernel
theorem dX3_init_38 : decode cX3_init 38 = .ok (.getfield 9, 3) := by decide +kernel
theorem dX3_init_41 : decode cX3_init 41 = .ok (.iconst 3, 1) := by decide +kernel
theorem dX3_init_42 : decode cX3_init 42 = .ok (.iload 4, 2) := by decide +kernel
theorem dX3_init_44 : decode cX3_init 44 = .ok (.iastore, 1) := by decide +kernel
theorem dX3_init_45 : decode cX3_init 45 = .ok (.aload_n 0, 1) := by decide +kernel
theorem dX3_init_46 : decode cX3_init 46 = .ok (.getfield 9, 3) := by decide +kernel
theorem dX3_init_49 : decode cX3_init 49 = .ok (.iconst 4, 1) := by decide +kernel
theorem dX3_init_50 : decode cX3_init 50 = .ok (.iload 5, 2) := by decide +kernel
theorem dX3_init_52 : decode cX3_init 52 = .ok (.iastore, 1) := by decide +kernel
theorem dX3_init_53 : decode cX3_init 53 = .ok (.aload_n 0, 1) := by decide +kernel
theorem dX3_init_54 : decode cX3_init 54 = .ok (.iload 6, 2) := by decide +kernel
theorem dX3_init_56 : decode cX3_init 56 = .ok (.putfield 19, 3) := by decide +kernel
theorem dX3_init_59 : decode cX3_init 59 = .ok (.aload_n 0, 1) := by decide +kernel
theorem dX3_init_60 : decode cX3_init 60 = .ok (.iload 7, 2) := by decide +kernel
theorem dX3_init_62 : decode cX3_init 62 = .ok (.putfield 22, 3) := by decide +kernel
theorem dX3_init_65 : decode cX3_init 65 = .ok (.return_, 1) := by decide +kernel
theorem dX3_measure_0 : decode cX3_measure 0 = .ok (.iload_n 1, 1) := by decide +kernel
theorem dX3_measure_1 : decode cX3_measure 1 = .ok (.ifCond .lt 21, 3) := by decide +kernel
theorem dX3_measure_4 : decode cX3_measure 4 = .ok (.iload_n 1, 1) := by decide +kernel
theorem dX3_measure_5 : decode cX3_measure 5 = .ok (.aload_n 0, 1) := by decide +kernel
theorem dX3_measure_6 : decode cX3_measure 6 = .ok (.getfield 9, 3) := by decide +kernel
theorem dX3_measure_9 : decode cX3_measure 9 = .ok (.arraylength, 1) := by decide +kernel
theorem dX3_measure_10 : decode cX3_measure 10 = .ok (.if_icmp .ge 12, 3) := by decide +kernel
theorem dX3_measure_13 : decode cX3_measure 13 = .ok (.aload_n 0, 1) := by decide +kernel
theorem dX3_measure_14 : decode cX3_measure 14 = .ok (.getfield 9, 3) := by decide +kernel
theorem dX3_measure_17 : decode cX3_measure 17 = .ok (.iload_n 1, 1) := by decide +kernel
theorem dX3_measure_18 : decode cX3_measure 18 = .ok (.iaload, 1) := by decide +kernel
theorem dX3_measure_19 : decode cX3_measure 19 = .ok (.goto 4, 3) := by decide +kernel
theorem dX3_measure_22 : decode cX3_measure 22 = .ok (.iconst (-1), 1) := by decide +kernel
theorem dX3_measure_23 : decode cX3_measure 23 = .ok (.ireturn, 1) := by decide +kernel
theorem dX4_init_0 : decode cX4_init 0 = .ok (.aload_n 0, 1) := by decide +kernel
theorem dX4_init_1 : decode cX4_init 1 = .ok (.invokespecial 3, 3) := by decide +kernel
theorem dX4_init_4 : decode cX4_init 4 = .ok (.aload_n 0, 1) := by decide +kernel
theorem dX4_init_5 : decode cX4_init 5 = .ok (.iconst 0, 1) := by decide +kernel
theorem dX4_init_6 : decode cX4_init 6 = .ok (.putfield 9, 3) := by decide +kernel
theorem dX4_init_9 : decode cX4_init 9 = .ok (.aload_n 0, 1) := by decide +kernel
theorem dX4_init_10 : decode cX4_init 10 = .ok (.iconst 0, 1) := by decide +kernel
theorem dX4_init_11 : decode cX4_init 11 = .ok (.putfield 15, 3) := by decide +kernel
theorem dX4_init_14 : decode cX4_init 14 = .ok (.aload_n 0, 1) := by decide +kernel
theorem dX4_init_15 : decode cX4_init 15 = .ok (.iconst 0, 1) := by decide +kernel
theorem dX4_init_16 : decode cX4_init 16 = .ok (.putfield 18, 3) := by decide +kernel
theorem dX4_init_19 : decode cX4_init 19 = .ok (.aload_n 0, 1) := by decide +kernel
theorem dX4_init_20 : decode cX4_init 20 = .ok (.iload_n 1, 1) := by decide +kernel
theorem dX4_init_21 : decode cX4_init 21 = .ok (.putfield 21, 3) := by decide +kernel
theorem dX4_init_24 : decode cX4_init 24 = .ok (.aload_n 0, 1) := by decide +kernel
theorem dX4_init_25 : decode cX4_init 25 = .ok (.iload_n 2, 1) := by decide +kernel
theorem dX4_init_26 : decode cX4_init 26 = .ok (.putfield 24, 3) := by decide +kernel
theorem dX4_init_29 : decode cX4_init 29 = .ok (.aload_n 0, 1) := by decide +kernel
theorem dX4_init_30 : decode cX4_init 30 = .ok (.iload_n 3, 1) := by decide +kernel
theorem dX4_init_31 : decode cX4_init 31 = .ok (.putfield 27, 3) := by decide +kernel
theorem dX4_init_34 : decode cX4_init 34 = .ok (.aload_n 0, 1) := by decide +kernel
theorem dX4_init_35 : decode cX4_init 35 = .ok (.iload 4, 2) := by decide +kernel
theorem dX4_init_37 : decode cX4_init 37 = .ok (.putfield 30, 3) := by decide +kernel
theorem dX4_init_40 : decode cX4_init 40 = .ok (.return_, 1) := by decide +kernel
theorem dX4_isOfSameCase_0 : decode cX4_isOfSameCase 0 = .ok (.aload_n 0, 1) := by decide +kernel
theorem dX4_isOfSameCase_1 : decode cX4_isOfSameCase 1 = .ok (.getfield 24, 3) := by decide +kernel
theorem dX4_isOfSameCase_4 : decode cX4_isOfSameCase 4 = .ok (.aload_n 1, 1) := by decide +kernel
theorem dX4_isOfSameCase_5 : decode cX4_isOfSameCase 5 = .ok (.getfield 24, 3) := by decide +kernel
theorem dX4_isOfSameCase_8 : decode cX4_isOfSameCase 8 = .ok (.if_icmp .ne 29, 3) := by decide +kernel
theorem dX4_isOfSameCase_11 : decode cX4_isOfSameCase 11 = .ok (.aload_n 0, 1) := by decide +kernel
theorem dX4_isOfSameCase_12 : decode cX4_isOfSameCase 12 = .ok (.getfield 27, 3) := by decide +kernel
theorem dX4_isOfSameCase_15 : decode cX4_isOfSameCase 15 = .ok (.aload_n 1, 1) := by decide +kernel
theorem dX4_isOfSameCase_16 : decode cX4_isOfSameCase 16 = .ok (.getfield 27, 3) := by decide +kernel
theorem dX4_isOfSameCase_19 : decode cX4_isOfSameCase 19 = .ok (.if_icmp .ne 18, 3) := by decide +kernel
theorem dX4_isOfSameCase_22 : decode cX4_isOfSameCase 22 = .ok (.aload_n 0, 1) := by decide +kernel
theorem dX4_isOfSameCase_23 : decode cX4_isOfSameCase 23 = .ok (.getfield 30, 3) := by decide +kernel
theorem dX4_isOfSameCase_26 : decode cX4_isOfSameCase 26 = .ok (.aload_n 1, 1) := by decide +kernel
theorem dX4_isOfSameCase_27 : decode cX4_isOfSameCase 27 = .ok (.getfield 30, 3) := by decide +kernel
theorem dX4_isOfSameCase_30 : decode cX4_isOfSameCase 30 = .ok (.if_icmp .ne 7, 3) := by decide +kernel
theorem dX4_isOfSameCase_33 : decode cX4_isOfSameCase 33 = .ok (.iconst 1, 1) := by decide +kernel
theorem dX4_isOfSameCase_34 : decode cX4_isOfSameCase 34 = .ok (.goto 4, 3) := by decide +kernel
theorem dX4_isOfSameCase_37 : decode cX4_isOfSameCase 37 = .ok (.iconst 0, 1) := by decide +kernel
theorem dX4_isOfSameCase_38 : decode cX4_isOfSameCase 38 = .ok (.ireturn, 1) := by decide +kernel
theorem dX5_init_0 : decode cX5_init 0 = .ok (.aload_n 0, 1) := by decide +kernel
theorem dX5_init_1 : decode cX5_init 1 = .ok (.invokespecial 3, 3) := by decide +kernel
theorem dX5_init_4 : decode cX5_init 4 = .ok (.aload_n 0, 1) := by decide +kernel
theorem dX5_init_5 : decode cX5_init 5 = .ok (.new 9, 3) := by decide +kernel
theorem dX5_init_8 : decode cX5_init 8 = .ok (.dup, 1) := by decide +kernel
theorem dX5_init_9 : decode cX5_init 9 = .ok (.invokespecial 11, 3) := by decide +kernel
theorem dX5_init_12 : decode cX5_init 12 = .ok (.putfield 12, 3) := by decide +kernel
theorem dX5_init_15 : decode cX5_init 15 = .ok (.aload_n 0, 1) := by decide +kernel
theorem dX5_init_16 : decode cX5_init 16 = .ok (.new 18, 3) := by decide +kernel
theorem dX5_init_19 : decode cX5_init 19 = .ok (.dup, 1) := by decide +kernel
theorem dX5_init_20 : decode cX5_init 20 = .ok (.invokespecial 20, 3) := by decide +kernel
theorem dX5_init_23 : decode cX5_init 23 = .ok (.putfield 21, 3) := by decide +kernel
theorem dX5_init_26 : decode cX5_init 26 = .ok (.aload_n 0, 1) := by decide +kernel
theorem dX5_init_27 : decode cX5_init 27 = .ok (.iconst 0, 1) := by decide +kernel
theorem dX5_init_28 : decode cX5_init 28 = .ok (.putfield 25, 3) := by decide +kernel
theorem dX5_init_31 : decode cX5_init 31 = .ok (.aload_n 0, 1) := by decide +kernel
theorem dX5_init_32 : decode cX5_init 32 = .ok (.iconst 0, 1) := by decide +kernel
theorem dX5_init_33 : decode cX5_init 33 = .ok (.putfield 29, 3) := by decide +kernel
theorem dX5_init_36 : decode cX5_init 36 = .ok (.aload_n 0, 1) := by decide +kernel
theorem dX5_init_37 : decode cX5_init 37 = .ok (.iconst (-1), 1) := by decide +kernel
theorem dX5_init_38 : decode cX5_init 38 = .ok (.putfield 32, 3) := by decide +kernel
theorem dX5_init_41 : decode cX5_init 41 = .ok (.aload_n 0, 1) := by decide +kernel
theorem dX5_init_42 : decode cX5_init 42 = .ok (.iconst 0, 1) := by decide +kernel
theorem dX5_init_43 : decode cX5_init 43 = .ok (.putfield 35, 3) := by decide +kernel
theorem dX5_init_46 : decode cX5_init 46 = .ok (.aload_n 0, 1) := by decide +kernel
theorem dX5_init_47 : decode cX5_init 47 = .ok (.iconst 0, 1) := by decide +kernel
theorem dX5_init_48 : decode cX5_init 48 = .ok (.putfield 38, 3) := by decide +kernel
theorem dX5_init_51 : decode cX5_init 51 = .ok (.aload_n 0, 1) := by decide +kernel
theorem dX5_init_52 : decode cX5_init 52 = .ok (.iconst 0, 1) := by decide +kernel
theorem dX5_init_53 : decode cX5_init 53 = .ok (.putfield 41, 3) := by decide +kernel
theorem dX5_init_56 : decode cX5_init 56 = .ok (.aload_n 0, 1) := by decide +kernel
theorem dX5_init_57 : decode cX5_init 57 = .ok (.iconst 0, 1) := by decide +kernel
theorem dX5_init_58 : decode cX5_init 58 = .ok (.putfield 44, 3) := by decide +kernel
theorem dX5_init_61 : decode cX5_init 61 = .ok (.aload_n 0, 1) := by decide +kernel
theorem dX5_init_62 : decode cX5_init 62 = .ok (.iconst 0, 1) := by decide +kernel
theorem dX5_init_63 : decode cX5_init 63 = .ok (.putfield 47, 3) := by decide +kernel
theorem dX5_init_66 : decode cX5_init 66 = .ok (.aload_n 0, 1) := by decide +kernel
theorem dX5_init_67 : decode cX5_init 67 = .ok (.iconst 0, 1) := by decide +kernel
theorem dX5_init_68 : decode cX5_init 68 = .ok (.putfield 50, 3) := by decide +kernel
theorem dX5_init_71 : decode cX5_init 71 = .ok (.aload_n 0, 1) := by decide +kernel
theorem dX5_init_72 : decode cX5_init 72 = .ok (.iconst 0, 1) := by decide +kernel
theorem dX5_init_73 : decode cX5_init 73 = .ok (.putfield 53, 3) := by decide +kernel
theorem dX5_init_76 : decode cX5_init 76 = .ok (.aload_n 0, 1) := by decide +kernel
theorem dX5_init_77 : decode cX5_init 77 = .ok (.iconst 0, 1) := by decide +kernel
theorem dX5_init_78 : decode cX5_init 78 = .ok (.putfield 56, 3) := by decide +kernel
theorem dX5_init_81 : decode cX5_init 81 = .ok (.aload_n 0, 1) := by decide +kernel
theorem dX5_init_82 : decode cX5_init 82 = .ok (.bipush 9, 2) := by decide +kernel
theorem dX5_init_84 : decode cX5_init 84 = .ok (.putfield 59, 3) := by decide +kernel
theorem dX5_init_87 : decode cX5_init 87 = .ok (.aload_n 0, 1) := by decide +kernel
theorem dX5_init_88 : decode cX5_init 88 = .ok (.iconst 3, 1) := by decide +kernel
theorem dX5_init_89 : decode cX5_init 89 = .ok (.putfield 62, 3) := by decide +kernel
theorem dX5_init_92 : decode cX5_init 92 = .ok (.return_, 1) := by decide +kernel
theorem dX5_faultKind_0 : decode cX5_faultKind 0 = .ok (.aload_n 0, 1) := by decide +kernel
theorem dX5_faultKind_1 : decode cX5_faultKind 1 = .ok (.getfield 29, 3) := by decide +kernel
theorem dX5_faultKind_4 : decode cX5_faultKind 4 = .ok (.ireturn, 1) := by decide +kernel
theorem dX5_faultPlace_0 : decode cX5_faultPlace 0 = .ok (.aload_n 0, 1) := by decide +kernel
theorem dX5_faultPlace_1 : decode cX5_faultPlace 1 = .ok (.getfield 32, 3) := by decide +kernel
theorem dX5_faultPlace_4 : decode cX5_faultPlace 4 = .ok (.ireturn, 1) := by decide +kernel
theorem dX5_takeDraft_0 : decode cX5_takeDraft 0 = .ok (.aload_n 0, 1) := by decide +kernel
theorem dX5_takeDraft_1 : decode cX5_takeDraft 1 = .ok (.getfield 21, 3) := by decide +kernel
theorem dX5_takeDraft_4 : decode cX5_takeDraft 4 = .ok (.astore_n 1, 1) := by decide +kernel
theorem dX5_takeDraft_5 : decode cX5_takeDraft 5 = .ok (.aload_n 0, 1) := by decide +kernel
theorem dX5_takeDraft_6 : decode cX5_takeDraft 6 = .ok (.new 18, 3) := by decide +kernel
theorem dX5_takeDraft_9 : decode cX5_takeDraft 9 = .ok (.dup, 1) := by decide +kernel
theorem dX5_takeDraft_10 : decode cX5_takeDraft 10 = .ok (.invokespecial 20, 3) := by decide +kernel
theorem dX5_takeDraft_13 : decode cX5_takeDraft 13 = .ok (.putfield 21, 3) := by decide +kernel
theorem dX5_takeDraft_16 : decode cX5_takeDraft 16 = .ok (.aload_n 1, 1) := by decide +kernel
theorem dX5_takeDraft_17 : decode cX5_takeDraft 17 = .ok (.areturn, 1) := by decide +kernel
theorem dX5_read_0 : decode cX5_read 0 = .ok (.aload_n 0, 1) := by decide +kernel
theorem dX5_read_1 : decode cX5_read 1 = .ok (.iload_n 1, 1) := by decide +kernel
theorem dX5_read_2 : decode cX5_read 2 = .ok (.putfield 25, 3) := by decide +kernel
theorem dX5_read_5 : decode cX5_read 5 = .ok (.aload_n 0, 1) := by decide +kernel
theorem dX5_read_6 : decode cX5_read 6 = .ok (.getfield 21, 3) := by decide +kernel
theorem dX5_read_9 : decode cX5_read 9 = .ok (.invokevirtual 65, 3) := by decide +kernel
theorem dX5_read_12 : decode cX5_read 12 = .ok (.aload_n 0, 1) := by decide +kernel
theorem dX5_read_13 : decode cX5_read 13 = .ok (.iconst 0, 1) := by decide +kernel
theorem dX5_read_14 : decode cX5_read 14 = .ok (.putfield 29, 3) := by decide +kernel
theorem dX5_read_17 : decode cX5_read 17 = .ok (.aload_n 0, 1) := by decide +kernel
theorem dX5_read_18 : decode cX5_read 18 = .ok (.iconst (-1), 1) := by decide +kernel
theorem dX5_read_19 : decode cX5_read 19 = .ok (.putfield 32, 3) := by decide +kernel
theorem dX5_read_22 : decode cX5_read 22 = .ok (.aload_n 0, 1) := by decide +kernel
theorem dX5_read_23 : decode cX5_read 23 = .ok (.iconst 0, 1) := by decide +kernel
theorem dX5_read_24 : decode cX5_read 24 = .ok (.putfield 35, 3) := by decide +kernel
theorem dX5_read_27 : decode cX5_read 27 = .ok (.aload_n 0, 1) := by decide +kernel
theorem dX5_read_28 : decode cX5_read 28 = .ok (.iconst 0, 1) := by decide +kernel
theorem dX5_read_29 : decode cX5_read 29 = .ok (.putfield 44, 3) := by decide +kernel
theorem dX5_read_32 : decode cX5_read 32 = .ok (.aload_n 0, 1) := by decide +kernel
theorem dX5_read_33 : decode cX5_read 33 = .ok (.iconst 4, 1) := by decide +kernel
theorem dX5_read_34 : decode cX5_read 34 = .ok (.putfield 38, 3) := by decide +kernel
theorem dX5_read_37 : decode cX5_read 37 = .ok (.iconst 0, 1) := by decide +kernel
theorem dX5_read_38 : decode cX5_read 38 = .ok (.istore_n 2, 1) := by decide +kernel
theorem dX5_read_39 : decode cX5_read 39 = .ok (.iload_n 2, 1) := by decide +kernel
theorem dX5_read_40 : decode cX5_read 40 = .ok (.sipush 800, 3) := by decide +kernel
theorem dX5_read_43 : decode cX5_read 43 = .ok (.if_icmp .gt 45, 3) := by decide +kernel
theorem dX5_read_46 : decode cX5_read 46 = .ok (.aload_n 0, 1) := by decide +kernel
theorem dX5_read_47 : decode cX5_read 47 = .ok (.getfield 29, 3) := by decide +kernel
theorem dX5_read_50 : decode cX5_read 50 = .ok (.ifCond .ne 38, 3) := by decide +kernel
theorem dX5_read_53 : decode cX5_read 53 = .ok (.aload_n 0, 1) := by decide +kernel
theorem dX5_read_54 : decode cX5_read 54 = .ok (.getfield 38, 3) := by decide +kernel
theorem dX5_read_57 : decode cX5_read 57 = .ok (.ifCond .eq 31, 3) := by decide +kernel
theorem dX5_read_60 : decode cX5_read 60 = .ok (.aload_n 0, 1) := by decide +kernel
theorem dX5_read_61 : decode cX5_read 61 = .ok (.invokevirtual 68, 3) := by decide +kernel
theorem dX5_read_64 : decode cX5_read 64 = .ok (.aload_n 0, 1) := by decide +kernel
theorem dX5_read_65 : decode cX5_read 65 = .ok (.getfield 38, 3) := by decide +kernel
theorem dX5_read_68 : decode cX5_read 68 = .ok (.ifCond .ne 10, 3) := by decide +kernel
theorem dX5_read_71 : decode cX5_read 71 = .ok (.aload_n 0, 1) := by decide +kernel
theorem dX5_read_72 : decode cX5_read 72 = .ok (.getfield 35, 3) := by decide +kernel
theorem dX5_read_75 : decode cX5_read 75 = .ok (.ifCond .eq 7, 3) := by decide +kernel
theorem dX5_read_78 : decode cX5_read 78 = .ok (.aload_n 0, 1) := by decide +kernel
theorem dX5_read_79 : decode cX5_read 79 = .ok (.invokevirtual 71, 3) := by decide +kernel
theorem dX5_read_82 : decode cX5_read 82 = .ok (.iinc 2 1, 3) := by decide +kernel
theorem dX5_read_85 : decode cX5_read 85 = .ok (.goto (-46), 3) := by decide +kernel
theorem dX5_read_88 : decode cX5_read 88 = .ok (.return_, 1) := by decide +kernel
theorem dX5_scan_0 : decode cX5_scan 0 = .ok (.aload_n 0, 1) := by decide +kernel
theorem dX5_scan_1 : decode cX5_scan 1 = .ok (.aload_n 0, 1) := by decide +kernel
theorem dX5_scan_2 : decode cX5_scan 2 = .ok (.getfield 44, 3) := by decide +kernel
theorem dX5_scan_5 : decode cX5_scan 5 = .ok (.putfield 41, 3) := by decide +kernel
theorem dX5_scan_8 : decode cX5_scan 8 = .ok (.aload_n 0, 1) := by decide +kernel
theorem dX5_scan_9 : decode cX5_scan 9 = .ok (.getfield 41, 3) := by decide +kernel
theorem dX5_scan_12 : decode cX5_scan 12 = .ok (.aload_n 0, 1) := by decide +kernel
theorem dX5_scan_13 : decode cX5_scan 13 = .ok (.getfield 12, 3) := by decide +kernel
theorem dX5_scan_16 : decode cX5_scan 16 = .ok (.invokevirtual 74, 3) := by decide +kernel
theorem dX5_scan_19 : decode cX5_scan 19 = .ok (.if_icmp .ge 33, 3) := by decide +kernel
theorem dX5_scan_22 : decode cX5_scan 22 = .ok (.aload_n 0, 1) := by decide +kernel
theorem dX5_scan_23 : decode cX5_scan 23 = .ok (.getfield 12, 3) := by decide +kernel
theorem dX5_scan_26 : decode cX5_scan 26 = .ok (.aload_n 0, 1) := by decide +kernel
theorem dX5_scan_27 : decode cX5_scan 27 = .ok (.getfield 41, 3) := by decide +kernel
theorem dX5_scan_30 : decode cX5_scan 30 = .ok (.invokevirtual 78, 3) := by decide +kernel
theorem dX5_scan_33 : decode cX5_scan 33 = .ok (.invokestatic 82, 3) := by decide +kernel
theorem dX5_scan_36 : decode cX5_scan 36 = .ok (.ifCond .eq 16, 3) := by decide +kernel
theorem dX5_scan_39 : decode cX5_scan 39 = .ok (.aload_n 0, 1) := by decide +kernel
theorem dX5_scan_40 : decode cX5_scan 40 = .ok (.dup, 1) := by decide +kernel
theorem dX5_scan_41 : decode cX5_scan 41 = .ok (.getfield 41, 3) := by decide +kernel
theorem dX5_scan_44 : decode cX5_scan 44 = .ok (.iconst 1, 1) := by decide +kernel
theorem dX5_scan_45 : decode cX5_scan 45 = .ok (.iadd, 1) := by decide +kernel
theorem dX5_scan_46 : decode cX5_scan 46 = .ok (.putfield 41, 3) := by decide +kernel
theorem dX5_scan_49 : decode cX5_scan 49 = .ok (.goto (-41), 3) := by decide +kernel
theorem dX5_scan_52 : decode cX5_scan 52 = .ok (.aload_n 0, 1) := by decide +kernel
theorem dX5_scan_53 : decode cX5_scan 53 = .ok (.getfield 12, 3) := by decide +kernel
theorem dX5_scan_56 : decode cX5_scan 56 = .ok (.aload_n 0, 1) := by decide +kernel
theorem dX5_scan_57 : decode cX5_scan 57 = .ok (.getfield 41, 3) := by decide +kernel
theorem dX5_scan_60 : decode cX5_scan 60 = .ok (.invokevirtual 78, 3) := by decide +kernel
theorem dX5_scan_63 : decode cX5_scan 63 = .ok (.istore_n 1, 1) := by decide +kernel
theorem dX5_scan_64 : decode cX5_scan 64 = .ok (.aload_n 0, 1) := by decide +kernel
theorem dX5_scan_65 : decode cX5_scan 65 = .ok (.aload_n 0, 1) := by decide +kernel
theorem dX5_scan_66 : decode cX5_scan 66 = .ok (.getfield 41, 3) := by decide +kernel
theorem dX5_scan_69 : decode cX5_scan 69 = .ok (.iconst 1, 1) := by decide +kernel
theorem dX5_scan_70 : decode cX5_scan 70 = .ok (.iadd, 1) := by decide +kernel
theorem dX5_scan_71 : decode cX5_scan 71 = .ok (.putfield 44, 3) := by decide +kernel
theorem dX5_scan_74 : decode cX5_scan 74 = .ok (.iload_n 1, 1) := by decide +kernel
theorem dX5_scan_75 : decode cX5_scan 75 = .ok (.iconst (-1), 1) := by decide +kernel
theorem dX5_scan_76 : decode cX5_scan 76 = .ok (.if_icmp .ne 11, 3) := by decide +kernel
theorem dX5_scan_79 : decode cX5_scan 79 = .ok (.aload_n 0, 1) := by decide +kernel
theorem dX5_scan_80 : decode cX5_scan 80 = .ok (.iconst 0, 1) := by decide +kernel
theorem dX5_scan_81 : decode cX5_scan 81 = .ok (.putfield 38, 3) := by decide +kernel
theorem dX5_scan_84 : decode cX5_scan 84 = .ok (.goto 46, 3) := by decide +kernel
theorem dX5_scan_87 : decode cX5_scan 87 = .ok (.iload_n 1, 1) := by decide +kernel
theorem dX5_scan_88 : decode cX5_scan 88 = .ok (.invokestatic 86, 3) := by decide +kernel
theorem dX5_scan_91 : decode cX5_scan 91 = .ok (.ifCond .eq 10, 3) := by decide +kernel
theorem dX5_scan_94 : decode cX5_scan 94 = .ok (.aload_n 0, 1) := by decide +kernel
theorem dX5_scan_95 : decode cX5_scan 95 = .ok (.invokevirtual 89, 3) := by decide +kernel
theorem dX5_scan_98 : decode cX5_scan 98 = .ok (.goto 32, 3) := by decide +kernel
theorem dX5_scan_101 : decode cX5_scan 101 = .ok (.iload_n 1, 1) := by decide +kernel
theorem dX5_scan_102 : decode cX5_scan 102 = .ok (.invokestatic 92, 3) := by decide +kernel
theorem dX5_scan_105 : decode cX5_scan 105 = .ok (.ifCond .eq 10, 3) := by decide +kernel
theorem dX5_scan_108 : decode cX5_scan 108 = .ok (.aload_n 0, 1) := by decide +kernel
theorem dX5_scan_109 : decode cX5_scan 109 = .ok (.invokevirtual 95, 3) := by decide +kernel
theorem dX5_scan_112 : decode cX5_scan 112 = .ok (.goto 18, 3) := by decide +kernel
theorem dX5_scan_115 : decode cX5_scan 115 = .ok (.aload_n 0, 1) := by decide +kernel
theorem dX5_scan_116 : decode cX5_scan 116 = .ok (.iload_n 1, 1) := by decide +kernel
theorem dX5_scan_117 : decode cX5_scan 117 = .ok (.bipush 59, 2) := by decide +kernel
theorem dX5_scan_119 : decode cX5_scan 119 = .ok (.if_icmp .ne 7, 3) := by decide +kernel
theorem dX5_scan_122 : decode cX5_scan 122 = .ok (.iconst 3, 1) := by decide +kernel
theorem dX5_scan_123 : decode cX5_scan 123 = .ok (.goto 4, 3) := by decide +kernel
theorem dX5_scan_126 : decode cX5_scan 126 = .ok (.iconst 4, 1) := by decide +kernel
theorem dX5_scan_127 : decode cX5_scan 127 = .ok (.putfield 38, 3) := by decide +kernel
theorem dX5_scan_130 : decode cX5_scan 130 = .ok (.return_, 1) := by decide +kernel
theorem dX5_scanWord_0 : decode cX5_scanWord 0 = .ok (.aload_n 0, 1) := by decide +kernel
theorem dX5_scanWord_1 : decode cX5_scanWord 1 = .ok (.getfield 44, 3) := by decide +kernel
theorem dX5_scanWord_4 : decode cX5_scanWord 4 = .ok (.aload_n 0, 1) := by decide +kernel
theorem dX5_scanWord_5 : decode cX5_scanWord 5 = .ok (.getfield 12, 3) := by decide +kernel
theorem dX5_scanWord_8 : decode cX5_scanWord 8 = .ok (.invokevirtual 74, 3) := by decide +kernel
theorem dX5_scanWord_11 : decode cX5_scanWord 11 = .ok (.if_icmp .ge 33, 3) := by decide +kernel
theorem dX5_scanWord_14 : decode cX5_scanWord 14 = .ok (.aload_n 0, 1) := by decide +kernel
theorem dX5_scanWord_15 : decode cX5_scanWord 15 = .ok (.getfield 12, 3) := by decide +kernel
theorem dX5_scanWord_18 : decode cX5_scanWord 18 = .ok (.aload_n 0, 1) := by decide +kernel
theorem dX5_scanWord_19 : decode cX5_scanWord 19 = .ok (.getfield 44, 3) := by decide +kernel
theorem dX5_scanWord_22 : decode cX5_scanWord 22 = .ok (.invokevirtual 78, 3) := by decide +kernel
theorem dX5_scanWord_25 : decode cX5_scanWord 25 = .ok (.invokestatic 86, 3) := by decide +kernel
theorem dX5_scanWord_28 : decode cX5_scanWord 28 = .ok (.ifCond .eq 16, 3) := by decide +kernel
theorem dX5_scanWord_31 : decode cX5_scanWord 31 = .ok (.aload_n 0, 1) := by decide +kernel
theorem dX5_scanWord_32 : decode cX5_scanWord 32 = .ok (.dup, 1) := by decide +kernel
theorem dX5_scanWord_33 : decode cX5_scanWord 33 = .ok (.getfield 44, 3) := by decide +kernel
theorem dX5_scanWord_36 : decode cX5_scanWord 36 = .ok (.iconst 1, 1) := by decide +kernel
theorem dX5_scanWord_37 : decode cX5_scanWord 37 = .ok (.iadd, 1) := by decide +kernel
theorem dX5_scanWord_38 : decode cX5_scanWord 38 = .ok (.putfield 44, 3) := by decide +kernel
theorem dX5_scanWord_41 : decode cX5_scanWord 41 = .ok (.goto (-41), 3) := by decide +kernel
theorem dX5_scanWord_44 : decode cX5_scanWord 44 = .ok (.aload_n 0, 1) := by decide +kernel
theorem dX5_scanWord_45 : decode cX5_scanWord 45 = .ok (.iconst 1, 1) := by decide +kernel
theorem dX5_scanWord_46 : decode cX5_scanWord 46 = .ok (.putfield 38, 3) := by decide +kernel
theorem dX5_scanWord_49 : decode cX5_scanWord 49 = .ok (.return_, 1) := by decide +kernel
theorem dX5_scanNumber_0 : decode cX5_scanNumber 0 = .ok (.aload_n 0, 1) := by decide +kernel
theorem dX5_scanNumber_1 : decode cX5_scanNumber 1 = .ok (.getfield 44, 3) := by decide +kernel
theorem dX5_scanNumber_4 : decode cX5_scanNumber 4 = .ok (.aload_n 0, 1) := by decide +kernel
theorem dX5_scanNumber_5 : decode cX5_scanNumber 5 = .ok (.getfield 12, 3) := by decide +kernel
theorem dX5_scanNumber_8 : decode cX5_scanNumber 8 = .ok (.invokevirtual 74, 3) := by decide +kernel
theorem dX5_scanNumber_11 : decode cX5_scanNumber 11 = .ok (.if_icmp .ge 33, 3) := by decide +kernel
theorem dX5_scanNumber_14 : decode cX5_scanNumber 14 = .ok (.aload_n 0, 1) := by decide +kernel
theorem dX5_scanNumber_15 : decode cX5_scanNumber 15 = .ok (.getfield 12, 3) := by decide +kernel
theorem dX5_scanNumber_18 : decode cX5_scanNumber 18 = .ok (.aload_n 0, 1) := by decide +kernel
theorem dX5_scanNumber_19 : decode cX5_scanNumber 19 = .ok (.getfield 44, 3) := by decide +kernel
theorem dX5_scanNumber_22 : decode cX5_scanNumber 22 = .ok (.invokevirtual 78, 3) := by decide +kernel
theorem dX5_scanNumber_25 : decode cX5_scanNumber 25 = .ok (.invokestatic 92, 3) := by decide +kernel
theorem dX5_scanNumber_28 : decode cX5_scanNumber 28 = .ok (.ifCond .eq 16, 3) := by decide +kernel
theorem dX5_scanNumber_31 : decode cX5_scanNumber 31 = .ok (.aload_n 0, 1) := by decide +kernel
theorem dX5_scanNumber_32 : decode cX5_scanNumber 32 = .ok (.dup, 1) := by decide +kernel
theorem dX5_scanNumber_33 : decode cX5_scanNumber 33 = .ok (.getfield 44, 3) := by decide +kernel
theorem dX5_scanNumber_36 : decode cX5_scanNumber 36 = .ok (.iconst 1, 1) := by decide +kernel
theorem dX5_scanNumber_37 : decode cX5_scanNumber 37 = .ok (.iadd, 1) := by decide +kernel
theorem dX5_scanNumber_38 : decode cX5_scanNumber 38 = .ok (.putfield 44, 3) := by decide +kernel
theorem dX5_scanNumber_41 : decode cX5_scanNumber 41 = .ok (.goto (-41), 3) := by decide +kernel
theorem dX5_scanNumber_44 : decode cX5_scanNumber 44 = .ok (.aload_n 0, 1) := by decide +kernel
theorem dX5_scanNumber_45 : decode cX5_scanNumber 45 = .ok (.aload_n 0, 1) := by decide +kernel
theorem dX5_scanNumber_46 : decode cX5_scanNumber 46 = .ok (.getfield 44, 3) := by decide +kernel
theorem dX5_scanNumber_49 : decode cX5_scanNumber 49 = .ok (.aload_n 0, 1) := by decide +kernel
theorem dX5_scanNumber_50 : decode cX5_scanNumber 50 = .ok (.getfield 41, 3) := by decide +kernel
theorem dX5_scanNumber_53 : decode cX5_scanNumber 53 = .ok (.isub, 1) := by decide +kernel
theorem dX5_scanNumber_54 : decode cX5_scanNumber 54 = .ok (.iconst 4, 1) := by decide +kernel
theorem dX5_scanNumber_55 : decode cX5_scanNumber 55 = .ok (.if_icmp .gt 7, 3) := by decide +kernel
theorem dX5_scanNumber_58 : decode cX5_scanNumber 58 = .ok (.iconst 2, 1) := by decide +kernel
theorem dX5_scanNumber_59 : decode cX5_scanNumber 59 = .ok (.goto 4, 3) := by decide +kernel
theorem dX5_scanNumber_62 : decode cX5_scanNumber 62 = .ok (.iconst 4, 1) := by decide +kernel
theorem dX5_scanNumber_63 : decode cX5_scanNumber 63 = .ok (.putfield 38, 3) := by decide +kernel
theorem dX5_scanNumber_66 : decode cX5_scanNumber 66 = .ok (.aload_n 0, 1) := by decide +kernel
theorem dX5_scanNumber_67 : decode cX5_scanNumber 67 = .ok (.iconst 0, 1) := by decide +kernel
theorem dX5_scanNumber_68 : decode cX5_scanNumber 68 = .ok (.putfield 47, 3) := by decide +kernel
theorem dX5_scanNumber_71 : decode cX5_scanNumber 71 = .ok (.aload_n 0, 1) := by decide +kernel
theorem dX5_scanNumber_72 : decode cX5_scanNumber 72 = .ok (.getfield 41, 3) := by decide +kernel
theorem dX5_scanNumber_75 : decode cX5_scanNumber 75 = .ok (.istore_n 1, 1) := by decide +kernel
theorem dX5_scanNumber_76 : decode cX5_scanNumber 76 = .ok (.iload_n 1, 1) := by decide +kernel
theorem dX5_scanNumber_77 : decode cX5_scanNumber 77 = .ok (.aload_n 0, 1) := by decide +kernel
theorem dX5_scanNumber_78 : decode cX5_scanNumber 78 = .ok (.getfield 44, 3) := by decide +kernel
theorem dX5_scanNumber_81 : decode cX5_scanNumber 81 = .ok (.if_icmp .ge 40, 3) := by decide +kernel
theorem dX5_scanNumber_84 : decode cX5_scanNumber 84 = .ok (.aload_n 0, 1) := by decide +kernel
theorem dX5_scanNumber_85 : decode cX5_scanNumber 85 = .ok (.getfield 38, 3) := by decide +kernel
theorem dX5_scanNumber_88 : decode cX5_scanNumber 88 = .ok (.iconst 2, 1) := by decide +kernel
theorem dX5_scanNumber_89 : decode cX5_scanNumber 89 = .ok (.if_icmp .ne 32, 3) := by decide +kernel
theorem dX5_scanNumber_92 : decode cX5_scanNumber 92 = .ok (.aload_n 0, 1) := by decide +kernel
theorem dX5_scanNumber_93 : decode cX5_scanNumber 93 = .ok (.aload_n 0, 1) := by decide +kernel
theorem dX5_scanNumber_94 : decode cX5_scanNumber 94 = .ok (.getfield 47, 3) := by decide +kernel
theorem dX5_scanNumber_97 : decode cX5_scanNumber 97 = .ok (.bipush 10, 2) := by decide +kernel
theorem dX5_scanNumber_99 : decode cX5_scanNumber 99 = .ok (.imul, 1) := by decide +kernel
theorem dX5_scanNumber_100 : decode cX5_scanNumber 100 = .ok (.aload_n 0, 1) := by decide +kernel
theorem dX5_scanNumber_101 : decode cX5_scanNumber 101 = .ok (.getfield 12, 3) := by decide +kernel
theorem dX5_scanNumber_104 : decode cX5_scanNumber 104 = .ok (.iload_n 1, 1) := by decide +kernel
theorem dX5_scanNumber_105 : decode cX5_scanNumber 105 = .ok (.invokevirtual 78, 3) := by decide +kernel
theorem dX5_scanNumber_108 : decode cX5_scanNumber 108 = .ok (.iadd, 1) := by decide +kernel
theorem dX5_scanNumber_109 : decode cX5_scanNumber 109 = .ok (.bipush 48, 2) := by decide +kernel
theorem dX5_scanNumber_111 : decode cX5_scanNumber 111 = .ok (.isub, 1) := by decide +kernel
theorem dX5_scanNumber_112 : decode cX5_scanNumber 112 = .ok (.putfield 47, 3) := by decide +kernel
theorem dX5_scanNumber_115 : decode cX5_scanNumber 115 = .ok (.iinc 1 1, 3) := by decide +kernel
theorem dX5_scanNumber_118 : decode cX5_scanNumber 118 = .ok (.goto (-42), 3) := by decide +kernel
theorem dX5_scanNumber_121 : decode cX5_scanNumber 121 = .ok (.return_, 1) := by decide +kernel
theorem dX5_isBlank_0 : decode cX5_isBlank 0 = .ok (.iload_n 0, 1) := by decide +kernel
theorem dX5_isBlank_1 : decode cX5_isBlank 1 = .ok (.bipush 32, 2) := by decide +kernel
theorem dX5_isBlank_3 : decode cX5_isBlank 3 = .ok (.if_icmp .eq 9, 3) := by decide +kernel
theorem dX5_isBlank_6 : decode cX5_isBlank 6 = .ok (.iload_n 0, 1) := by decide +kernel
theorem dX5_isBlank_7 : decode cX5_isBlank 7 = .ok (.bipush 10, 2) := by decide +kernel
theorem dX5_isBlank_9 : decode cX5_isBlank 9 = .ok (.if_icmp .ne 7, 3) := by decide +kernel
theorem dX5_isBlank_12 : decode cX5_isBlank 12 = .ok (.iconst 1, 1) := by decide +kernel
theorem dX5_isBlank_13 : decode cX5_isBlank 13 = .ok (.goto 4, 3) := by decide +kernel
theorem dX5_isBlank_16 : decode cX5_isBlank 16 = .ok (.iconst 0, 1) := by decide +kernel
theorem dX5_isBlank_17 : decode cX5_isBlank 17 = .ok (.ireturn, 1) := by decide +kernel
theorem dX5_isLetter_0 : decode cX5_isLetter 0 = .ok (.iload_n 0, 1) := by decide +kernel
theorem dX5_isLetter_1 : decode cX5_isLetter 1 = .ok (.bipush 97, 2) := by decide +kernel
theorem dX5_isLetter_3 : decode cX5_isLetter 3 = .ok (.if_icmp .lt 13, 3) := by decide +kernel
theorem dX5_isLetter_6 : decode cX5_isLetter 6 = .ok (.iload_n 0, 1) := by decide +kernel
theorem dX5_isLetter_7 : decode cX5_isLetter 7 = .ok (.bipush 122, 2) := by decide +kernel
theorem dX5_isLetter_9 : decode cX5_isLetter 9 = .ok (.if_icmp .gt 7, 3) := by decide +kernel
theorem dX5_isLetter_12 : decode cX5_isLetter 12 = .ok (.iconst 1, 1) := by decide +kernel
theorem dX5_isLetter_13 : decode cX5_isLetter 13 = .ok (.goto 4, 3) := by decide +kernel
theorem dX5_isLetter_16 : decode cX5_isLetter 16 = .ok (.iconst 0, 1) := by decide +kernel
theorem dX5_isLetter_17 : decode cX5_isLetter 17 = .ok (.ireturn, 1) := by decide +kernel
theorem dX5_isDigit_0 : decode cX5_isDigit 0 = .ok (.iload_n 0, 1) := by decide +kernel
theorem dX5_isDigit_1 : decode cX5_isDigit 1 = .ok (.bipush 48, 2) := by decide +kernel
theorem dX5_isDigit_3 : decode cX5_isDigit 3 = .ok (.if_icmp .lt 13, 3) := by decide +kernel
theorem dX5_isDigit_6 : decode cX5_isDigit 6 = .ok (.iload_n 0, 1) := by decide +kernel
theorem dX5_isDigit_7 : decode cX5_isDigit 7 = .ok (.bipush 57, 2) := by decide +kernel
theorem dX5_isDigit_9 : decode cX5_isDigit 9 = .ok (.if_icmp .gt 7, 3) := by decide +kernel
theorem dX5_isDigit_12 : decode cX5_isDigit 12 = .ok (.iconst 1, 1) := by decide +kernel
theorem dX5_isDigit_13 : decode cX5_isDigit 13 = .ok (.goto 4, 3) := by decide +kernel
theorem dX5_isDigit_16 : decode cX5_isDigit 16 = .ok (.iconst 0, 1) := by decide +kernel
theorem dX5_isDigit_17 : decode cX5_isDigit 17 = .ok (.ireturn, 1) := by decide +kernel
theorem dX5_step_0 : decode cX5_step 0 = .ok (.aload_n 0, 1) := by decide +kernel
theorem dX5_step_1 : decode cX5_step 1 = .ok (.getfield 35, 3) := by decide +kernel
theorem dX5_step_4 : decode cX5_step 4 = .ok (.tableswitch 220 0 11 #[64, 71, 88, 95, 110, 120, 139, 146, 157, 174, 181, 201], 64) := by decide +kernel
theorem dX5_step_68 : decode cX5_step 68 = .ok (.aload_n 0, 1) := by decide +kernel
theorem dX5_step_69 : decode cX5_step 69 = .ok (.invokevirtual 98, 3) := by decide +kernel
theorem dX5_step_72 : decode cX5_step 72 = .ok (.goto 156, 3) := by decide +kernel
theorem dX5_step_75 : decode cX5_step 75 = .ok (.aload_n 0, 1) := by decide +kernel
theorem dX5_step_76 : decode cX5_step 76 = .ok (.aload_n 0, 1) := by decide +kernel
theorem dX5_step_77 : decode cX5_step 77 = .ok (.iconst 0, 1) := by decide +kernel
theorem dX5_step_78 : decode cX5_step 78 = .ok (.aload_n 0, 1) := by decide +kernel
theorem dX5_step_79 : decode cX5_step 79 = .ok (.invokevirtual 101, 3) := by decide +kernel
theorem dX5_step_82 : decode cX5_step 82 = .ok (.iconst 2, 1) := by decide +kernel
theorem dX5_step_83 : decode cX5_step 83 = .ok (.invokevirtual 104, 3) := by decide +kernel
theorem dX5_step_86 : decode cX5_step 86 = .ok (.putfield 53, 3) := by decide +kernel
theorem dX5_step_89 : decode cX5_step 89 = .ok (.goto 139, 3) := by decide +kernel
theorem dX5_step_92 : decode cX5_step 92 = .ok (.aload_n 0, 1) := by decide +kernel
theorem dX5_step_93 : decode cX5_step 93 = .ok (.invokevirtual 108, 3) := by decide +kernel
theorem dX5_step_96 : decode cX5_step 96 = .ok (.goto 132, 3) := by decide +kernel
theorem dX5_step_99 : decode cX5_step 99 = .ok (.aload_n 0, 1) := by decide +kernel
theorem dX5_step_100 : decode cX5_step 100 = .ok (.aload_n 0, 1) := by decide +kernel
theorem dX5_step_101 : decode cX5_step 101 = .ok (.iconst 0, 1) := by decide +kernel
theorem dX5_step_102 : decode cX5_step 102 = .ok (.bipush 9, 2) := by decide +kernel
theorem dX5_step_104 : decode cX5_step 104 = .ok (.iconst 4, 1) := by decide +kernel
theorem dX5_step_105 : decode cX5_step 105 = .ok (.invokevirtual 104, 3) := by decide +kernel
theorem dX5_step_108 : decode cX5_step 108 = .ok (.putfield 56, 3) := by decide +kernel
theorem dX5_step_111 : decode cX5_step 111 = .ok (.goto 117, 3) := by decide +kernel
theorem dX5_step_114 : decode cX5_step 114 = .ok (.aload_n 0, 1) := by decide +kernel
theorem dX5_step_115 : decode cX5_step 115 = .ok (.ldc 111, 2) := by decide +kernel
theorem dX5_step_117 : decode cX5_step 117 = .ok (.iconst 5, 1) := by decide +kernel
theorem dX5_step_118 : decode cX5_step 118 = .ok (.invokevirtual 113, 3) := by decide +kernel
theorem dX5_step_121 : decode cX5_step 121 = .ok (.goto 107, 3) := by decide +kernel
theorem dX5_step_124 : decode cX5_step 124 = .ok (.aload_n 0, 1) := by decide +kernel
theorem dX5_step_125 : decode cX5_step 125 = .ok (.aload_n 0, 1) := by decide +kernel
theorem dX5_step_126 : decode cX5_step 126 = .ok (.aload_n 0, 1) := by decide +kernel
theorem dX5_step_127 : decode cX5_step 127 = .ok (.getfield 56, 3) := by decide +kernel
theorem dX5_step_130 : decode cX5_step 130 = .ok (.bipush 9, 2) := by decide +kernel
theorem dX5_step_132 : decode cX5_step 132 = .ok (.bipush 6, 2) := by decide +kernel
theorem dX5_step_134 : decode cX5_step 134 = .ok (.invokevirtual 104, 3) := by decide +kernel
theorem dX5_step_137 : decode cX5_step 137 = .ok (.putfield 59, 3) := by decide +kernel
theorem dX5_step_140 : decode cX5_step 140 = .ok (.goto 88, 3) := by decide +kernel
theorem dX5_step_143 : decode cX5_step 143 = .ok (.aload_n 0, 1) := by decide +kernel
theorem dX5_step_144 : decode cX5_step 144 = .ok (.invokevirtual 117, 3) := by decide +kernel
theorem dX5_step_147 : decode cX5_step 147 = .ok (.goto 81, 3) := by decide +kernel
theorem dX5_step_150 : decode cX5_step 150 = .ok (.aload_n 0, 1) := by decide +kernel
theorem dX5_step_151 : decode cX5_step 151 = .ok (.ldc 120, 2) := by decide +kernel
theorem dX5_step_153 : decode cX5_step 153 = .ok (.bipush 8, 2) := by decide +kernel
theorem dX5_step_155 : decode cX5_step 155 = .ok (.invokevirtual 113, 3) := by decide +kernel
theorem dX5_step_158 : decode cX5_step 158 = .ok (.goto 70, 3) := by decide +kernel
theorem dX5_step_161 : decode cX5_step 161 = .ok (.aload_n 0, 1) := by decide +kernel
theorem dX5_step_162 : decode cX5_step 162 = .ok (.aload_n 0, 1) := by decide +kernel
theorem dX5_step_163 : decode cX5_step 163 = .ok (.iconst 0, 1) := by decide +kernel
theorem dX5_step_164 : decode cX5_step 164 = .ok (.sipush 9999, 3) := by decide +kernel
theorem dX5_step_167 : decode cX5_step 167 = .ok (.bipush 12, 2) := by decide +kernel
theorem dX5_step_169 : decode cX5_step 169 = .ok (.invokevirtual 104, 3) := by decide +kernel
theorem dX5_step_172 : decode cX5_step 172 = .ok (.invokevirtual 122, 3) := by decide +kernel
theorem dX5_step_175 : decode cX5_step 175 = .ok (.goto 53, 3) := by decide +kernel
theorem dX5_step_178 : decode cX5_step 178 = .ok (.aload_n 0, 1) := by decide +kernel
theorem dX5_step_179 : decode cX5_step 179 = .ok (.invokevirtual 126, 3) := by decide +kernel
theorem dX5_step_182 : decode cX5_step 182 = .ok (.goto 46, 3) := by decide +kernel
theorem dX5_step_185 : decode cX5_step 185 = .ok (.aload_n 0, 1) := by decide +kernel
theorem dX5_step_186 : decode cX5_step 186 = .ok (.getfield 21, 3) := by decide +kernel
theorem dX5_step_189 : decode cX5_step 189 = .ok (.aload_n 0, 1) := by decide +kernel
theorem dX5_step_190 : decode cX5_step 190 = .ok (.iconst 0, 1) := by decide +kernel
theorem dX5_step_191 : decode cX5_step 191 = .ok (.sipush 9999, 3) := by decide +kernel
theorem dX5_step_194 : decode cX5_step 194 = .ok (.bipush 12, 2) := by decide +kernel
theorem dX5_step_196 : decode cX5_step 196 = .ok (.invokevirtual 104, 3) := by decide +kernel
theorem dX5_step_199 : decode cX5_step 199 = .ok (.putfield 129, 3) := by decide +kernel
theorem dX5_step_202 : decode cX5_step 202 = .ok (.goto 26, 3) := by decide +kernel
theorem dX5_step_205 : decode cX5_step 205 = .ok (.aload_n 0, 1) := by decide +kernel
theorem dX5_step_206 : decode cX5_step 206 = .ok (.getfield 21, 3) := by decide +kernel
theorem dX5_step_209 : decode cX5_step 209 = .ok (.aload_n 0, 1) := by decide +kernel
theorem dX5_step_210 : decode cX5_step 210 = .ok (.iconst 0, 1) := by decide +kernel
theorem dX5_step_211 : decode cX5_step 211 = .ok (.bipush 100, 2) := by decide +kernel
theorem dX5_step_213 : decode cX5_step 213 = .ok (.bipush 12, 2) := by decide +kernel
theorem dX5_step_215 : decode cX5_step 215 = .ok (.invokevirtual 104, 3) := by decide +kernel
theorem dX5_step_218 : decode cX5_step 218 = .ok (.putfield 132, 3) := by decide +kernel
theorem dX5_step_221 : decode cX5_step 221 = .ok (.goto 7, 3) := by decide +kernel
theorem dX5_step_224 : decode cX5_step 224 = .ok (.aload_n 0, 1) := by decide +kernel
theorem dX5_step_225 : decode cX5_step 225 = .ok (.invokevirtual 135, 3) := by decide +kernel
theorem dX5_step_228 : decode cX5_step 228 = .ok (.return_, 1) := by decide +kernel
theorem dX5_startLine_0 : decode cX5_startLine 0 = .ok (.aload_n 0, 1) := by decide +kernel
theorem dX5_startLine_1 : decode cX5_startLine 1 = .ok (.invokevirtual 138, 3) := by decide +kernel
theorem dX5_startLine_4 : decode cX5_startLine 4 = .ok (.istore_n 1, 1) := by decide +kernel
theorem dX5_startLine_5 : decode cX5_startLine 5 = .ok (.iload_n 1, 1) := by decide +kernel
theorem dX5_startLine_6 : decode cX5_startLine 6 = .ok (.iconst (-1), 1) := by decide +kernel
theorem dX5_startLine_7 : decode cX5_startLine 7 = .ok (.if_icmp .eq 33, 3) := by decide +kernel
theorem dX5_startLine_10 : decode cX5_startLine 10 = .ok (.aload_n 0, 1) := by decide +kernel
theorem dX5_startLine_11 : decode cX5_startLine 11 = .ok (.iload_n 1, 1) := by decide +kernel
theorem dX5_startLine_12 : decode cX5_startLine 12 = .ok (.putfield 50, 3) := by decide +kernel
theorem dX5_startLine_15 : decode cX5_startLine 15 = .ok (.aload_n 0, 1) := by decide +kernel
theorem dX5_startLine_16 : decode cX5_startLine 16 = .ok (.aload_n 0, 1) := by decide +kernel
theorem dX5_startLine_17 : decode cX5_startLine 17 = .ok (.getfield 21, 3) := by decide +kernel
theorem dX5_startLine_20 : decode cX5_startLine 20 = .ok (.getfield 141, 3) := by decide +kernel
theorem dX5_startLine_23 : decode cX5_startLine 23 = .ok (.bipush 12, 2) := by decide +kernel
theorem dX5_startLine_25 : decode cX5_startLine 25 = .ok (.if_icmp .lt 7, 3) := by decide +kernel
theorem dX5_startLine_28 : decode cX5_startLine 28 = .ok (.iconst 4, 1) := by decide +kernel
theorem dX5_startLine_29 : decode cX5_startLine 29 = .ok (.goto 4, 3) := by decide +kernel
theorem dX5_startLine_32 : decode cX5_startLine 32 = .ok (.iconst 0, 1) := by decide +kernel
theorem dX5_startLine_33 : decode cX5_startLine 33 = .ok (.iconst 1, 1) := by decide +kernel
theorem dX5_startLine_34 : decode cX5_startLine 34 = .ok (.invokevirtual 144, 3) := by decide +kernel
theorem dX5_startLine_37 : decode cX5_startLine 37 = .ok (.goto 95, 3) := by decide +kernel
theorem dX5_startLine_40 : decode cX5_startLine 40 = .ok (.aload_n 0, 1) := by decide +kernel
theorem dX5_startLine_41 : decode cX5_startLine 41 = .ok (.ldc 148, 2) := by decide +kernel
theorem dX5_startLine_43 : decode cX5_startLine 43 = .ok (.invokevirtual 150, 3) := by decide +kernel
theorem dX5_startLine_46 : decode cX5_startLine 46 = .ok (.ifCond .eq 13, 3) := by decide +kernel
theorem dX5_startLine_49 : decode cX5_startLine 49 = .ok (.aload_n 0, 1) := by decide +kernel
theorem dX5_startLine_50 : decode cX5_startLine 50 = .ok (.iconst 0, 1) := by decide +kernel
theorem dX5_startLine_51 : decode cX5_startLine 51 = .ok (.bipush 9, 2) := by decide +kernel
theorem dX5_startLine_53 : decode cX5_startLine 53 = .ok (.invokevirtual 144, 3) := by decide +kernel
theorem dX5_startLine_56 : decode cX5_startLine 56 = .ok (.goto 76, 3) := by decide +kernel
theorem dX5_startLine_59 : decode cX5_startLine 59 = .ok (.aload_n 0, 1) := by decide +kernel
theorem dX5_startLine_60 : decode cX5_startLine 60 = .ok (.ldc 154, 2) := by decide +kernel
theorem dX5_startLine_62 : decode cX5_startLine 62 = .ok (.invokevirtual 150, 3) := by decide +kernel
theorem dX5_startLine_65 : decode cX5_startLine 65 = .ok (.ifCond .eq 28, 3) := by decide +kernel
theorem dX5_startLine_68 : decode cX5_startLine 68 = .ok (.aload_n 0, 1) := by decide +kernel
theorem dX5_startLine_69 : decode cX5_startLine 69 = .ok (.aload_n 0, 1) := by decide +kernel
theorem dX5_startLine_70 : decode cX5_startLine 70 = .ok (.getfield 21, 3) := by decide +kernel
theorem dX5_startLine_73 : decode cX5_startLine 73 = .ok (.getfield 129, 3) := by decide +kernel
theorem dX5_startLine_76 : decode cX5_startLine 76 = .ok (.iconst (-1), 1) := by decide +kernel
theorem dX5_startLine_77 : decode cX5_startLine 77 = .ok (.if_icmp .eq 7, 3) := by decide +kernel
theorem dX5_startLine_80 : decode cX5_startLine 80 = .ok (.iconst 3, 1) := by decide +kernel
theorem dX5_startLine_81 : decode cX5_startLine 81 = .ok (.goto 4, 3) := by decide +kernel
theorem dX5_startLine_84 : decode cX5_startLine 84 = .ok (.iconst 0, 1) := by decide +kernel
theorem dX5_startLine_85 : decode cX5_startLine 85 = .ok (.bipush 10, 2) := by decide +kernel
theorem dX5_startLine_87 : decode cX5_startLine 87 = .ok (.invokevirtual 144, 3) := by decide +kernel
theorem dX5_startLine_90 : decode cX5_startLine 90 = .ok (.goto 42, 3) := by decide +kernel
theorem dX5_startLine_93 : decode cX5_startLine 93 = .ok (.aload_n 0, 1) := by decide +kernel
theorem dX5_startLine_94 : decode cX5_startLine 94 = .ok (.ldc 155, 2) := by decide +kernel
theorem dX5_startLine_96 : decode cX5_startLine 96 = .ok (.invokevirtual 150, 3) := by decide +kernel
theorem dX5_startLine_99 : decode cX5_startLine 99 = .ok (.ifCond .eq 28, 3) := by decide +kernel
theorem dX5_startLine_102 : decode cX5_startLine 102 = .ok (.aload_n 0, 1) := by decide +kernel
theorem dX5_startLine_103 : decode cX5_startLine 103 = .ok (.aload_n 0, 1) := by decide +kernel
theorem dX5_startLine_104 : decode cX5_startLine 104 = .ok (.getfield 21, 3) := by decide +kernel
theorem dX5_startLine_107 : decode cX5_startLine 107 = .ok (.getfield 132, 3) := by decide +kernel
theorem dX5_startLine_110 : decode cX5_startLine 110 = .ok (.iconst (-1), 1) := by decide +kernel
theorem dX5_startLine_111 : decode cX5_startLine 111 = .ok (.if_icmp .eq 7, 3) := by decide +kernel
theorem dX5_startLine_114 : decode cX5_startLine 114 = .ok (.iconst 3, 1) := by decide +kernel
theorem dX5_startLine_115 : decode cX5_startLine 115 = .ok (.goto 4, 3) := by decide +kernel
theorem dX5_startLine_118 : decode cX5_startLine 118 = .ok (.iconst 0, 1) := by decide +kernel
theorem dX5_startLine_119 : decode cX5_startLine 119 = .ok (.bipush 11, 2) := by decide +kernel
theorem dX5_startLine_121 : decode cX5_startLine 121 = .ok (.invokevirtual 144, 3) := by decide +kernel
theorem dX5_startLine_124 : decode cX5_startLine 124 = .ok (.goto 8, 3) := by decide +kernel
theorem dX5_startLine_127 : decode cX5_startLine 127 = .ok (.aload_n 0, 1) := by decide +kernel
theorem dX5_startLine_128 : decode cX5_startLine 128 = .ok (.iconst 1, 1) := by decide +kernel
theorem dX5_startLine_129 : decode cX5_startLine 129 = .ok (.invokevirtual 156, 3) := by decide +kernel
theorem dX5_startLine_132 : decode cX5_startLine 132 = .ok (.return_, 1) := by decide +kernel
theorem dX5_ruleKind_0 : decode cX5_ruleKind 0 = .ok (.aload_n 0, 1) := by decide +kernel
theorem dX5_ruleKind_1 : decode cX5_ruleKind 1 = .ok (.ldc 159, 2) := by decide +kernel
theorem dX5_ruleKind_3 : decode cX5_ruleKind 3 = .ok (.invokevirtual 150, 3) := by decide +kernel
theorem dX5_ruleKind_6 : decode cX5_ruleKind 6 = .ok (.ifCond .eq 5, 3) := by decide +kernel
theorem dX5_ruleKind_9 : decode cX5_ruleKind 9 = .ok (.iconst 0, 1) := by decide +kernel
theorem dX5_ruleKind_10 : decode cX5_ruleKind 10 = .ok (.ireturn, 1) := by decide +kernel
theorem dX5_ruleKind_11 : decode cX5_ruleKind 11 = .ok (.aload_n 0, 1) := by decide +kernel
theorem dX5_ruleKind_12 : decode cX5_ruleKind 12 = .ok (.ldc 161, 2) := by decide +kernel
theorem dX5_ruleKind_14 : decode cX5_ruleKind 14 = .ok (.invokevirtual 150, 3) := by decide +kernel
theorem dX5_ruleKind_17 : decode cX5_ruleKind 17 = .ok (.ifCond .eq 5, 3) := by decide +kernel
theorem dX5_ruleKind_20 : decode cX5_ruleKind 20 = .ok (.iconst 1, 1) := by decide +kernel
theorem dX5_ruleKind_21 : decode cX5_ruleKind 21 = .ok (.ireturn, 1) := by decide +kernel
theorem dX5_ruleKind_22 : decode cX5_ruleKind 22 = .ok (.aload_n 0, 1) := by decide +kernel
theorem dX5_ruleKind_23 : decode cX5_ruleKind 23 = .ok (.ldc 163, 2) := by decide +kernel
theorem dX5_ruleKind_25 : decode cX5_ruleKind 25 = .ok (.invokevirtual 150, 3) := by decide +kernel
theorem dX5_ruleKind_28 : decode cX5_ruleKind 28 = .ok (.ifCond .eq 5, 3) := by decide +kernel
theorem dX5_ruleKind_31 : decode cX5_ruleKind 31 = .ok (.iconst 2, 1) := by decide +kernel
theorem dX5_ruleKind_32 : decode cX5_ruleKind 32 = .ok (.ireturn, 1) := by decide +kernel
theorem dX5_ruleKind_33 : decode cX5_ruleKind 33 = .ok (.aload_n 0, 1) := by decide +kernel
theorem dX5_ruleKind_34 : decode cX5_ruleKind 34 = .ok (.ldc 165, 2) := by decide +kernel
theorem dX5_ruleKind_36 : decode cX5_ruleKind 36 = .ok (.invokevirtual 150, 3) := by decide +kernel
theorem dX5_ruleKind_39 : decode cX5_ruleKind 39 = .ok (.ifCond .eq 5, 3) := by decide +kernel
theorem dX5_ruleKind_42 : decode cX5_ruleKind 42 = .ok (.iconst 3, 1) := by decide +kernel
theorem dX5_ruleKind_43 : decode cX5_ruleKind 43 = .ok (.ireturn, 1) := by decide +kernel
theorem dX5_ruleKind_44 : decode cX5_ruleKind 44 = .ok (.aload_n 0, 1) := by decide +kernel
theorem dX5_ruleKind_45 : decode cX5_ruleKind 45 = .ok (.ldc 167, 2) := by decide +kernel
theorem dX5_ruleKind_47 : decode cX5_ruleKind 47 = .ok (.invokevirtual 150, 3) := by decide +kernel
theorem dX5_ruleKind_50 : decode cX5_ruleKind 50 = .ok (.ifCond .eq 5, 3) := by decide +kernel
theorem dX5_ruleKind_53 : decode cX5_ruleKind 53 = .ok (.iconst 4, 1) := by decide +kernel
theorem dX5_ruleKind_54 : decode cX5_ruleKind 54 = .ok (.ireturn, 1) := by decide +kernel
theorem dX5_ruleKind_55 : decode cX5_ruleKind 55 = .ok (.aload_n 0, 1) := by decide +kernel
theorem dX5_ruleKind_56 : decode cX5_ruleKind 56 = .ok (.ldc 169, 2) := by decide +kernel
theorem dX5_ruleKind_58 : decode cX5_ruleKind 58 = .ok (.invokevirtual 150, 3) := by decide +kernel
theorem dX5_ruleKind_61 : decode cX5_ruleKind 61 = .ok (.ifCond .eq 5, 3) := by decide +kernel
theorem dX5_ruleKind_64 : decode cX5_ruleKind 64 = .ok (.iconst 5, 1) := by decide +kernel
theorem dX5_ruleKind_65 : decode cX5_ruleKind 65 = .ok (.ireturn, 1) := by decide +kernel
theorem dX5_ruleKind_66 : decode cX5_ruleKind 66 = .ok (.aload_n 0, 1) := by decide +kernel
theorem dX5_ruleKind_67 : decode cX5_ruleKind 67 = .ok (.ldc 171, 2) := by decide +kernel
theorem dX5_ruleKind_69 : decode cX5_ruleKind 69 = .ok (.invokevirtual 150, 3) := by decide +kernel
theorem dX5_ruleKind_72 : decode cX5_ruleKind 72 = .ok (.ifCond .eq 6, 3) := by decide +kernel
theorem dX5_ruleKind_75 : decode cX5_ruleKind 75 = .ok (.bipush 6, 2) := by decide +kernel
theorem dX5_ruleKind_77 : decode cX5_ruleKind 77 = .ok (.ireturn, 1) := by decide +kernel
theorem dX5_ruleKind_78 : decode cX5_ruleKind 78 = .ok (.aload_n 0, 1) := by decide +kernel
theorem dX5_ruleKind_79 : decode cX5_ruleKind 79 = .ok (.ldc 173, 2) := by decide +kernel
theorem dX5_ruleKind_81 : decode cX5_ruleKind 81 = .ok (.invokevirtual 150, 3) := by decide +kernel
theorem dX5_ruleKind_84 : decode cX5_ruleKind 84 = .ok (.ifCond .eq 8, 3) := by decide +kernel
theorem dX5_ruleKind_87 : decode cX5_ruleKind 87 = .ok (.bipush 7, 2) := by decide +kernel
theorem dX5_ruleKind_89 : decode cX5_ruleKind 89 = .ok (.goto 4, 3) := by decide +kernel
theorem dX5_ruleKind_92 : decode cX5_ruleKind 92 = .ok (.iconst (-1), 1) := by decide +kernel
theorem dX5_ruleKind_93 : decode cX5_ruleKind 93 = .ok (.ireturn, 1) := by decide +kernel
theorem dX5_topLimit_0 : decode cX5_topLimit 0 = .ok (.aload_n 0, 1) := by decide +kernel
theorem dX5_topLimit_1 : decode cX5_topLimit 1 = .ok (.getfield 50, 3) := by decide +kernel
theorem dX5_topLimit_4 : decode cX5_topLimit 4 = .ok (.tableswitch 37 5 7 #[28, 31, 34], 28) := by decide +kernel
theorem dX5_topLimit_32 : decode cX5_topLimit 32 = .ok (.bipush 15, 2) := by decide +kernel
theorem dX5_topLimit_34 : decode cX5_topLimit 34 = .ok (.ireturn, 1) := by decide +kernel
theorem dX5_topLimit_35 : decode cX5_topLimit 35 = .ok (.bipush 7, 2) := by decide +kernel
theorem dX5_topLimit_37 : decode cX5_topLimit 37 = .ok (.ireturn, 1) := by decide +kernel
theorem dX5_topLimit_38 : decode cX5_topLimit 38 = .ok (.bipush 7, 2) := by decide +kernel
theorem dX5_topLimit_40 : decode cX5_topLimit 40 = .ok (.ireturn, 1) := by decide +kernel
theorem dX5_topLimit_41 : decode cX5_topLimit 41 = .ok (.sipush 9999, 3) := by decide +kernel
theorem dX5_topLimit_44 : decode cX5_topLimit 44 = .ok (.ireturn, 1) := by decide +kernel
theorem dX5_readWho_0 : decode cX5_readWho 0 = .ok (.aload_n 0, 1) := by decide +kernel
theorem dX5_readWho_1 : decode cX5_readWho 1 = .ok (.ldc 175, 2) := by decide +kernel
theorem dX5_readWho_3 : decode cX5_readWho 3 = .ok (.invokevirtual 150, 3) := by decide +kernel
theorem dX5_readWho_6 : decode cX5_readWho 6 = .ok (.ifCond .eq 23, 3) := by decide +kernel
theorem dX5_readWho_9 : decode cX5_readWho 9 = .ok (.aload_n 0, 1) := by decide +kernel
theorem dX5_readWho_10 : decode cX5_readWho 10 = .ok (.iconst 0, 1) := by decide +kernel
theorem dX5_readWho_11 : decode cX5_readWho 11 = .ok (.putfield 56, 3) := by decide +kernel
theorem dX5_readWho_14 : decode cX5_readWho 14 = .ok (.aload_n 0, 1) := by decide +kernel
theorem dX5_readWho_15 : decode cX5_readWho 15 = .ok (.bipush 9, 2) := by decide +kernel
theorem dX5_readWho_17 : decode cX5_readWho 17 = .ok (.putfield 59, 3) := by decide +kernel
theorem dX5_readWho_20 : decode cX5_readWho 20 = .ok (.aload_n 0, 1) := by decide +kernel
theorem dX5_readWho_21 : decode cX5_readWho 21 = .ok (.bipush 6, 2) := by decide +kernel
theorem dX5_readWho_23 : decode cX5_readWho 23 = .ok (.putfield 35, 3) := by decide +kernel
theorem dX5_readWho_26 : decode cX5_readWho 26 = .ok (.goto 10, 3) := by decide +kernel
theorem dX5_readWho_29 : decode cX5_readWho 29 = .ok (.aload_n 0, 1) := by decide +kernel
theorem dX5_readWho_30 : decode cX5_readWho 30 = .ok (.ldc 177, 2) := by decide +kernel
theorem dX5_readWho_32 : decode cX5_readWho 32 = .ok (.iconst 3, 1) := by decide +kernel
theorem dX5_readWho_33 : decode cX5_readWho 33 = .ok (.invokevirtual 113, 3) := by decide +kernel
theorem dX5_readWho_36 : decode cX5_readWho 36 = .ok (.return_, 1) := by decide +kernel
theorem dX5_readWhen_0 : decode cX5_readWhen 0 = .ok (.aload_n 0, 1) := by decide +kernel
theorem dX5_readWhen_1 : decode cX5_readWhen 1 = .ok (.aload_n 0, 1) := by decide +kernel
theorem dX5_readWhen_2 : decode cX5_readWhen 2 = .ok (.invokevirtual 179, 3) := by decide +kernel
theorem dX5_readWhen_5 : decode cX5_readWhen 5 = .ok (.putfield 62, 3) := by decide +kernel
theorem dX5_readWhen_8 : decode cX5_readWhen 8 = .ok (.aload_n 0, 1) := by decide +kernel
theorem dX5_readWhen_9 : decode cX5_readWhen 9 = .ok (.aload_n 0, 1) := by decide +kernel
theorem dX5_readWhen_10 : decode cX5_readWhen 10 = .ok (.getfield 62, 3) := by decide +kernel
theorem dX5_readWhen_13 : decode cX5_readWhen 13 = .ok (.iconst (-1), 1) := by decide +kernel
theorem dX5_readWhen_14 : decode cX5_readWhen 14 = .ok (.if_icmp .ne 7, 3) := by decide +kernel
theorem dX5_readWhen_17 : decode cX5_readWhen 17 = .ok (.iconst 1, 1) := by decide +kernel
theorem dX5_readWhen_18 : decode cX5_readWhen 18 = .ok (.goto 4, 3) := by decide +kernel
theorem dX5_readWhen_21 : decode cX5_readWhen 21 = .ok (.iconst 0, 1) := by decide +kernel
theorem dX5_readWhen_22 : decode cX5_readWhen 22 = .ok (.bipush 7, 2) := by decide +kernel
theorem dX5_readWhen_24 : decode cX5_readWhen 24 = .ok (.invokevirtual 144, 3) := by decide +kernel
theorem dX5_readWhen_27 : decode cX5_readWhen 27 = .ok (.return_, 1) := by decide +kernel
theorem dX5_whenWord_0 : decode cX5_whenWord 0 = .ok (.aload_n 0, 1) := by decide +kernel
theorem dX5_whenWord_1 : decode cX5_whenWord 1 = .ok (.ldc 182, 2) := by decide +kernel
theorem dX5_whenWord_3 : decode cX5_whenWord 3 = .ok (.invokevirtual 150, 3) := by decide +kernel
theorem dX5_whenWord_6 : decode cX5_whenWord 6 = .ok (.ifCond .eq 5, 3) := by decide +kernel
theorem dX5_whenWord_9 : decode cX5_whenWord 9 = .ok (.iconst 0, 1) := by decide +kernel
theorem dX5_whenWord_10 : decode cX5_whenWord 10 = .ok (.ireturn, 1) := by decide +kernel
theorem dX5_whenWord_11 : decode cX5_whenWord 11 = .ok (.aload_n 0, 1) := by decide +kernel
theorem dX5_whenWord_12 : decode cX5_whenWord 12 = .ok (.ldc 184, 2) := by decide +kernel
theorem dX5_whenWord_14 : decode cX5_whenWord 14 = .ok (.invokevirtual 150, 3) := by decide +kernel
theorem dX5_whenWord_17 : decode cX5_whenWord 17 = .ok (.ifCond .eq 5, 3) := by decide +kernel
theorem dX5_whenWord_20 : decode cX5_whenWord 20 = .ok (.iconst 1, 1) := by decide +kernel
theorem dX5_whenWord_21 : decode cX5_whenWord 21 = .ok (.ireturn, 1) := by decide +kernel
theorem dX5_whenWord_22 : decode cX5_whenWord 22 = .ok (.aload_n 0, 1) := by decide +kernel
theorem dX5_whenWord_23 : decode cX5_whenWord 23 = .ok (.ldc 186, 2) := by decide +kernel
theorem dX5_whenWord_25 : decode cX5_whenWord 25 = .ok (.invokevirtual 150, 3) := by decide +kernel
theorem dX5_whenWord_28 : decode cX5_whenWord 28 = .ok (.ifCond .eq 5, 3) := by decide +kernel
theorem dX5_whenWord_31 : decode cX5_whenWord 31 = .ok (.iconst 2, 1) := by decide +kernel
theorem dX5_whenWord_32 : decode cX5_whenWord 32 = .ok (.ireturn, 1) := by decide +kernel
theorem dX5_whenWord_33 : decode cX5_whenWord 33 = .ok (.aload_n 0, 1) := by decide +kernel
theorem dX5_whenWord_34 : decode cX5_whenWord 34 = .ok (.ldc 188, 2) := by decide +kernel
theorem dX5_whenWord_36 : decode cX5_whenWord 36 = .ok (.invokevirtual 150, 3) := by decide +kernel
theorem dX5_whenWord_39 : decode cX5_whenWord 39 = .ok (.ifCond .eq 7, 3) := by decide +kernel
theorem dX5_whenWord_42 : decode cX5_whenWord 42 = .ok (.iconst 3, 1) := by decide +kernel
theorem dX5_whenWord_43 : decode cX5_whenWord 43 = .ok (.goto 4, 3) := by decide +kernel
theorem dX5_whenWord_46 : decode cX5_whenWord 46 = .ok (.iconst (-1), 1) := by decide +kernel
theorem dX5_whenWord_47 : decode cX5_whenWord 47 = .ok (.ireturn, 1) := by decide +kernel
theorem dX5_finishRule_0 : decode cX5_finishRule 0 = .ok (.aload_n 0, 1) := by decide +kernel
theorem dX5_finishRule_1 : decode cX5_finishRule 1 = .ok (.getfield 29, 3) := by decide +kernel
theorem dX5_finishRule_4 : decode cX5_finishRule 4 = .ok (.ifCond .ne 38, 3) := by decide +kernel
theorem dX5_finishRule_7 : decode cX5_finishRule 7 = .ok (.aload_n 0, 1) := by decide +kernel
theorem dX5_finishRule_8 : decode cX5_finishRule 8 = .ok (.getfield 21, 3) := by decide +kernel
theorem dX5_finishRule_11 : decode cX5_finishRule 11 = .ok (.new 190, 3) := by decide +kernel
theorem dX5_finishRule_14 : decode cX5_finishRule 14 = .ok (.dup, 1) := by decide +kernel
theorem dX5_finishRule_15 : decode cX5_finishRule 15 = .ok (.aload_n 0, 1) := by decide +kernel
theorem dX5_finishRule_16 : decode cX5_finishRule 16 = .ok (.getfield 50, 3) := by decide +kernel
theorem dX5_finishRule_19 : decode cX5_finishRule 19 = .ok (.aload_n 0, 1) := by decide +kernel
theorem dX5_finishRule_20 : decode cX5_finishRule 20 = .ok (.getfield 53, 3) := by decide +kernel
theorem dX5_finishRule_23 : decode cX5_finishRule 23 = .ok (.aload_n 0, 1) := by decide +kernel
theorem dX5_finishRule_24 : decode cX5_finishRule 24 = .ok (.getfield 56, 3) := by decide +kernel
theorem dX5_finishRule_27 : decode cX5_finishRule 27 = .ok (.aload_n 0, 1) := by decide +kernel
theorem dX5_finishRule_28 : decode cX5_finishRule 28 = .ok (.getfield 59, 3) := by decide +kernel
theorem dX5_finishRule_31 : decode cX5_finishRule 31 = .ok (.aload_n 0, 1) := by decide +kernel
theorem dX5_finishRule_32 : decode cX5_finishRule 32 = .ok (.getfield 62, 3) := by decide +kernel
theorem dX5_finishRule_35 : decode cX5_finishRule 35 = .ok (.iload_n 1, 1) := by decide +kernel
theorem dX5_finishRule_36 : decode cX5_finishRule 36 = .ok (.invokespecial 192, 3) := by decide +kernel
theorem dX5_finishRule_39 : decode cX5_finishRule 39 = .ok (.invokevirtual 195, 3) := by decide +kernel
theorem dX5_finishRule_42 : decode cX5_finishRule 42 = .ok (.return_, 1) := by decide +kernel
theorem dX5_readRepeal_0 : decode cX5_readRepeal 0 = .ok (.iconst 1, 1) := by decide +kernel
theorem dX5_readRepeal_1 : decode cX5_readRepeal 1 = .ok (.aload_n 0, 1) := by decide +kernel
theorem dX5_readRepeal_2 : decode cX5_readRepeal 2 = .ok (.iconst 0, 1) := by decide +kernel
theorem dX5_readRepeal_3 : decode cX5_readRepeal 3 = .ok (.aload_n 0, 1) := by decide +kernel
theorem dX5_readRepeal_4 : decode cX5_readRepeal 4 = .ok (.getfield 25, 3) := by decide +kernel
theorem dX5_readRepeal_7 : decode cX5_readRepeal 7 = .ok (.iconst 1, 1) := by decide +kernel
theorem dX5_readRepeal_8 : decode cX5_readRepeal 8 = .ok (.isub, 1) := by decide +kernel
theorem dX5_readRepeal_9 : decode cX5_readRepeal 9 = .ok (.bipush 12, 2) := by decide +kernel
theorem dX5_readRepeal_11 : decode cX5_readRepeal 11 = .ok (.invokevirtual 104, 3) := by decide +kernel
theorem dX5_readRepeal_14 : decode cX5_readRepeal 14 = .ok (.ishl, 1) := by decide +kernel
theorem dX5_readRepeal_15 : decode cX5_readRepeal 15 = .ok (.istore_n 1, 1) := by decide +kernel
theorem dX5_readRepeal_16 : decode cX5_readRepeal 16 = .ok (.aload_n 0, 1) := by decide +kernel
theorem dX5_readRepeal_17 : decode cX5_readRepeal 17 = .ok (.getfield 29, 3) := by decide +kernel
theorem dX5_readRepeal_20 : decode cX5_readRepeal 20 = .ok (.ifCond .ne 39, 3) := by decide +kernel
theorem dX5_readRepeal_23 : decode cX5_readRepeal 23 = .ok (.aload_n 0, 1) := by decide +kernel
theorem dX5_readRepeal_24 : decode cX5_readRepeal 24 = .ok (.aload_n 0, 1) := by decide +kernel
theorem dX5_readRepeal_25 : decode cX5_readRepeal 25 = .ok (.getfield 21, 3) := by decide +kernel
theorem dX5_readRepeal_28 : decode cX5_readRepeal 28 = .ok (.getfield 199, 3) := by decide +kernel
theorem dX5_readRepeal_31 : decode cX5_readRepeal 31 = .ok (.iload_n 1, 1) := by decide +kernel
theorem dX5_readRepeal_32 : decode cX5_readRepeal 32 = .ok (.iand, 1) := by decide +kernel
theorem dX5_readRepeal_33 : decode cX5_readRepeal 33 = .ok (.ifCond .eq 7, 3) := by decide +kernel
theorem dX5_readRepeal_36 : decode cX5_readRepeal 36 = .ok (.iconst 3, 1) := by decide +kernel
theorem dX5_readRepeal_37 : decode cX5_readRepeal 37 = .ok (.goto 4, 3) := by decide +kernel
theorem dX5_readRepeal_40 : decode cX5_readRepeal 40 = .ok (.iconst 0, 1) := by decide +kernel
theorem dX5_readRepeal_41 : decode cX5_readRepeal 41 = .ok (.bipush 12, 2) := by decide +kernel
theorem dX5_readRepeal_43 : decode cX5_readRepeal 43 = .ok (.invokevirtual 144, 3) := by decide +kernel
theorem dX5_readRepeal_46 : decode cX5_readRepeal 46 = .ok (.aload_n 0, 1) := by decide +kernel
theorem dX5_readRepeal_47 : decode cX5_readRepeal 47 = .ok (.getfield 21, 3) := by decide +kernel
theorem dX5_readRepeal_50 : decode cX5_readRepeal 50 = .ok (.dup, 1) := by decide +kernel
theorem dX5_readRepeal_51 : decode cX5_readRepeal 51 = .ok (.getfield 199, 3) := by decide +kernel
theorem dX5_readRepeal_54 : decode cX5_readRepeal 54 = .ok (.iload_n 1, 1) := by decide +kernel
theorem dX5_readRepeal_55 : decode cX5_readRepeal 55 = .ok (.ior, 1) := by decide +kernel
theorem dX5_readRepeal_56 : decode cX5_readRepeal 56 = .ok (.putfield 199, 3) := by decide +kernel
theorem dX5_readRepeal_59 : decode cX5_readRepeal 59 = .ok (.return_, 1) := by decide +kernel
theorem dX5_endLine_0 : decode cX5_endLine 0 = .ok (.aload_n 0, 1) := by decide +kernel
theorem dX5_endLine_1 : decode cX5_endLine 1 = .ok (.aload_n 0, 1) := by decide +kernel
theorem dX5_endLine_2 : decode cX5_endLine 2 = .ok (.getfield 38, 3) := by decide +kernel
theorem dX5_endLine_5 : decode cX5_endLine 5 = .ok (.iconst 3, 1) := by decide +kernel
theorem dX5_endLine_6 : decode cX5_endLine 6 = .ok (.if_icmp .ne 7, 3) := by decide +kernel
theorem dX5_endLine_9 : decode cX5_endLine 9 = .ok (.iconst 0, 1) := by decide +kernel
theorem dX5_endLine_10 : decode cX5_endLine 10 = .ok (.goto 4, 3) := by decide +kernel
theorem dX5_endLine_13 : decode cX5_endLine 13 = .ok (.iconst 1, 1) := by decide +kernel
theorem dX5_endLine_14 : decode cX5_endLine 14 = .ok (.iconst 0, 1) := by decide +kernel
theorem dX5_endLine_15 : decode cX5_endLine 15 = .ok (.invokevirtual 144, 3) := by decide +kernel
theorem dX5_endLine_18 : decode cX5_endLine 18 = .ok (.return_, 1) := by decide +kernel
theorem dX5_takeNumber_0 : decode cX5_takeNumber 0 = .ok (.aload_n 0, 1) := by decide +kernel
theorem dX5_takeNumber_1 : decode cX5_takeNumber 1 = .ok (.getfield 38, 3) := by decide +kernel
theorem dX5_takeNumber_4 : decode cX5_takeNumber 4 = .ok (.iconst 2, 1) := by decide +kernel
theorem dX5_takeNumber_5 : decode cX5_takeNumber 5 = .ok (.if_icmp .eq 10, 3) := by decide +kernel
theorem dX5_takeNumber_8 : decode cX5_takeNumber 8 = .ok (.aload_n 0, 1) := by decide +kernel
theorem dX5_takeNumber_9 : decode cX5_takeNumber 9 = .ok (.iconst 1, 1) := by decide +kernel
theorem dX5_takeNumber_10 : decode cX5_takeNumber 10 = .ok (.invokevirtual 156, 3) := by decide +kernel
theorem dX5_takeNumber_13 : decode cX5_takeNumber 13 = .ok (.iconst 0, 1) := by decide +kernel
theorem dX5_takeNumber_14 : decode cX5_takeNumber 14 = .ok (.ireturn, 1) := by decide +kernel
theorem dX5_takeNumber_15 : decode cX5_takeNumber 15 = .ok (.aload_n 0, 1) := by decide +kernel
theorem dX5_takeNumber_16 : decode cX5_takeNumber 16 = .ok (.getfield 47, 3) := by decide +kernel
theorem dX5_takeNumber_19 : decode cX5_takeNumber 19 = .ok (.iload_n 1, 1) := by decide +kernel
theorem dX5_takeNumber_20 : decode cX5_takeNumber 20 = .ok (.if_icmp .lt 11, 3) := by decide +kernel
theorem dX5_takeNumber_23 : decode cX5_takeNumber 23 = .ok (.aload_n 0, 1) := by decide +kernel
theorem dX5_takeNumber_24 : decode cX5_takeNumber 24 = .ok (.getfield 47, 3) := by decide +kernel
theorem dX5_takeNumber_27 : decode cX5_takeNumber 27 = .ok (.iload_n 2, 1) := by decide +kernel
theorem dX5_takeNumber_28 : decode cX5_takeNumber 28 = .ok (.if_icmp .le 10, 3) := by decide +kernel
theorem dX5_takeNumber_31 : decode cX5_takeNumber 31 = .ok (.aload_n 0, 1) := by decide +kernel
theorem dX5_takeNumber_32 : decode cX5_takeNumber 32 = .ok (.iconst 2, 1) := by decide +kernel
theorem dX5_takeNumber_33 : decode cX5_takeNumber 33 = .ok (.invokevirtual 156, 3) := by decide +kernel
theorem dX5_takeNumber_36 : decode cX5_takeNumber 36 = .ok (.iconst 0, 1) := by decide +kernel
theorem dX5_takeNumber_37 : decode cX5_takeNumber 37 = .ok (.ireturn, 1) := by decide +kernel
theorem dX5_takeNumber_38 : decode cX5_takeNumber 38 = .ok (.aload_n 0, 1) := by decide +kernel
theorem dX5_takeNumber_39 : decode cX5_takeNumber 39 = .ok (.iload_n 3, 1) := by decide +kernel
theorem dX5_takeNumber_40 : decode cX5_takeNumber 40 = .ok (.putfield 35, 3) := by decide +kernel
theorem dX5_takeNumber_43 : decode cX5_takeNumber 43 = .ok (.aload_n 0, 1) := by decide +kernel
theorem dX5_takeNumber_44 : decode cX5_takeNumber 44 = .ok (.getfield 47, 3) := by decide +kernel
theorem dX5_takeNumber_47 : decode cX5_takeNumber 47 = .ok (.ireturn, 1) := by decide +kernel
theorem dX5_takeWord_0 : decode cX5_takeWord 0 = .ok (.aload_n 0, 1) := by decide +kernel
theorem dX5_takeWord_1 : decode cX5_takeWord 1 = .ok (.aload_n 0, 1) := by decide +kernel
theorem dX5_takeWord_2 : decode cX5_takeWord 2 = .ok (.aload_n 1, 1) := by decide +kernel
theorem dX5_takeWord_3 : decode cX5_takeWord 3 = .ok (.invokevirtual 150, 3) := by decide +kernel
theorem dX5_takeWord_6 : decode cX5_takeWord 6 = .ok (.ifCond .eq 7, 3) := by decide +kernel
theorem dX5_takeWord_9 : decode cX5_takeWord 9 = .ok (.iconst 0, 1) := by decide +kernel
theorem dX5_takeWord_10 : decode cX5_takeWord 10 = .ok (.goto 4, 3) := by decide +kernel
theorem dX5_takeWord_13 : decode cX5_takeWord 13 = .ok (.iconst 1, 1) := by decide +kernel
theorem dX5_takeWord_14 : decode cX5_takeWord 14 = .ok (.iload_n 2, 1) := by decide +kernel
theorem dX5_takeWord_15 : decode cX5_takeWord 15 = .ok (.invokevirtual 144, 3) := by decide +kernel
theorem dX5_takeWord_18 : decode cX5_takeWord 18 = .ok (.return_, 1) := by decide +kernel
theorem dX5_isWord_0 : decode cX5_isWord 0 = .ok (.aload_n 0, 1) := by decide +kernel
theorem dX5_isWord_1 : decode cX5_isWord 1 = .ok (.getfield 38, 3) := by decide +kernel
theorem dX5_isWord_4 : decode cX5_isWord 4 = .ok (.iconst 1, 1) := by decide +kernel
theorem dX5_isWord_5 : decode cX5_isWord 5 = .ok (.if_icmp .ne 19, 3) := by decide +kernel
theorem dX5_isWord_8 : decode cX5_isWord 8 = .ok (.aload_n 0, 1) := by decide +kernel
theorem dX5_isWord_9 : decode cX5_isWord 9 = .ok (.getfield 44, 3) := by decide +kernel
theorem dX5_isWord_12 : decode cX5_isWord 12 = .ok (.aload_n 0, 1) := by decide +kernel
theorem dX5_isWord_13 : decode cX5_isWord 13 = .ok (.getfield 41, 3) := by decide +kernel
theorem dX5_isWord_16 : decode cX5_isWord 16 = .ok (.isub, 1) := by decide +kernel
theorem dX5_isWord_17 : decode cX5_isWord 17 = .ok (.aload_n 1, 1) := by decide +kernel
theorem dX5_isWord_18 : decode cX5_isWord 18 = .ok (.invokevirtual 202, 3) := by decide +kernel
theorem dX5_isWord_21 : decode cX5_isWord 21 = .ok (.if_icmp .eq 5, 3) := by decide +kernel
theorem dX5_isWord_24 : decode cX5_isWord 24 = .ok (.iconst 0, 1) := by decide +kernel
theorem dX5_isWord_25 : decode cX5_isWord 25 = .ok (.ireturn, 1) := by decide +kernel
theorem dX5_isWord_26 : decode cX5_isWord 26 = .ok (.iconst 0, 1) := by decide +kernel
theorem dX5_isWord_27 : decode cX5_isWord 27 = .ok (.istore_n 2, 1) := by decide +kernel
theorem dX5_isWord_28 : decode cX5_isWord 28 = .ok (.iload_n 2, 1) := by decide +kernel
theorem dX5_isWord_29 : decode cX5_isWord 29 = .ok (.aload_n 1, 1) := by decide +kernel
theorem dX5_isWord_30 : decode cX5_isWord 30 = .ok (.invokevirtual 202, 3) := by decide +kernel
theorem dX5_isWord_33 : decode cX5_isWord 33 = .ok (.if_icmp .ge 32, 3) := by decide +kernel
theorem dX5_isWord_36 : decode cX5_isWord 36 = .ok (.aload_n 0, 1) := by decide +kernel
theorem dX5_isWord_37 : decode cX5_isWord 37 = .ok (.getfield 12, 3) := by decide +kernel
theorem dX5_isWord_40 : decode cX5_isWord 40 = .ok (.aload_n 0, 1) := by decide +kernel
theorem dX5_isWord_41 : decode cX5_isWord 41 = .ok (.getfield 41, 3) := by decide +kernel
theorem dX5_isWord_44 : decode cX5_isWord 44 = .ok (.iload_n 2, 1) := by decide +kernel
theorem dX5_isWord_45 : decode cX5_isWord 45 = .ok (.iadd, 1) := by decide +kernel
theorem dX5_isWord_46 : decode cX5_isWord 46 = .ok (.invokevirtual 78, 3) := by decide +kernel
theorem dX5_isWord_49 : decode cX5_isWord 49 = .ok (.aload_n 1, 1) := by decide +kernel
theorem dX5_isWord_50 : decode cX5_isWord 50 = .ok (.iload_n 2, 1) := by decide +kernel
theorem dX5_isWord_51 : decode cX5_isWord 51 = .ok (.invokevirtual 207, 3) := by decide +kernel
theorem dX5_isWord_54 : decode cX5_isWord 54 = .ok (.if_icmp .eq 5, 3) := by decide +kernel
theorem dX5_isWord_57 : decode cX5_isWord 57 = .ok (.iconst 0, 1) := by decide +kernel
theorem dX5_isWord_58 : decode cX5_isWord 58 = .ok (.ireturn, 1) := by decide +kernel
theorem dX5_isWord_59 : decode cX5_isWord 59 = .ok (.iinc 2 1, 3) := by decide +kernel
theorem dX5_isWord_62 : decode cX5_isWord 62 = .ok (.goto (-34), 3) := by decide +kernel
theorem dX5_isWord_65 : decode cX5_isWord 65 = .ok (.iconst 1, 1) := by decide +kernel
theorem dX5_isWord_66 : decode cX5_isWord 66 = .ok (.ireturn, 1) := by decide +kernel
theorem dX5_goOn_0 : decode cX5_goOn 0 = .ok (.iload_n 1, 1) := by decide +kernel
theorem dX5_goOn_1 : decode cX5_goOn 1 = .ok (.ifCond .eq 11, 3) := by decide +kernel
theorem dX5_goOn_4 : decode cX5_goOn 4 = .ok (.aload_n 0, 1) := by decide +kernel
theorem dX5_goOn_5 : decode cX5_goOn 5 = .ok (.iload_n 1, 1) := by decide +kernel
theorem dX5_goOn_6 : decode cX5_goOn 6 = .ok (.invokevirtual 156, 3) := by decide +kernel
theorem dX5_goOn_9 : decode cX5_goOn 9 = .ok (.goto 8, 3) := by decide +kernel
theorem dX5_goOn_12 : decode cX5_goOn 12 = .ok (.aload_n 0, 1) := by decide +kernel
theorem dX5_goOn_13 : decode cX5_goOn 13 = .ok (.iload_n 2, 1) := by decide +kernel
theorem dX5_goOn_14 : decode cX5_goOn 14 = .ok (.putfield 35, 3) := by decide +kernel
theorem dX5_goOn_17 : decode cX5_goOn 17 = .ok (.return_, 1) := by decide +kernel
theorem dX5_blame_0 : decode cX5_blame 0 = .ok (.aload_n 0, 1) := by decide +kernel
theorem dX5_blame_1 : decode cX5_blame 1 = .ok (.iload_n 1, 1) := by decide +kernel
theorem dX5_blame_2 : decode cX5_blame 2 = .ok (.putfield 29, 3) := by decide +kernel
theorem dX5_blame_5 : decode cX5_blame 5 = .ok (.aload_n 0, 1) := by decide +kernel
theorem dX5_blame_6 : decode cX5_blame 6 = .ok (.aload_n 0, 1) := by decide +kernel
theorem dX5_blame_7 : decode cX5_blame 7 = .ok (.getfield 41, 3) := by decide +kernel
theorem dX5_blame_10 : decode cX5_blame 10 = .ok (.putfield 32, 3) := by decide +kernel
theorem dX5_blame_13 : decode cX5_blame 13 = .ok (.return_, 1) := by decide +kernel
theorem dX6_init_0 : decode cX6_init 0 = .ok (.aload_n 0, 1) := by decide +kernel
theorem dX6_init_1 : decode cX6_init 1 = .ok (.invokespecial 3, 3) := by decide +kernel
theorem dX6_init_4 : decode cX6_init 4 = .ok (.aload_n 0, 1) := by decide +kernel
theorem dX6_init_5 : decode cX6_init 5 = .ok (.iconst 0, 1) := by decide +kernel
theorem dX6_init_6 : decode cX6_init 6 = .ok (.putfield 9, 3) := by decide +kernel
theorem dX6_init_9 : decode cX6_init 9 = .ok (.iconst 0, 1) := by decide +kernel
theorem dX6_init_10 : decode cX6_init 10 = .ok (.iload_n 1, 1) := by decide +kernel
theorem dX6_init_11 : decode cX6_init 11 = .ok (.invokestatic 15, 3) := by decide +kernel
theorem dX6_init_14 : decode cX6_init 14 = .ok (.istore_n 2, 1) := by decide +kernel
theorem dX6_init_15 : decode cX6_init 15 = .ok (.aload_n 0, 1) := by decide +kernel
theorem dX6_init_16 : decode cX6_init 16 = .ok (.iload_n 2, 1) := by decide +kernel
theorem dX6_init_17 : decode cX6_init 17 = .ok (.newarray .int, 2) := by decide +kernel
theorem dX6_init_19 : decode cX6_init 19 = .ok (.putfield 21, 3) := by decide +kernel
theorem dX6_init_22 : decode cX6_init 22 = .ok (.aload_n 0, 1) := by decide +kernel
theorem dX6_init_23 : decode cX6_init 23 = .ok (.iload_n 2, 1) := by decide +kernel
theorem dX6_init_24 : decode cX6_init 24 = .ok (.newarray .int, 2) := by decide +kernel
theorem dX6_init_26 : decode cX6_init 26 = .ok (.putfield 25, 3) := by decide +kernel
theorem dX6_init_29 : decode cX6_init 29 = .ok (.aload_n 0, 1) := by decide +kernel
theorem dX6_init_30 : decode cX6_init 30 = .ok (.iload_n 2, 1) := by decide +kernel
theorem dX6_init_31 : decode cX6_init 31 = .ok (.newarray .int, 2) := by decide +kernel
theorem dX6_init_33 : decode cX6_init 33 = .ok (.putfield 28, 3) := by decide +kernel
theorem dX6_init_36 : decode cX6_init 36 = .ok (.return_, 1) := by decide +kernel
theorem dX6_size_0 : decode cX6_size 0 = .ok (.aload_n 0, 1) := by decide +kernel
theorem dX6_size_1 : decode cX6_size 1 = .ok (.getfield 9, 3) := by decide +kernel
theorem dX6_size_4 : decode cX6_size 4 = .ok (.ireturn, 1) := by decide +kernel
theorem dX6_countOf_0 : decode cX6_countOf 0 = .ok (.iconst 0, 1) := by decide +kernel
theorem dX6_countOf_1 : decode cX6_countOf 1 = .ok (.istore_n 2, 1) := by decide +kernel
theorem dX6_countOf_2 : decode cX6_countOf 2 = .ok (.iconst 0, 1) := by decide +kernel
theorem dX6_countOf_3 : decode cX6_countOf 3 = .ok (.istore_n 3, 1) := by decide +kernel
theorem dX6_countOf_4 : decode cX6_countOf 4 = .ok (.iload_n 3, 1) := by decide +kernel
theorem dX6_countOf_5 : decode cX6_countOf 5 = .ok (.aload_n 0, 1) := by decide +kernel
theorem dX6_countOf_6 : decode cX6_countOf 6 = .ok (.getfield 9, 3) := by decide +kernel
theorem dX6_countOf_9 : decode cX6_countOf 9 = .ok (.if_icmp .ge 22, 3) := by decide +kernel
theorem dX6_countOf_12 : decode cX6_countOf 12 = .ok (.aload_n 0, 1) := by decide +kernel
theorem dX6_countOf_13 : decode cX6_countOf 13 = .ok (.getfield 21, 3) := by decide +kernel
theorem dX6_countOf_16 : decode cX6_countOf 16 = .ok (.iload_n 3, 1) := by decide +kernel
theorem dX6_countOf_17 : decode cX6_countOf 17 = .ok (.iaload, 1) := by decide +kernel
theorem dX6_countOf_18 : decode cX6_countOf 18 = .ok (.iload_n 1, 1) := by decide +kernel
theorem dX6_countOf_19 : decode cX6_countOf 19 = .ok (.if_icmp .ne 6, 3) := by decide +kernel
theorem dX6_countOf_22 : decode cX6_countOf 22 = .ok (.iinc 2 1, 3) := by decide +kernel
theorem dX6_countOf_25 : decode cX6_countOf 25 = .ok (.iinc 3 1, 3) := by decide +kernel
theorem dX6_countOf_28 : decode cX6_countOf 28 = .ok (.goto (-24), 3) := by decide +kernel
theorem dX6_countOf_31 : decode cX6_countOf 31 = .ok (.iload_n 2, 1) := by decide +kernel
theorem dX6_countOf_32 : decode cX6_countOf 32 = .ok (.ireturn, 1) := by decide +kernel
theorem dX6_add_0 : decode cX6_add 0 = .ok (.aload_n 0, 1) := by decide +kernel
theorem dX6_add_1 : decode cX6_add 1 = .ok (.getfield 9, 3) := by decide +kernel
theorem dX6_add_4 : decode cX6_add 4 = .ok (.aload_n 0, 1) := by decide +kernel
theorem dX6_add_5 : decode cX6_add 5 = .ok (.getfield 21, 3) := by decide +kernel
theorem dX6_add_8 : decode cX6_add 8 = .ok (.arraylength, 1) := by decide +kernel
theorem dX6_add_9 : decode cX6_add 9 = .ok (.if_icmp .ge 43, 3) := by decide +kernel
theorem dX6_add_12 : decode cX6_add 12 = .ok (.aload_n 0, 1) := by decide +kernel
theorem dX6_add_13 : decode cX6_add 13 = .ok (.getfield 21, 3) := by decide +kernel
theorem dX6_add_16 : decode cX6_add 16 = .ok (.aload_n 0, 1) := by decide +kernel
theorem dX6_add_17 : decode cX6_add 17 = .ok (.getfield 9, 3) := by decide +kernel
theorem dX6_add_20 : decode cX6_add 20 = .ok (.iload_n 1, 1) := by decide +kernel
theorem dX6_add_21 : decode cX6_add 21 = .ok (.iastore, 1) := by decide +kernel
theorem dX6_add_22 : decode cX6_add 22 = .ok (.aload_n 0, 1) := by decide +kernel
theorem dX6_add_23 : decode cX6_add 23 = .ok (.getfield 25, 3) := by decide +kernel
theorem dX6_add_26 : decode cX6_add 26 = .ok (.aload_n 0, 1) := by decide +kernel
theorem dX6_add_27 : decode cX6_add 27 = .ok (.getfield 9, 3) := by decide +kernel
theorem dX6_add_30 : decode cX6_add 30 = .ok (.iload_n 2, 1) := by decide +kernel
theorem dX6_add_31 : decode cX6_add 31 = .ok (.iastore, 1) := by decide +kernel
theorem dX6_add_32 : decode cX6_add 32 = .ok (.aload_n 0, 1) := by decide +kernel
theorem dX6_add_33 : decode cX6_add 33 = .ok (.getfield 28, 3) := by decide +kernel
theorem dX6_add_36 : decode cX6_add 36 = .ok (.aload_n 0, 1) := by decide +kernel
theorem dX6_add_37 : decode cX6_add 37 = .ok (.getfield 9, 3) := by decide +kernel
theorem dX6_add_40 : decode cX6_add 40 = .ok (.iload_n 3, 1) := by decide +kernel
theorem dX6_add_41 : decode cX6_add 41 = .ok (.iastore, 1) := by decide +kernel
theorem dX6_add_42 : decode cX6_add 42 = .ok (.aload_n 0, 1) := by decide +kernel
theorem dX6_add_43 : decode cX6_add 43 = .ok (.dup, 1) := by decide +kernel
theorem dX6_add_44 : decode cX6_add 44 = .ok (.getfield 9, 3) := by decide +kernel
theorem dX6_add_47 : decode cX6_add 47 = .ok (.iconst 1, 1) := by decide +kernel
theorem dX6_add_48 : decode cX6_add 48 = .ok (.iadd, 1) := by decide +kernel
theorem dX6_add_49 : decode cX6_add 49 = .ok (.putfield 9, 3) := by decide +kernel
theorem dX6_add_52 : decode cX6_add 52 = .ok (.return_, 1) := by decide +kernel
theorem dX6_heldOn_0 : decode cX6_heldOn 0 = .ok (.iload_n 3, 1) := by decide +kernel
theorem dX6_heldOn_1 : decode cX6_heldOn 1 = .ok (.istore 4, 2) := by decide +kernel
theorem dX6_heldOn_3 : decode cX6_heldOn 3 = .ok (.iconst (-1), 1) := by decide +kernel
theorem dX6_heldOn_4 : decode cX6_heldOn 4 = .ok (.istore 5, 2) := by decide +kernel
theorem dX6_heldOn_6 : decode cX6_heldOn 6 = .ok (.iconst 0, 1) := by decide +kernel
theorem dX6_heldOn_7 : decode cX6_heldOn 7 = .ok (.istore 6, 2) := by decide +kernel
theorem dX6_heldOn_9 : decode cX6_heldOn 9 = .ok (.iload 6, 2) := by decide +kernel
theorem dX6_heldOn_11 : decode cX6_heldOn 11 = .ok (.aload_n 0, 1) := by decide +kernel
theorem dX6_heldOn_12 : decode cX6_heldOn 12 = .ok (.getfield 9, 3) := by decide +kernel
theorem dX6_heldOn_15 : decode cX6_heldOn 15 = .ok (.if_icmp .ge 61, 3) := by decide +kernel
theorem dX6_heldOn_18 : decode cX6_heldOn 18 = .ok (.aload_n 0, 1) := by decide +kernel
theorem dX6_heldOn_19 : decode cX6_heldOn 19 = .ok (.getfield 21, 3) := by decide +kernel
theorem dX6_heldOn_22 : decode cX6_heldOn 22 = .ok (.iload 6, 2) := by decide +kernel
theorem dX6_heldOn_24 : decode cX6_heldOn 24 = .ok (.iaload, 1) := by decide +kernel
theorem dX6_heldOn_25 : decode cX6_heldOn 25 = .ok (.iload_n 1, 1) := by decide +kernel
theorem dX6_heldOn_26 : decode cX6_heldOn 26 = .ok (.if_icmp .ne 44, 3) := by decide +kernel
theorem dX6_heldOn_29 : decode cX6_heldOn 29 = .ok (.aload_n 0, 1) := by decide +kernel
theorem dX6_heldOn_30 : decode cX6_heldOn 30 = .ok (.getfield 25, 3) := by decide +kernel
theorem dX6_heldOn_33 : decode cX6_heldOn 33 = .ok (.iload 6, 2) := by decide +kernel
theorem dX6_heldOn_35 : decode cX6_heldOn 35 = .ok (.iaload, 1) := by decide +kernel
theorem dX6_heldOn_36 : decode cX6_heldOn 36 = .ok (.iload_n 2, 1) := by decide +kernel
theorem dX6_heldOn_37 : decode cX6_heldOn 37 = .ok (.if_icmp .gt 33, 3) := by decide +kernel
theorem dX6_heldOn_40 : decode cX6_heldOn 40 = .ok (.aload_n 0, 1) := by decide +kernel
