theorem dX4_init_0 : decode cX4_init 0 = .ok (.aload_n 0, 1) := by decide +kernel
theorem dX4_init_1 : decode cX4_init 1 = .ok (.invokespecial 3, 3) := by decide +kernel
theorem dX4_init_4 : decode cX4_init 4 = .ok (.aload_n 0, 1) := by decide +kernel
theorem dX4_init_5 : decode cX4_init 5 = .ok (.iconst 3, 1) := by decide +kernel
theorem dX4_init_6 : decode cX4_init 6 = .ok (.iconst 4, 1) := by decide +kernel
theorem dX4_init_7 : decode cX4_init 7 = .ok (.multianewarray 9 2, 4) := by decide +kernel
theorem dX4_init_11 : decode cX4_init 11 = .ok (.putfield 11, 3) := by decide +kernel
theorem dX4_init_14 : decode cX4_init 14 = .ok (.aload_n 0, 1) := by decide +kernel
theorem dX4_init_15 : decode cX4_init 15 = .ok (.aload_n 0, 1) := by decide +kernel
theorem dX4_init_16 : decode cX4_init 16 = .ok (.getfield 11, 3) := by decide +kernel
theorem dX4_init_19 : decode cX4_init 19 = .ok (.iconst 2, 1) := by decide +kernel
theorem dX4_init_20 : decode cX4_init 20 = .ok (.aaload, 1) := by decide +kernel
theorem dX4_init_21 : decode cX4_init 21 = .ok (.putfield 16, 3) := by decide +kernel
theorem dX4_init_24 : decode cX4_init 24 = .ok (.aload_n 0, 1) := by decide +kernel
theorem dX4_init_25 : decode cX4_init 25 = .ok (.iconst 5, 1) := by decide +kernel
theorem dX4_init_26 : decode cX4_init 26 = .ok (.iconst 5, 1) := by decide +kernel
theorem dX4_init_27 : decode cX4_init 27 = .ok (.multianewarray 9 2, 4) := by decide +kernel
theorem dX4_init_31 : decode cX4_init 31 = .ok (.putfield 20, 3) := by decide +kernel
theorem dX4_init_34 : decode cX4_init 34 = .ok (.aload_n 0, 1) := by decide +kernel
theorem dX4_init_35 : decode cX4_init 35 = .ok (.iconst 4, 1) := by decide +kernel
theorem dX4_init_36 : decode cX4_init 36 = .ok (.newarray .int, 2) := by decide +kernel
theorem dX4_init_38 : decode cX4_init 38 = .ok (.putfield 23, 3) := by decide +kernel
theorem dX4_init_41 : decode cX4_init 41 = .ok (.aload_n 0, 1) := by decide +kernel
theorem dX4_init_42 : decode cX4_init 42 = .ok (.bipush 8, 2) := by decide +kernel
theorem dX4_init_44 : decode cX4_init 44 = .ok (.newarray .int, 2) := by decide +kernel
theorem dX4_init_46 : decode cX4_init 46 = .ok (.putfield 26, 3) := by decide +kernel
theorem dX4_init_49 : decode cX4_init 49 = .ok (.aload_n 0, 1) := by decide +kernel
theorem dX4_init_50 : decode cX4_init 50 = .ok (.iconst 4, 1) := by decide +kernel
theorem dX4_init_51 : decode cX4_init 51 = .ok (.iconst 4, 1) := by decide +kernel
theorem dX4_init_52 : decode cX4_init 52 = .ok (.multianewarray 9 2, 4) := by decide +kernel
theorem dX4_init_56 : decode cX4_init 56 = .ok (.putfield 29, 3) := by decide +kernel
theorem dX4_init_59 : decode cX4_init 59 = .ok (.aload_n 0, 1) := by decide +kernel
theorem dX4_init_60 : decode cX4_init 60 = .ok (.invokevirtual 32, 3) := by decide +kernel
theorem dX4_init_63 : decode cX4_init 63 = .ok (.return_, 1) := by decide +kernel
theorem dX4_clear_0 : decode cX4_clear 0 = .ok (.aload_n 0, 1) := by decide +kernel
theorem dX4_clear_1 : decode cX4_clear 1 = .ok (.iconst 0, 1) := by decide +kernel
theorem dX4_clear_2 : decode cX4_clear 2 = .ok (.putfield 35, 3) := by decide +kernel
theorem dX4_clear_5 : decode cX4_clear 5 = .ok (.aload_n 0, 1) := by decide +kernel
theorem dX4_clear_6 : decode cX4_clear 6 = .ok (.iconst 0, 1) := by decide +kernel
theorem dX4_clear_7 : decode cX4_clear 7 = .ok (.putfield 39, 3) := by decide +kernel
theorem dX4_clear_10 : decode cX4_clear 10 = .ok (.aload_n 0, 1) := by decide +kernel
theorem dX4_clear_11 : decode cX4_clear 11 = .ok (.getfield 23, 3) := by decide +kernel
theorem dX4_clear_14 : decode cX4_clear 14 = .ok (.iconst 0, 1) := by decide +kernel
theorem dX4_clear_15 : decode cX4_clear 15 = .ok (.iconst 3, 1) := by decide +kernel
theorem dX4_clear_16 : decode cX4_clear 16 = .ok (.iastore, 1) := by decide +kernel
theorem dX4_clear_17 : decode cX4_clear 17 = .ok (.aload_n 0, 1) := by decide +kernel
theorem dX4_clear_18 : decode cX4_clear 18 = .ok (.getfield 23, 3) := by decide +kernel
theorem dX4_clear_21 : decode cX4_clear 21 = .ok (.iconst 1, 1) := by decide +kernel
theorem dX4_clear_22 : decode cX4_clear 22 = .ok (.iconst 3, 1) := by decide +kernel
theorem dX4_clear_23 : decode cX4_clear 23 = .ok (.iastore, 1) := by decide +kernel
theorem dX4_clear_24 : decode cX4_clear 24 = .ok (.aload_n 0, 1) := by decide +kernel
theorem dX4_clear_25 : decode cX4_clear 25 = .ok (.getfield 23, 3) := by decide +kernel
theorem dX4_clear_28 : decode cX4_clear 28 = .ok (.iconst 2, 1) := by decide +kernel
theorem dX4_clear_29 : decode cX4_clear 29 = .ok (.iconst 3, 1) := by decide +kernel
theorem dX4_clear_30 : decode cX4_clear 30 = .ok (.iastore, 1) := by decide +kernel
theorem dX4_clear_31 : decode cX4_clear 31 = .ok (.aload_n 0, 1) := by decide +kernel
theorem dX4_clear_32 : decode cX4_clear 32 = .ok (.getfield 23, 3) := by decide +kernel
theorem dX4_clear_35 : decode cX4_clear 35 = .ok (.iconst 3, 1) := by decide +kernel
theorem dX4_clear_36 : decode cX4_clear 36 = .ok (.iconst 1, 1) := by decide +kernel
theorem dX4_clear_37 : decode cX4_clear 37 = .ok (.iastore, 1) := by decide +kernel
theorem dX4_clear_38 : decode cX4_clear 38 = .ok (.aload_n 0, 1) := by decide +kernel
theorem dX4_clear_39 : decode cX4_clear 39 = .ok (.iconst 5, 1) := by decide +kernel
theorem dX4_clear_40 : decode cX4_clear 40 = .ok (.putfield 42, 3) := by decide +kernel
theorem dX4_clear_43 : decode cX4_clear 43 = .ok (.aload_n 0, 1) := by decide +kernel
theorem dX4_clear_44 : decode cX4_clear 44 = .ok (.iconst 0, 1) := by decide +kernel
theorem dX4_clear_45 : decode cX4_clear 45 = .ok (.putfield 45, 3) := by decide +kernel
theorem dX4_clear_48 : decode cX4_clear 48 = .ok (.aload_n 0, 1) := by decide +kernel
theorem dX4_clear_49 : decode cX4_clear 49 = .ok (.iconst 0, 1) := by decide +kernel
theorem dX4_clear_50 : decode cX4_clear 50 = .ok (.putfield 48, 3) := by decide +kernel
theorem dX4_clear_53 : decode cX4_clear 53 = .ok (.aload_n 0, 1) := by decide +kernel
theorem dX4_clear_54 : decode cX4_clear 54 = .ok (.invokevirtual 51, 3) := by decide +kernel
theorem dX4_clear_57 : decode cX4_clear 57 = .ok (.return_, 1) := by decide +kernel
theorem dX4_clearDebts_0 : decode cX4_clearDebts 0 = .ok (.iconst 0, 1) := by decide +kernel
theorem dX4_clearDebts_1 : decode cX4_clearDebts 1 = .ok (.istore_n 1, 1) := by decide +kernel
theorem dX4_clearDebts_2 : decode cX4_clearDebts 2 = .ok (.iload_n 1, 1) := by decide +kernel
theorem dX4_clearDebts_3 : decode cX4_clearDebts 3 = .ok (.iconst 4, 1) := by decide +kernel
theorem dX4_clearDebts_4 : decode cX4_clearDebts 4 = .ok (.if_icmp .ge 31, 3) := by decide +kernel
theorem dX4_clearDebts_7 : decode cX4_clearDebts 7 = .ok (.iconst 0, 1) := by decide +kernel
theorem dX4_clearDebts_8 : decode cX4_clearDebts 8 = .ok (.istore_n 2, 1) := by decide +kernel
theorem dX4_clearDebts_9 : decode cX4_clearDebts 9 = .ok (.iload_n 2, 1) := by decide +kernel
theorem dX4_clearDebts_10 : decode cX4_clearDebts 10 = .ok (.iconst 4, 1) := by decide +kernel
theorem dX4_clearDebts_11 : decode cX4_clearDebts 11 = .ok (.if_icmp .ge 18, 3) := by decide +kernel
theorem dX4_clearDebts_14 : decode cX4_clearDebts 14 = .ok (.aload_n 0, 1) := by decide +kernel
theorem dX4_clearDebts_15 : decode cX4_clearDebts 15 = .ok (.getfield 29, 3) := by decide +kernel
theorem dX4_clearDebts_18 : decode cX4_clearDebts 18 = .ok (.iload_n 1, 1) := by decide +kernel
theorem dX4_clearDebts_19 : decode cX4_clearDebts 19 = .ok (.aaload, 1) := by decide +kernel
theorem dX4_clearDebts_20 : decode cX4_clearDebts 20 = .ok (.iload_n 2, 1) := by decide +kernel
theorem dX4_clearDebts_21 : decode cX4_clearDebts 21 = .ok (.iconst 0, 1) := by decide +kernel
theorem dX4_clearDebts_22 : decode cX4_clearDebts 22 = .ok (.iastore, 1) := by decide +kernel
theorem dX4_clearDebts_23 : decode cX4_clearDebts 23 = .ok (.iinc 2 1, 3) := by decide +kernel
theorem dX4_clearDebts_26 : decode cX4_clearDebts 26 = .ok (.goto (-17), 3) := by decide +kernel
theorem dX4_clearDebts_29 : decode cX4_clearDebts 29 = .ok (.iinc 1 1, 3) := by decide +kernel
theorem dX4_clearDebts_32 : decode cX4_clearDebts 32 = .ok (.goto (-30), 3) := by decide +kernel
theorem dX4_clearDebts_35 : decode cX4_clearDebts 35 = .ok (.return_, 1) := by decide +kernel
theorem dX4_copyFrom_0 : decode cX4_copyFrom 0 = .ok (.aload_n 0, 1) := by decide +kernel
theorem dX4_copyFrom_1 : decode cX4_copyFrom 1 = .ok (.aload_n 1, 1) := by decide +kernel
theorem dX4_copyFrom_2 : decode cX4_copyFrom 2 = .ok (.getfield 35, 3) := by decide +kernel
theorem dX4_copyFrom_5 : decode cX4_copyFrom 5 = .ok (.putfield 35, 3) := by decide +kernel
theorem dX4_copyFrom_8 : decode cX4_copyFrom 8 = .ok (.aload_n 0, 1) := by decide +kernel
theorem dX4_copyFrom_9 : decode cX4_copyFrom 9 = .ok (.aload_n 1, 1) := by decide +kernel
theorem dX4_copyFrom_10 : decode cX4_copyFrom 10 = .ok (.getfield 39, 3) := by decide +kernel
theorem dX4_copyFrom_13 : decode cX4_copyFrom 13 = .ok (.putfield 39, 3) := by decide +kernel
theorem dX4_copyFrom_16 : decode cX4_copyFrom 16 = .ok (.aload_n 0, 1) := by decide +kernel
theorem dX4_copyFrom_17 : decode cX4_copyFrom 17 = .ok (.aload_n 1, 1) := by decide +kernel
theorem dX4_copyFrom_18 : decode cX4_copyFrom 18 = .ok (.getfield 42, 3) := by decide +kernel
theorem dX4_copyFrom_21 : decode cX4_copyFrom 21 = .ok (.putfield 42, 3) := by decide +kernel
theorem dX4_copyFrom_24 : decode cX4_copyFrom 24 = .ok (.aload_n 0, 1) := by decide +kernel
theorem dX4_copyFrom_25 : decode cX4_copyFrom 25 = .ok (.aload_n 1, 1) := by decide +kernel
theorem dX4_copyFrom_26 : decode cX4_copyFrom 26 = .ok (.getfield 45, 3) := by decide +kernel
theorem dX4_copyFrom_29 : decode cX4_copyFrom 29 = .ok (.putfield 45, 3) := by decide +kernel
theorem dX4_copyFrom_32 : decode cX4_copyFrom 32 = .ok (.aload_n 0, 1) := by decide +kernel
theorem dX4_copyFrom_33 : decode cX4_copyFrom 33 = .ok (.aload_n 1, 1) := by decide +kernel
theorem dX4_copyFrom_34 : decode cX4_copyFrom 34 = .ok (.getfield 48, 3) := by decide +kernel
theorem dX4_copyFrom_37 : decode cX4_copyFrom 37 = .ok (.putfield 48, 3) := by decide +kernel
theorem dX4_copyFrom_40 : decode cX4_copyFrom 40 = .ok (.aload_n 1, 1) := by decide +kernel
theorem dX4_copyFrom_41 : decode cX4_copyFrom 41 = .ok (.getfield 11, 3) := by decide +kernel
theorem dX4_copyFrom_44 : decode cX4_copyFrom 44 = .ok (.aload_n 0, 1) := by decide +kernel
theorem dX4_copyFrom_45 : decode cX4_copyFrom 45 = .ok (.getfield 11, 3) := by decide +kernel
theorem dX4_copyFrom_48 : decode cX4_copyFrom 48 = .ok (.invokestatic 54, 3) := by decide +kernel
theorem dX4_copyFrom_51 : decode cX4_copyFrom 51 = .ok (.aload_n 1, 1) := by decide +kernel
theorem dX4_copyFrom_52 : decode cX4_copyFrom 52 = .ok (.getfield 20, 3) := by decide +kernel
theorem dX4_copyFrom_55 : decode cX4_copyFrom 55 = .ok (.aload_n 0, 1) := by decide +kernel
theorem dX4_copyFrom_56 : decode cX4_copyFrom 56 = .ok (.getfield 20, 3) := by decide +kernel
theorem dX4_copyFrom_59 : decode cX4_copyFrom 59 = .ok (.invokestatic 54, 3) := by decide +kernel
theorem dX4_copyFrom_62 : decode cX4_copyFrom 62 = .ok (.aload_n 1, 1) := by decide +kernel
theorem dX4_copyFrom_63 : decode cX4_copyFrom 63 = .ok (.getfield 29, 3) := by decide +kernel
theorem dX4_copyFrom_66 : decode cX4_copyFrom 66 = .ok (.aload_n 0, 1) := by decide +kernel
theorem dX4_copyFrom_67 : decode cX4_copyFrom 67 = .ok (.getfield 29, 3) := by decide +kernel
theorem dX4_copyFrom_70 : decode cX4_copyFrom 70 = .ok (.invokestatic 54, 3) := by decide +kernel
theorem dX4_copyFrom_73 : decode cX4_copyFrom 73 = .ok (.aload_n 1, 1) := by decide +kernel
theorem dX4_copyFrom_74 : decode cX4_copyFrom 74 = .ok (.getfield 23, 3) := by decide +kernel
theorem dX4_copyFrom_77 : decode cX4_copyFrom 77 = .ok (.iconst 0, 1) := by decide +kernel
theorem dX4_copyFrom_78 : decode cX4_copyFrom 78 = .ok (.aload_n 0, 1) := by decide +kernel
theorem dX4_copyFrom_79 : decode cX4_copyFrom 79 = .ok (.getfield 23, 3) := by decide +kernel
theorem dX4_copyFrom_82 : decode cX4_copyFrom 82 = .ok (.iconst 0, 1) := by decide +kernel
theorem dX4_copyFrom_83 : decode cX4_copyFrom 83 = .ok (.iconst 4, 1) := by decide +kernel
theorem dX4_copyFrom_84 : decode cX4_copyFrom 84 = .ok (.invokestatic 58, 3) := by decide +kernel
theorem dX4_copyFrom_87 : decode cX4_copyFrom 87 = .ok (.aload_n 1, 1) := by decide +kernel
theorem dX4_copyFrom_88 : decode cX4_copyFrom 88 = .ok (.getfield 26, 3) := by decide +kernel
theorem dX4_copyFrom_91 : decode cX4_copyFrom 91 = .ok (.iconst 0, 1) := by decide +kernel
theorem dX4_copyFrom_92 : decode cX4_copyFrom 92 = .ok (.aload_n 0, 1) := by decide +kernel
theorem dX4_copyFrom_93 : decode cX4_copyFrom 93 = .ok (.getfield 26, 3) := by decide +kernel
theorem dX4_copyFrom_96 : decode cX4_copyFrom 96 = .ok (.iconst 0, 1) := by decide +kernel
theorem dX4_copyFrom_97 : decode cX4_copyFrom 97 = .ok (.bipush 8, 2) := by decide +kernel
theorem dX4_copyFrom_99 : decode cX4_copyFrom 99 = .ok (.invokestatic 58, 3) := by decide +kernel
theorem dX4_copyFrom_102 : decode cX4_copyFrom 102 = .ok (.return_, 1) := by decide +kernel
theorem dX4_copyRows_0 : decode cX4_copyRows 0 = .ok (.iconst 0, 1) := by decide +kernel
theorem dX4_copyRows_1 : decode cX4_copyRows 1 = .ok (.istore_n 2, 1) := by decide +kernel
theorem dX4_copyRows_2 : decode cX4_copyRows 2 = .ok (.iload_n 2, 1) := by decide +kernel
theorem dX4_copyRows_3 : decode cX4_copyRows 3 = .ok (.aload_n 0, 1) := by decide +kernel
theorem dX4_copyRows_4 : decode cX4_copyRows 4 = .ok (.arraylength, 1) := by decide +kernel
theorem dX4_copyRows_5 : decode cX4_copyRows 5 = .ok (.if_icmp .ge 37, 3) := by decide +kernel
theorem dX4_copyRows_8 : decode cX4_copyRows 8 = .ok (.iload_n 2, 1) := by decide +kernel
theorem dX4_copyRows_9 : decode cX4_copyRows 9 = .ok (.aload_n 1, 1) := by decide +kernel
theorem dX4_copyRows_10 : decode cX4_copyRows 10 = .ok (.arraylength, 1) := by decide +kernel
theorem dX4_copyRows_11 : decode cX4_copyRows 11 = .ok (.if_icmp .ge 31, 3) := by decide +kernel
theorem dX4_copyRows_14 : decode cX4_copyRows 14 = .ok (.aload_n 0, 1) := by decide +kernel
theorem dX4_copyRows_15 : decode cX4_copyRows 15 = .ok (.iload_n 2, 1) := by decide +kernel
theorem dX4_copyRows_16 : decode cX4_copyRows 16 = .ok (.aaload, 1) := by decide +kernel
theorem dX4_copyRows_17 : decode cX4_copyRows 17 = .ok (.iconst 0, 1) := by decide +kernel
theorem dX4_copyRows_18 : decode cX4_copyRows 18 = .ok (.aload_n 1, 1) := by decide +kernel
theorem dX4_copyRows_19 : decode cX4_copyRows 19 = .ok (.iload_n 2, 1) := by decide +kernel
theorem dX4_copyRows_20 : decode cX4_copyRows 20 = .ok (.aaload, 1) := by decide +kernel
theorem dX4_copyRows_21 : decode cX4_copyRows 21 = .ok (.iconst 0, 1) := by decide +kernel
theorem dX4_copyRows_22 : decode cX4_copyRows 22 = .ok (.aload_n 0, 1) := by decide +kernel
theorem dX4_copyRows_23 : decode cX4_copyRows 23 = .ok (.iload_n 2, 1) := by decide +kernel
theorem dX4_copyRows_24 : decode cX4_copyRows 24 = .ok (.aaload, 1) := by decide +kernel
theorem dX4_copyRows_25 : decode cX4_copyRows 25 = .ok (.arraylength, 1) := by decide +kernel
theorem dX4_copyRows_26 : decode cX4_copyRows 26 = .ok (.aload_n 1, 1) := by decide +kernel
theorem dX4_copyRows_27 : decode cX4_copyRows 27 = .ok (.iload_n 2, 1) := by decide +kernel
theorem dX4_copyRows_28 : decode cX4_copyRows 28 = .ok (.aaload, 1) := by decide +kernel
theorem dX4_copyRows_29 : decode cX4_copyRows 29 = .ok (.arraylength, 1) := by decide +kernel
theorem dX4_copyRows_30 : decode cX4_copyRows 30 = .ok (.invokestatic 64, 3) := by decide +kernel
theorem dX4_copyRows_33 : decode cX4_copyRows 33 = .ok (.invokestatic 58, 3) := by decide +kernel
theorem dX4_copyRows_36 : decode cX4_copyRows 36 = .ok (.iinc 2 1, 3) := by decide +kernel
theorem dX4_copyRows_39 : decode cX4_copyRows 39 = .ok (.goto (-37), 3) := by decide +kernel
theorem dX4_copyRows_42 : decode cX4_copyRows 42 = .ok (.return_, 1) := by decide +kernel
theorem dX4_addOne_0 : decode cX4_addOne 0 = .ok (.aload_n 0, 1) := by decide +kernel
theorem dX4_addOne_1 : decode cX4_addOne 1 = .ok (.getfield 35, 3) := by decide +kernel
theorem dX4_addOne_4 : decode cX4_addOne 4 = .ok (.iconst 4, 1) := by decide +kernel
theorem dX4_addOne_5 : decode cX4_addOne 5 = .ok (.if_icmp .ge 49, 3) := by decide +kernel
theorem dX4_addOne_8 : decode cX4_addOne 8 = .ok (.aload_n 0, 1) := by decide +kernel
theorem dX4_addOne_9 : decode cX4_addOne 9 = .ok (.getfield 11, 3) := by decide +kernel
theorem dX4_addOne_12 : decode cX4_addOne 12 = .ok (.iconst 0, 1) := by decide +kernel
theorem dX4_addOne_13 : decode cX4_addOne 13 = .ok (.aaload, 1) := by decide +kernel
theorem dX4_addOne_14 : decode cX4_addOne 14 = .ok (.aload_n 0, 1) := by decide +kernel
theorem dX4_addOne_15 : decode cX4_addOne 15 = .ok (.getfield 35, 3) := by decide +kernel
theorem dX4_addOne_18 : decode cX4_addOne 18 = .ok (.iload_n 1, 1) := by decide +kernel
theorem dX4_addOne_19 : decode cX4_addOne 19 = .ok (.iastore, 1) := by decide +kernel
theorem dX4_addOne_20 : decode cX4_addOne 20 = .ok (.aload_n 0, 1) := by decide +kernel
theorem dX4_addOne_21 : decode cX4_addOne 21 = .ok (.getfield 11, 3) := by decide +kernel
theorem dX4_addOne_24 : decode cX4_addOne 24 = .ok (.iconst 1, 1) := by decide +kernel
theorem dX4_addOne_25 : decode cX4_addOne 25 = .ok (.aaload, 1) := by decide +kernel
theorem dX4_addOne_26 : decode cX4_addOne 26 = .ok (.aload_n 0, 1) := by decide +kernel
theorem dX4_addOne_27 : decode cX4_addOne 27 = .ok (.getfield 35, 3) := by decide +kernel
theorem dX4_addOne_30 : decode cX4_addOne 30 = .ok (.iload_n 2, 1) := by decide +kernel
theorem dX4_addOne_31 : decode cX4_addOne 31 = .ok (.iastore, 1) := by decide +kernel
theorem dX4_addOne_32 : decode cX4_addOne 32 = .ok (.aload_n 0, 1) := by decide +kernel
theorem dX4_addOne_33 : decode cX4_addOne 33 = .ok (.getfield 11, 3) := by decide +kernel
theorem dX4_addOne_36 : decode cX4_addOne 36 = .ok (.iconst 2, 1) := by decide +kernel
theorem dX4_addOne_37 : decode cX4_addOne 37 = .ok (.aaload, 1) := by decide +kernel
theorem dX4_addOne_38 : decode cX4_addOne 38 = .ok (.aload_n 0, 1) := by decide +kernel
theorem dX4_addOne_39 : decode cX4_addOne 39 = .ok (.getfield 35, 3) := by decide +kernel
theorem dX4_addOne_42 : decode cX4_addOne 42 = .ok (.iload_n 3, 1) := by decide +kernel
theorem dX4_addOne_43 : decode cX4_addOne 43 = .ok (.iastore, 1) := by decide +kernel
theorem dX4_addOne_44 : decode cX4_addOne 44 = .ok (.aload_n 0, 1) := by decide +kernel
theorem dX4_addOne_45 : decode cX4_addOne 45 = .ok (.dup, 1) := by decide +kernel
theorem dX4_addOne_46 : decode cX4_addOne 46 = .ok (.getfield 35, 3) := by decide +kernel
theorem dX4_addOne_49 : decode cX4_addOne 49 = .ok (.iconst 1, 1) := by decide +kernel
theorem dX4_addOne_50 : decode cX4_addOne 50 = .ok (.iadd, 1) := by decide +kernel
theorem dX4_addOne_51 : decode cX4_addOne 51 = .ok (.putfield 35, 3) := by decide +kernel
theorem dX4_addOne_54 : decode cX4_addOne 54 = .ok (.return_, 1) := by decide +kernel
theorem dX4_addCover_0 : decode cX4_addCover 0 = .ok (.aload_n 0, 1) := by decide +kernel
theorem dX4_addCover_1 : decode cX4_addCover 1 = .ok (.getfield 39, 3) := by decide +kernel
theorem dX4_addCover_4 : decode cX4_addCover 4 = .ok (.iconst 5, 1) := by decide +kernel
theorem dX4_addCover_5 : decode cX4_addCover 5 = .ok (.if_icmp .ge 75, 3) := by decide +kernel
theorem dX4_addCover_8 : decode cX4_addCover 8 = .ok (.aload_n 0, 1) := by decide +kernel
theorem dX4_addCover_9 : decode cX4_addCover 9 = .ok (.getfield 20, 3) := by decide +kernel
theorem dX4_addCover_12 : decode cX4_addCover 12 = .ok (.iconst 0, 1) := by decide +kernel
theorem dX4_addCover_13 : decode cX4_addCover 13 = .ok (.aaload, 1) := by decide +kernel
theorem dX4_addCover_14 : decode cX4_addCover 14 = .ok (.aload_n 0, 1) := by decide +kernel
theorem dX4_addCover_15 : decode cX4_addCover 15 = .ok (.getfield 39, 3) := by decide +kernel
theorem dX4_addCover_18 : decode cX4_addCover 18 = .ok (.iload_n 1, 1) := by decide +kernel
theorem dX4_addCover_19 : decode cX4_addCover 19 = .ok (.iastore, 1) := by decide +kernel
theorem dX4_addCover_20 : decode cX4_addCover 20 = .ok (.aload_n 0, 1) := by decide +kernel
theorem dX4_addCover_21 : decode cX4_addCover 21 = .ok (.getfield 20, 3) := by decide +kernel
theorem dX4_addCover_24 : decode cX4_addCover 24 = .ok (.iconst 1, 1) := by decide +kernel
theorem dX4_addCover_25 : decode cX4_addCover 25 = .ok (.aaload, 1) := by decide +kernel
theorem dX4_addCover_26 : decode cX4_addCover 26 = .ok (.aload_n 0, 1) := by decide +kernel
theorem dX4_addCover_27 : decode cX4_addCover 27 = .ok (.getfield 39, 3) := by decide +kernel
theorem dX4_addCover_30 : decode cX4_addCover 30 = .ok (.iload_n 2, 1) := by decide +kernel
theorem dX4_addCover_31 : decode cX4_addCover 31 = .ok (.iastore, 1) := by decide +kernel
theorem dX4_addCover_32 : decode cX4_addCover 32 = .ok (.aload_n 0, 1) := by decide +kernel
theorem dX4_addCover_33 : decode cX4_addCover 33 = .ok (.getfield 20, 3) := by decide +kernel
theorem dX4_addCover_36 : decode cX4_addCover 36 = .ok (.iconst 2, 1) := by decide +kernel
theorem dX4_addCover_37 : decode cX4_addCover 37 = .ok (.aaload, 1) := by decide +kernel
theorem dX4_addCover_38 : decode cX4_addCover 38 = .ok (.aload_n 0, 1) := by decide +kernel
theorem dX4_addCover_39 : decode cX4_addCover 39 = .ok (.getfield 39, 3) := by decide +kernel
theorem dX4_addCover_42 : decode cX4_addCover 42 = .ok (.iload_n 3, 1) := by decide +kernel
theorem dX4_addCover_43 : decode cX4_addCover 43 = .ok (.iastore, 1) := by decide +kernel
theorem dX4_addCover_44 : decode cX4_addCover 44 = .ok (.aload_n 0, 1) := by decide +kernel
theorem dX4_addCover_45 : decode cX4_addCover 45 = .ok (.getfield 20, 3) := by decide +kernel
theorem dX4_addCover_48 : decode cX4_addCover 48 = .ok (.iconst 3, 1) := by decide +kernel
theorem dX4_addCover_49 : decode cX4_addCover 49 = .ok (.aaload, 1) := by decide +kernel
theorem dX4_addCover_50 : decode cX4_addCover 50 = .ok (.aload_n 0, 1) := by decide +kernel
theorem dX4_addCover_51 : decode cX4_addCover 51 = .ok (.getfield 39, 3) := by decide +kernel
theorem dX4_addCover_54 : decode cX4_addCover 54 = .ok (.iload 4, 2) := by decide +kernel
theorem dX4_addCover_56 : decode cX4_addCover 56 = .ok (.iastore, 1) := by decide +kernel
theorem dX4_addCover_57 : decode cX4_addCover 57 = .ok (.aload_n 0, 1) := by decide +kernel
theorem dX4_addCover_58 : decode cX4_addCover 58 = .ok (.getfield 20, 3) := by decide +kernel
theorem dX4_addCover_61 : decode cX4_addCover 61 = .ok (.iconst 4, 1) := by decide +kernel
theorem dX4_addCover_62 : decode cX4_addCover 62 = .ok (.aaload, 1) := by decide +kernel
theorem dX4_addCover_63 : decode cX4_addCover 63 = .ok (.aload_n 0, 1) := by decide +kernel
theorem dX4_addCover_64 : decode cX4_addCover 64 = .ok (.getfield 39, 3) := by decide +kernel
theorem dX4_addCover_67 : decode cX4_addCover 67 = .ok (.iload 5, 2) := by decide +kernel
theorem dX4_addCover_69 : decode cX4_addCover 69 = .ok (.iastore, 1) := by decide +kernel
theorem dX4_addCover_70 : decode cX4_addCover 70 = .ok (.aload_n 0, 1) := by decide +kernel
theorem dX4_addCover_71 : decode cX4_addCover 71 = .ok (.dup, 1) := by decide +kernel
theorem dX4_addCover_72 : decode cX4_addCover 72 = .ok (.getfield 39, 3) := by decide +kernel
theorem dX4_addCover_75 : decode cX4_addCover 75 = .ok (.iconst 1, 1) := by decide +kernel
theorem dX4_addCover_76 : decode cX4_addCover 76 = .ok (.iadd, 1) := by decide +kernel
theorem dX4_addCover_77 : decode cX4_addCover 77 = .ok (.putfield 39, 3) := by decide +kernel
theorem dX4_addCover_80 : decode cX4_addCover 80 = .ok (.return_, 1) := by decide +kernel
theorem dX4_removeCover_0 : decode cX4_removeCover 0 = .ok (.aload_n 0, 1) := by decide +kernel
theorem dX4_removeCover_1 : decode cX4_removeCover 1 = .ok (.dup, 1) := by decide +kernel
theorem dX4_removeCover_2 : decode cX4_removeCover 2 = .ok (.getfield 39, 3) := by decide +kernel
theorem dX4_removeCover_5 : decode cX4_removeCover 5 = .ok (.iconst 1, 1) := by decide +kernel
theorem dX4_removeCover_6 : decode cX4_removeCover 6 = .ok (.isub, 1) := by decide +kernel
theorem dX4_removeCover_7 : decode cX4_removeCover 7 = .ok (.putfield 39, 3) := by decide +kernel
theorem dX4_removeCover_10 : decode cX4_removeCover 10 = .ok (.iconst 0, 1) := by decide +kernel
theorem dX4_removeCover_11 : decode cX4_removeCover 11 = .ok (.istore_n 2, 1) := by decide +kernel
theorem dX4_removeCover_12 : decode cX4_removeCover 12 = .ok (.iload_n 2, 1) := by decide +kernel
theorem dX4_removeCover_13 : decode cX4_removeCover 13 = .ok (.iconst 5, 1) := by decide +kernel
theorem dX4_removeCover_14 : decode cX4_removeCover 14 = .ok (.if_icmp .ge 43, 3) := by decide +kernel
theorem dX4_removeCover_17 : decode cX4_removeCover 17 = .ok (.iload_n 1, 1) := by decide +kernel
theorem dX4_removeCover_18 : decode cX4_removeCover 18 = .ok (.istore_n 3, 1) := by decide +kernel
theorem dX4_removeCover_19 : decode cX4_removeCover 19 = .ok (.iload_n 3, 1) := by decide +kernel
theorem dX4_removeCover_20 : decode cX4_removeCover 20 = .ok (.aload_n 0, 1) := by decide +kernel
theorem dX4_removeCover_21 : decode cX4_removeCover 21 = .ok (.getfield 39, 3) := by decide +kernel
theorem dX4_removeCover_24 : decode cX4_removeCover 24 = .ok (.if_icmp .ge 27, 3) := by decide +kernel
theorem dX4_removeCover_27 : decode cX4_removeCover 27 = .ok (.aload_n 0, 1) := by decide +kernel
theorem dX4_removeCover_28 : decode cX4_removeCover 28 = .ok (.getfield 20, 3) := by decide +kernel
theorem dX4_removeCover_31 : decode cX4_removeCover 31 = .ok (.iload_n 2, 1) := by decide +kernel
theorem dX4_removeCover_32 : decode cX4_removeCover 32 = .ok (.aaload, 1) := by decide +kernel
theorem dX4_removeCover_33 : decode cX4_removeCover 33 = .ok (.iload_n 3, 1) := by decide +kernel
theorem dX4_removeCover_34 : decode cX4_removeCover 34 = .ok (.aload_n 0, 1) := by decide +kernel
theorem dX4_removeCover_35 : decode cX4_removeCover 35 = .ok (.getfield 20, 3) := by decide +kernel
theorem dX4_removeCover_38 : decode cX4_removeCover 38 = .ok (.iload_n 2, 1) := by decide +kernel
theorem dX4_removeCover_39 : decode cX4_removeCover 39 = .ok (.aaload, 1) := by decide +kernel
theorem dX4_removeCover_40 : decode cX4_removeCover 40 = .ok (.iload_n 3, 1) := by decide +kernel
theorem dX4_removeCover_41 : decode cX4_removeCover 41 = .ok (.iconst 1, 1) := by decide +kernel
theorem dX4_removeCover_42 : decode cX4_removeCover 42 = .ok (.iadd, 1) := by decide +kernel
theorem dX4_removeCover_43 : decode cX4_removeCover 43 = .ok (.iaload, 1) := by decide +kernel
theorem dX4_removeCover_44 : decode cX4_removeCover 44 = .ok (.iastore, 1) := by decide +kernel
theorem dX4_removeCover_45 : decode cX4_removeCover 45 = .ok (.iinc 3 1, 3) := by decide +kernel
theorem dX4_removeCover_48 : decode cX4_removeCover 48 = .ok (.goto (-29), 3) := by decide +kernel
theorem dX4_removeCover_51 : decode cX4_removeCover 51 = .ok (.iinc 2 1, 3) := by decide +kernel
theorem dX4_removeCover_54 : decode cX4_removeCover 54 = .ok (.goto (-42), 3) := by decide +kernel
theorem dX4_removeCover_57 : decode cX4_removeCover 57 = .ok (.return_, 1) := by decide +kernel
theorem dX4_addPlanned_0 : decode cX4_addPlanned 0 = .ok (.aload_n 0, 1) := by decide +kernel
theorem dX4_addPlanned_1 : decode cX4_addPlanned 1 = .ok (.getfield 45, 3) := by decide +kernel
theorem dX4_addPlanned_4 : decode cX4_addPlanned 4 = .ok (.bipush 8, 2) := by decide +kernel
theorem dX4_addPlanned_6 : decode cX4_addPlanned 6 = .ok (.if_icmp .ge 23, 3) := by decide +kernel
theorem dX4_addPlanned_9 : decode cX4_addPlanned 9 = .ok (.aload_n 0, 1) := by decide +kernel
theorem dX4_addPlanned_10 : decode cX4_addPlanned 10 = .ok (.getfield 26, 3) := by decide +kernel
theorem dX4_addPlanned_13 : decode cX4_addPlanned 13 = .ok (.aload_n 0, 1) := by decide +kernel
theorem dX4_addPlanned_14 : decode cX4_addPlanned 14 = .ok (.getfield 45, 3) := by decide +kernel
theorem dX4_addPlanned_17 : decode cX4_addPlanned 17 = .ok (.iload_n 1, 1) := by decide +kernel
theorem dX4_addPlanned_18 : decode cX4_addPlanned 18 = .ok (.iastore, 1) := by decide +kernel
theorem dX4_addPlanned_19 : decode cX4_addPlanned 19 = .ok (.aload_n 0, 1) := by decide +kernel
theorem dX4_addPlanned_20 : decode cX4_addPlanned 20 = .ok (.dup, 1) := by decide +kernel
theorem dX4_addPlanned_21 : decode cX4_addPlanned 21 = .ok (.getfield 45, 3) := by decide +kernel
theorem dX4_addPlanned_24 : decode cX4_addPlanned 24 = .ok (.iconst 1, 1) := by decide +kernel
theorem dX4_addPlanned_25 : decode cX4_addPlanned 25 = .ok (.iadd, 1) := by decide +kernel
theorem dX4_addPlanned_26 : decode cX4_addPlanned 26 = .ok (.putfield 45, 3) := by decide +kernel
theorem dX4_addPlanned_29 : decode cX4_addPlanned 29 = .ok (.return_, 1) := by decide +kernel
theorem dX4_gainOf_0 : decode cX4_gainOf 0 = .ok (.getstatic 70, 3) := by decide +kernel
theorem dX4_gainOf_3 : decode cX4_gainOf 3 = .ok (.aload_n 0, 1) := by decide +kernel
theorem dX4_gainOf_4 : decode cX4_gainOf 4 = .ok (.getfield 11, 3) := by decide +kernel
theorem dX4_gainOf_7 : decode cX4_gainOf 7 = .ok (.iconst 0, 1) := by decide +kernel
theorem dX4_gainOf_8 : decode cX4_gainOf 8 = .ok (.aaload, 1) := by decide +kernel
theorem dX4_gainOf_9 : decode cX4_gainOf 9 = .ok (.iload_n 1, 1) := by decide +kernel
theorem dX4_gainOf_10 : decode cX4_gainOf 10 = .ok (.iaload, 1) := by decide +kernel
theorem dX4_gainOf_11 : decode cX4_gainOf 11 = .ok (.iconst 4, 1) := by decide +kernel
theorem dX4_gainOf_12 : decode cX4_gainOf 12 = .ok (.imul, 1) := by decide +kernel
theorem dX4_gainOf_13 : decode cX4_gainOf 13 = .ok (.iload_n 2, 1) := by decide +kernel
theorem dX4_gainOf_14 : decode cX4_gainOf 14 = .ok (.iadd, 1) := by decide +kernel
theorem dX4_gainOf_15 : decode cX4_gainOf 15 = .ok (.iaload, 1) := by decide +kernel
theorem dX4_gainOf_16 : decode cX4_gainOf 16 = .ok (.aload_n 0, 1) := by decide +kernel
theorem dX4_gainOf_17 : decode cX4_gainOf 17 = .ok (.getfield 11, 3) := by decide +kernel
theorem dX4_gainOf_20 : decode cX4_gainOf 20 = .ok (.iconst 1, 1) := by decide +kernel
theorem dX4_gainOf_21 : decode cX4_gainOf 21 = .ok (.aaload, 1) := by decide +kernel
theorem dX4_gainOf_22 : decode cX4_gainOf 22 = .ok (.iload_n 1, 1) := by decide +kernel
theorem dX4_gainOf_23 : decode cX4_gainOf 23 = .ok (.iaload, 1) := by decide +kernel
theorem dX4_gainOf_24 : decode cX4_gainOf 24 = .ok (.imul, 1) := by decide +kernel
theorem dX4_gainOf_25 : decode cX4_gainOf 25 = .ok (.ireturn, 1) := by decide +kernel
theorem dX4_coversWith_0 : decode cX4_coversWith 0 = .ok (.iconst 0, 1) := by decide +kernel
theorem dX4_coversWith_1 : decode cX4_coversWith 1 = .ok (.istore_n 3, 1) := by decide +kernel
theorem dX4_coversWith_2 : decode cX4_coversWith 2 = .ok (.iconst 0, 1) := by decide +kernel
theorem dX4_coversWith_3 : decode cX4_coversWith 3 = .ok (.istore 4, 2) := by decide +kernel
theorem dX4_coversWith_5 : decode cX4_coversWith 5 = .ok (.iload 4, 2) := by decide +kernel
theorem dX4_coversWith_7 : decode cX4_coversWith 7 = .ok (.aload_n 0, 1) := by decide +kernel
theorem dX4_coversWith_8 : decode cX4_coversWith 8 = .ok (.getfield 39, 3) := by decide +kernel
theorem dX4_coversWith_11 : decode cX4_coversWith 11 = .ok (.if_icmp .ge 29, 3) := by decide +kernel
theorem dX4_coversWith_14 : decode cX4_coversWith 14 = .ok (.aload_n 0, 1) := by decide +kernel
theorem dX4_coversWith_15 : decode cX4_coversWith 15 = .ok (.getfield 20, 3) := by decide +kernel
theorem dX4_coversWith_18 : decode cX4_coversWith 18 = .ok (.iload_n 1, 1) := by decide +kernel
theorem dX4_coversWith_19 : decode cX4_coversWith 19 = .ok (.aaload, 1) := by decide +kernel
theorem dX4_coversWith_20 : decode cX4_coversWith 20 = .ok (.iload 4, 2) := by decide +kernel
theorem dX4_coversWith_22 : decode cX4_coversWith 22 = .ok (.iaload, 1) := by decide +kernel
theorem dX4_coversWith_23 : decode cX4_coversWith 23 = .ok (.iload_n 2, 1) := by decide +kernel
theorem dX4_coversWith_24 : decode cX4_coversWith 24 = .ok (.if_icmp .ne 10, 3) := by decide +kernel
theorem dX4_coversWith_27 : decode cX4_coversWith 27 = .ok (.iload_n 3, 1) := by decide +kernel
theorem dX4_coversWith_28 : decode cX4_coversWith 28 = .ok (.iconst 1, 1) := by decide +kernel
theorem dX4_coversWith_29 : decode cX4_coversWith 29 = .ok (.iload 4, 2) := by decide +kernel
theorem dX4_coversWith_31 : decode cX4_coversWith 31 = .ok (.ishl, 1) := by decide +kernel
theorem dX4_coversWith_32 : decode cX4_coversWith 32 = .ok (.ior, 1) := by decide +kernel
theorem dX4_coversWith_33 : decode cX4_coversWith 33 = .ok (.istore_n 3, 1) := by decide +kernel
theorem dX4_coversWith_34 : decode cX4_coversWith 34 = .ok (.iinc 4 1, 3) := by decide +kernel
theorem dX4_coversWith_37 : decode cX4_coversWith 37 = .ok (.goto (-32), 3) := by decide +kernel
theorem dX4_coversWith_40 : decode cX4_coversWith 40 = .ok (.iload_n 3, 1) := by decide +kernel
theorem dX4_coversWith_41 : decode cX4_coversWith 41 = .ok (.ireturn, 1) := by decide +kernel
theorem dX4_belowFloor_0 : decode cX4_belowFloor 0 = .ok (.iconst 0, 1) := by decide +kernel
theorem dX4_belowFloor_1 : decode cX4_belowFloor 1 = .ok (.istore_n 1, 1) := by decide +kernel
theorem dX4_belowFloor_2 : decode cX4_belowFloor 2 = .ok (.iconst 0, 1) := by decide +kernel
theorem dX4_belowFloor_3 : decode cX4_belowFloor 3 = .ok (.istore_n 2, 1) := by decide +kernel
theorem dX4_belowFloor_4 : decode cX4_belowFloor 4 = .ok (.iload_n 2, 1) := by decide +kernel
theorem dX4_belowFloor_5 : decode cX4_belowFloor 5 = .ok (.aload_n 0, 1) := by decide +kernel
theorem dX4_belowFloor_6 : decode cX4_belowFloor 6 = .ok (.getfield 35, 3) := by decide +kernel
theorem dX4_belowFloor_9 : decode cX4_belowFloor 9 = .ok (.if_icmp .ge 28, 3) := by decide +kernel
theorem dX4_belowFloor_12 : decode cX4_belowFloor 12 = .ok (.aload_n 0, 1) := by decide +kernel
theorem dX4_belowFloor_13 : decode cX4_belowFloor 13 = .ok (.getfield 16, 3) := by decide +kernel
theorem dX4_belowFloor_16 : decode cX4_belowFloor 16 = .ok (.iload_n 2, 1) := by decide +kernel
theorem dX4_belowFloor_17 : decode cX4_belowFloor 17 = .ok (.iaload, 1) := by decide +kernel
theorem dX4_belowFloor_18 : decode cX4_belowFloor 18 = .ok (.aload_n 0, 1) := by decide +kernel
theorem dX4_belowFloor_19 : decode cX4_belowFloor 19 = .ok (.getfield 42, 3) := by decide +kernel
theorem dX4_belowFloor_22 : decode cX4_belowFloor 22 = .ok (.if_icmp .ge 9, 3) := by decide +kernel
theorem dX4_belowFloor_25 : decode cX4_belowFloor 25 = .ok (.iload_n 1, 1) := by decide +kernel
theorem dX4_belowFloor_26 : decode cX4_belowFloor 26 = .ok (.iconst 1, 1) := by decide +kernel
theorem dX4_belowFloor_27 : decode cX4_belowFloor 27 = .ok (.iload_n 2, 1) := by decide +kernel
theorem dX4_belowFloor_28 : decode cX4_belowFloor 28 = .ok (.ishl, 1) := by decide +kernel
theorem dX4_belowFloor_29 : decode cX4_belowFloor 29 = .ok (.ior, 1) := by decide +kernel
theorem dX4_belowFloor_30 : decode cX4_belowFloor 30 = .ok (.istore_n 1, 1) := by decide +kernel
theorem dX4_belowFloor_31 : decode cX4_belowFloor 31 = .ok (.iinc 2 1, 3) := by decide +kernel
theorem dX4_belowFloor_34 : decode cX4_belowFloor 34 = .ok (.goto (-30), 3) := by decide +kernel
theorem dX4_belowFloor_37 : decode cX4_belowFloor 37 = .ok (.iload_n 1, 1) := by decide +kernel
theorem dX4_belowFloor_38 : decode cX4_belowFloor 38 = .ok (.ireturn, 1) := by decide +kernel
theorem dX4_allPurses_0 : decode cX4_allPurses 0 = .ok (.iconst 0, 1) := by decide +kernel
theorem dX4_allPurses_1 : decode cX4_allPurses 1 = .ok (.istore_n 1, 1) := by decide +kernel
theorem dX4_allPurses_2 : decode cX4_allPurses 2 = .ok (.iconst 0, 1) := by decide +kernel
theorem dX4_allPurses_3 : decode cX4_allPurses 3 = .ok (.istore_n 2, 1) := by decide +kernel
theorem dX4_allPurses_4 : decode cX4_allPurses 4 = .ok (.iload_n 2, 1) := by decide +kernel
theorem dX4_allPurses_5 : decode cX4_allPurses 5 = .ok (.aload_n 0, 1) := by decide +kernel
theorem dX4_allPurses_6 : decode cX4_allPurses 6 = .ok (.getfield 35, 3) := by decide +kernel
theorem dX4_allPurses_9 : decode cX4_allPurses 9 = .ok (.if_icmp .ge 18, 3) := by decide +kernel
theorem dX4_allPurses_12 : decode cX4_allPurses 12 = .ok (.iload_n 1, 1) := by decide +kernel
theorem dX4_allPurses_13 : decode cX4_allPurses 13 = .ok (.aload_n 0, 1) := by decide +kernel
theorem dX4_allPurses_14 : decode cX4_allPurses 14 = .ok (.getfield 16, 3) := by decide +kernel
theorem dX4_allPurses_17 : decode cX4_allPurses 17 = .ok (.iload_n 2, 1) := by decide +kernel
theorem dX4_allPurses_18 : decode cX4_allPurses 18 = .ok (.iaload, 1) := by decide +kernel
theorem dX4_allPurses_19 : decode cX4_allPurses 19 = .ok (.iadd, 1) := by decide +kernel
theorem dX4_allPurses_20 : decode cX4_allPurses 20 = .ok (.istore_n 1, 1) := by decide +kernel
theorem dX4_allPurses_21 : decode cX4_allPurses 21 = .ok (.iinc 2 1, 3) := by decide +kernel
theorem dX4_allPurses_24 : decode cX4_allPurses 24 = .ok (.goto (-20), 3) := by decide +kernel
theorem dX4_allPurses_27 : decode cX4_allPurses 27 = .ok (.iload_n 1, 1) := by decide +kernel
theorem dX4_allPurses_28 : decode cX4_allPurses 28 = .ok (.ireturn, 1) := by decide +kernel
theorem dX4_allDebts_0 : decode cX4_allDebts 0 = .ok (.iconst 0, 1) := by decide +kernel
theorem dX4_allDebts_1 : decode cX4_allDebts 1 = .ok (.istore_n 1, 1) := by decide +kernel
theorem dX4_allDebts_2 : decode cX4_allDebts 2 = .ok (.iconst 0, 1) := by decide +kernel
theorem dX4_allDebts_3 : decode cX4_allDebts 3 = .ok (.istore_n 2, 1) := by decide +kernel
theorem dX4_allDebts_4 : decode cX4_allDebts 4 = .ok (.iload_n 2, 1) := by decide +kernel
theorem dX4_allDebts_5 : decode cX4_allDebts 5 = .ok (.aload_n 0, 1) := by decide +kernel
theorem dX4_allDebts_6 : decode cX4_allDebts 6 = .ok (.getfield 35, 3) := by decide +kernel
theorem dX4_allDebts_9 : decode cX4_allDebts 9 = .ok (.if_icmp .ge 36, 3) := by decide +kernel
theorem dX4_allDebts_12 : decode cX4_allDebts 12 = .ok (.iconst 0, 1) := by decide +kernel
theorem dX4_allDebts_13 : decode cX4_allDebts 13 = .ok (.istore_n 3, 1) := by decide +kernel
theorem dX4_allDebts_14 : decode cX4_allDebts 14 = .ok (.iload_n 3, 1) := by decide +kernel
theorem dX4_allDebts_15 : decode cX4_allDebts 15 = .ok (.aload_n 0, 1) := by decide +kernel
theorem dX4_allDebts_16 : decode cX4_allDebts 16 = .ok (.getfield 35, 3) := by decide +kernel
theorem dX4_allDebts_19 : decode cX4_allDebts 19 = .ok (.if_icmp .ge 20, 3) := by decide +kernel
theorem dX4_allDebts_22 : decode cX4_allDebts 22 = .ok (.iload_n 1, 1) := by decide +kernel
theorem dX4_allDebts_23 : decode cX4_allDebts 23 = .ok (.aload_n 0, 1) := by decide +kernel
theorem dX4_allDebts_24 : decode cX4_allDebts 24 = .ok (.getfield 29, 3) := by decide +kernel
theorem dX4_allDebts_27 : decode cX4_allDebts 27 = .ok (.iload_n 2, 1) := by decide +kernel
theorem dX4_allDebts_28 : decode cX4_allDebts 28 = .ok (.aaload, 1) := by decide +kernel
theorem dX4_allDebts_29 : decode cX4_allDebts 29 = .ok (.iload_n 3, 1) := by decide +kernel
theorem dX4_allDebts_30 : decode cX4_allDebts 30 = .ok (.iaload, 1) := by decide +kernel
theorem dX4_allDebts_31 : decode cX4_allDebts 31 = .ok (.iadd, 1) := by decide +kernel
theorem dX4_allDebts_32 : decode cX4_allDebts 32 = .ok (.istore_n 1, 1) := by decide +kernel
theorem dX4_allDebts_33 : decode cX4_allDebts 33 = .ok (.iinc 3 1, 3) := by decide +kernel
theorem dX4_allDebts_36 : decode cX4_allDebts 36 = .ok (.goto (-22), 3) := by decide +kernel
theorem dX4_allDebts_39 : decode cX4_allDebts 39 = .ok (.iinc 2 1, 3) := by decide +kernel
theorem dX4_allDebts_42 : decode cX4_allDebts 42 = .ok (.goto (-38), 3) := by decide +kernel
theorem dX4_allDebts_45 : decode cX4_allDebts 45 = .ok (.iload_n 1, 1) := by decide +kernel
theorem dX4_allDebts_46 : decode cX4_allDebts 46 = .ok (.ireturn, 1) := by decide +kernel
theorem dX4_balanceOf_0 : decode cX4_balanceOf 0 = .ok (.iconst 0, 1) := by decide +kernel
theorem dX4_balanceOf_1 : decode cX4_balanceOf 1 = .ok (.istore_n 2, 1) := by decide +kernel
theorem dX4_balanceOf_2 : decode cX4_balanceOf 2 = .ok (.iconst 0, 1) := by decide +kernel
theorem dX4_balanceOf_3 : decode cX4_balanceOf 3 = .ok (.istore_n 3, 1) := by decide +kernel
theorem dX4_balanceOf_4 : decode cX4_balanceOf 4 = .ok (.iload_n 3, 1) := by decide +kernel
theorem dX4_balanceOf_5 : decode cX4_balanceOf 5 = .ok (.aload_n 0, 1) := by decide +kernel
theorem dX4_balanceOf_6 : decode cX4_balanceOf 6 = .ok (.getfield 35, 3) := by decide +kernel
theorem dX4_balanceOf_9 : decode cX4_balanceOf 9 = .ok (.if_icmp .ge 29, 3) := by decide +kernel
theorem dX4_balanceOf_12 : decode cX4_balanceOf 12 = .ok (.iload_n 2, 1) := by decide +kernel
theorem dX4_balanceOf_13 : decode cX4_balanceOf 13 = .ok (.aload_n 0, 1) := by decide +kernel
theorem dX4_balanceOf_14 : decode cX4_balanceOf 14 = .ok (.getfield 29, 3) := by decide +kernel
theorem dX4_balanceOf_17 : decode cX4_balanceOf 17 = .ok (.iload_n 3, 1) := by decide +kernel
theorem dX4_balanceOf_18 : decode cX4_balanceOf 18 = .ok (.aaload, 1) := by decide +kernel
theorem dX4_balanceOf_19 : decode cX4_balanceOf 19 = .ok (.iload_n 1, 1) := by decide +kernel
theorem dX4_balanceOf_20 : decode cX4_balanceOf 20 = .ok (.iaload, 1) := by decide +kernel
theorem dX4_balanceOf_21 : decode cX4_balanceOf 21 = .ok (.aload_n 0, 1) := by decide +kernel
theorem dX4_balanceOf_22 : decode cX4_balanceOf 22 = .ok (.getfield 29, 3) := by decide +kernel
theorem dX4_balanceOf_25 : decode cX4_balanceOf 25 = .ok (.iload_n 1, 1) := by decide +kernel
theorem dX4_balanceOf_26 : decode cX4_balanceOf 26 = .ok (.aaload, 1) := by decide +kernel
theorem dX4_balanceOf_27 : decode cX4_balanceOf 27 = .ok (.iload_n 3, 1) := by decide +kernel
theorem dX4_balanceOf_28 : decode cX4_balanceOf 28 = .ok (.iaload, 1) := by decide +kernel
theorem dX4_balanceOf_29 : decode cX4_balanceOf 29 = .ok (.isub, 1) := by decide +kernel
theorem dX4_balanceOf_30 : decode cX4_balanceOf 30 = .ok (.iadd, 1) := by decide +kernel
theorem dX4_balanceOf_31 : decode cX4_balanceOf 31 = .ok (.istore_n 2, 1) := by decide +kernel
theorem dX4_balanceOf_32 : decode cX4_balanceOf 32 = .ok (.iinc 3 1, 3) := by decide +kernel
theorem dX4_balanceOf_35 : decode cX4_balanceOf 35 = .ok (.goto (-31), 3) := by decide +kernel
theorem dX4_balanceOf_38 : decode cX4_balanceOf 38 = .ok (.iload_n 2, 1) := by decide +kernel
theorem dX4_balanceOf_39 : decode cX4_balanceOf 39 = .ok (.ireturn, 1) := by decide +kernel
theorem dX4_dueIn_0 : decode cX4_dueIn 0 = .ok (.iconst 0, 1) := by decide +kernel
theorem dX4_dueIn_1 : decode cX4_dueIn 1 = .ok (.istore_n 2, 1) := by decide +kernel
theorem dX4_dueIn_2 : decode cX4_dueIn 2 = .ok (.iconst 0, 1) := by decide +kernel
theorem dX4_dueIn_3 : decode cX4_dueIn 3 = .ok (.istore_n 3, 1) := by decide +kernel
theorem dX4_dueIn_4 : decode cX4_dueIn 4 = .ok (.iload_n 3, 1) := by decide +kernel
theorem dX4_dueIn_5 : decode cX4_dueIn 5 = .ok (.aload_n 0, 1) := by decide +kernel
theorem dX4_dueIn_6 : decode cX4_dueIn 6 = .ok (.getfield 39, 3) := by decide +kernel
theorem dX4_dueIn_9 : decode cX4_dueIn 9 = .ok (.if_icmp .ge 43, 3) := by decide +kernel
theorem dX4_dueIn_12 : decode cX4_dueIn 12 = .ok (.iload_n 2, 1) := by decide +kernel
theorem dX4_dueIn_13 : decode cX4_dueIn 13 = .ok (.aload_n 0, 1) := by decide +kernel
theorem dX4_dueIn_14 : decode cX4_dueIn 14 = .ok (.getfield 20, 3) := by decide +kernel
theorem dX4_dueIn_17 : decode cX4_dueIn 17 = .ok (.iconst 4, 1) := by decide +kernel
theorem dX4_dueIn_18 : decode cX4_dueIn 18 = .ok (.aaload, 1) := by decide +kernel
theorem dX4_dueIn_19 : decode cX4_dueIn 19 = .ok (.iload_n 3, 1) := by decide +kernel
theorem dX4_dueIn_20 : decode cX4_dueIn 20 = .ok (.iaload, 1) := by decide +kernel
theorem dX4_dueIn_21 : decode cX4_dueIn 21 = .ok (.iadd, 1) := by decide +kernel
theorem dX4_dueIn_22 : decode cX4_dueIn 22 = .ok (.istore_n 2, 1) := by decide +kernel
theorem dX4_dueIn_23 : decode cX4_dueIn 23 = .ok (.aload_n 0, 1) := by decide +kernel
theorem dX4_dueIn_24 : decode cX4_dueIn 24 = .ok (.getfield 20, 3) := by decide +kernel
theorem dX4_dueIn_27 : decode cX4_dueIn 27 = .ok (.iconst 2, 1) := by decide +kernel
theorem dX4_dueIn_28 : decode cX4_dueIn 28 = .ok (.aaload, 1) := by decide +kernel
theorem dX4_dueIn_29 : decode cX4_dueIn 29 = .ok (.iload_n 3, 1) := by decide +kernel
theorem dX4_dueIn_30 : decode cX4_dueIn 30 = .ok (.iaload, 1) := by decide +kernel
theorem dX4_dueIn_31 : decode cX4_dueIn 31 = .ok (.iload_n 1, 1) := by decide +kernel
theorem dX4_dueIn_32 : decode cX4_dueIn 32 = .ok (.if_icmp .ne 14, 3) := by decide +kernel
theorem dX4_dueIn_35 : decode cX4_dueIn 35 = .ok (.iload_n 2, 1) := by decide +kernel
theorem dX4_dueIn_36 : decode cX4_dueIn 36 = .ok (.aload_n 0, 1) := by decide +kernel
theorem dX4_dueIn_37 : decode cX4_dueIn 37 = .ok (.getfield 20, 3) := by decide +kernel
theorem dX4_dueIn_40 : decode cX4_dueIn 40 = .ok (.iconst 3, 1) := by decide +kernel
theorem dX4_dueIn_41 : decode cX4_dueIn 41 = .ok (.aaload, 1) := by decide +kernel
theorem dX4_dueIn_42 : decode cX4_dueIn 42 = .ok (.iload_n 3, 1) := by decide +kernel
theorem dX4_dueIn_43 : decode cX4_dueIn 43 = .ok (.iaload, 1) := by decide +kernel
theorem dX4_dueIn_44 : decode cX4_dueIn 44 = .ok (.iadd, 1) := by decide +kernel
theorem dX4_dueIn_45 : decode cX4_dueIn 45 = .ok (.istore_n 2, 1) := by decide +kernel
theorem dX4_dueIn_46 : decode cX4_dueIn 46 = .ok (.iinc 3 1, 3) := by decide +kernel
theorem dX4_dueIn_49 : decode cX4_dueIn 49 = .ok (.goto (-45), 3) := by decide +kernel
theorem dX4_dueIn_52 : decode cX4_dueIn 52 = .ok (.iload_n 2, 1) := by decide +kernel
theorem dX4_dueIn_53 : decode cX4_dueIn 53 = .ok (.ireturn, 1) := by decide +kernel
theorem dX4_weatherAt_0 : decode cX4_weatherAt 0 = .ok (.iconst 0, 1) := by decide +kernel
theorem dX4_weatherAt_1 : decode cX4_weatherAt 1 = .ok (.istore_n 2, 1) := by decide +kernel
theorem dX4_weatherAt_2 : decode cX4_weatherAt 2 = .ok (.aload_n 0, 1) := by decide +kernel
theorem dX4_weatherAt_3 : decode cX4_weatherAt 3 = .ok (.getfield 23, 3) := by decide +kernel
theorem dX4_weatherAt_6 : decode cX4_weatherAt 6 = .ok (.iconst 0, 1) := by decide +kernel
theorem dX4_weatherAt_7 : decode cX4_weatherAt 7 = .ok (.iaload, 1) := by decide +kernel
theorem dX4_weatherAt_8 : decode cX4_weatherAt 8 = .ok (.istore_n 3, 1) := by decide +kernel
theorem dX4_weatherAt_9 : decode cX4_weatherAt 9 = .ok (.iload_n 2, 1) := by decide +kernel
theorem dX4_weatherAt_10 : decode cX4_weatherAt 10 = .ok (.iconst 3, 1) := by decide +kernel
theorem dX4_weatherAt_11 : decode cX4_weatherAt 11 = .ok (.if_icmp .ge 23, 3) := by decide +kernel
theorem dX4_weatherAt_14 : decode cX4_weatherAt 14 = .ok (.iload_n 1, 1) := by decide +kernel
theorem dX4_weatherAt_15 : decode cX4_weatherAt 15 = .ok (.iload_n 3, 1) := by decide +kernel
theorem dX4_weatherAt_16 : decode cX4_weatherAt 16 = .ok (.if_icmp .lt 18, 3) := by decide +kernel
theorem dX4_weatherAt_19 : decode cX4_weatherAt 19 = .ok (.iinc 2 1, 3) := by decide +kernel
theorem dX4_weatherAt_22 : decode cX4_weatherAt 22 = .ok (.iload_n 3, 1) := by decide +kernel
theorem dX4_weatherAt_23 : decode cX4_weatherAt 23 = .ok (.aload_n 0, 1) := by decide +kernel
theorem dX4_weatherAt_24 : decode cX4_weatherAt 24 = .ok (.getfield 23, 3) := by decide +kernel
theorem dX4_weatherAt_27 : decode cX4_weatherAt 27 = .ok (.iload_n 2, 1) := by decide +kernel
theorem dX4_weatherAt_28 : decode cX4_weatherAt 28 = .ok (.iaload, 1) := by decide +kernel
theorem dX4_weatherAt_29 : decode cX4_weatherAt 29 = .ok (.iadd, 1) := by decide +kernel
theorem dX4_weatherAt_30 : decode cX4_weatherAt 30 = .ok (.istore_n 3, 1) := by decide +kernel
theorem dX4_weatherAt_31 : decode cX4_weatherAt 31 = .ok (.goto (-22), 3) := by decide +kernel
theorem dX4_weatherAt_34 : decode cX4_weatherAt 34 = .ok (.iload_n 2, 1) := by decide +kernel
theorem dX4_weatherAt_35 : decode cX4_weatherAt 35 = .ok (.ireturn, 1) := by decide +kernel
theorem dX4_goWeek_0 : decode cX4_goWeek 0 = .ok (.iload_n 1, 1) := by decide +kernel
theorem dX4_goWeek_1 : decode cX4_goWeek 1 = .ok (.invokestatic 73, 3) := by decide +kernel
theorem dX4_goWeek_4 : decode cX4_goWeek 4 = .ok (.ifCond .ne 5, 3) := by decide +kernel
theorem dX4_goWeek_7 : decode cX4_goWeek 7 = .ok (.iconst (-1), 1) := by decide +kernel
theorem dX4_goWeek_8 : decode cX4_goWeek 8 = .ok (.ireturn, 1) := by decide +kernel
theorem dX4_goWeek_9 : decode cX4_goWeek 9 = .ok (.aload_n 0, 1) := by decide +kernel
theorem dX4_goWeek_10 : decode cX4_goWeek 10 = .ok (.getfield 48, 3) := by decide +kernel
theorem dX4_goWeek_13 : decode cX4_goWeek 13 = .ok (.sipush 999, 3) := by decide +kernel
theorem dX4_goWeek_16 : decode cX4_goWeek 16 = .ok (.if_icmp .lt 6, 3) := by decide +kernel
theorem dX4_goWeek_19 : decode cX4_goWeek 19 = .ok (.bipush (-3), 2) := by decide +kernel
theorem dX4_goWeek_21 : decode cX4_goWeek 21 = .ok (.ireturn, 1) := by decide +kernel
theorem dX4_goWeek_22 : decode cX4_goWeek 22 = .ok (.aload_n 0, 1) := by decide +kernel
theorem dX4_goWeek_23 : decode cX4_goWeek 23 = .ok (.dup, 1) := by decide +kernel
theorem dX4_goWeek_24 : decode cX4_goWeek 24 = .ok (.getfield 48, 3) := by decide +kernel
theorem dX4_goWeek_27 : decode cX4_goWeek 27 = .ok (.iconst 1, 1) := by decide +kernel
theorem dX4_goWeek_28 : decode cX4_goWeek 28 = .ok (.iadd, 1) := by decide +kernel
theorem dX4_goWeek_29 : decode cX4_goWeek 29 = .ok (.putfield 48, 3) := by decide +kernel
theorem dX4_goWeek_32 : decode cX4_goWeek 32 = .ok (.aload_n 0, 1) := by decide +kernel
theorem dX4_goWeek_33 : decode cX4_goWeek 33 = .ok (.iload_n 1, 1) := by decide +kernel
theorem dX4_goWeek_34 : decode cX4_goWeek 34 = .ok (.invokevirtual 77, 3) := by decide +kernel
theorem dX4_goWeek_37 : decode cX4_goWeek 37 = .ok (.ireturn, 1) := by decide +kernel
theorem dX4_live_0 : decode cX4_live 0 = .ok (.iconst 0, 1) := by decide +kernel
theorem dX4_live_1 : decode cX4_live 1 = .ok (.istore_n 2, 1) := by decide +kernel
theorem dX4_live_2 : decode cX4_live 2 = .ok (.iload_n 2, 1) := by decide +kernel
theorem dX4_live_3 : decode cX4_live 3 = .ok (.aload_n 0, 1) := by decide +kernel
theorem dX4_live_4 : decode cX4_live 4 = .ok (.getfield 35, 3) := by decide +kernel
theorem dX4_live_7 : decode cX4_live 7 = .ok (.if_icmp .ge 38, 3) := by decide +kernel
theorem dX4_live_10 : decode cX4_live 10 = .ok (.aload_n 0, 1) := by decide +kernel
theorem dX4_live_11 : decode cX4_live 11 = .ok (.getfield 16, 3) := by decide +kernel
theorem dX4_live_14 : decode cX4_live 14 = .ok (.iload_n 2, 1) := by decide +kernel
theorem dX4_live_15 : decode cX4_live 15 = .ok (.iconst 0, 1) := by decide +kernel
theorem dX4_live_16 : decode cX4_live 16 = .ok (.sipush 999, 3) := by decide +kernel
theorem dX4_live_19 : decode cX4_live 19 = .ok (.aload_n 0, 1) := by decide +kernel
theorem dX4_live_20 : decode cX4_live 20 = .ok (.getfield 16, 3) := by decide +kernel
theorem dX4_live_23 : decode cX4_live 23 = .ok (.iload_n 2, 1) := by decide +kernel
theorem dX4_live_24 : decode cX4_live 24 = .ok (.iaload, 1) := by decide +kernel
theorem dX4_live_25 : decode cX4_live 25 = .ok (.aload_n 0, 1) := by decide +kernel
theorem dX4_live_26 : decode cX4_live 26 = .ok (.iload_n 2, 1) := by decide +kernel
theorem dX4_live_27 : decode cX4_live 27 = .ok (.iload_n 1, 1) := by decide +kernel
theorem dX4_live_28 : decode cX4_live 28 = .ok (.invokevirtual 81, 3) := by decide +kernel
theorem dX4_live_31 : decode cX4_live 31 = .ok (.iadd, 1) := by decide +kernel
theorem dX4_live_32 : decode cX4_live 32 = .ok (.invokestatic 64, 3) := by decide +kernel
theorem dX4_live_35 : decode cX4_live 35 = .ok (.invokestatic 84, 3) := by decide +kernel
theorem dX4_live_38 : decode cX4_live 38 = .ok (.iastore, 1) := by decide +kernel
theorem dX4_live_39 : decode cX4_live 39 = .ok (.iinc 2 1, 3) := by decide +kernel
theorem dX4_live_42 : decode cX4_live 42 = .ok (.goto (-40), 3) := by decide +kernel
theorem dX4_live_45 : decode cX4_live 45 = .ok (.iconst 0, 1) := by decide +kernel
theorem dX4_live_46 : decode cX4_live 46 = .ok (.istore_n 2, 1) := by decide +kernel
theorem dX4_live_47 : decode cX4_live 47 = .ok (.iconst 0, 1) := by decide +kernel
theorem dX4_live_48 : decode cX4_live 48 = .ok (.istore_n 3, 1) := by decide +kernel
theorem dX4_live_49 : decode cX4_live 49 = .ok (.iload_n 3, 1) := by decide +kernel
theorem dX4_live_50 : decode cX4_live 50 = .ok (.aload_n 0, 1) := by decide +kernel
theorem dX4_live_51 : decode cX4_live 51 = .ok (.getfield 39, 3) := by decide +kernel
theorem dX4_live_54 : decode cX4_live 54 = .ok (.if_icmp .ge 79, 3) := by decide +kernel
theorem dX4_live_57 : decode cX4_live 57 = .ok (.aload_n 0, 1) := by decide +kernel
theorem dX4_live_58 : decode cX4_live 58 = .ok (.getfield 20, 3) := by decide +kernel
theorem dX4_live_61 : decode cX4_live 61 = .ok (.iconst 0, 1) := by decide +kernel
theorem dX4_live_62 : decode cX4_live 62 = .ok (.aaload, 1) := by decide +kernel
theorem dX4_live_63 : decode cX4_live 63 = .ok (.iload_n 3, 1) := by decide +kernel
theorem dX4_live_64 : decode cX4_live 64 = .ok (.iaload, 1) := by decide +kernel
theorem dX4_live_65 : decode cX4_live 65 = .ok (.istore 4, 2) := by decide +kernel
theorem dX4_live_67 : decode cX4_live 67 = .ok (.aload_n 0, 1) := by decide +kernel
theorem dX4_live_68 : decode cX4_live 68 = .ok (.getfield 20, 3) := by decide +kernel
theorem dX4_live_71 : decode cX4_live 71 = .ok (.iconst 1, 1) := by decide +kernel
theorem dX4_live_72 : decode cX4_live 72 = .ok (.aaload, 1) := by decide +kernel
theorem dX4_live_73 : decode cX4_live 73 = .ok (.iload_n 3, 1) := by decide +kernel
theorem dX4_live_74 : decode cX4_live 74 = .ok (.iaload, 1) := by decide +kernel
theorem dX4_live_75 : decode cX4_live 75 = .ok (.istore 5, 2) := by decide +kernel
theorem dX4_live_77 : decode cX4_live 77 = .ok (.aload_n 0, 1) := by decide +kernel
theorem dX4_live_78 : decode cX4_live 78 = .ok (.getfield 20, 3) := by decide +kernel
theorem dX4_live_81 : decode cX4_live 81 = .ok (.iconst 2, 1) := by decide +kernel
theorem dX4_live_82 : decode cX4_live 82 = .ok (.aaload, 1) := by decide +kernel
theorem dX4_live_83 : decode cX4_live 83 = .ok (.iload_n 3, 1) := by decide +kernel
theorem dX4_live_84 : decode cX4_live 84 = .ok (.iaload, 1) := by decide +kernel
theorem dX4_live_85 : decode cX4_live 85 = .ok (.iload_n 1, 1) := by decide +kernel
theorem dX4_live_86 : decode cX4_live 86 = .ok (.if_icmp .ne 22, 3) := by decide +kernel
theorem dX4_live_89 : decode cX4_live 89 = .ok (.iload_n 2, 1) := by decide +kernel
theorem dX4_live_90 : decode cX4_live 90 = .ok (.aload_n 0, 1) := by decide +kernel
theorem dX4_live_91 : decode cX4_live 91 = .ok (.iload 4, 2) := by decide +kernel
theorem dX4_live_93 : decode cX4_live 93 = .ok (.iload 5, 2) := by decide +kernel
theorem dX4_live_95 : decode cX4_live 95 = .ok (.aload_n 0, 1) := by decide +kernel
theorem dX4_live_96 : decode cX4_live 96 = .ok (.getfield 20, 3) := by decide +kernel
theorem dX4_live_99 : decode cX4_live 99 = .ok (.iconst 3, 1) := by decide +kernel
theorem dX4_live_100 : decode cX4_live 100 = .ok (.aaload, 1) := by decide +kernel
theorem dX4_live_101 : decode cX4_live 101 = .ok (.iload_n 3, 1) := by decide +kernel
theorem dX4_live_102 : decode cX4_live 102 = .ok (.iaload, 1) := by decide +kernel
theorem dX4_live_103 : decode cX4_live 103 = .ok (.invokevirtual 87, 3) := by decide +kernel
theorem dX4_live_106 : decode cX4_live 106 = .ok (.iadd, 1) := by decide +kernel
theorem dX4_live_107 : decode cX4_live 107 = .ok (.istore_n 2, 1) := by decide +kernel
theorem dX4_live_108 : decode cX4_live 108 = .ok (.iload_n 2, 1) := by decide +kernel
theorem dX4_live_109 : decode cX4_live 109 = .ok (.aload_n 0, 1) := by decide +kernel
theorem dX4_live_110 : decode cX4_live 110 = .ok (.iload 5, 2) := by decide +kernel
theorem dX4_live_112 : decode cX4_live 112 = .ok (.iload 4, 2) := by decide +kernel
theorem dX4_live_114 : decode cX4_live 114 = .ok (.aload_n 0, 1) := by decide +kernel
theorem dX4_live_115 : decode cX4_live 115 = .ok (.getfield 20, 3) := by decide +kernel
theorem dX4_live_118 : decode cX4_live 118 = .ok (.iconst 4, 1) := by decide +kernel
theorem dX4_live_119 : decode cX4_live 119 = .ok (.aaload, 1) := by decide +kernel
theorem dX4_live_120 : decode cX4_live 120 = .ok (.iload_n 3, 1) := by decide +kernel
theorem dX4_live_121 : decode cX4_live 121 = .ok (.iaload, 1) := by decide +kernel
theorem dX4_live_122 : decode cX4_live 122 = .ok (.invokevirtual 87, 3) := by decide +kernel
theorem dX4_live_125 : decode cX4_live 125 = .ok (.iadd, 1) := by decide +kernel
theorem dX4_live_126 : decode cX4_live 126 = .ok (.istore_n 2, 1) := by decide +kernel
theorem dX4_live_127 : decode cX4_live 127 = .ok (.iinc 3 1, 3) := by decide +kernel
theorem dX4_live_130 : decode cX4_live 130 = .ok (.goto (-81), 3) := by decide +kernel
theorem dX4_live_133 : decode cX4_live 133 = .ok (.iload_n 2, 1) := by decide +kernel
theorem dX4_live_134 : decode cX4_live 134 = .ok (.ireturn, 1) := by decide +kernel
theorem dX4_hand_0 : decode cX4_hand 0 = .ok (.iload_n 3, 1) := by decide +kernel
theorem dX4_hand_1 : decode cX4_hand 1 = .ok (.aload_n 0, 1) := by decide +kernel
theorem dX4_hand_2 : decode cX4_hand 2 = .ok (.getfield 16, 3) := by decide +kernel
theorem dX4_hand_5 : decode cX4_hand 5 = .ok (.iload_n 1, 1) := by decide +kernel
theorem dX4_hand_6 : decode cX4_hand 6 = .ok (.iaload, 1) := by decide +kernel
theorem dX4_hand_7 : decode cX4_hand 7 = .ok (.if_icmp .gt 7, 3) := by decide +kernel
theorem dX4_hand_10 : decode cX4_hand 10 = .ok (.iload_n 3, 1) := by decide +kernel
theorem dX4_hand_11 : decode cX4_hand 11 = .ok (.goto 9, 3) := by decide +kernel
theorem dX4_hand_14 : decode cX4_hand 14 = .ok (.aload_n 0, 1) := by decide +kernel
theorem dX4_hand_15 : decode cX4_hand 15 = .ok (.getfield 16, 3) := by decide +kernel
theorem dX4_hand_18 : decode cX4_hand 18 = .ok (.iload_n 1, 1) := by decide +kernel
theorem dX4_hand_19 : decode cX4_hand 19 = .ok (.iaload, 1) := by decide +kernel
theorem dX4_hand_20 : decode cX4_hand 20 = .ok (.istore 4, 2) := by decide +kernel
theorem dX4_hand_22 : decode cX4_hand 22 = .ok (.aload_n 0, 1) := by decide +kernel
theorem dX4_hand_23 : decode cX4_hand 23 = .ok (.getfield 16, 3) := by decide +kernel
theorem dX4_hand_26 : decode cX4_hand 26 = .ok (.iload_n 2, 1) := by decide +kernel
theorem dX4_hand_27 : decode cX4_hand 27 = .ok (.iaload, 1) := by decide +kernel
theorem dX4_hand_28 : decode cX4_hand 28 = .ok (.iload 4, 2) := by decide +kernel
theorem dX4_hand_30 : decode cX4_hand 30 = .ok (.iadd, 1) := by decide +kernel
theorem dX4_hand_31 : decode cX4_hand 31 = .ok (.istore 5, 2) := by decide +kernel
theorem dX4_hand_33 : decode cX4_hand 33 = .ok (.aload_n 0, 1) := by decide +kernel
theorem dX4_hand_34 : decode cX4_hand 34 = .ok (.getfield 16, 3) := by decide +kernel
theorem dX4_hand_37 : decode cX4_hand 37 = .ok (.iload_n 1, 1) := by decide +kernel
theorem dX4_hand_38 : decode cX4_hand 38 = .ok (.dup2, 1) := by decide +kernel
theorem dX4_hand_39 : decode cX4_hand 39 = .ok (.iaload, 1) := by decide +kernel
theorem dX4_hand_40 : decode cX4_hand 40 = .ok (.iload 4, 2) := by decide +kernel
theorem dX4_hand_42 : decode cX4_hand 42 = .ok (.isub, 1) := by decide +kernel
theorem dX4_hand_43 : decode cX4_hand 43 = .ok (.iastore, 1) := by decide +kernel
theorem dX4_hand_44 : decode cX4_hand 44 = .ok (.aload_n 0, 1) := by decide +kernel
theorem dX4_hand_45 : decode cX4_hand 45 = .ok (.getfield 16, 3) := by decide +kernel
theorem dX4_hand_48 : decode cX4_hand 48 = .ok (.iload_n 2, 1) := by decide +kernel
theorem dX4_hand_49 : decode cX4_hand 49 = .ok (.iload 5, 2) := by decide +kernel
theorem dX4_hand_51 : decode cX4_hand 51 = .ok (.sipush 999, 3) := by decide +kernel
theorem dX4_hand_54 : decode cX4_hand 54 = .ok (.if_icmp .gt 8, 3) := by decide +kernel
theorem dX4_hand_57 : decode cX4_hand 57 = .ok (.iload 5, 2) := by decide +kernel
theorem dX4_hand_59 : decode cX4_hand 59 = .ok (.goto 6, 3) := by decide +kernel
theorem dX4_hand_62 : decode cX4_hand 62 = .ok (.sipush 999, 3) := by decide +kernel
theorem dX4_hand_65 : decode cX4_hand 65 = .ok (.iastore, 1) := by decide +kernel
theorem dX4_hand_66 : decode cX4_hand 66 = .ok (.aload_n 0, 1) := by decide +kernel
theorem dX4_hand_67 : decode cX4_hand 67 = .ok (.getfield 29, 3) := by decide +kernel
theorem dX4_hand_70 : decode cX4_hand 70 = .ok (.iload_n 1, 1) := by decide +kernel
theorem dX4_hand_71 : decode cX4_hand 71 = .ok (.aaload, 1) := by decide +kernel
theorem dX4_hand_72 : decode cX4_hand 72 = .ok (.iload_n 2, 1) := by decide +kernel
theorem dX4_hand_73 : decode cX4_hand 73 = .ok (.dup2, 1) := by decide +kernel
theorem dX4_hand_74 : decode cX4_hand 74 = .ok (.iaload, 1) := by decide +kernel
theorem dX4_hand_75 : decode cX4_hand 75 = .ok (.iload_n 3, 1) := by decide +kernel
theorem dX4_hand_76 : decode cX4_hand 76 = .ok (.iload 4, 2) := by decide +kernel
theorem dX4_hand_78 : decode cX4_hand 78 = .ok (.isub, 1) := by decide +kernel
theorem dX4_hand_79 : decode cX4_hand 79 = .ok (.iadd, 1) := by decide +kernel
theorem dX4_hand_80 : decode cX4_hand 80 = .ok (.iastore, 1) := by decide +kernel
theorem dX4_hand_81 : decode cX4_hand 81 = .ok (.iload 4, 2) := by decide +kernel
theorem dX4_hand_83 : decode cX4_hand 83 = .ok (.iload_n 3, 1) := by decide +kernel
theorem dX4_hand_84 : decode cX4_hand 84 = .ok (.if_icmp .ge 7, 3) := by decide +kernel
theorem dX4_hand_87 : decode cX4_hand 87 = .ok (.iconst 1, 1) := by decide +kernel
theorem dX4_hand_88 : decode cX4_hand 88 = .ok (.goto 4, 3) := by decide +kernel
theorem dX4_hand_91 : decode cX4_hand 91 = .ok (.iconst 0, 1) := by decide +kernel
theorem dX4_hand_92 : decode cX4_hand 92 = .ok (.ireturn, 1) := by decide +kernel
theorem dX2_init_0 : decode cX2_init 0 = .ok (.aload_n 0, 1) := by decide +kernel
theorem dX2_init_1 : decode cX2_init 1 = .ok (.invokespecial 3, 3) := by decide +kernel
theorem dX2_init_4 : decode cX2_init 4 = .ok (.aload_n 0, 1) := by decide +kernel
theorem dX2_init_5 : decode cX2_init 5 = .ok (.iconst (-1), 1) := by decide +kernel
theorem dX2_init_6 : decode cX2_init 6 = .ok (.putfield 11, 3) := by decide +kernel
theorem dX2_init_9 : decode cX2_init 9 = .ok (.aload_n 0, 1) := by decide +kernel
theorem dX2_init_10 : decode cX2_init 10 = .ok (.bipush 40, 2) := by decide +kernel
theorem dX2_init_12 : decode cX2_init 12 = .ok (.newarray .int, 2) := by decide +kernel
theorem dX2_init_14 : decode cX2_init 14 = .ok (.putfield 15, 3) := by decide +kernel
theorem dX2_init_17 : decode cX2_init 17 = .ok (.return_, 1) := by decide +kernel
theorem dX2_renew_0 : decode cX2_renew 0 = .ok (.aload_n 0, 1) := by decide +kernel
theorem dX2_renew_1 : decode cX2_renew 1 = .ok (.iload_n 1, 1) := by decide +kernel
theorem dX2_renew_2 : decode cX2_renew 2 = .ok (.putfield 11, 3) := by decide +kernel
theorem dX2_renew_5 : decode cX2_renew 5 = .ok (.aload_n 0, 1) := by decide +kernel
theorem dX2_renew_6 : decode cX2_renew 6 = .ok (.iload_n 2, 1) := by decide +kernel
theorem dX2_renew_7 : decode cX2_renew 7 = .ok (.putfield 19, 3) := by decide +kernel
theorem dX2_renew_10 : decode cX2_renew 10 = .ok (.iconst 0, 1) := by decide +kernel
theorem dX2_renew_11 : decode cX2_renew 11 = .ok (.istore_n 3, 1) := by decide +kernel
theorem dX2_renew_12 : decode cX2_renew 12 = .ok (.iload_n 3, 1) := by decide +kernel
theorem dX2_renew_13 : decode cX2_renew 13 = .ok (.bipush 40, 2) := by decide +kernel
theorem dX2_renew_15 : decode cX2_renew 15 = .ok (.if_icmp .ge 16, 3) := by decide +kernel
theorem dX2_renew_18 : decode cX2_renew 18 = .ok (.aload_n 0, 1) := by decide +kernel
theorem dX2_renew_19 : decode cX2_renew 19 = .ok (.getfield 15, 3) := by decide +kernel
theorem dX2_renew_22 : decode cX2_renew 22 = .ok (.iload_n 3, 1) := by decide +kernel
theorem dX2_renew_23 : decode cX2_renew 23 = .ok (.iconst 0, 1) := by decide +kernel
theorem dX2_renew_24 : decode cX2_renew 24 = .ok (.iastore, 1) := by decide +kernel
theorem dX2_renew_25 : decode cX2_renew 25 = .ok (.iinc 3 1, 3) := by decide +kernel
theorem dX2_renew_28 : decode cX2_renew 28 = .ok (.goto (-16), 3) := by decide +kernel
theorem dX2_renew_31 : decode cX2_renew 31 = .ok (.return_, 1) := by decide +kernel
theorem dX2_faultAt_0 : decode cX2_faultAt 0 = .ok (.aload_n 0, 1) := by decide +kernel
theorem dX2_faultAt_1 : decode cX2_faultAt 1 = .ok (.getfield 11, 3) := by decide +kernel
theorem dX2_faultAt_4 : decode cX2_faultAt 4 = .ok (.iconst (-1), 1) := by decide +kernel
theorem dX2_faultAt_5 : decode cX2_faultAt 5 = .ok (.if_icmp .ne 5, 3) := by decide +kernel
theorem dX2_faultAt_8 : decode cX2_faultAt 8 = .ok (.iconst 1, 1) := by decide +kernel
theorem dX2_faultAt_9 : decode cX2_faultAt 9 = .ok (.ireturn, 1) := by decide +kernel
theorem dX2_faultAt_10 : decode cX2_faultAt 10 = .ok (.aload_n 0, 1) := by decide +kernel
theorem dX2_faultAt_11 : decode cX2_faultAt 11 = .ok (.getfield 11, 3) := by decide +kernel
theorem dX2_faultAt_14 : decode cX2_faultAt 14 = .ok (.iload_n 1, 1) := by decide +kernel
theorem dX2_faultAt_15 : decode cX2_faultAt 15 = .ok (.if_icmp .eq 5, 3) := by decide +kernel
theorem dX2_faultAt_18 : decode cX2_faultAt 18 = .ok (.iconst 3, 1) := by decide +kernel
theorem dX2_faultAt_19 : decode cX2_faultAt 19 = .ok (.ireturn, 1) := by decide +kernel
theorem dX2_faultAt_20 : decode cX2_faultAt 20 = .ok (.iload_n 2, 1) := by decide +kernel
theorem dX2_faultAt_21 : decode cX2_faultAt 21 = .ok (.iconst 0, 1) := by decide +kernel
theorem dX2_faultAt_22 : decode cX2_faultAt 22 = .ok (.aload_n 0, 1) := by decide +kernel
theorem dX2_faultAt_23 : decode cX2_faultAt 23 = .ok (.getfield 19, 3) := by decide +kernel
theorem dX2_faultAt_26 : decode cX2_faultAt 26 = .ok (.iconst 1, 1) := by decide +kernel
theorem dX2_faultAt_27 : decode cX2_faultAt 27 = .ok (.isub, 1) := by decide +kernel
theorem dX2_faultAt_28 : decode cX2_faultAt 28 = .ok (.invokestatic 22, 3) := by decide +kernel
theorem dX2_faultAt_31 : decode cX2_faultAt 31 = .ok (.ifCond .eq 7, 3) := by decide +kernel
theorem dX2_faultAt_34 : decode cX2_faultAt 34 = .ok (.iconst 0, 1) := by decide +kernel
theorem dX2_faultAt_35 : decode cX2_faultAt 35 = .ok (.goto 4, 3) := by decide +kernel
theorem dX2_faultAt_38 : decode cX2_faultAt 38 = .ok (.iconst 2, 1) := by decide +kernel
theorem dX2_faultAt_39 : decode cX2_faultAt 39 = .ok (.ireturn, 1) := by decide +kernel
theorem dX2_put_0 : decode cX2_put 0 = .ok (.aload_n 0, 1) := by decide +kernel
theorem dX2_put_1 : decode cX2_put 1 = .ok (.getfield 11, 3) := by decide +kernel
theorem dX2_put_4 : decode cX2_put 4 = .ok (.lookupswitch 50 #[(0, 28), (1, 39)], 28) := by decide +kernel
theorem dX2_put_32 : decode cX2_put 32 = .ok (.aload_n 0, 1) := by decide +kernel
theorem dX2_put_33 : decode cX2_put 33 = .ok (.getfield 15, 3) := by decide +kernel
theorem dX2_put_36 : decode cX2_put 36 = .ok (.iload_n 1, 1) := by decide +kernel
theorem dX2_put_37 : decode cX2_put 37 = .ok (.iload_n 2, 1) := by decide +kernel
theorem dX2_put_38 : decode cX2_put 38 = .ok (.i2b, 1) := by decide +kernel
theorem dX2_put_39 : decode cX2_put 39 = .ok (.iastore, 1) := by decide +kernel
theorem dX2_put_40 : decode cX2_put 40 = .ok (.goto 21, 3) := by decide +kernel
theorem dX2_put_43 : decode cX2_put 43 = .ok (.aload_n 0, 1) := by decide +kernel
theorem dX2_put_44 : decode cX2_put 44 = .ok (.getfield 15, 3) := by decide +kernel
theorem dX2_put_47 : decode cX2_put 47 = .ok (.iload_n 1, 1) := by decide +kernel
theorem dX2_put_48 : decode cX2_put 48 = .ok (.iload_n 2, 1) := by decide +kernel
theorem dX2_put_49 : decode cX2_put 49 = .ok (.i2s, 1) := by decide +kernel
theorem dX2_put_50 : decode cX2_put 50 = .ok (.iastore, 1) := by decide +kernel
theorem dX2_put_51 : decode cX2_put 51 = .ok (.goto 10, 3) := by decide +kernel
theorem dX2_put_54 : decode cX2_put 54 = .ok (.aload_n 0, 1) := by decide +kernel
theorem dX2_put_55 : decode cX2_put 55 = .ok (.getfield 15, 3) := by decide +kernel
theorem dX2_put_58 : decode cX2_put 58 = .ok (.iload_n 1, 1) := by decide +kernel
theorem dX2_put_59 : decode cX2_put 59 = .ok (.iload_n 2, 1) := by decide +kernel
theorem dX2_put_60 : decode cX2_put 60 = .ok (.iastore, 1) := by decide +kernel
theorem dX2_put_61 : decode cX2_put 61 = .ok (.return_, 1) := by decide +kernel
theorem dX3_init_0 : decode cX3_init 0 = .ok (.aload_n 0, 1) := by decide +kernel
theorem dX3_init_1 : decode cX3_init 1 = .ok (.invokespecial 3, 3) := by decide +kernel
theorem dX3_init_4 : decode cX3_init 4 = .ok (.aload_n 0, 1) := by decide +kernel
theorem dX3_init_5 : decode cX3_init 5 = .ok (.bipush 6, 2) := by decide +kernel
theorem dX3_init_7 : decode cX3_init 7 = .ok (.newarray .int, 2) := by decide +kernel
theorem dX3_init_9 : decode cX3_init 9 = .ok (.putfield 9, 3) := by decide +kernel
theorem dX3_init_12 : decode cX3_init 12 = .ok (.aload_n 0, 1) := by decide +kernel
theorem dX3_init_13 : decode cX3_init 13 = .ok (.bipush 6, 2) := by decide +kernel
theorem dX3_init_15 : decode cX3_init 15 = .ok (.newarray .int, 2) := by decide +kernel
theorem dX3_init_17 : decode cX3_init 17 = .ok (.putfield 15, 3) := by decide +kernel
theorem dX3_init_20 : decode cX3_init 20 = .ok (.aload_n 0, 1) := by decide +kernel
theorem dX3_init_21 : decode cX3_init 21 = .ok (.bipush 6, 2) := by decide +kernel
theorem dX3_init_23 : decode cX3_init 23 = .ok (.newarray .int, 2) := by decide +kernel
theorem dX3_init_25 : decode cX3_init 25 = .ok (.putfield 18, 3) := by decide +kernel
theorem dX3_init_28 : decode cX3_init 28 = .ok (.return_, 1) := by decide +kernel
theorem dX3_add_0 : decode cX3_add 0 = .ok (.aload_n 0, 1) := by decide +kernel
theorem dX3_add_1 : decode cX3_add 1 = .ok (.getfield 21, 3) := by decide +kernel
theorem dX3_add_4 : decode cX3_add 4 = .ok (.bipush 6, 2) := by decide +kernel
theorem dX3_add_6 : decode cX3_add 6 = .ok (.if_icmp .ge 43, 3) := by decide +kernel
theorem dX3_add_9 : decode cX3_add 9 = .ok (.aload_n 0, 1) := by decide +kernel
theorem dX3_add_10 : decode cX3_add 10 = .ok (.getfield 9, 3) := by decide +kernel
theorem dX3_add_13 : decode cX3_add 13 = .ok (.aload_n 0, 1) := by decide +kernel
theorem dX3_add_14 : decode cX3_add 14 = .ok (.getfield 21, 3) := by decide +kernel
theorem dX3_add_17 : decode cX3_add 17 = .ok (.iload_n 1, 1) := by decide +kernel
theorem dX3_add_18 : decode cX3_add 18 = .ok (.iastore, 1) := by decide +kernel
theorem dX3_add_19 : decode cX3_add 19 = .ok (.aload_n 0, 1) := by decide +kernel
theorem dX3_add_20 : decode cX3_add 20 = .ok (.getfield 15, 3) := by decide +kernel
theorem dX3_add_23 : decode cX3_add 23 = .ok (.aload_n 0, 1) := by decide +kernel
theorem dX3_add_24 : decode cX3_add 24 = .ok (.getfield 21, 3) := by decide +kernel
theorem dX3_add_27 : decode cX3_add 27 = .ok (.iload_n 2, 1) := by decide +kernel
theorem dX3_add_28 : decode cX3_add 28 = .ok (.iastore, 1) := by decide +kernel
theorem dX3_add_29 : decode cX3_add 29 = .ok (.aload_n 0, 1) := by decide +kernel
theorem dX3_add_30 : decode cX3_add 30 = .ok (.getfield 18, 3) := by decide +kernel
theorem dX3_add_33 : decode cX3_add 33 = .ok (.aload_n 0, 1) := by decide +kernel
theorem dX3_add_34 : decode cX3_add 34 = .ok (.getfield 21, 3) := by decide +kernel
theorem dX3_add_37 : decode cX3_add 37 = .ok (.iload_n 3, 1) := by decide +kernel
theorem dX3_add_38 : decode cX3_add 38 = .ok (.iastore, 1) := by decide +kernel
theorem dX3_add_39 : decode cX3_add 39 = .ok (.aload_n 0, 1) := by decide +kernel
theorem dX3_add_40 : decode cX3_add 40 = .ok (.dup, 1) := by decide +kernel
theorem dX3_add_41 : decode cX3_add 41 = .ok (.getfield 21, 3) := by decide +kernel
theorem dX3_add_44 : decode cX3_add 44 = .ok (.iconst 1, 1) := by decide +kernel
theorem dX3_add_45 : decode cX3_add 45 = .ok (.iadd, 1) := by decide +kernel
theorem dX3_add_46 : decode cX3_add 46 = .ok (.putfield 21, 3) := by decide +kernel
theorem dX3_add_49 : decode cX3_add 49 = .ok (.return_, 1) := by decide +kernel
theorem dX0_init_0 : decode cX0_init 0 = .ok (.aload_n 0, 1) := by decide +kernel
theorem dX0_init_1 : decode cX0_init 1 = .ok (.invokespecial 3, 3) := by decide +kernel
theorem dX0_init_4 : decode cX0_init 4 = .ok (.aload_n 0, 1) := by decide +kernel
theorem dX0_init_5 : decode cX0_init 5 = .ok (.new 9, 3) := by decide +kernel
theorem dX0_init_8 : decode cX0_init 8 = .ok (.dup, 1) := by decide +kernel
theorem dX0_init_9 : decode cX0_init 9 = .ok (.invokespecial 11, 3) := by decide +kernel
theorem dX0_init_12 : decode cX0_init 12 = .ok (.putfield 12, 3) := by decide +kernel
theorem dX0_init_15 : decode cX0_init 15 = .ok (.aload_n 0, 1) := by decide +kernel
theorem dX0_init_16 : decode cX0_init 16 = .ok (.sipush 1364, 3) := by decide +kernel
theorem dX0_init_19 : decode cX0_init 19 = .ok (.newarray .int, 2) := by decide +kernel
theorem dX0_init_21 : decode cX0_init 21 = .ok (.putfield 18, 3) := by decide +kernel
theorem dX0_init_24 : decode cX0_init 24 = .ok (.aload_n 0, 1) := by decide +kernel
theorem dX0_init_25 : decode cX0_init 25 = .ok (.sipush 256, 3) := by decide +kernel
theorem dX0_init_28 : decode cX0_init 28 = .ok (.newarray .int, 2) := by decide +kernel
theorem dX0_init_30 : decode cX0_init 30 = .ok (.putfield 22, 3) := by decide +kernel
theorem dX0_init_33 : decode cX0_init 33 = .ok (.aload_n 0, 1) := by decide +kernel
theorem dX0_init_34 : decode cX0_init 34 = .ok (.sipush 1000, 3) := by decide +kernel
theorem dX0_init_37 : decode cX0_init 37 = .ok (.newarray .int, 2) := by decide +kernel
theorem dX0_init_39 : decode cX0_init 39 = .ok (.putfield 25, 3) := by decide +kernel
theorem dX0_init_42 : decode cX0_init 42 = .ok (.return_, 1) := by decide +kernel
theorem dX0_beginWith_0 : decode cX0_beginWith 0 = .ok (.aload_n 0, 1) := by decide +kernel
theorem dX0_beginWith_1 : decode cX0_beginWith 1 = .ok (.getfield 12, 3) := by decide +kernel
theorem dX0_beginWith_4 : decode cX0_beginWith 4 = .ok (.aload_n 1, 1) := by decide +kernel
theorem dX0_beginWith_5 : decode cX0_beginWith 5 = .ok (.invokevirtual 28, 3) := by decide +kernel
theorem dX0_beginWith_8 : decode cX0_beginWith 8 = .ok (.aload_n 0, 1) := by decide +kernel
theorem dX0_beginWith_9 : decode cX0_beginWith 9 = .ok (.getfield 12, 3) := by decide +kernel
theorem dX0_beginWith_12 : decode cX0_beginWith 12 = .ok (.getfield 32, 3) := by decide +kernel
theorem dX0_beginWith_15 : decode cX0_beginWith 15 = .ok (.iconst 0, 1) := by decide +kernel
theorem dX0_beginWith_16 : decode cX0_beginWith 16 = .ok (.aload_n 0, 1) := by decide +kernel
theorem dX0_beginWith_17 : decode cX0_beginWith 17 = .ok (.getfield 18, 3) := by decide +kernel
theorem dX0_beginWith_20 : decode cX0_beginWith 20 = .ok (.iconst 0, 1) := by decide +kernel
theorem dX0_beginWith_21 : decode cX0_beginWith 21 = .ok (.iconst 4, 1) := by decide +kernel
theorem dX0_beginWith_22 : decode cX0_beginWith 22 = .ok (.invokestatic 35, 3) := by decide +kernel
theorem dX0_beginWith_25 : decode cX0_beginWith 25 = .ok (.return_, 1) := by decide +kernel
theorem dX0_step_0 : decode cX0_step 0 = .ok (.aload_n 0, 1) := by decide +kernel
theorem dX0_step_1 : decode cX0_step 1 = .ok (.getfield 18, 3) := by decide +kernel
theorem dX0_step_4 : decode cX0_step 4 = .ok (.iload_n 1, 1) := by decide +kernel
theorem dX0_step_5 : decode cX0_step 5 = .ok (.iconst 4, 1) := by decide +kernel
theorem dX0_step_6 : decode cX0_step 6 = .ok (.imul, 1) := by decide +kernel
theorem dX0_step_7 : decode cX0_step 7 = .ok (.aload_n 0, 1) := by decide +kernel
theorem dX0_step_8 : decode cX0_step 8 = .ok (.getfield 12, 3) := by decide +kernel
theorem dX0_step_11 : decode cX0_step 11 = .ok (.getfield 32, 3) := by decide +kernel
theorem dX0_step_14 : decode cX0_step 14 = .ok (.iconst 0, 1) := by decide +kernel
theorem dX0_step_15 : decode cX0_step 15 = .ok (.iconst 4, 1) := by decide +kernel
theorem dX0_step_16 : decode cX0_step 16 = .ok (.invokestatic 35, 3) := by decide +kernel
theorem dX0_step_19 : decode cX0_step 19 = .ok (.aload_n 0, 1) := by decide +kernel
theorem dX0_step_20 : decode cX0_step 20 = .ok (.getfield 12, 3) := by decide +kernel
theorem dX0_step_23 : decode cX0_step 23 = .ok (.iload_n 2, 1) := by decide +kernel
theorem dX0_step_24 : decode cX0_step 24 = .ok (.invokevirtual 41, 3) := by decide +kernel
theorem dX0_step_27 : decode cX0_step 27 = .ok (.pop, 1) := by decide +kernel
theorem dX0_step_28 : decode cX0_step 28 = .ok (.aload_n 0, 1) := by decide +kernel
theorem dX0_step_29 : decode cX0_step 29 = .ok (.getfield 12, 3) := by decide +kernel
theorem dX0_step_32 : decode cX0_step 32 = .ok (.getfield 32, 3) := by decide +kernel
theorem dX0_step_35 : decode cX0_step 35 = .ok (.iconst 0, 1) := by decide +kernel
theorem dX0_step_36 : decode cX0_step 36 = .ok (.aload_n 0, 1) := by decide +kernel
theorem dX0_step_37 : decode cX0_step 37 = .ok (.getfield 18, 3) := by decide +kernel
theorem dX0_step_40 : decode cX0_step 40 = .ok (.iload_n 1, 1) := by decide +kernel
theorem dX0_step_41 : decode cX0_step 41 = .ok (.iload_n 2, 1) := by decide +kernel
theorem dX0_step_42 : decode cX0_step 42 = .ok (.invokestatic 45, 3) := by decide +kernel
theorem dX0_step_45 : decode cX0_step 45 = .ok (.iconst 4, 1) := by decide +kernel
theorem dX0_step_46 : decode cX0_step 46 = .ok (.imul, 1) := by decide +kernel
theorem dX0_step_47 : decode cX0_step 47 = .ok (.iconst 4, 1) := by decide +kernel
theorem dX0_step_48 : decode cX0_step 48 = .ok (.invokestatic 35, 3) := by decide +kernel
theorem dX0_step_51 : decode cX0_step 51 = .ok (.return_, 1) := by decide +kernel
theorem dX0_childOf_0 : decode cX0_childOf 0 = .ok (.iload_n 0, 1) := by decide +kernel
theorem dX0_childOf_1 : decode cX0_childOf 1 = .ok (.iconst 4, 1) := by decide +kernel
theorem dX0_childOf_2 : decode cX0_childOf 2 = .ok (.imul, 1) := by decide +kernel
theorem dX0_childOf_3 : decode cX0_childOf 3 = .ok (.iconst 1, 1) := by decide +kernel
theorem dX0_childOf_4 : decode cX0_childOf 4 = .ok (.iadd, 1) := by decide +kernel
theorem dX0_childOf_5 : decode cX0_childOf 5 = .ok (.iload_n 1, 1) := by decide +kernel
theorem dX0_childOf_6 : decode cX0_childOf 6 = .ok (.iadd, 1) := by decide +kernel
theorem dX0_childOf_7 : decode cX0_childOf 7 = .ok (.ireturn, 1) := by decide +kernel
theorem dX0_grow_0 : decode cX0_grow 0 = .ok (.aload_n 0, 1) := by decide +kernel
theorem dX0_grow_1 : decode cX0_grow 1 = .ok (.aload_n 1, 1) := by decide +kernel
theorem dX0_grow_2 : decode cX0_grow 2 = .ok (.invokevirtual 49, 3) := by decide +kernel
theorem dX0_grow_5 : decode cX0_grow 5 = .ok (.iconst 0, 1) := by decide +kernel
theorem dX0_grow_6 : decode cX0_grow 6 = .ok (.istore_n 3, 1) := by decide +kernel
theorem dX0_grow_7 : decode cX0_grow 7 = .ok (.iload_n 3, 1) := by decide +kernel
theorem dX0_grow_8 : decode cX0_grow 8 = .ok (.getstatic 52, 3) := by decide +kernel
theorem dX0_grow_11 : decode cX0_grow 11 = .ok (.iload_n 2, 1) := by decide +kernel
theorem dX0_grow_12 : decode cX0_grow 12 = .ok (.iaload, 1) := by decide +kernel
theorem dX0_grow_13 : decode cX0_grow 13 = .ok (.if_icmp .ge 31, 3) := by decide +kernel
theorem dX0_grow_16 : decode cX0_grow 16 = .ok (.iconst 0, 1) := by decide +kernel
theorem dX0_grow_17 : decode cX0_grow 17 = .ok (.istore 4, 2) := by decide +kernel
theorem dX0_grow_19 : decode cX0_grow 19 = .ok (.iload 4, 2) := by decide +kernel
theorem dX0_grow_21 : decode cX0_grow 21 = .ok (.iconst 4, 1) := by decide +kernel
theorem dX0_grow_22 : decode cX0_grow 22 = .ok (.if_icmp .ge 16, 3) := by decide +kernel
theorem dX0_grow_25 : decode cX0_grow 25 = .ok (.aload_n 0, 1) := by decide +kernel
theorem dX0_grow_26 : decode cX0_grow 26 = .ok (.iload_n 3, 1) := by decide +kernel
theorem dX0_grow_27 : decode cX0_grow 27 = .ok (.iload 4, 2) := by decide +kernel
theorem dX0_grow_29 : decode cX0_grow 29 = .ok (.invokevirtual 55, 3) := by decide +kernel
theorem dX0_grow_32 : decode cX0_grow 32 = .ok (.iinc 4 1, 3) := by decide +kernel
theorem dX0_grow_35 : decode cX0_grow 35 = .ok (.goto (-16), 3) := by decide +kernel
theorem dX0_grow_38 : decode cX0_grow 38 = .ok (.iinc 3 1, 3) := by decide +kernel
theorem dX0_grow_41 : decode cX0_grow 41 = .ok (.goto (-34), 3) := by decide +kernel
theorem dX0_grow_44 : decode cX0_grow 44 = .ok (.return_, 1) := by decide +kernel
theorem dX0_purseBehind_0 : decode cX0_purseBehind 0 = .ok (.aload_n 0, 1) := by decide +kernel
theorem dX0_purseBehind_1 : decode cX0_purseBehind 1 = .ok (.getfield 18, 3) := by decide +kernel
theorem dX0_purseBehind_4 : decode cX0_purseBehind 4 = .ok (.getstatic 52, 3) := by decide +kernel
theorem dX0_purseBehind_7 : decode cX0_purseBehind 7 = .ok (.iload_n 2, 1) := by decide +kernel
theorem dX0_purseBehind_8 : decode cX0_purseBehind 8 = .ok (.iaload, 1) := by decide +kernel
theorem dX0_purseBehind_9 : decode cX0_purseBehind 9 = .ok (.iload_n 3, 1) := by decide +kernel
theorem dX0_purseBehind_10 : decode cX0_purseBehind 10 = .ok (.iadd, 1) := by decide +kernel
theorem dX0_purseBehind_11 : decode cX0_purseBehind 11 = .ok (.iconst 4, 1) := by decide +kernel
theorem dX0_purseBehind_12 : decode cX0_purseBehind 12 = .ok (.imul, 1) := by decide +kernel
theorem dX0_purseBehind_13 : decode cX0_purseBehind 13 = .ok (.iload_n 1, 1) := by decide +kernel
theorem dX0_purseBehind_14 : decode cX0_purseBehind 14 = .ok (.iadd, 1) := by decide +kernel
theorem dX0_purseBehind_15 : decode cX0_purseBehind 15 = .ok (.iaload, 1) := by decide +kernel
theorem dX0_purseBehind_16 : decode cX0_purseBehind 16 = .ok (.ireturn, 1) := by decide +kernel
theorem dX0_runsOf_0 : decode cX0_runsOf 0 = .ok (.iconst 1, 1) := by decide +kernel
theorem dX0_runsOf_1 : decode cX0_runsOf 1 = .ok (.iconst 2, 1) := by decide +kernel
theorem dX0_runsOf_2 : decode cX0_runsOf 2 = .ok (.iload_n 0, 1) := by decide +kernel
theorem dX0_runsOf_3 : decode cX0_runsOf 3 = .ok (.imul, 1) := by decide +kernel
theorem dX0_runsOf_4 : decode cX0_runsOf 4 = .ok (.ishl, 1) := by decide +kernel
theorem dX0_runsOf_5 : decode cX0_runsOf 5 = .ok (.ireturn, 1) := by decide +kernel
theorem dX0_firstLeast_0 : decode cX0_firstLeast 0 = .ok (.iconst 0, 1) := by decide +kernel
theorem dX0_firstLeast_1 : decode cX0_firstLeast 1 = .ok (.istore_n 3, 1) := by decide +kernel
theorem dX0_firstLeast_2 : decode cX0_firstLeast 2 = .ok (.iconst 1, 1) := by decide +kernel
theorem dX0_firstLeast_3 : decode cX0_firstLeast 3 = .ok (.istore 4, 2) := by decide +kernel
theorem dX0_firstLeast_5 : decode cX0_firstLeast 5 = .ok (.iload 4, 2) := by decide +kernel
theorem dX0_firstLeast_7 : decode cX0_firstLeast 7 = .ok (.iload_n 2, 1) := by decide +kernel
theorem dX0_firstLeast_8 : decode cX0_firstLeast 8 = .ok (.invokestatic 59, 3) := by decide +kernel
theorem dX0_firstLeast_11 : decode cX0_firstLeast 11 = .ok (.if_icmp .ge 30, 3) := by decide +kernel
theorem dX0_firstLeast_14 : decode cX0_firstLeast 14 = .ok (.aload_n 0, 1) := by decide +kernel
theorem dX0_firstLeast_15 : decode cX0_firstLeast 15 = .ok (.iload_n 1, 1) := by decide +kernel
theorem dX0_firstLeast_16 : decode cX0_firstLeast 16 = .ok (.iload_n 2, 1) := by decide +kernel
theorem dX0_firstLeast_17 : decode cX0_firstLeast 17 = .ok (.iload 4, 2) := by decide +kernel
theorem dX0_firstLeast_19 : decode cX0_firstLeast 19 = .ok (.invokevirtual 62, 3) := by decide +kernel
theorem dX0_firstLeast_22 : decode cX0_firstLeast 22 = .ok (.aload_n 0, 1) := by decide +kernel
theorem dX0_firstLeast_23 : decode cX0_firstLeast 23 = .ok (.iload_n 1, 1) := by decide +kernel
theorem dX0_firstLeast_24 : decode cX0_firstLeast 24 = .ok (.iload_n 2, 1) := by decide +kernel
theorem dX0_firstLeast_25 : decode cX0_firstLeast 25 = .ok (.iload_n 3, 1) := by decide +kernel
theorem dX0_firstLeast_26 : decode cX0_firstLeast 26 = .ok (.invokevirtual 62, 3) := by decide +kernel
theorem dX0_firstLeast_29 : decode cX0_firstLeast 29 = .ok (.if_icmp .ge 6, 3) := by decide +kernel
theorem dX0_firstLeast_32 : decode cX0_firstLeast 32 = .ok (.iload 4, 2) := by decide +kernel
theorem dX0_firstLeast_34 : decode cX0_firstLeast 34 = .ok (.istore_n 3, 1) := by decide +kernel
theorem dX0_firstLeast_35 : decode cX0_firstLeast 35 = .ok (.iinc 4 1, 3) := by decide +kernel
theorem dX0_firstLeast_38 : decode cX0_firstLeast 38 = .ok (.goto (-33), 3) := by decide +kernel
theorem dX0_firstLeast_41 : decode cX0_firstLeast 41 = .ok (.iload_n 3, 1) := by decide +kernel
theorem dX0_firstLeast_42 : decode cX0_firstLeast 42 = .ok (.ireturn, 1) := by decide +kernel
theorem dX0_greatest_0 : decode cX0_greatest 0 = .ok (.iconst 0, 1) := by decide +kernel
theorem dX0_greatest_1 : decode cX0_greatest 1 = .ok (.istore_n 3, 1) := by decide +kernel
theorem dX0_greatest_2 : decode cX0_greatest 2 = .ok (.iconst 0, 1) := by decide +kernel
theorem dX0_greatest_3 : decode cX0_greatest 3 = .ok (.istore 4, 2) := by decide +kernel
theorem dX0_greatest_5 : decode cX0_greatest 5 = .ok (.iload 4, 2) := by decide +kernel
theorem dX0_greatest_7 : decode cX0_greatest 7 = .ok (.iload_n 2, 1) := by decide +kernel
theorem dX0_greatest_8 : decode cX0_greatest 8 = .ok (.invokestatic 59, 3) := by decide +kernel
theorem dX0_greatest_11 : decode cX0_greatest 11 = .ok (.if_icmp .ge 22, 3) := by decide +kernel
theorem dX0_greatest_14 : decode cX0_greatest 14 = .ok (.iload_n 3, 1) := by decide +kernel
theorem dX0_greatest_15 : decode cX0_greatest 15 = .ok (.aload_n 0, 1) := by decide +kernel
theorem dX0_greatest_16 : decode cX0_greatest 16 = .ok (.iload_n 1, 1) := by decide +kernel
theorem dX0_greatest_17 : decode cX0_greatest 17 = .ok (.iload_n 2, 1) := by decide +kernel
theorem dX0_greatest_18 : decode cX0_greatest 18 = .ok (.iload 4, 2) := by decide +kernel
theorem dX0_greatest_20 : decode cX0_greatest 20 = .ok (.invokevirtual 62, 3) := by decide +kernel
theorem dX0_greatest_23 : decode cX0_greatest 23 = .ok (.invokestatic 66, 3) := by decide +kernel
theorem dX0_greatest_26 : decode cX0_greatest 26 = .ok (.istore_n 3, 1) := by decide +kernel
theorem dX0_greatest_27 : decode cX0_greatest 27 = .ok (.iinc 4 1, 3) := by decide +kernel
theorem dX0_greatest_30 : decode cX0_greatest 30 = .ok (.goto (-25), 3) := by decide +kernel
theorem dX0_greatest_33 : decode cX0_greatest 33 = .ok (.iload_n 3, 1) := by decide +kernel
theorem dX0_greatest_34 : decode cX0_greatest 34 = .ok (.ireturn, 1) := by decide +kernel
theorem dX0_weighPurses_0 : decode cX0_weighPurses 0 = .ok (.lconst 0, 1) := by decide +kernel
theorem dX0_weighPurses_1 : decode cX0_weighPurses 1 = .ok (.lstore_n 3, 1) := by decide +kernel
theorem dX0_weighPurses_2 : decode cX0_weighPurses 2 = .ok (.iconst 0, 1) := by decide +kernel
theorem dX0_weighPurses_3 : decode cX0_weighPurses 3 = .ok (.istore 5, 2) := by decide +kernel
theorem dX0_weighPurses_5 : decode cX0_weighPurses 5 = .ok (.iload 5, 2) := by decide +kernel
theorem dX0_weighPurses_7 : decode cX0_weighPurses 7 = .ok (.iload_n 2, 1) := by decide +kernel
theorem dX0_weighPurses_8 : decode cX0_weighPurses 8 = .ok (.invokestatic 59, 3) := by decide +kernel
theorem dX0_weighPurses_11 : decode cX0_weighPurses 11 = .ok (.if_icmp .ge 29, 3) := by decide +kernel
theorem dX0_weighPurses_14 : decode cX0_weighPurses 14 = .ok (.lload_n 3, 1) := by decide +kernel
theorem dX0_weighPurses_15 : decode cX0_weighPurses 15 = .ok (.aload_n 0, 1) := by decide +kernel
theorem dX0_weighPurses_16 : decode cX0_weighPurses 16 = .ok (.iload 5, 2) := by decide +kernel
theorem dX0_weighPurses_18 : decode cX0_weighPurses 18 = .ok (.iload_n 2, 1) := by decide +kernel
theorem dX0_weighPurses_19 : decode cX0_weighPurses 19 = .ok (.invokevirtual 71, 3) := by decide +kernel
theorem dX0_weighPurses_22 : decode cX0_weighPurses 22 = .ok (.aload_n 0, 1) := by decide +kernel
theorem dX0_weighPurses_23 : decode cX0_weighPurses 23 = .ok (.iload_n 1, 1) := by decide +kernel
theorem dX0_weighPurses_24 : decode cX0_weighPurses 24 = .ok (.iload_n 2, 1) := by decide +kernel
theorem dX0_weighPurses_25 : decode cX0_weighPurses 25 = .ok (.iload 5, 2) := by decide +kernel
theorem dX0_weighPurses_27 : decode cX0_weighPurses 27 = .ok (.invokevirtual 62, 3) := by decide +kernel
theorem dX0_weighPurses_30 : decode cX0_weighPurses 30 = .ok (.i2l, 1) := by decide +kernel
theorem dX0_weighPurses_31 : decode cX0_weighPurses 31 = .ok (.lmul, 1) := by decide +kernel
theorem dX0_weighPurses_32 : decode cX0_weighPurses 32 = .ok (.ladd, 1) := by decide +kernel
theorem dX0_weighPurses_33 : decode cX0_weighPurses 33 = .ok (.lstore_n 3, 1) := by decide +kernel
theorem dX0_weighPurses_34 : decode cX0_weighPurses 34 = .ok (.iinc 5 1, 3) := by decide +kernel
theorem dX0_weighPurses_37 : decode cX0_weighPurses 37 = .ok (.goto (-32), 3) := by decide +kernel
theorem dX0_weighPurses_40 : decode cX0_weighPurses 40 = .ok (.lload_n 3, 1) := by decide +kernel
theorem dX0_weighPurses_41 : decode cX0_weighPurses 41 = .ok (.lreturn, 1) := by decide +kernel
theorem dX0_weighLuck_0 : decode cX0_weighLuck 0 = .ok (.lconst 0, 1) := by decide +kernel
theorem dX0_weighLuck_1 : decode cX0_weighLuck 1 = .ok (.lstore_n 3, 1) := by decide +kernel
theorem dX0_weighLuck_2 : decode cX0_weighLuck 2 = .ok (.iconst 0, 1) := by decide +kernel
theorem dX0_weighLuck_3 : decode cX0_weighLuck 3 = .ok (.istore 5, 2) := by decide +kernel
theorem dX0_weighLuck_5 : decode cX0_weighLuck 5 = .ok (.iload 5, 2) := by decide +kernel
theorem dX0_weighLuck_7 : decode cX0_weighLuck 7 = .ok (.iload_n 2, 1) := by decide +kernel
theorem dX0_weighLuck_8 : decode cX0_weighLuck 8 = .ok (.invokestatic 59, 3) := by decide +kernel
theorem dX0_weighLuck_11 : decode cX0_weighLuck 11 = .ok (.if_icmp .ge 37, 3) := by decide +kernel
theorem dX0_weighLuck_14 : decode cX0_weighLuck 14 = .ok (.aload_n 0, 1) := by decide +kernel
theorem dX0_weighLuck_15 : decode cX0_weighLuck 15 = .ok (.iload_n 1, 1) := by decide +kernel
theorem dX0_weighLuck_16 : decode cX0_weighLuck 16 = .ok (.iload_n 2, 1) := by decide +kernel
theorem dX0_weighLuck_17 : decode cX0_weighLuck 17 = .ok (.iload 5, 2) := by decide +kernel
theorem dX0_weighLuck_19 : decode cX0_weighLuck 19 = .ok (.invokevirtual 62, 3) := by decide +kernel
theorem dX0_weighLuck_22 : decode cX0_weighLuck 22 = .ok (.aload_n 0, 1) := by decide +kernel
theorem dX0_weighLuck_23 : decode cX0_weighLuck 23 = .ok (.getfield 12, 3) := by decide +kernel
theorem dX0_weighLuck_26 : decode cX0_weighLuck 26 = .ok (.getfield 75, 3) := by decide +kernel
theorem dX0_weighLuck_29 : decode cX0_weighLuck 29 = .ok (.if_icmp .lt 13, 3) := by decide +kernel
theorem dX0_weighLuck_32 : decode cX0_weighLuck 32 = .ok (.lload_n 3, 1) := by decide +kernel
theorem dX0_weighLuck_33 : decode cX0_weighLuck 33 = .ok (.aload_n 0, 1) := by decide +kernel
theorem dX0_weighLuck_34 : decode cX0_weighLuck 34 = .ok (.iload 5, 2) := by decide +kernel
theorem dX0_weighLuck_36 : decode cX0_weighLuck 36 = .ok (.iload_n 2, 1) := by decide +kernel
theorem dX0_weighLuck_37 : decode cX0_weighLuck 37 = .ok (.invokevirtual 71, 3) := by decide +kernel
theorem dX0_weighLuck_40 : decode cX0_weighLuck 40 = .ok (.ladd, 1) := by decide +kernel
theorem dX0_weighLuck_41 : decode cX0_weighLuck 41 = .ok (.lstore_n 3, 1) := by decide +kernel
theorem dX0_weighLuck_42 : decode cX0_weighLuck 42 = .ok (.iinc 5 1, 3) := by decide +kernel
theorem dX0_weighLuck_45 : decode cX0_weighLuck 45 = .ok (.goto (-40), 3) := by decide +kernel
theorem dX0_weighLuck_48 : decode cX0_weighLuck 48 = .ok (.lload_n 3, 1) := by decide +kernel
theorem dX0_weighLuck_49 : decode cX0_weighLuck 49 = .ok (.lreturn, 1) := by decide +kernel
theorem dX0_weightOf_0 : decode cX0_weightOf 0 = .ok (.lconst 1, 1) := by decide +kernel
theorem dX0_weightOf_1 : decode cX0_weightOf 1 = .ok (.lstore_n 3, 1) := by decide +kernel
theorem dX0_weightOf_2 : decode cX0_weightOf 2 = .ok (.iconst 0, 1) := by decide +kernel
theorem dX0_weightOf_3 : decode cX0_weightOf 3 = .ok (.istore 5, 2) := by decide +kernel
theorem dX0_weightOf_5 : decode cX0_weightOf 5 = .ok (.iload 5, 2) := by decide +kernel
theorem dX0_weightOf_7 : decode cX0_weightOf 7 = .ok (.iload_n 2, 1) := by decide +kernel
theorem dX0_weightOf_8 : decode cX0_weightOf 8 = .ok (.if_icmp .ge 29, 3) := by decide +kernel
theorem dX0_weightOf_11 : decode cX0_weightOf 11 = .ok (.lload_n 3, 1) := by decide +kernel
theorem dX0_weightOf_12 : decode cX0_weightOf 12 = .ok (.aload_n 0, 1) := by decide +kernel
theorem dX0_weightOf_13 : decode cX0_weightOf 13 = .ok (.getfield 12, 3) := by decide +kernel
theorem dX0_weightOf_16 : decode cX0_weightOf 16 = .ok (.getfield 79, 3) := by decide +kernel
theorem dX0_weightOf_19 : decode cX0_weightOf 19 = .ok (.iload_n 1, 1) := by decide +kernel
theorem dX0_weightOf_20 : decode cX0_weightOf 20 = .ok (.iconst 2, 1) := by decide +kernel
theorem dX0_weightOf_21 : decode cX0_weightOf 21 = .ok (.iload 5, 2) := by decide +kernel
theorem dX0_weightOf_23 : decode cX0_weightOf 23 = .ok (.imul, 1) := by decide +kernel
theorem dX0_weightOf_24 : decode cX0_weightOf 24 = .ok (.ishr, 1) := by decide +kernel
theorem dX0_weightOf_25 : decode cX0_weightOf 25 = .ok (.iconst 3, 1) := by decide +kernel
theorem dX0_weightOf_26 : decode cX0_weightOf 26 = .ok (.iand, 1) := by decide +kernel
theorem dX0_weightOf_27 : decode cX0_weightOf 27 = .ok (.iaload, 1) := by decide +kernel
theorem dX0_weightOf_28 : decode cX0_weightOf 28 = .ok (.i2l, 1) := by decide +kernel
theorem dX0_weightOf_29 : decode cX0_weightOf 29 = .ok (.lmul, 1) := by decide +kernel
theorem dX0_weightOf_30 : decode cX0_weightOf 30 = .ok (.lstore_n 3, 1) := by decide +kernel
theorem dX0_weightOf_31 : decode cX0_weightOf 31 = .ok (.iinc 5 1, 3) := by decide +kernel
theorem dX0_weightOf_34 : decode cX0_weightOf 34 = .ok (.goto (-29), 3) := by decide +kernel
theorem dX0_weightOf_37 : decode cX0_weightOf 37 = .ok (.lload_n 3, 1) := by decide +kernel
theorem dX0_weightOf_38 : decode cX0_weightOf 38 = .ok (.lreturn, 1) := by decide +kernel
theorem dX0_safeBits_0 : decode cX0_safeBits 0 = .ok (.iconst 1, 1) := by decide +kernel
theorem dX0_safeBits_1 : decode cX0_safeBits 1 = .ok (.aload_n 0, 1) := by decide +kernel
theorem dX0_safeBits_2 : decode cX0_safeBits 2 = .ok (.getfield 12, 3) := by decide +kernel
theorem dX0_safeBits_5 : decode cX0_safeBits 5 = .ok (.getfield 82, 3) := by decide +kernel
theorem dX0_safeBits_8 : decode cX0_safeBits 8 = .ok (.ishl, 1) := by decide +kernel
theorem dX0_safeBits_9 : decode cX0_safeBits 9 = .ok (.iconst 1, 1) := by decide +kernel
theorem dX0_safeBits_10 : decode cX0_safeBits 10 = .ok (.isub, 1) := by decide +kernel
theorem dX0_safeBits_11 : decode cX0_safeBits 11 = .ok (.istore_n 3, 1) := by decide +kernel
theorem dX0_safeBits_12 : decode cX0_safeBits 12 = .ok (.iload_n 1, 1) := by decide +kernel
theorem dX0_safeBits_13 : decode cX0_safeBits 13 = .ok (.invokestatic 59, 3) := by decide +kernel
theorem dX0_safeBits_16 : decode cX0_safeBits 16 = .ok (.iconst 1, 1) := by decide +kernel
theorem dX0_safeBits_17 : decode cX0_safeBits 17 = .ok (.isub, 1) := by decide +kernel
theorem dX0_safeBits_18 : decode cX0_safeBits 18 = .ok (.istore 4, 2) := by decide +kernel
theorem dX0_safeBits_20 : decode cX0_safeBits 20 = .ok (.iload 4, 2) := by decide +kernel
theorem dX0_safeBits_22 : decode cX0_safeBits 22 = .ok (.ifCond .lt 41, 3) := by decide +kernel
theorem dX0_safeBits_25 : decode cX0_safeBits 25 = .ok (.iload_n 3, 1) := by decide +kernel
theorem dX0_safeBits_26 : decode cX0_safeBits 26 = .ok (.invokestatic 85, 3) := by decide +kernel
theorem dX0_safeBits_29 : decode cX0_safeBits 29 = .ok (.iload_n 2, 1) := by decide +kernel
theorem dX0_safeBits_30 : decode cX0_safeBits 30 = .ok (.if_icmp .le 33, 3) := by decide +kernel
theorem dX0_safeBits_33 : decode cX0_safeBits 33 = .ok (.aload_n 0, 1) := by decide +kernel
theorem dX0_safeBits_34 : decode cX0_safeBits 34 = .ok (.iload 4, 2) := by decide +kernel
theorem dX0_safeBits_36 : decode cX0_safeBits 36 = .ok (.iload_n 1, 1) := by decide +kernel
theorem dX0_safeBits_37 : decode cX0_safeBits 37 = .ok (.invokevirtual 90, 3) := by decide +kernel
theorem dX0_safeBits_40 : decode cX0_safeBits 40 = .ok (.iload_n 3, 1) := by decide +kernel
theorem dX0_safeBits_41 : decode cX0_safeBits 41 = .ok (.aload_n 0, 1) := by decide +kernel
theorem dX0_safeBits_42 : decode cX0_safeBits 42 = .ok (.getstatic 52, 3) := by decide +kernel
theorem dX0_safeBits_45 : decode cX0_safeBits 45 = .ok (.iload_n 1, 1) := by decide +kernel
theorem dX0_safeBits_46 : decode cX0_safeBits 46 = .ok (.iaload, 1) := by decide +kernel
theorem dX0_safeBits_47 : decode cX0_safeBits 47 = .ok (.iload 4, 2) := by decide +kernel
theorem dX0_safeBits_49 : decode cX0_safeBits 49 = .ok (.iadd, 1) := by decide +kernel
theorem dX0_safeBits_50 : decode cX0_safeBits 50 = .ok (.invokevirtual 93, 3) := by decide +kernel
theorem dX0_safeBits_53 : decode cX0_safeBits 53 = .ok (.iconst (-1), 1) := by decide +kernel
theorem dX0_safeBits_54 : decode cX0_safeBits 54 = .ok (.ixor, 1) := by decide +kernel
theorem dX0_safeBits_55 : decode cX0_safeBits 55 = .ok (.iand, 1) := by decide +kernel
theorem dX0_safeBits_56 : decode cX0_safeBits 56 = .ok (.istore_n 3, 1) := by decide +kernel
theorem dX0_safeBits_57 : decode cX0_safeBits 57 = .ok (.iinc 4 (-1), 3) := by decide +kernel
theorem dX0_safeBits_60 : decode cX0_safeBits 60 = .ok (.goto (-40), 3) := by decide +kernel
theorem dX0_safeBits_63 : decode cX0_safeBits 63 = .ok (.iload_n 3, 1) := by decide +kernel
theorem dX0_safeBits_64 : decode cX0_safeBits 64 = .ok (.ireturn, 1) := by decide +kernel
theorem dX0_walkDown_0 : decode cX0_walkDown 0 = .ok (.iload_n 2, 1) := by decide +kernel
theorem dX0_walkDown_1 : decode cX0_walkDown 1 = .ok (.iconst 1, 1) := by decide +kernel
theorem dX0_walkDown_2 : decode cX0_walkDown 2 = .ok (.isub, 1) := by decide +kernel
theorem dX0_walkDown_3 : decode cX0_walkDown 3 = .ok (.istore_n 3, 1) := by decide +kernel
theorem dX0_walkDown_4 : decode cX0_walkDown 4 = .ok (.iload_n 3, 1) := by decide +kernel
theorem dX0_walkDown_5 : decode cX0_walkDown 5 = .ok (.ifCond .lt 50, 3) := by decide +kernel
theorem dX0_walkDown_8 : decode cX0_walkDown 8 = .ok (.iload_n 1, 1) := by decide +kernel
theorem dX0_walkDown_9 : decode cX0_walkDown 9 = .ok (.iconst 1, 1) := by decide +kernel
theorem dX0_walkDown_10 : decode cX0_walkDown 10 = .ok (.iadd, 1) := by decide +kernel
theorem dX0_walkDown_11 : decode cX0_walkDown 11 = .ok (.iload_n 3, 1) := by decide +kernel
theorem dX0_walkDown_12 : decode cX0_walkDown 12 = .ok (.invokestatic 59, 3) := by decide +kernel
theorem dX0_walkDown_15 : decode cX0_walkDown 15 = .ok (.iconst 1, 1) := by decide +kernel
theorem dX0_walkDown_16 : decode cX0_walkDown 16 = .ok (.isub, 1) := by decide +kernel
theorem dX0_walkDown_17 : decode cX0_walkDown 17 = .ok (.iand, 1) := by decide +kernel
theorem dX0_walkDown_18 : decode cX0_walkDown 18 = .ok (.ifCond .ne 31, 3) := by decide +kernel
theorem dX0_walkDown_21 : decode cX0_walkDown 21 = .ok (.aload_n 0, 1) := by decide +kernel
theorem dX0_walkDown_22 : decode cX0_walkDown 22 = .ok (.getstatic 52, 3) := by decide +kernel
theorem dX0_walkDown_25 : decode cX0_walkDown 25 = .ok (.iload_n 2, 1) := by decide +kernel
theorem dX0_walkDown_26 : decode cX0_walkDown 26 = .ok (.iconst 1, 1) := by decide +kernel
theorem dX0_walkDown_27 : decode cX0_walkDown 27 = .ok (.isub, 1) := by decide +kernel
theorem dX0_walkDown_28 : decode cX0_walkDown 28 = .ok (.iload_n 3, 1) := by decide +kernel
theorem dX0_walkDown_29 : decode cX0_walkDown 29 = .ok (.isub, 1) := by decide +kernel
theorem dX0_walkDown_30 : decode cX0_walkDown 30 = .ok (.iaload, 1) := by decide +kernel
theorem dX0_walkDown_31 : decode cX0_walkDown 31 = .ok (.iload_n 1, 1) := by decide +kernel
theorem dX0_walkDown_32 : decode cX0_walkDown 32 = .ok (.iconst 2, 1) := by decide +kernel
theorem dX0_walkDown_33 : decode cX0_walkDown 33 = .ok (.iload_n 3, 1) := by decide +kernel
theorem dX0_walkDown_34 : decode cX0_walkDown 34 = .ok (.iconst 1, 1) := by decide +kernel
theorem dX0_walkDown_35 : decode cX0_walkDown 35 = .ok (.iadd, 1) := by decide +kernel
theorem dX0_walkDown_36 : decode cX0_walkDown 36 = .ok (.imul, 1) := by decide +kernel
theorem dX0_walkDown_37 : decode cX0_walkDown 37 = .ok (.ishr, 1) := by decide +kernel
theorem dX0_walkDown_38 : decode cX0_walkDown 38 = .ok (.iadd, 1) := by decide +kernel
theorem dX0_walkDown_39 : decode cX0_walkDown 39 = .ok (.iload_n 1, 1) := by decide +kernel
theorem dX0_walkDown_40 : decode cX0_walkDown 40 = .ok (.iconst 2, 1) := by decide +kernel
theorem dX0_walkDown_41 : decode cX0_walkDown 41 = .ok (.iload_n 3, 1) := by decide +kernel
theorem dX0_walkDown_42 : decode cX0_walkDown 42 = .ok (.imul, 1) := by decide +kernel
theorem dX0_walkDown_43 : decode cX0_walkDown 43 = .ok (.ishr, 1) := by decide +kernel
theorem dX0_walkDown_44 : decode cX0_walkDown 44 = .ok (.iconst 3, 1) := by decide +kernel
theorem dX0_walkDown_45 : decode cX0_walkDown 45 = .ok (.iand, 1) := by decide +kernel
theorem dX0_walkDown_46 : decode cX0_walkDown 46 = .ok (.invokevirtual 55, 3) := by decide +kernel
theorem dX0_walkDown_49 : decode cX0_walkDown 49 = .ok (.iinc 3 (-1), 3) := by decide +kernel
theorem dX0_walkDown_52 : decode cX0_walkDown 52 = .ok (.goto (-48), 3) := by decide +kernel
theorem dX0_walkDown_55 : decode cX0_walkDown 55 = .ok (.return_, 1) := by decide +kernel
theorem dX0_belowFloor_0 : decode cX0_belowFloor 0 = .ok (.iconst 0, 1) := by decide +kernel
theorem dX0_belowFloor_1 : decode cX0_belowFloor 1 = .ok (.istore_n 2, 1) := by decide +kernel
theorem dX0_belowFloor_2 : decode cX0_belowFloor 2 = .ok (.iconst 0, 1) := by decide +kernel
theorem dX0_belowFloor_3 : decode cX0_belowFloor 3 = .ok (.istore_n 3, 1) := by decide +kernel
theorem dX0_belowFloor_4 : decode cX0_belowFloor 4 = .ok (.iload_n 3, 1) := by decide +kernel
theorem dX0_belowFloor_5 : decode cX0_belowFloor 5 = .ok (.aload_n 0, 1) := by decide +kernel
theorem dX0_belowFloor_6 : decode cX0_belowFloor 6 = .ok (.getfield 12, 3) := by decide +kernel
theorem dX0_belowFloor_9 : decode cX0_belowFloor 9 = .ok (.getfield 82, 3) := by decide +kernel
theorem dX0_belowFloor_12 : decode cX0_belowFloor 12 = .ok (.if_icmp .ge 35, 3) := by decide +kernel
theorem dX0_belowFloor_15 : decode cX0_belowFloor 15 = .ok (.aload_n 0, 1) := by decide +kernel
theorem dX0_belowFloor_16 : decode cX0_belowFloor 16 = .ok (.getfield 18, 3) := by decide +kernel
theorem dX0_belowFloor_19 : decode cX0_belowFloor 19 = .ok (.iload_n 1, 1) := by decide +kernel
theorem dX0_belowFloor_20 : decode cX0_belowFloor 20 = .ok (.iconst 4, 1) := by decide +kernel
theorem dX0_belowFloor_21 : decode cX0_belowFloor 21 = .ok (.imul, 1) := by decide +kernel
theorem dX0_belowFloor_22 : decode cX0_belowFloor 22 = .ok (.iload_n 3, 1) := by decide +kernel
theorem dX0_belowFloor_23 : decode cX0_belowFloor 23 = .ok (.iadd, 1) := by decide +kernel
theorem dX0_belowFloor_24 : decode cX0_belowFloor 24 = .ok (.iaload, 1) := by decide +kernel
theorem dX0_belowFloor_25 : decode cX0_belowFloor 25 = .ok (.aload_n 0, 1) := by decide +kernel
theorem dX0_belowFloor_26 : decode cX0_belowFloor 26 = .ok (.getfield 12, 3) := by decide +kernel
theorem dX0_belowFloor_29 : decode cX0_belowFloor 29 = .ok (.getfield 75, 3) := by decide +kernel
theorem dX0_belowFloor_32 : decode cX0_belowFloor 32 = .ok (.if_icmp .ge 9, 3) := by decide +kernel
theorem dX0_belowFloor_35 : decode cX0_belowFloor 35 = .ok (.iload_n 2, 1) := by decide +kernel
theorem dX0_belowFloor_36 : decode cX0_belowFloor 36 = .ok (.iconst 1, 1) := by decide +kernel
theorem dX0_belowFloor_37 : decode cX0_belowFloor 37 = .ok (.iload_n 3, 1) := by decide +kernel
theorem dX0_belowFloor_38 : decode cX0_belowFloor 38 = .ok (.ishl, 1) := by decide +kernel
theorem dX0_belowFloor_39 : decode cX0_belowFloor 39 = .ok (.ior, 1) := by decide +kernel
theorem dX0_belowFloor_40 : decode cX0_belowFloor 40 = .ok (.istore_n 2, 1) := by decide +kernel
theorem dX0_belowFloor_41 : decode cX0_belowFloor 41 = .ok (.iinc 3 1, 3) := by decide +kernel
theorem dX0_belowFloor_44 : decode cX0_belowFloor 44 = .ok (.goto (-40), 3) := by decide +kernel
theorem dX0_belowFloor_47 : decode cX0_belowFloor 47 = .ok (.iload_n 2, 1) := by decide +kernel
theorem dX0_belowFloor_48 : decode cX0_belowFloor 48 = .ok (.ireturn, 1) := by decide +kernel
theorem dX0_searchMore_0 : decode cX0_searchMore 0 = .ok (.aload_n 0, 1) := by decide +kernel
theorem dX0_searchMore_1 : decode cX0_searchMore 1 = .ok (.aload_n 1, 1) := by decide +kernel
theorem dX0_searchMore_2 : decode cX0_searchMore 2 = .ok (.invokevirtual 49, 3) := by decide +kernel
theorem dX0_searchMore_5 : decode cX0_searchMore 5 = .ok (.aload_n 0, 1) := by decide +kernel
theorem dX0_searchMore_6 : decode cX0_searchMore 6 = .ok (.aload_n 0, 1) := by decide +kernel
theorem dX0_searchMore_7 : decode cX0_searchMore 7 = .ok (.iconst 3, 1) := by decide +kernel
theorem dX0_searchMore_8 : decode cX0_searchMore 8 = .ok (.iconst 0, 1) := by decide +kernel
theorem dX0_searchMore_9 : decode cX0_searchMore 9 = .ok (.invokevirtual 96, 3) := by decide +kernel
theorem dX0_searchMore_12 : decode cX0_searchMore 12 = .ok (.invokestatic 85, 3) := by decide +kernel
theorem dX0_searchMore_15 : decode cX0_searchMore 15 = .ok (.invokevirtual 99, 3) := by decide +kernel
theorem dX0_searchMore_18 : decode cX0_searchMore 18 = .ok (.aload_n 0, 1) := by decide +kernel
theorem dX0_searchMore_19 : decode cX0_searchMore 19 = .ok (.getfield 12, 3) := by decide +kernel
theorem dX0_searchMore_22 : decode cX0_searchMore 22 = .ok (.getfield 103, 3) := by decide +kernel
theorem dX0_searchMore_25 : decode cX0_searchMore 25 = .ok (.istore_n 3, 1) := by decide +kernel
theorem dX0_searchMore_26 : decode cX0_searchMore 26 = .ok (.aload_n 0, 1) := by decide +kernel
theorem dX0_searchMore_27 : decode cX0_searchMore 27 = .ok (.getfield 12, 3) := by decide +kernel
theorem dX0_searchMore_30 : decode cX0_searchMore 30 = .ok (.iconst 0, 1) := by decide +kernel
theorem dX0_searchMore_31 : decode cX0_searchMore 31 = .ok (.iconst 0, 1) := by decide +kernel
theorem dX0_searchMore_32 : decode cX0_searchMore 32 = .ok (.iconst 0, 1) := by decide +kernel
theorem dX0_searchMore_33 : decode cX0_searchMore 33 = .ok (.iload_n 2, 1) := by decide +kernel
theorem dX0_searchMore_34 : decode cX0_searchMore 34 = .ok (.iconst 0, 1) := by decide +kernel
theorem dX0_searchMore_35 : decode cX0_searchMore 35 = .ok (.invokevirtual 106, 3) := by decide +kernel
theorem dX0_searchMore_38 : decode cX0_searchMore 38 = .ok (.iconst 0, 1) := by decide +kernel
theorem dX0_searchMore_39 : decode cX0_searchMore 39 = .ok (.istore 4, 2) := by decide +kernel
theorem dX0_searchMore_41 : decode cX0_searchMore 41 = .ok (.iload 4, 2) := by decide +kernel
theorem dX0_searchMore_43 : decode cX0_searchMore 43 = .ok (.bipush 64, 2) := by decide +kernel
theorem dX0_searchMore_45 : decode cX0_searchMore 45 = .ok (.if_icmp .ge 115, 3) := by decide +kernel
theorem dX0_searchMore_48 : decode cX0_searchMore 48 = .ok (.iload 4, 2) := by decide +kernel
theorem dX0_searchMore_50 : decode cX0_searchMore 50 = .ok (.iconst 4, 1) := by decide +kernel
theorem dX0_searchMore_51 : decode cX0_searchMore 51 = .ok (.ishr, 1) := by decide +kernel
theorem dX0_searchMore_52 : decode cX0_searchMore 52 = .ok (.istore 5, 2) := by decide +kernel
theorem dX0_searchMore_54 : decode cX0_searchMore 54 = .ok (.iload 4, 2) := by decide +kernel
theorem dX0_searchMore_56 : decode cX0_searchMore 56 = .ok (.iconst 2, 1) := by decide +kernel
theorem dX0_searchMore_57 : decode cX0_searchMore 57 = .ok (.ishr, 1) := by decide +kernel
theorem dX0_searchMore_58 : decode cX0_searchMore 58 = .ok (.iconst 3, 1) := by decide +kernel
theorem dX0_searchMore_59 : decode cX0_searchMore 59 = .ok (.iand, 1) := by decide +kernel
theorem dX0_searchMore_60 : decode cX0_searchMore 60 = .ok (.istore 6, 2) := by decide +kernel
theorem dX0_searchMore_62 : decode cX0_searchMore 62 = .ok (.iload 5, 2) := by decide +kernel
theorem dX0_searchMore_64 : decode cX0_searchMore 64 = .ok (.iload 6, 2) := by decide +kernel
theorem dX0_searchMore_66 : decode cX0_searchMore 66 = .ok (.if_icmp .eq 88, 3) := by decide +kernel
theorem dX0_searchMore_69 : decode cX0_searchMore 69 = .ok (.iload 5, 2) := by decide +kernel
theorem dX0_searchMore_71 : decode cX0_searchMore 71 = .ok (.aload_n 0, 1) := by decide +kernel
theorem dX0_searchMore_72 : decode cX0_searchMore 72 = .ok (.getfield 12, 3) := by decide +kernel
theorem dX0_searchMore_75 : decode cX0_searchMore 75 = .ok (.getfield 82, 3) := by decide +kernel
theorem dX0_searchMore_78 : decode cX0_searchMore 78 = .ok (.if_icmp .ge 76, 3) := by decide +kernel
theorem dX0_searchMore_81 : decode cX0_searchMore 81 = .ok (.iload 6, 2) := by decide +kernel
theorem dX0_searchMore_83 : decode cX0_searchMore 83 = .ok (.aload_n 0, 1) := by decide +kernel
theorem dX0_searchMore_84 : decode cX0_searchMore 84 = .ok (.getfield 12, 3) := by decide +kernel
theorem dX0_searchMore_87 : decode cX0_searchMore 87 = .ok (.getfield 82, 3) := by decide +kernel
theorem dX0_searchMore_90 : decode cX0_searchMore 90 = .ok (.if_icmp .ge 64, 3) := by decide +kernel
theorem dX0_searchMore_93 : decode cX0_searchMore 93 = .ok (.aload_n 0, 1) := by decide +kernel
theorem dX0_searchMore_94 : decode cX0_searchMore 94 = .ok (.getfield 12, 3) := by decide +kernel
theorem dX0_searchMore_97 : decode cX0_searchMore 97 = .ok (.getfield 110, 3) := by decide +kernel
theorem dX0_searchMore_100 : decode cX0_searchMore 100 = .ok (.iconst 0, 1) := by decide +kernel
theorem dX0_searchMore_101 : decode cX0_searchMore 101 = .ok (.aaload, 1) := by decide +kernel
theorem dX0_searchMore_102 : decode cX0_searchMore 102 = .ok (.iload_n 3, 1) := by decide +kernel
theorem dX0_searchMore_103 : decode cX0_searchMore 103 = .ok (.iload 5, 2) := by decide +kernel
theorem dX0_searchMore_105 : decode cX0_searchMore 105 = .ok (.iastore, 1) := by decide +kernel
theorem dX0_searchMore_106 : decode cX0_searchMore 106 = .ok (.aload_n 0, 1) := by decide +kernel
theorem dX0_searchMore_107 : decode cX0_searchMore 107 = .ok (.getfield 12, 3) := by decide +kernel
theorem dX0_searchMore_110 : decode cX0_searchMore 110 = .ok (.getfield 110, 3) := by decide +kernel
theorem dX0_searchMore_113 : decode cX0_searchMore 113 = .ok (.iconst 1, 1) := by decide +kernel
theorem dX0_searchMore_114 : decode cX0_searchMore 114 = .ok (.aaload, 1) := by decide +kernel
theorem dX0_searchMore_115 : decode cX0_searchMore 115 = .ok (.iload_n 3, 1) := by decide +kernel
theorem dX0_searchMore_116 : decode cX0_searchMore 116 = .ok (.iload 6, 2) := by decide +kernel
theorem dX0_searchMore_118 : decode cX0_searchMore 118 = .ok (.iastore, 1) := by decide +kernel
theorem dX0_searchMore_119 : decode cX0_searchMore 119 = .ok (.aload_n 0, 1) := by decide +kernel
theorem dX0_searchMore_120 : decode cX0_searchMore 120 = .ok (.getfield 12, 3) := by decide +kernel
theorem dX0_searchMore_123 : decode cX0_searchMore 123 = .ok (.getfield 110, 3) := by decide +kernel
theorem dX0_searchMore_126 : decode cX0_searchMore 126 = .ok (.iconst 2, 1) := by decide +kernel
theorem dX0_searchMore_127 : decode cX0_searchMore 127 = .ok (.aaload, 1) := by decide +kernel
theorem dX0_searchMore_128 : decode cX0_searchMore 128 = .ok (.iload_n 3, 1) := by decide +kernel
theorem dX0_searchMore_129 : decode cX0_searchMore 129 = .ok (.iload 4, 2) := by decide +kernel
theorem dX0_searchMore_131 : decode cX0_searchMore 131 = .ok (.iconst 3, 1) := by decide +kernel
theorem dX0_searchMore_132 : decode cX0_searchMore 132 = .ok (.iand, 1) := by decide +kernel
theorem dX0_searchMore_133 : decode cX0_searchMore 133 = .ok (.iastore, 1) := by decide +kernel
theorem dX0_searchMore_134 : decode cX0_searchMore 134 = .ok (.aload_n 0, 1) := by decide +kernel
theorem dX0_searchMore_135 : decode cX0_searchMore 135 = .ok (.bipush 100, 2) := by decide +kernel
theorem dX0_searchMore_137 : decode cX0_searchMore 137 = .ok (.iload 5, 2) := by decide +kernel
theorem dX0_searchMore_139 : decode cX0_searchMore 139 = .ok (.imul, 1) := by decide +kernel
theorem dX0_searchMore_140 : decode cX0_searchMore 140 = .ok (.bipush 10, 2) := by decide +kernel
theorem dX0_searchMore_142 : decode cX0_searchMore 142 = .ok (.iload 6, 2) := by decide +kernel
theorem dX0_searchMore_144 : decode cX0_searchMore 144 = .ok (.imul, 1) := by decide +kernel
theorem dX0_searchMore_145 : decode cX0_searchMore 145 = .ok (.iadd, 1) := by decide +kernel
theorem dX0_searchMore_146 : decode cX0_searchMore 146 = .ok (.iload 4, 2) := by decide +kernel
theorem dX0_searchMore_148 : decode cX0_searchMore 148 = .ok (.iconst 3, 1) := by decide +kernel
theorem dX0_searchMore_149 : decode cX0_searchMore 149 = .ok (.iand, 1) := by decide +kernel
theorem dX0_searchMore_150 : decode cX0_searchMore 150 = .ok (.iadd, 1) := by decide +kernel
theorem dX0_searchMore_151 : decode cX0_searchMore 151 = .ok (.invokevirtual 114, 3) := by decide +kernel
theorem dX0_searchMore_154 : decode cX0_searchMore 154 = .ok (.iinc 4 1, 3) := by decide +kernel
theorem dX0_searchMore_157 : decode cX0_searchMore 157 = .ok (.goto (-116), 3) := by decide +kernel
theorem dX0_searchMore_160 : decode cX0_searchMore 160 = .ok (.return_, 1) := by decide +kernel
theorem dX0_searchFewer_0 : decode cX0_searchFewer 0 = .ok (.aload_n 0, 1) := by decide +kernel
theorem dX0_searchFewer_1 : decode cX0_searchFewer 1 = .ok (.aload_n 1, 1) := by decide +kernel
theorem dX0_searchFewer_2 : decode cX0_searchFewer 2 = .ok (.invokevirtual 49, 3) := by decide +kernel
theorem dX0_searchFewer_5 : decode cX0_searchFewer 5 = .ok (.aload_n 0, 1) := by decide +kernel
theorem dX0_searchFewer_6 : decode cX0_searchFewer 6 = .ok (.aload_n 0, 1) := by decide +kernel
theorem dX0_searchFewer_7 : decode cX0_searchFewer 7 = .ok (.iconst 3, 1) := by decide +kernel
theorem dX0_searchFewer_8 : decode cX0_searchFewer 8 = .ok (.iconst 0, 1) := by decide +kernel
theorem dX0_searchFewer_9 : decode cX0_searchFewer 9 = .ok (.invokevirtual 96, 3) := by decide +kernel
theorem dX0_searchFewer_12 : decode cX0_searchFewer 12 = .ok (.invokestatic 85, 3) := by decide +kernel
theorem dX0_searchFewer_15 : decode cX0_searchFewer 15 = .ok (.invokevirtual 99, 3) := by decide +kernel
theorem dX0_searchFewer_18 : decode cX0_searchFewer 18 = .ok (.iconst 0, 1) := by decide +kernel
theorem dX0_searchFewer_19 : decode cX0_searchFewer 19 = .ok (.istore_n 2, 1) := by decide +kernel
theorem dX0_searchFewer_20 : decode cX0_searchFewer 20 = .ok (.iload_n 2, 1) := by decide +kernel
theorem dX0_searchFewer_21 : decode cX0_searchFewer 21 = .ok (.aload_n 1, 1) := by decide +kernel
theorem dX0_searchFewer_22 : decode cX0_searchFewer 22 = .ok (.getfield 103, 3) := by decide +kernel
theorem dX0_searchFewer_25 : decode cX0_searchFewer 25 = .ok (.if_icmp .ge 27, 3) := by decide +kernel
theorem dX0_searchFewer_28 : decode cX0_searchFewer 28 = .ok (.aload_n 0, 1) := by decide +kernel
theorem dX0_searchFewer_29 : decode cX0_searchFewer 29 = .ok (.aload_n 1, 1) := by decide +kernel
theorem dX0_searchFewer_30 : decode cX0_searchFewer 30 = .ok (.invokevirtual 49, 3) := by decide +kernel
theorem dX0_searchFewer_33 : decode cX0_searchFewer 33 = .ok (.aload_n 0, 1) := by decide +kernel
theorem dX0_searchFewer_34 : decode cX0_searchFewer 34 = .ok (.getfield 12, 3) := by decide +kernel
theorem dX0_searchFewer_37 : decode cX0_searchFewer 37 = .ok (.iload_n 2, 1) := by decide +kernel
theorem dX0_searchFewer_38 : decode cX0_searchFewer 38 = .ok (.invokevirtual 117, 3) := by decide +kernel
theorem dX0_searchFewer_41 : decode cX0_searchFewer 41 = .ok (.aload_n 0, 1) := by decide +kernel
theorem dX0_searchFewer_42 : decode cX0_searchFewer 42 = .ok (.iload_n 2, 1) := by decide +kernel
theorem dX0_searchFewer_43 : decode cX0_searchFewer 43 = .ok (.invokevirtual 114, 3) := by decide +kernel
theorem dX0_searchFewer_46 : decode cX0_searchFewer 46 = .ok (.iinc 2 1, 3) := by decide +kernel
theorem dX0_searchFewer_49 : decode cX0_searchFewer 49 = .ok (.goto (-29), 3) := by decide +kernel
theorem dX0_searchFewer_52 : decode cX0_searchFewer 52 = .ok (.return_, 1) := by decide +kernel
theorem dX0_begin_0 : decode cX0_begin 0 = .ok (.aload_n 0, 1) := by decide +kernel
theorem dX0_begin_1 : decode cX0_begin 1 = .ok (.bipush (-4), 2) := by decide +kernel
theorem dX0_begin_3 : decode cX0_begin 3 = .ok (.putfield 120, 3) := by decide +kernel
theorem dX0_begin_6 : decode cX0_begin 6 = .ok (.aload_n 0, 1) := by decide +kernel
theorem dX0_begin_7 : decode cX0_begin 7 = .ok (.iload_n 1, 1) := by decide +kernel
theorem dX0_begin_8 : decode cX0_begin 8 = .ok (.putfield 123, 3) := by decide +kernel
theorem dX0_begin_11 : decode cX0_begin 11 = .ok (.return_, 1) := by decide +kernel
theorem dX0_offerMore_0 : decode cX0_offerMore 0 = .ok (.aload_n 0, 1) := by decide +kernel
theorem dX0_offerMore_1 : decode cX0_offerMore 1 = .ok (.iconst 3, 1) := by decide +kernel
theorem dX0_offerMore_2 : decode cX0_offerMore 2 = .ok (.aload_n 0, 1) := by decide +kernel
theorem dX0_offerMore_3 : decode cX0_offerMore 3 = .ok (.getfield 123, 3) := by decide +kernel
theorem dX0_offerMore_6 : decode cX0_offerMore 6 = .ok (.invokevirtual 96, 3) := by decide +kernel
theorem dX0_offerMore_9 : decode cX0_offerMore 9 = .ok (.invokestatic 85, 3) := by decide +kernel
theorem dX0_offerMore_12 : decode cX0_offerMore 12 = .ok (.istore_n 2, 1) := by decide +kernel
theorem dX0_offerMore_13 : decode cX0_offerMore 13 = .ok (.iload_n 2, 1) := by decide +kernel
theorem dX0_offerMore_14 : decode cX0_offerMore 14 = .ok (.aload_n 0, 1) := by decide +kernel
theorem dX0_offerMore_15 : decode cX0_offerMore 15 = .ok (.getfield 123, 3) := by decide +kernel
theorem dX0_offerMore_18 : decode cX0_offerMore 18 = .ok (.if_icmp .le 13, 3) := by decide +kernel
theorem dX0_offerMore_21 : decode cX0_offerMore 21 = .ok (.aload_n 0, 1) := by decide +kernel
theorem dX0_offerMore_22 : decode cX0_offerMore 22 = .ok (.iload_n 1, 1) := by decide +kernel
theorem dX0_offerMore_23 : decode cX0_offerMore 23 = .ok (.putfield 120, 3) := by decide +kernel
theorem dX0_offerMore_26 : decode cX0_offerMore 26 = .ok (.aload_n 0, 1) := by decide +kernel
theorem dX0_offerMore_27 : decode cX0_offerMore 27 = .ok (.iload_n 2, 1) := by decide +kernel
theorem dX0_offerMore_28 : decode cX0_offerMore 28 = .ok (.putfield 123, 3) := by decide +kernel
theorem dX0_offerMore_31 : decode cX0_offerMore 31 = .ok (.return_, 1) := by decide +kernel
theorem dX0_found_0 : decode cX0_found 0 = .ok (.aload_n 0, 1) := by decide +kernel
theorem dX0_found_1 : decode cX0_found 1 = .ok (.getfield 120, 3) := by decide +kernel
theorem dX0_found_4 : decode cX0_found 4 = .ok (.bipush (-4), 2) := by decide +kernel
theorem dX0_found_6 : decode cX0_found 6 = .ok (.if_icmp .eq 7, 3) := by decide +kernel
theorem dX0_found_9 : decode cX0_found 9 = .ok (.iload_n 1, 1) := by decide +kernel
theorem dX0_found_10 : decode cX0_found 10 = .ok (.ifCond .ne 10, 3) := by decide +kernel
theorem dX0_found_13 : decode cX0_found 13 = .ok (.aload_n 0, 1) := by decide +kernel
theorem dX0_found_14 : decode cX0_found 14 = .ok (.getfield 120, 3) := by decide +kernel
theorem dX0_found_17 : decode cX0_found 17 = .ok (.goto 7, 3) := by decide +kernel
theorem dX0_found_20 : decode cX0_found 20 = .ok (.aload_n 0, 1) := by decide +kernel
theorem dX0_found_21 : decode cX0_found 21 = .ok (.getfield 123, 3) := by decide +kernel
theorem dX0_found_24 : decode cX0_found 24 = .ok (.ireturn, 1) := by decide +kernel
theorem dX0_findFitting_0 : decode cX0_findFitting 0 = .ok (.aload_n 0, 1) := by decide +kernel
theorem dX0_findFitting_1 : decode cX0_findFitting 1 = .ok (.aload_n 1, 1) := by decide +kernel
theorem dX0_findFitting_2 : decode cX0_findFitting 2 = .ok (.iconst 4, 1) := by decide +kernel
theorem dX0_findFitting_3 : decode cX0_findFitting 3 = .ok (.invokevirtual 126, 3) := by decide +kernel
theorem dX0_findFitting_6 : decode cX0_findFitting 6 = .ok (.aload_n 0, 1) := by decide +kernel
theorem dX0_findFitting_7 : decode cX0_findFitting 7 = .ok (.iconst 0, 1) := by decide +kernel
theorem dX0_findFitting_8 : decode cX0_findFitting 8 = .ok (.putfield 130, 3) := by decide +kernel
theorem dX0_findFitting_11 : decode cX0_findFitting 11 = .ok (.iconst 0, 1) := by decide +kernel
theorem dX0_findFitting_12 : decode cX0_findFitting 12 = .ok (.istore_n 3, 1) := by decide +kernel
theorem dX0_findFitting_13 : decode cX0_findFitting 13 = .ok (.iload_n 3, 1) := by decide +kernel
theorem dX0_findFitting_14 : decode cX0_findFitting 14 = .ok (.sipush 256, 3) := by decide +kernel
theorem dX0_findFitting_17 : decode cX0_findFitting 17 = .ok (.if_icmp .ge 38, 3) := by decide +kernel
theorem dX0_findFitting_20 : decode cX0_findFitting 20 = .ok (.aload_n 0, 1) := by decide +kernel
theorem dX0_findFitting_21 : decode cX0_findFitting 21 = .ok (.iload_n 3, 1) := by decide +kernel
theorem dX0_findFitting_22 : decode cX0_findFitting 22 = .ok (.aload_n 2, 1) := by decide +kernel
theorem dX0_findFitting_23 : decode cX0_findFitting 23 = .ok (.invokevirtual 133, 3) := by decide +kernel
theorem dX0_findFitting_26 : decode cX0_findFitting 26 = .ok (.ifCond .eq 23, 3) := by decide +kernel
theorem dX0_findFitting_29 : decode cX0_findFitting 29 = .ok (.aload_n 0, 1) := by decide +kernel
theorem dX0_findFitting_30 : decode cX0_findFitting 30 = .ok (.getfield 22, 3) := by decide +kernel
theorem dX0_findFitting_33 : decode cX0_findFitting 33 = .ok (.aload_n 0, 1) := by decide +kernel
theorem dX0_findFitting_34 : decode cX0_findFitting 34 = .ok (.getfield 130, 3) := by decide +kernel
theorem dX0_findFitting_37 : decode cX0_findFitting 37 = .ok (.iload_n 3, 1) := by decide +kernel
theorem dX0_findFitting_38 : decode cX0_findFitting 38 = .ok (.iastore, 1) := by decide +kernel
theorem dX0_findFitting_39 : decode cX0_findFitting 39 = .ok (.aload_n 0, 1) := by decide +kernel
theorem dX0_findFitting_40 : decode cX0_findFitting 40 = .ok (.dup, 1) := by decide +kernel
theorem dX0_findFitting_41 : decode cX0_findFitting 41 = .ok (.getfield 130, 3) := by decide +kernel
theorem dX0_findFitting_44 : decode cX0_findFitting 44 = .ok (.iconst 1, 1) := by decide +kernel
theorem dX0_findFitting_45 : decode cX0_findFitting 45 = .ok (.iadd, 1) := by decide +kernel
theorem dX0_findFitting_46 : decode cX0_findFitting 46 = .ok (.putfield 130, 3) := by decide +kernel
theorem dX0_findFitting_49 : decode cX0_findFitting 49 = .ok (.iinc 3 1, 3) := by decide +kernel
theorem dX0_findFitting_52 : decode cX0_findFitting 52 = .ok (.goto (-39), 3) := by decide +kernel
theorem dX0_findFitting_55 : decode cX0_findFitting 55 = .ok (.return_, 1) := by decide +kernel
theorem dX0_isAsSeen_0 : decode cX0_isAsSeen 0 = .ok (.iconst 0, 1) := by decide +kernel
theorem dX0_isAsSeen_1 : decode cX0_isAsSeen 1 = .ok (.istore_n 3, 1) := by decide +kernel
theorem dX0_isAsSeen_2 : decode cX0_isAsSeen 2 = .ok (.iload_n 3, 1) := by decide +kernel
theorem dX0_isAsSeen_3 : decode cX0_isAsSeen 3 = .ok (.aload_n 2, 1) := by decide +kernel
theorem dX0_isAsSeen_4 : decode cX0_isAsSeen 4 = .ok (.getfield 137, 3) := by decide +kernel
theorem dX0_isAsSeen_7 : decode cX0_isAsSeen 7 = .ok (.if_icmp .ge 37, 3) := by decide +kernel
theorem dX0_isAsSeen_10 : decode cX0_isAsSeen 10 = .ok (.aload_n 0, 1) := by decide +kernel
theorem dX0_isAsSeen_11 : decode cX0_isAsSeen 11 = .ok (.iload_n 1, 1) := by decide +kernel
theorem dX0_isAsSeen_12 : decode cX0_isAsSeen 12 = .ok (.aload_n 2, 1) := by decide +kernel
theorem dX0_isAsSeen_13 : decode cX0_isAsSeen 13 = .ok (.getfield 142, 3) := by decide +kernel
theorem dX0_isAsSeen_16 : decode cX0_isAsSeen 16 = .ok (.iload_n 3, 1) := by decide +kernel
theorem dX0_isAsSeen_17 : decode cX0_isAsSeen 17 = .ok (.iaload, 1) := by decide +kernel
theorem dX0_isAsSeen_18 : decode cX0_isAsSeen 18 = .ok (.aload_n 2, 1) := by decide +kernel
theorem dX0_isAsSeen_19 : decode cX0_isAsSeen 19 = .ok (.getfield 145, 3) := by decide +kernel
theorem dX0_isAsSeen_22 : decode cX0_isAsSeen 22 = .ok (.iload_n 3, 1) := by decide +kernel
theorem dX0_isAsSeen_23 : decode cX0_isAsSeen 23 = .ok (.iaload, 1) := by decide +kernel
theorem dX0_isAsSeen_24 : decode cX0_isAsSeen 24 = .ok (.invokevirtual 148, 3) := by decide +kernel
theorem dX0_isAsSeen_27 : decode cX0_isAsSeen 27 = .ok (.aload_n 2, 1) := by decide +kernel
theorem dX0_isAsSeen_28 : decode cX0_isAsSeen 28 = .ok (.getfield 151, 3) := by decide +kernel
theorem dX0_isAsSeen_31 : decode cX0_isAsSeen 31 = .ok (.iload_n 3, 1) := by decide +kernel
theorem dX0_isAsSeen_32 : decode cX0_isAsSeen 32 = .ok (.iaload, 1) := by decide +kernel
theorem dX0_isAsSeen_33 : decode cX0_isAsSeen 33 = .ok (.if_icmp .eq 5, 3) := by decide +kernel
theorem dX0_isAsSeen_36 : decode cX0_isAsSeen 36 = .ok (.iconst 0, 1) := by decide +kernel
theorem dX0_isAsSeen_37 : decode cX0_isAsSeen 37 = .ok (.ireturn, 1) := by decide +kernel
theorem dX0_isAsSeen_38 : decode cX0_isAsSeen 38 = .ok (.iinc 3 1, 3) := by decide +kernel
theorem dX0_isAsSeen_41 : decode cX0_isAsSeen 41 = .ok (.goto (-39), 3) := by decide +kernel
theorem dX0_isAsSeen_44 : decode cX0_isAsSeen 44 = .ok (.iconst 1, 1) := by decide +kernel
theorem dX0_isAsSeen_45 : decode cX0_isAsSeen 45 = .ok (.ireturn, 1) := by decide +kernel
theorem dX0_purseWithin_0 : decode cX0_purseWithin 0 = .ok (.aload_n 0, 1) := by decide +kernel
theorem dX0_purseWithin_1 : decode cX0_purseWithin 1 = .ok (.iload_n 2, 1) := by decide +kernel
theorem dX0_purseWithin_2 : decode cX0_purseWithin 2 = .ok (.iload_n 3, 1) := by decide +kernel
theorem dX0_purseWithin_3 : decode cX0_purseWithin 3 = .ok (.iload_n 1, 1) := by decide +kernel
theorem dX0_purseWithin_4 : decode cX0_purseWithin 4 = .ok (.iconst 2, 1) := by decide +kernel
theorem dX0_purseWithin_5 : decode cX0_purseWithin 5 = .ok (.iconst 4, 1) := by decide +kernel
theorem dX0_purseWithin_6 : decode cX0_purseWithin 6 = .ok (.iload_n 3, 1) := by decide +kernel
theorem dX0_purseWithin_7 : decode cX0_purseWithin 7 = .ok (.isub, 1) := by decide +kernel
theorem dX0_purseWithin_8 : decode cX0_purseWithin 8 = .ok (.imul, 1) := by decide +kernel
theorem dX0_purseWithin_9 : decode cX0_purseWithin 9 = .ok (.ishr, 1) := by decide +kernel
theorem dX0_purseWithin_10 : decode cX0_purseWithin 10 = .ok (.invokevirtual 62, 3) := by decide +kernel
theorem dX0_purseWithin_13 : decode cX0_purseWithin 13 = .ok (.ireturn, 1) := by decide +kernel
theorem dX0_fittingIn_0 : decode cX0_fittingIn 0 = .ok (.iconst 0, 1) := by decide +kernel
theorem dX0_fittingIn_1 : decode cX0_fittingIn 1 = .ok (.istore_n 2, 1) := by decide +kernel
theorem dX0_fittingIn_2 : decode cX0_fittingIn 2 = .ok (.iconst 0, 1) := by decide +kernel
theorem dX0_fittingIn_3 : decode cX0_fittingIn 3 = .ok (.istore_n 3, 1) := by decide +kernel
theorem dX0_fittingIn_4 : decode cX0_fittingIn 4 = .ok (.iload_n 3, 1) := by decide +kernel
theorem dX0_fittingIn_5 : decode cX0_fittingIn 5 = .ok (.aload_n 0, 1) := by decide +kernel
theorem dX0_fittingIn_6 : decode cX0_fittingIn 6 = .ok (.getfield 130, 3) := by decide +kernel
theorem dX0_fittingIn_9 : decode cX0_fittingIn 9 = .ok (.if_icmp .ge 28, 3) := by decide +kernel
theorem dX0_fittingIn_12 : decode cX0_fittingIn 12 = .ok (.iload_n 2, 1) := by decide +kernel
theorem dX0_fittingIn_13 : decode cX0_fittingIn 13 = .ok (.iconst 1, 1) := by decide +kernel
theorem dX0_fittingIn_14 : decode cX0_fittingIn 14 = .ok (.aload_n 0, 1) := by decide +kernel
theorem dX0_fittingIn_15 : decode cX0_fittingIn 15 = .ok (.getfield 22, 3) := by decide +kernel
theorem dX0_fittingIn_18 : decode cX0_fittingIn 18 = .ok (.iload_n 3, 1) := by decide +kernel
theorem dX0_fittingIn_19 : decode cX0_fittingIn 19 = .ok (.iaload, 1) := by decide +kernel
theorem dX0_fittingIn_20 : decode cX0_fittingIn 20 = .ok (.iconst 2, 1) := by decide +kernel
theorem dX0_fittingIn_21 : decode cX0_fittingIn 21 = .ok (.iconst 3, 1) := by decide +kernel
theorem dX0_fittingIn_22 : decode cX0_fittingIn 22 = .ok (.iload_n 1, 1) := by decide +kernel
theorem dX0_fittingIn_23 : decode cX0_fittingIn 23 = .ok (.isub, 1) := by decide +kernel
theorem dX0_fittingIn_24 : decode cX0_fittingIn 24 = .ok (.imul, 1) := by decide +kernel
theorem dX0_fittingIn_25 : decode cX0_fittingIn 25 = .ok (.ishr, 1) := by decide +kernel
theorem dX0_fittingIn_26 : decode cX0_fittingIn 26 = .ok (.iconst 3, 1) := by decide +kernel
theorem dX0_fittingIn_27 : decode cX0_fittingIn 27 = .ok (.iand, 1) := by decide +kernel
theorem dX0_fittingIn_28 : decode cX0_fittingIn 28 = .ok (.ishl, 1) := by decide +kernel
theorem dX0_fittingIn_29 : decode cX0_fittingIn 29 = .ok (.ior, 1) := by decide +kernel
theorem dX0_fittingIn_30 : decode cX0_fittingIn 30 = .ok (.istore_n 2, 1) := by decide +kernel
theorem dX0_fittingIn_31 : decode cX0_fittingIn 31 = .ok (.iinc 3 1, 3) := by decide +kernel
theorem dX0_fittingIn_34 : decode cX0_fittingIn 34 = .ok (.goto (-30), 3) := by decide +kernel
theorem dX0_fittingIn_37 : decode cX0_fittingIn 37 = .ok (.iload_n 2, 1) := by decide +kernel
theorem dX0_fittingIn_38 : decode cX0_fittingIn 38 = .ok (.ireturn, 1) := by decide +kernel
theorem dX0_searchLook_0 : decode cX0_searchLook 0 = .ok (.aload_n 0, 1) := by decide +kernel
theorem dX0_searchLook_1 : decode cX0_searchLook 1 = .ok (.aload_n 0, 1) := by decide +kernel
theorem dX0_searchLook_2 : decode cX0_searchLook 2 = .ok (.getfield 130, 3) := by decide +kernel
theorem dX0_searchLook_5 : decode cX0_searchLook 5 = .ok (.invokevirtual 99, 3) := by decide +kernel
theorem dX0_searchLook_8 : decode cX0_searchLook 8 = .ok (.iconst 0, 1) := by decide +kernel
theorem dX0_searchLook_9 : decode cX0_searchLook 9 = .ok (.istore_n 1, 1) := by decide +kernel
theorem dX0_searchLook_10 : decode cX0_searchLook 10 = .ok (.iload_n 1, 1) := by decide +kernel
theorem dX0_searchLook_11 : decode cX0_searchLook 11 = .ok (.aload_n 0, 1) := by decide +kernel
theorem dX0_searchLook_12 : decode cX0_searchLook 12 = .ok (.getfield 12, 3) := by decide +kernel
theorem dX0_searchLook_15 : decode cX0_searchLook 15 = .ok (.getfield 82, 3) := by decide +kernel
theorem dX0_searchLook_18 : decode cX0_searchLook 18 = .ok (.if_icmp .ge 52, 3) := by decide +kernel
theorem dX0_searchLook_21 : decode cX0_searchLook 21 = .ok (.iconst 1, 1) := by decide +kernel
theorem dX0_searchLook_22 : decode cX0_searchLook 22 = .ok (.istore_n 2, 1) := by decide +kernel
theorem dX0_searchLook_23 : decode cX0_searchLook 23 = .ok (.iload_n 2, 1) := by decide +kernel
theorem dX0_searchLook_24 : decode cX0_searchLook 24 = .ok (.iconst 4, 1) := by decide +kernel
theorem dX0_searchLook_25 : decode cX0_searchLook 25 = .ok (.if_icmp .gt 39, 3) := by decide +kernel
theorem dX0_searchLook_28 : decode cX0_searchLook 28 = .ok (.aload_n 0, 1) := by decide +kernel
theorem dX0_searchLook_29 : decode cX0_searchLook 29 = .ok (.iload_n 1, 1) := by decide +kernel
theorem dX0_searchLook_30 : decode cX0_searchLook 30 = .ok (.iload_n 2, 1) := by decide +kernel
theorem dX0_searchLook_31 : decode cX0_searchLook 31 = .ok (.invokevirtual 152, 3) := by decide +kernel
theorem dX0_searchLook_34 : decode cX0_searchLook 34 = .ok (.istore_n 3, 1) := by decide +kernel
theorem dX0_searchLook_35 : decode cX0_searchLook 35 = .ok (.iload_n 3, 1) := by decide +kernel
theorem dX0_searchLook_36 : decode cX0_searchLook 36 = .ok (.aload_n 0, 1) := by decide +kernel
theorem dX0_searchLook_37 : decode cX0_searchLook 37 = .ok (.getfield 123, 3) := by decide +kernel
theorem dX0_searchLook_40 : decode cX0_searchLook 40 = .ok (.if_icmp .ge 18, 3) := by decide +kernel
theorem dX0_searchLook_43 : decode cX0_searchLook 43 = .ok (.aload_n 0, 1) := by decide +kernel
theorem dX0_searchLook_44 : decode cX0_searchLook 44 = .ok (.bipush 10, 2) := by decide +kernel
theorem dX0_searchLook_46 : decode cX0_searchLook 46 = .ok (.iload_n 1, 1) := by decide +kernel
theorem dX0_searchLook_47 : decode cX0_searchLook 47 = .ok (.imul, 1) := by decide +kernel
theorem dX0_searchLook_48 : decode cX0_searchLook 48 = .ok (.iload_n 2, 1) := by decide +kernel
theorem dX0_searchLook_49 : decode cX0_searchLook 49 = .ok (.iadd, 1) := by decide +kernel
theorem dX0_searchLook_50 : decode cX0_searchLook 50 = .ok (.putfield 120, 3) := by decide +kernel
theorem dX0_searchLook_53 : decode cX0_searchLook 53 = .ok (.aload_n 0, 1) := by decide +kernel
theorem dX0_searchLook_54 : decode cX0_searchLook 54 = .ok (.iload_n 3, 1) := by decide +kernel
theorem dX0_searchLook_55 : decode cX0_searchLook 55 = .ok (.putfield 123, 3) := by decide +kernel
theorem dX0_searchLook_58 : decode cX0_searchLook 58 = .ok (.iinc 2 1, 3) := by decide +kernel
theorem dX0_searchLook_61 : decode cX0_searchLook 61 = .ok (.goto (-38), 3) := by decide +kernel
theorem dX0_searchLook_64 : decode cX0_searchLook 64 = .ok (.iinc 1 1, 3) := by decide +kernel
theorem dX0_searchLook_67 : decode cX0_searchLook 67 = .ok (.goto (-57), 3) := by decide +kernel
theorem dX0_searchLook_70 : decode cX0_searchLook 70 = .ok (.return_, 1) := by decide +kernel
theorem dX0_mostLeft_0 : decode cX0_mostLeft 0 = .ok (.iconst 0, 1) := by decide +kernel
theorem dX0_mostLeft_1 : decode cX0_mostLeft 1 = .ok (.istore_n 3, 1) := by decide +kernel
theorem dX0_mostLeft_2 : decode cX0_mostLeft 2 = .ok (.iconst 0, 1) := by decide +kernel
theorem dX0_mostLeft_3 : decode cX0_mostLeft 3 = .ok (.istore 4, 2) := by decide +kernel
theorem dX0_mostLeft_5 : decode cX0_mostLeft 5 = .ok (.iload 4, 2) := by decide +kernel
theorem dX0_mostLeft_7 : decode cX0_mostLeft 7 = .ok (.aload_n 0, 1) := by decide +kernel
theorem dX0_mostLeft_8 : decode cX0_mostLeft 8 = .ok (.getfield 130, 3) := by decide +kernel
theorem dX0_mostLeft_11 : decode cX0_mostLeft 11 = .ok (.if_icmp .ge 47, 3) := by decide +kernel
theorem dX0_mostLeft_14 : decode cX0_mostLeft 14 = .ok (.aload_n 0, 1) := by decide +kernel
theorem dX0_mostLeft_15 : decode cX0_mostLeft 15 = .ok (.aload_n 0, 1) := by decide +kernel
theorem dX0_mostLeft_16 : decode cX0_mostLeft 16 = .ok (.getfield 22, 3) := by decide +kernel
theorem dX0_mostLeft_19 : decode cX0_mostLeft 19 = .ok (.iload 4, 2) := by decide +kernel
theorem dX0_mostLeft_21 : decode cX0_mostLeft 21 = .ok (.iaload, 1) := by decide +kernel
theorem dX0_mostLeft_22 : decode cX0_mostLeft 22 = .ok (.iload_n 1, 1) := by decide +kernel
theorem dX0_mostLeft_23 : decode cX0_mostLeft 23 = .ok (.iload_n 2, 1) := by decide +kernel
theorem dX0_mostLeft_24 : decode cX0_mostLeft 24 = .ok (.invokevirtual 148, 3) := by decide +kernel
theorem dX0_mostLeft_27 : decode cX0_mostLeft 27 = .ok (.istore 5, 2) := by decide +kernel
theorem dX0_mostLeft_29 : decode cX0_mostLeft 29 = .ok (.aload_n 0, 1) := by decide +kernel
theorem dX0_mostLeft_30 : decode cX0_mostLeft 30 = .ok (.getfield 25, 3) := by decide +kernel
theorem dX0_mostLeft_33 : decode cX0_mostLeft 33 = .ok (.iload 5, 2) := by decide +kernel
theorem dX0_mostLeft_35 : decode cX0_mostLeft 35 = .ok (.dup2, 1) := by decide +kernel
theorem dX0_mostLeft_36 : decode cX0_mostLeft 36 = .ok (.iaload, 1) := by decide +kernel
theorem dX0_mostLeft_37 : decode cX0_mostLeft 37 = .ok (.iconst 1, 1) := by decide +kernel
theorem dX0_mostLeft_38 : decode cX0_mostLeft 38 = .ok (.iadd, 1) := by decide +kernel
theorem dX0_mostLeft_39 : decode cX0_mostLeft 39 = .ok (.iastore, 1) := by decide +kernel
theorem dX0_mostLeft_40 : decode cX0_mostLeft 40 = .ok (.iload_n 3, 1) := by decide +kernel
theorem dX0_mostLeft_41 : decode cX0_mostLeft 41 = .ok (.aload_n 0, 1) := by decide +kernel
theorem dX0_mostLeft_42 : decode cX0_mostLeft 42 = .ok (.getfield 25, 3) := by decide +kernel
theorem dX0_mostLeft_45 : decode cX0_mostLeft 45 = .ok (.iload 5, 2) := by decide +kernel
theorem dX0_mostLeft_47 : decode cX0_mostLeft 47 = .ok (.iaload, 1) := by decide +kernel
theorem dX0_mostLeft_48 : decode cX0_mostLeft 48 = .ok (.invokestatic 66, 3) := by decide +kernel
theorem dX0_mostLeft_51 : decode cX0_mostLeft 51 = .ok (.istore_n 3, 1) := by decide +kernel
theorem dX0_mostLeft_52 : decode cX0_mostLeft 52 = .ok (.iinc 4 1, 3) := by decide +kernel
theorem dX0_mostLeft_55 : decode cX0_mostLeft 55 = .ok (.goto (-50), 3) := by decide +kernel
theorem dX0_mostLeft_58 : decode cX0_mostLeft 58 = .ok (.iconst 0, 1) := by decide +kernel
theorem dX0_mostLeft_59 : decode cX0_mostLeft 59 = .ok (.istore 4, 2) := by decide +kernel
theorem dX0_mostLeft_61 : decode cX0_mostLeft 61 = .ok (.iload 4, 2) := by decide +kernel
theorem dX0_mostLeft_63 : decode cX0_mostLeft 63 = .ok (.aload_n 0, 1) := by decide +kernel
theorem dX0_mostLeft_64 : decode cX0_mostLeft 64 = .ok (.getfield 130, 3) := by decide +kernel
theorem dX0_mostLeft_67 : decode cX0_mostLeft 67 = .ok (.if_icmp .ge 28, 3) := by decide +kernel
theorem dX0_mostLeft_70 : decode cX0_mostLeft 70 = .ok (.aload_n 0, 1) := by decide +kernel
theorem dX0_mostLeft_71 : decode cX0_mostLeft 71 = .ok (.getfield 25, 3) := by decide +kernel
theorem dX0_mostLeft_74 : decode cX0_mostLeft 74 = .ok (.aload_n 0, 1) := by decide +kernel
theorem dX0_mostLeft_75 : decode cX0_mostLeft 75 = .ok (.aload_n 0, 1) := by decide +kernel
theorem dX0_mostLeft_76 : decode cX0_mostLeft 76 = .ok (.getfield 22, 3) := by decide +kernel
theorem dX0_mostLeft_79 : decode cX0_mostLeft 79 = .ok (.iload 4, 2) := by decide +kernel
theorem dX0_mostLeft_81 : decode cX0_mostLeft 81 = .ok (.iaload, 1) := by decide +kernel
theorem dX0_mostLeft_82 : decode cX0_mostLeft 82 = .ok (.iload_n 1, 1) := by decide +kernel
theorem dX0_mostLeft_83 : decode cX0_mostLeft 83 = .ok (.iload_n 2, 1) := by decide +kernel
theorem dX0_mostLeft_84 : decode cX0_mostLeft 84 = .ok (.invokevirtual 148, 3) := by decide +kernel
theorem dX0_mostLeft_87 : decode cX0_mostLeft 87 = .ok (.iconst 0, 1) := by decide +kernel
theorem dX0_mostLeft_88 : decode cX0_mostLeft 88 = .ok (.iastore, 1) := by decide +kernel
theorem dX0_mostLeft_89 : decode cX0_mostLeft 89 = .ok (.iinc 4 1, 3) := by decide +kernel
theorem dX0_mostLeft_92 : decode cX0_mostLeft 92 = .ok (.goto (-31), 3) := by decide +kernel
theorem dX0_mostLeft_95 : decode cX0_mostLeft 95 = .ok (.iload_n 3, 1) := by decide +kernel
theorem dX0_mostLeft_96 : decode cX0_mostLeft 96 = .ok (.ireturn, 1) := by decide +kernel
