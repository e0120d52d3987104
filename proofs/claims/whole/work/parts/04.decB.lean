theorem dX1_init_0 : decode cX1_init 0 = .ok (.aload_n 0, 1) := by decide +kernel
theorem dX1_init_1 : decode cX1_init 1 = .ok (.invokespecial 3, 3) := by decide +kernel
theorem dX1_init_4 : decode cX1_init 4 = .ok (.aload_n 0, 1) := by decide +kernel
theorem dX1_init_5 : decode cX1_init 5 = .ok (.sipush 160, 3) := by decide +kernel
theorem dX1_init_8 : decode cX1_init 8 = .ok (.newarray .int, 2) := by decide +kernel
theorem dX1_init_10 : decode cX1_init 10 = .ok (.putfield 11, 3) := by decide +kernel
theorem dX1_init_13 : decode cX1_init 13 = .ok (.aload_n 0, 1) := by decide +kernel
theorem dX1_init_14 : decode cX1_init 14 = .ok (.iconst 0, 1) := by decide +kernel
theorem dX1_init_15 : decode cX1_init 15 = .ok (.putfield 15, 3) := by decide +kernel
theorem dX1_init_18 : decode cX1_init 18 = .ok (.aload_n 0, 1) := by decide +kernel
theorem dX1_init_19 : decode cX1_init 19 = .ok (.new 19, 3) := by decide +kernel
theorem dX1_init_22 : decode cX1_init 22 = .ok (.dup, 1) := by decide +kernel
theorem dX1_init_23 : decode cX1_init 23 = .ok (.invokespecial 21, 3) := by decide +kernel
theorem dX1_init_26 : decode cX1_init 26 = .ok (.putfield 22, 3) := by decide +kernel
theorem dX1_init_29 : decode cX1_init 29 = .ok (.return_, 1) := by decide +kernel
theorem dX1_append_0 : decode cX1_append 0 = .ok (.aload_n 0, 1) := by decide +kernel
theorem dX1_append_1 : decode cX1_append 1 = .ok (.getfield 26, 3) := by decide +kernel
theorem dX1_append_4 : decode cX1_append 4 = .ok (.sipush 160, 3) := by decide +kernel
theorem dX1_append_7 : decode cX1_append 7 = .ok (.if_icmp .lt 6, 3) := by decide +kernel
theorem dX1_append_10 : decode cX1_append 10 = .ok (.bipush (-3), 2) := by decide +kernel
theorem dX1_append_12 : decode cX1_append 12 = .ok (.ireturn, 1) := by decide +kernel
theorem dX1_append_13 : decode cX1_append 13 = .ok (.aload_n 0, 1) := by decide +kernel
theorem dX1_append_14 : decode cX1_append 14 = .ok (.getfield 11, 3) := by decide +kernel
theorem dX1_append_17 : decode cX1_append 17 = .ok (.aload_n 0, 1) := by decide +kernel
theorem dX1_append_18 : decode cX1_append 18 = .ok (.getfield 26, 3) := by decide +kernel
theorem dX1_append_21 : decode cX1_append 21 = .ok (.iload_n 1, 1) := by decide +kernel
theorem dX1_append_22 : decode cX1_append 22 = .ok (.iastore, 1) := by decide +kernel
theorem dX1_append_23 : decode cX1_append 23 = .ok (.aload_n 0, 1) := by decide +kernel
theorem dX1_append_24 : decode cX1_append 24 = .ok (.dup, 1) := by decide +kernel
theorem dX1_append_25 : decode cX1_append 25 = .ok (.getfield 26, 3) := by decide +kernel
theorem dX1_append_28 : decode cX1_append 28 = .ok (.iconst 1, 1) := by decide +kernel
theorem dX1_append_29 : decode cX1_append 29 = .ok (.iadd, 1) := by decide +kernel
theorem dX1_append_30 : decode cX1_append 30 = .ok (.putfield 26, 3) := by decide +kernel
theorem dX1_append_33 : decode cX1_append 33 = .ok (.aload_n 0, 1) := by decide +kernel
theorem dX1_append_34 : decode cX1_append 34 = .ok (.getfield 26, 3) := by decide +kernel
theorem dX1_append_37 : decode cX1_append 37 = .ok (.ireturn, 1) := by decide +kernel
theorem dX1_takeAll_0 : decode cX1_takeAll 0 = .ok (.aload_n 0, 1) := by decide +kernel
theorem dX1_takeAll_1 : decode cX1_takeAll 1 = .ok (.invokevirtual 29, 3) := by decide +kernel
theorem dX1_takeAll_4 : decode cX1_takeAll 4 = .ok (.iconst 0, 1) := by decide +kernel
theorem dX1_takeAll_5 : decode cX1_takeAll 5 = .ok (.istore_n 1, 1) := by decide +kernel
theorem dX1_takeAll_6 : decode cX1_takeAll 6 = .ok (.aload_n 0, 1) := by decide +kernel
theorem dX1_takeAll_7 : decode cX1_takeAll 7 = .ok (.invokevirtual 32, 3) := by decide +kernel
theorem dX1_takeAll_10 : decode cX1_takeAll 10 = .ok (.iconst 0, 1) := by decide +kernel
theorem dX1_takeAll_11 : decode cX1_takeAll 11 = .ok (.istore_n 2, 1) := by decide +kernel
theorem dX1_takeAll_12 : decode cX1_takeAll 12 = .ok (.iload_n 2, 1) := by decide +kernel
theorem dX1_takeAll_13 : decode cX1_takeAll 13 = .ok (.sipush 160, 3) := by decide +kernel
theorem dX1_takeAll_16 : decode cX1_takeAll 16 = .ok (.if_icmp .ge 34, 3) := by decide +kernel
theorem dX1_takeAll_19 : decode cX1_takeAll 19 = .ok (.aload_n 0, 1) := by decide +kernel
theorem dX1_takeAll_20 : decode cX1_takeAll 20 = .ok (.getfield 35, 3) := by decide +kernel
theorem dX1_takeAll_23 : decode cX1_takeAll 23 = .ok (.ifCond .eq 27, 3) := by decide +kernel
theorem dX1_takeAll_26 : decode cX1_takeAll 26 = .ok (.aload_n 0, 1) := by decide +kernel
theorem dX1_takeAll_27 : decode cX1_takeAll 27 = .ok (.getfield 15, 3) := by decide +kernel
theorem dX1_takeAll_30 : decode cX1_takeAll 30 = .ok (.ifCond .ne 20, 3) := by decide +kernel
theorem dX1_takeAll_33 : decode cX1_takeAll 33 = .ok (.aload_n 0, 1) := by decide +kernel
theorem dX1_takeAll_34 : decode cX1_takeAll 34 = .ok (.invokevirtual 38, 3) := by decide +kernel
theorem dX1_takeAll_37 : decode cX1_takeAll 37 = .ok (.aload_n 0, 1) := by decide +kernel
theorem dX1_takeAll_38 : decode cX1_takeAll 38 = .ok (.invokevirtual 32, 3) := by decide +kernel
theorem dX1_takeAll_41 : decode cX1_takeAll 41 = .ok (.iinc 1 1, 3) := by decide +kernel
theorem dX1_takeAll_44 : decode cX1_takeAll 44 = .ok (.iinc 2 1, 3) := by decide +kernel
theorem dX1_takeAll_47 : decode cX1_takeAll 47 = .ok (.goto (-35), 3) := by decide +kernel
theorem dX1_takeAll_50 : decode cX1_takeAll 50 = .ok (.aload_n 0, 1) := by decide +kernel
theorem dX1_takeAll_51 : decode cX1_takeAll 51 = .ok (.aload_n 0, 1) := by decide +kernel
theorem dX1_takeAll_52 : decode cX1_takeAll 52 = .ok (.invokevirtual 41, 3) := by decide +kernel
theorem dX1_takeAll_55 : decode cX1_takeAll 55 = .ok (.bipush 6, 2) := by decide +kernel
theorem dX1_takeAll_57 : decode cX1_takeAll 57 = .ok (.invokevirtual 45, 3) := by decide +kernel
theorem dX1_takeAll_60 : decode cX1_takeAll 60 = .ok (.aload_n 0, 1) := by decide +kernel
theorem dX1_takeAll_61 : decode cX1_takeAll 61 = .ok (.iconst 0, 1) := by decide +kernel
theorem dX1_takeAll_62 : decode cX1_takeAll 62 = .ok (.putfield 26, 3) := by decide +kernel
theorem dX1_takeAll_65 : decode cX1_takeAll 65 = .ok (.aload_n 0, 1) := by decide +kernel
theorem dX1_takeAll_66 : decode cX1_takeAll 66 = .ok (.getfield 15, 3) := by decide +kernel
theorem dX1_takeAll_69 : decode cX1_takeAll 69 = .ok (.ifCond .ne 7, 3) := by decide +kernel
theorem dX1_takeAll_72 : decode cX1_takeAll 72 = .ok (.iload_n 1, 1) := by decide +kernel
theorem dX1_takeAll_73 : decode cX1_takeAll 73 = .ok (.goto 10, 3) := by decide +kernel
theorem dX1_takeAll_76 : decode cX1_takeAll 76 = .ok (.bipush (-10), 2) := by decide +kernel
theorem dX1_takeAll_78 : decode cX1_takeAll 78 = .ok (.aload_n 0, 1) := by decide +kernel
theorem dX1_takeAll_79 : decode cX1_takeAll 79 = .ok (.getfield 49, 3) := by decide +kernel
theorem dX1_takeAll_82 : decode cX1_takeAll 82 = .ok (.isub, 1) := by decide +kernel
theorem dX1_takeAll_83 : decode cX1_takeAll 83 = .ok (.ireturn, 1) := by decide +kernel
theorem dX1_begin_0 : decode cX1_begin 0 = .ok (.aload_n 0, 1) := by decide +kernel
theorem dX1_begin_1 : decode cX1_begin 1 = .ok (.getfield 22, 3) := by decide +kernel
theorem dX1_begin_4 : decode cX1_begin 4 = .ok (.invokevirtual 52, 3) := by decide +kernel
theorem dX1_begin_7 : decode cX1_begin 7 = .ok (.aload_n 0, 1) := by decide +kernel
theorem dX1_begin_8 : decode cX1_begin 8 = .ok (.iconst 0, 1) := by decide +kernel
theorem dX1_begin_9 : decode cX1_begin 9 = .ok (.putfield 55, 3) := by decide +kernel
theorem dX1_begin_12 : decode cX1_begin 12 = .ok (.aload_n 0, 1) := by decide +kernel
theorem dX1_begin_13 : decode cX1_begin 13 = .ok (.iconst 0, 1) := by decide +kernel
theorem dX1_begin_14 : decode cX1_begin 14 = .ok (.putfield 15, 3) := by decide +kernel
theorem dX1_begin_17 : decode cX1_begin 17 = .ok (.aload_n 0, 1) := by decide +kernel
theorem dX1_begin_18 : decode cX1_begin 18 = .ok (.iconst 0, 1) := by decide +kernel
theorem dX1_begin_19 : decode cX1_begin 19 = .ok (.putfield 58, 3) := by decide +kernel
theorem dX1_begin_22 : decode cX1_begin 22 = .ok (.aload_n 0, 1) := by decide +kernel
theorem dX1_begin_23 : decode cX1_begin 23 = .ok (.iconst 0, 1) := by decide +kernel
theorem dX1_begin_24 : decode cX1_begin 24 = .ok (.putfield 62, 3) := by decide +kernel
theorem dX1_begin_27 : decode cX1_begin 27 = .ok (.aload_n 0, 1) := by decide +kernel
theorem dX1_begin_28 : decode cX1_begin 28 = .ok (.iconst 0, 1) := by decide +kernel
theorem dX1_begin_29 : decode cX1_begin 29 = .ok (.putfield 65, 3) := by decide +kernel
theorem dX1_begin_32 : decode cX1_begin 32 = .ok (.return_, 1) := by decide +kernel
theorem dX1_refuseIf_0 : decode cX1_refuseIf 0 = .ok (.iload_n 1, 1) := by decide +kernel
theorem dX1_refuseIf_1 : decode cX1_refuseIf 1 = .ok (.ifCond .eq 15, 3) := by decide +kernel
theorem dX1_refuseIf_4 : decode cX1_refuseIf 4 = .ok (.aload_n 0, 1) := by decide +kernel
theorem dX1_refuseIf_5 : decode cX1_refuseIf 5 = .ok (.getfield 15, 3) := by decide +kernel
theorem dX1_refuseIf_8 : decode cX1_refuseIf 8 = .ok (.ifCond .ne 8, 3) := by decide +kernel
theorem dX1_refuseIf_11 : decode cX1_refuseIf 11 = .ok (.aload_n 0, 1) := by decide +kernel
theorem dX1_refuseIf_12 : decode cX1_refuseIf 12 = .ok (.iload_n 2, 1) := by decide +kernel
theorem dX1_refuseIf_13 : decode cX1_refuseIf 13 = .ok (.putfield 15, 3) := by decide +kernel
theorem dX1_refuseIf_16 : decode cX1_refuseIf 16 = .ok (.return_, 1) := by decide +kernel
theorem dX1_takeLine_0 : decode cX1_takeLine 0 = .ok (.aload_n 0, 1) := by decide +kernel
theorem dX1_takeLine_1 : decode cX1_takeLine 1 = .ok (.iconst 1, 1) := by decide +kernel
theorem dX1_takeLine_2 : decode cX1_takeLine 2 = .ok (.invokevirtual 68, 3) := by decide +kernel
theorem dX1_takeLine_5 : decode cX1_takeLine 5 = .ok (.aload_n 0, 1) := by decide +kernel
theorem dX1_takeLine_6 : decode cX1_takeLine 6 = .ok (.getfield 15, 3) := by decide +kernel
theorem dX1_takeLine_9 : decode cX1_takeLine 9 = .ok (.ifCond .eq 4, 3) := by decide +kernel
theorem dX1_takeLine_12 : decode cX1_takeLine 12 = .ok (.return_, 1) := by decide +kernel
theorem dX1_takeLine_13 : decode cX1_takeLine 13 = .ok (.aload_n 0, 1) := by decide +kernel
theorem dX1_takeLine_14 : decode cX1_takeLine 14 = .ok (.invokevirtual 72, 3) := by decide +kernel
theorem dX1_takeLine_17 : decode cX1_takeLine 17 = .ok (.istore_n 1, 1) := by decide +kernel
theorem dX1_takeLine_18 : decode cX1_takeLine 18 = .ok (.iload_n 1, 1) := by decide +kernel
theorem dX1_takeLine_19 : decode cX1_takeLine 19 = .ok (.tableswitch 97 0 11 #[61, 61, 61, 61, 97, 97, 97, 97, 69, 76, 83, 90], 61) := by decide +kernel
theorem dX1_takeLine_80 : decode cX1_takeLine 80 = .ok (.aload_n 0, 1) := by decide +kernel
theorem dX1_takeLine_81 : decode cX1_takeLine 81 = .ok (.iload_n 1, 1) := by decide +kernel
theorem dX1_takeLine_82 : decode cX1_takeLine 82 = .ok (.invokevirtual 76, 3) := by decide +kernel
theorem dX1_takeLine_85 : decode cX1_takeLine 85 = .ok (.goto 36, 3) := by decide +kernel
theorem dX1_takeLine_88 : decode cX1_takeLine 88 = .ok (.aload_n 0, 1) := by decide +kernel
theorem dX1_takeLine_89 : decode cX1_takeLine 89 = .ok (.invokevirtual 79, 3) := by decide +kernel
theorem dX1_takeLine_92 : decode cX1_takeLine 92 = .ok (.goto 29, 3) := by decide +kernel
theorem dX1_takeLine_95 : decode cX1_takeLine 95 = .ok (.aload_n 0, 1) := by decide +kernel
theorem dX1_takeLine_96 : decode cX1_takeLine 96 = .ok (.invokevirtual 82, 3) := by decide +kernel
theorem dX1_takeLine_99 : decode cX1_takeLine 99 = .ok (.goto 22, 3) := by decide +kernel
theorem dX1_takeLine_102 : decode cX1_takeLine 102 = .ok (.aload_n 0, 1) := by decide +kernel
theorem dX1_takeLine_103 : decode cX1_takeLine 103 = .ok (.invokevirtual 85, 3) := by decide +kernel
theorem dX1_takeLine_106 : decode cX1_takeLine 106 = .ok (.goto 15, 3) := by decide +kernel
theorem dX1_takeLine_109 : decode cX1_takeLine 109 = .ok (.aload_n 0, 1) := by decide +kernel
theorem dX1_takeLine_110 : decode cX1_takeLine 110 = .ok (.invokevirtual 88, 3) := by decide +kernel
theorem dX1_takeLine_113 : decode cX1_takeLine 113 = .ok (.goto 8, 3) := by decide +kernel
theorem dX1_takeLine_116 : decode cX1_takeLine 116 = .ok (.aload_n 0, 1) := by decide +kernel
theorem dX1_takeLine_117 : decode cX1_takeLine 117 = .ok (.iconst 2, 1) := by decide +kernel
theorem dX1_takeLine_118 : decode cX1_takeLine 118 = .ok (.putfield 15, 3) := by decide +kernel
theorem dX1_takeLine_121 : decode cX1_takeLine 121 = .ok (.return_, 1) := by decide +kernel
theorem dX1_takeOne_0 : decode cX1_takeOne 0 = .ok (.aload_n 0, 1) := by decide +kernel
theorem dX1_takeOne_1 : decode cX1_takeOne 1 = .ok (.aload_n 0, 1) := by decide +kernel
theorem dX1_takeOne_2 : decode cX1_takeOne 2 = .ok (.getfield 22, 3) := by decide +kernel
theorem dX1_takeOne_5 : decode cX1_takeOne 5 = .ok (.getfield 91, 3) := by decide +kernel
theorem dX1_takeOne_8 : decode cX1_takeOne 8 = .ok (.iconst 4, 1) := by decide +kernel
theorem dX1_takeOne_9 : decode cX1_takeOne 9 = .ok (.if_icmp .lt 7, 3) := by decide +kernel
theorem dX1_takeOne_12 : decode cX1_takeOne 12 = .ok (.iconst 1, 1) := by decide +kernel
theorem dX1_takeOne_13 : decode cX1_takeOne 13 = .ok (.goto 4, 3) := by decide +kernel
theorem dX1_takeOne_16 : decode cX1_takeOne 16 = .ok (.iconst 0, 1) := by decide +kernel
theorem dX1_takeOne_17 : decode cX1_takeOne 17 = .ok (.iconst 5, 1) := by decide +kernel
theorem dX1_takeOne_18 : decode cX1_takeOne 18 = .ok (.invokevirtual 45, 3) := by decide +kernel
theorem dX1_takeOne_21 : decode cX1_takeOne 21 = .ok (.aload_n 0, 1) := by decide +kernel
theorem dX1_takeOne_22 : decode cX1_takeOne 22 = .ok (.iconst 1, 1) := by decide +kernel
theorem dX1_takeOne_23 : decode cX1_takeOne 23 = .ok (.iconst 5, 1) := by decide +kernel
theorem dX1_takeOne_24 : decode cX1_takeOne 24 = .ok (.invokevirtual 94, 3) := by decide +kernel
theorem dX1_takeOne_27 : decode cX1_takeOne 27 = .ok (.istore_n 2, 1) := by decide +kernel
theorem dX1_takeOne_28 : decode cX1_takeOne 28 = .ok (.aload_n 0, 1) := by decide +kernel
theorem dX1_takeOne_29 : decode cX1_takeOne 29 = .ok (.iconst 0, 1) := by decide +kernel
theorem dX1_takeOne_30 : decode cX1_takeOne 30 = .ok (.bipush 99, 2) := by decide +kernel
theorem dX1_takeOne_32 : decode cX1_takeOne 32 = .ok (.invokevirtual 94, 3) := by decide +kernel
theorem dX1_takeOne_35 : decode cX1_takeOne 35 = .ok (.istore_n 3, 1) := by decide +kernel
theorem dX1_takeOne_36 : decode cX1_takeOne 36 = .ok (.aload_n 0, 1) := by decide +kernel
theorem dX1_takeOne_37 : decode cX1_takeOne 37 = .ok (.invokevirtual 98, 3) := by decide +kernel
theorem dX1_takeOne_40 : decode cX1_takeOne 40 = .ok (.aload_n 0, 1) := by decide +kernel
theorem dX1_takeOne_41 : decode cX1_takeOne 41 = .ok (.getfield 22, 3) := by decide +kernel
theorem dX1_takeOne_44 : decode cX1_takeOne 44 = .ok (.iload_n 1, 1) := by decide +kernel
theorem dX1_takeOne_45 : decode cX1_takeOne 45 = .ok (.iload_n 2, 1) := by decide +kernel
theorem dX1_takeOne_46 : decode cX1_takeOne 46 = .ok (.iload_n 3, 1) := by decide +kernel
theorem dX1_takeOne_47 : decode cX1_takeOne 47 = .ok (.invokevirtual 101, 3) := by decide +kernel
theorem dX1_takeOne_50 : decode cX1_takeOne 50 = .ok (.return_, 1) := by decide +kernel
theorem dX1_takeCover_0 : decode cX1_takeCover 0 = .ok (.aload_n 0, 1) := by decide +kernel
theorem dX1_takeCover_1 : decode cX1_takeCover 1 = .ok (.aload_n 0, 1) := by decide +kernel
theorem dX1_takeCover_2 : decode cX1_takeCover 2 = .ok (.getfield 22, 3) := by decide +kernel
theorem dX1_takeCover_5 : decode cX1_takeCover 5 = .ok (.getfield 105, 3) := by decide +kernel
theorem dX1_takeCover_8 : decode cX1_takeCover 8 = .ok (.iconst 5, 1) := by decide +kernel
theorem dX1_takeCover_9 : decode cX1_takeCover 9 = .ok (.if_icmp .lt 7, 3) := by decide +kernel
theorem dX1_takeCover_12 : decode cX1_takeCover 12 = .ok (.iconst 1, 1) := by decide +kernel
theorem dX1_takeCover_13 : decode cX1_takeCover 13 = .ok (.goto 4, 3) := by decide +kernel
theorem dX1_takeCover_16 : decode cX1_takeCover 16 = .ok (.iconst 0, 1) := by decide +kernel
theorem dX1_takeCover_17 : decode cX1_takeCover 17 = .ok (.iconst 5, 1) := by decide +kernel
theorem dX1_takeCover_18 : decode cX1_takeCover 18 = .ok (.invokevirtual 45, 3) := by decide +kernel
theorem dX1_takeCover_21 : decode cX1_takeCover 21 = .ok (.aload_n 0, 1) := by decide +kernel
theorem dX1_takeCover_22 : decode cX1_takeCover 22 = .ok (.iconst 0, 1) := by decide +kernel
theorem dX1_takeCover_23 : decode cX1_takeCover 23 = .ok (.iconst 3, 1) := by decide +kernel
theorem dX1_takeCover_24 : decode cX1_takeCover 24 = .ok (.invokevirtual 94, 3) := by decide +kernel
theorem dX1_takeCover_27 : decode cX1_takeCover 27 = .ok (.istore_n 1, 1) := by decide +kernel
theorem dX1_takeCover_28 : decode cX1_takeCover 28 = .ok (.aload_n 0, 1) := by decide +kernel
theorem dX1_takeCover_29 : decode cX1_takeCover 29 = .ok (.iconst 0, 1) := by decide +kernel
theorem dX1_takeCover_30 : decode cX1_takeCover 30 = .ok (.iconst 3, 1) := by decide +kernel
theorem dX1_takeCover_31 : decode cX1_takeCover 31 = .ok (.invokevirtual 94, 3) := by decide +kernel
theorem dX1_takeCover_34 : decode cX1_takeCover 34 = .ok (.istore_n 2, 1) := by decide +kernel
theorem dX1_takeCover_35 : decode cX1_takeCover 35 = .ok (.aload_n 0, 1) := by decide +kernel
theorem dX1_takeCover_36 : decode cX1_takeCover 36 = .ok (.iload_n 1, 1) := by decide +kernel
theorem dX1_takeCover_37 : decode cX1_takeCover 37 = .ok (.iload_n 2, 1) := by decide +kernel
theorem dX1_takeCover_38 : decode cX1_takeCover 38 = .ok (.if_icmp .ne 7, 3) := by decide +kernel
theorem dX1_takeCover_41 : decode cX1_takeCover 41 = .ok (.iconst 1, 1) := by decide +kernel
theorem dX1_takeCover_42 : decode cX1_takeCover 42 = .ok (.goto 4, 3) := by decide +kernel
theorem dX1_takeCover_45 : decode cX1_takeCover 45 = .ok (.iconst 0, 1) := by decide +kernel
theorem dX1_takeCover_46 : decode cX1_takeCover 46 = .ok (.iconst 3, 1) := by decide +kernel
theorem dX1_takeCover_47 : decode cX1_takeCover 47 = .ok (.invokevirtual 45, 3) := by decide +kernel
theorem dX1_takeCover_50 : decode cX1_takeCover 50 = .ok (.aload_n 0, 1) := by decide +kernel
theorem dX1_takeCover_51 : decode cX1_takeCover 51 = .ok (.invokevirtual 32, 3) := by decide +kernel
theorem dX1_takeCover_54 : decode cX1_takeCover 54 = .ok (.aload_n 0, 1) := by decide +kernel
theorem dX1_takeCover_55 : decode cX1_takeCover 55 = .ok (.invokevirtual 108, 3) := by decide +kernel
theorem dX1_takeCover_58 : decode cX1_takeCover 58 = .ok (.istore_n 3, 1) := by decide +kernel
theorem dX1_takeCover_59 : decode cX1_takeCover 59 = .ok (.aload_n 0, 1) := by decide +kernel
theorem dX1_takeCover_60 : decode cX1_takeCover 60 = .ok (.iconst 0, 1) := by decide +kernel
theorem dX1_takeCover_61 : decode cX1_takeCover 61 = .ok (.bipush 20, 2) := by decide +kernel
theorem dX1_takeCover_63 : decode cX1_takeCover 63 = .ok (.invokevirtual 94, 3) := by decide +kernel
theorem dX1_takeCover_66 : decode cX1_takeCover 66 = .ok (.istore 4, 2) := by decide +kernel
theorem dX1_takeCover_68 : decode cX1_takeCover 68 = .ok (.aload_n 0, 1) := by decide +kernel
theorem dX1_takeCover_69 : decode cX1_takeCover 69 = .ok (.iconst 0, 1) := by decide +kernel
theorem dX1_takeCover_70 : decode cX1_takeCover 70 = .ok (.bipush 9, 2) := by decide +kernel
theorem dX1_takeCover_72 : decode cX1_takeCover 72 = .ok (.invokevirtual 94, 3) := by decide +kernel
theorem dX1_takeCover_75 : decode cX1_takeCover 75 = .ok (.istore 5, 2) := by decide +kernel
theorem dX1_takeCover_77 : decode cX1_takeCover 77 = .ok (.aload_n 0, 1) := by decide +kernel
theorem dX1_takeCover_78 : decode cX1_takeCover 78 = .ok (.invokevirtual 98, 3) := by decide +kernel
theorem dX1_takeCover_81 : decode cX1_takeCover 81 = .ok (.aload_n 0, 1) := by decide +kernel
theorem dX1_takeCover_82 : decode cX1_takeCover 82 = .ok (.getfield 22, 3) := by decide +kernel
theorem dX1_takeCover_85 : decode cX1_takeCover 85 = .ok (.iload_n 1, 1) := by decide +kernel
theorem dX1_takeCover_86 : decode cX1_takeCover 86 = .ok (.iload_n 2, 1) := by decide +kernel
theorem dX1_takeCover_87 : decode cX1_takeCover 87 = .ok (.iload_n 3, 1) := by decide +kernel
theorem dX1_takeCover_88 : decode cX1_takeCover 88 = .ok (.iload 4, 2) := by decide +kernel
theorem dX1_takeCover_90 : decode cX1_takeCover 90 = .ok (.iload 5, 2) := by decide +kernel
theorem dX1_takeCover_92 : decode cX1_takeCover 92 = .ok (.invokevirtual 111, 3) := by decide +kernel
theorem dX1_takeCover_95 : decode cX1_takeCover 95 = .ok (.return_, 1) := by decide +kernel
theorem dX1_takeOdds_0 : decode cX1_takeOdds 0 = .ok (.aload_n 0, 1) := by decide +kernel
theorem dX1_takeOdds_1 : decode cX1_takeOdds 1 = .ok (.aload_n 0, 1) := by decide +kernel
theorem dX1_takeOdds_2 : decode cX1_takeOdds 2 = .ok (.getfield 58, 3) := by decide +kernel
theorem dX1_takeOdds_5 : decode cX1_takeOdds 5 = .ok (.iconst 4, 1) := by decide +kernel
theorem dX1_takeOdds_6 : decode cX1_takeOdds 6 = .ok (.invokevirtual 45, 3) := by decide +kernel
theorem dX1_takeOdds_9 : decode cX1_takeOdds 9 = .ok (.aload_n 0, 1) := by decide +kernel
theorem dX1_takeOdds_10 : decode cX1_takeOdds 10 = .ok (.iconst 1, 1) := by decide +kernel
theorem dX1_takeOdds_11 : decode cX1_takeOdds 11 = .ok (.putfield 58, 3) := by decide +kernel
theorem dX1_takeOdds_14 : decode cX1_takeOdds 14 = .ok (.bipush 10, 2) := by decide +kernel
theorem dX1_takeOdds_16 : decode cX1_takeOdds 16 = .ok (.istore_n 1, 1) := by decide +kernel
theorem dX1_takeOdds_17 : decode cX1_takeOdds 17 = .ok (.iconst 0, 1) := by decide +kernel
theorem dX1_takeOdds_18 : decode cX1_takeOdds 18 = .ok (.istore_n 2, 1) := by decide +kernel
theorem dX1_takeOdds_19 : decode cX1_takeOdds 19 = .ok (.iload_n 2, 1) := by decide +kernel
theorem dX1_takeOdds_20 : decode cX1_takeOdds 20 = .ok (.iconst 3, 1) := by decide +kernel
theorem dX1_takeOdds_21 : decode cX1_takeOdds 21 = .ok (.if_icmp .ge 36, 3) := by decide +kernel
theorem dX1_takeOdds_24 : decode cX1_takeOdds 24 = .ok (.aload_n 0, 1) := by decide +kernel
theorem dX1_takeOdds_25 : decode cX1_takeOdds 25 = .ok (.getfield 22, 3) := by decide +kernel
theorem dX1_takeOdds_28 : decode cX1_takeOdds 28 = .ok (.getfield 115, 3) := by decide +kernel
theorem dX1_takeOdds_31 : decode cX1_takeOdds 31 = .ok (.iload_n 2, 1) := by decide +kernel
theorem dX1_takeOdds_32 : decode cX1_takeOdds 32 = .ok (.aload_n 0, 1) := by decide +kernel
theorem dX1_takeOdds_33 : decode cX1_takeOdds 33 = .ok (.iconst 0, 1) := by decide +kernel
theorem dX1_takeOdds_34 : decode cX1_takeOdds 34 = .ok (.iload_n 1, 1) := by decide +kernel
theorem dX1_takeOdds_35 : decode cX1_takeOdds 35 = .ok (.invokevirtual 94, 3) := by decide +kernel
theorem dX1_takeOdds_38 : decode cX1_takeOdds 38 = .ok (.iastore, 1) := by decide +kernel
theorem dX1_takeOdds_39 : decode cX1_takeOdds 39 = .ok (.iload_n 1, 1) := by decide +kernel
theorem dX1_takeOdds_40 : decode cX1_takeOdds 40 = .ok (.aload_n 0, 1) := by decide +kernel
theorem dX1_takeOdds_41 : decode cX1_takeOdds 41 = .ok (.getfield 22, 3) := by decide +kernel
theorem dX1_takeOdds_44 : decode cX1_takeOdds 44 = .ok (.getfield 115, 3) := by decide +kernel
theorem dX1_takeOdds_47 : decode cX1_takeOdds 47 = .ok (.iload_n 2, 1) := by decide +kernel
theorem dX1_takeOdds_48 : decode cX1_takeOdds 48 = .ok (.iaload, 1) := by decide +kernel
theorem dX1_takeOdds_49 : decode cX1_takeOdds 49 = .ok (.isub, 1) := by decide +kernel
theorem dX1_takeOdds_50 : decode cX1_takeOdds 50 = .ok (.istore_n 1, 1) := by decide +kernel
theorem dX1_takeOdds_51 : decode cX1_takeOdds 51 = .ok (.iinc 2 1, 3) := by decide +kernel
theorem dX1_takeOdds_54 : decode cX1_takeOdds 54 = .ok (.goto (-35), 3) := by decide +kernel
theorem dX1_takeOdds_57 : decode cX1_takeOdds 57 = .ok (.aload_n 0, 1) := by decide +kernel
theorem dX1_takeOdds_58 : decode cX1_takeOdds 58 = .ok (.getfield 22, 3) := by decide +kernel
theorem dX1_takeOdds_61 : decode cX1_takeOdds 61 = .ok (.getfield 115, 3) := by decide +kernel
theorem dX1_takeOdds_64 : decode cX1_takeOdds 64 = .ok (.iconst 3, 1) := by decide +kernel
theorem dX1_takeOdds_65 : decode cX1_takeOdds 65 = .ok (.aload_n 0, 1) := by decide +kernel
theorem dX1_takeOdds_66 : decode cX1_takeOdds 66 = .ok (.iload_n 1, 1) := by decide +kernel
theorem dX1_takeOdds_67 : decode cX1_takeOdds 67 = .ok (.iload_n 1, 1) := by decide +kernel
theorem dX1_takeOdds_68 : decode cX1_takeOdds 68 = .ok (.invokevirtual 94, 3) := by decide +kernel
theorem dX1_takeOdds_71 : decode cX1_takeOdds 71 = .ok (.iastore, 1) := by decide +kernel
theorem dX1_takeOdds_72 : decode cX1_takeOdds 72 = .ok (.aload_n 0, 1) := by decide +kernel
theorem dX1_takeOdds_73 : decode cX1_takeOdds 73 = .ok (.invokevirtual 98, 3) := by decide +kernel
theorem dX1_takeOdds_76 : decode cX1_takeOdds 76 = .ok (.return_, 1) := by decide +kernel
theorem dX1_takeFloor_0 : decode cX1_takeFloor 0 = .ok (.aload_n 0, 1) := by decide +kernel
theorem dX1_takeFloor_1 : decode cX1_takeFloor 1 = .ok (.aload_n 0, 1) := by decide +kernel
theorem dX1_takeFloor_2 : decode cX1_takeFloor 2 = .ok (.getfield 62, 3) := by decide +kernel
theorem dX1_takeFloor_5 : decode cX1_takeFloor 5 = .ok (.iconst 4, 1) := by decide +kernel
theorem dX1_takeFloor_6 : decode cX1_takeFloor 6 = .ok (.invokevirtual 45, 3) := by decide +kernel
theorem dX1_takeFloor_9 : decode cX1_takeFloor 9 = .ok (.aload_n 0, 1) := by decide +kernel
theorem dX1_takeFloor_10 : decode cX1_takeFloor 10 = .ok (.iconst 1, 1) := by decide +kernel
theorem dX1_takeFloor_11 : decode cX1_takeFloor 11 = .ok (.putfield 62, 3) := by decide +kernel
theorem dX1_takeFloor_14 : decode cX1_takeFloor 14 = .ok (.aload_n 0, 1) := by decide +kernel
theorem dX1_takeFloor_15 : decode cX1_takeFloor 15 = .ok (.getfield 22, 3) := by decide +kernel
theorem dX1_takeFloor_18 : decode cX1_takeFloor 18 = .ok (.aload_n 0, 1) := by decide +kernel
theorem dX1_takeFloor_19 : decode cX1_takeFloor 19 = .ok (.iconst 0, 1) := by decide +kernel
theorem dX1_takeFloor_20 : decode cX1_takeFloor 20 = .ok (.bipush 99, 2) := by decide +kernel
theorem dX1_takeFloor_22 : decode cX1_takeFloor 22 = .ok (.invokevirtual 94, 3) := by decide +kernel
theorem dX1_takeFloor_25 : decode cX1_takeFloor 25 = .ok (.putfield 118, 3) := by decide +kernel
theorem dX1_takeFloor_28 : decode cX1_takeFloor 28 = .ok (.aload_n 0, 1) := by decide +kernel
theorem dX1_takeFloor_29 : decode cX1_takeFloor 29 = .ok (.invokevirtual 98, 3) := by decide +kernel
theorem dX1_takeFloor_32 : decode cX1_takeFloor 32 = .ok (.return_, 1) := by decide +kernel
theorem dX1_takeSky_0 : decode cX1_takeSky 0 = .ok (.aload_n 0, 1) := by decide +kernel
theorem dX1_takeSky_1 : decode cX1_takeSky 1 = .ok (.aload_n 0, 1) := by decide +kernel
theorem dX1_takeSky_2 : decode cX1_takeSky 2 = .ok (.getfield 65, 3) := by decide +kernel
theorem dX1_takeSky_5 : decode cX1_takeSky 5 = .ok (.iconst 4, 1) := by decide +kernel
theorem dX1_takeSky_6 : decode cX1_takeSky 6 = .ok (.invokevirtual 45, 3) := by decide +kernel
theorem dX1_takeSky_9 : decode cX1_takeSky 9 = .ok (.aload_n 0, 1) := by decide +kernel
theorem dX1_takeSky_10 : decode cX1_takeSky 10 = .ok (.iconst 1, 1) := by decide +kernel
theorem dX1_takeSky_11 : decode cX1_takeSky 11 = .ok (.putfield 65, 3) := by decide +kernel
theorem dX1_takeSky_14 : decode cX1_takeSky 14 = .ok (.iconst 0, 1) := by decide +kernel
theorem dX1_takeSky_15 : decode cX1_takeSky 15 = .ok (.istore_n 1, 1) := by decide +kernel
theorem dX1_takeSky_16 : decode cX1_takeSky 16 = .ok (.iload_n 1, 1) := by decide +kernel
theorem dX1_takeSky_17 : decode cX1_takeSky 17 = .ok (.bipush 8, 2) := by decide +kernel
theorem dX1_takeSky_19 : decode cX1_takeSky 19 = .ok (.if_icmp .gt 67, 3) := by decide +kernel
theorem dX1_takeSky_22 : decode cX1_takeSky 22 = .ok (.aload_n 0, 1) := by decide +kernel
theorem dX1_takeSky_23 : decode cX1_takeSky 23 = .ok (.getfield 15, 3) := by decide +kernel
theorem dX1_takeSky_26 : decode cX1_takeSky 26 = .ok (.ifCond .ne 60, 3) := by decide +kernel
theorem dX1_takeSky_29 : decode cX1_takeSky 29 = .ok (.aload_n 0, 1) := by decide +kernel
theorem dX1_takeSky_30 : decode cX1_takeSky 30 = .ok (.invokevirtual 32, 3) := by decide +kernel
theorem dX1_takeSky_33 : decode cX1_takeSky 33 = .ok (.aload_n 0, 1) := by decide +kernel
theorem dX1_takeSky_34 : decode cX1_takeSky 34 = .ok (.getfield 35, 3) := by decide +kernel
theorem dX1_takeSky_37 : decode cX1_takeSky 37 = .ok (.iconst 3, 1) := by decide +kernel
theorem dX1_takeSky_38 : decode cX1_takeSky 38 = .ok (.if_icmp .ne 4, 3) := by decide +kernel
theorem dX1_takeSky_41 : decode cX1_takeSky 41 = .ok (.return_, 1) := by decide +kernel
theorem dX1_takeSky_42 : decode cX1_takeSky 42 = .ok (.aload_n 0, 1) := by decide +kernel
theorem dX1_takeSky_43 : decode cX1_takeSky 43 = .ok (.iconst 1, 1) := by decide +kernel
theorem dX1_takeSky_44 : decode cX1_takeSky 44 = .ok (.invokevirtual 68, 3) := by decide +kernel
theorem dX1_takeSky_47 : decode cX1_takeSky 47 = .ok (.aload_n 0, 1) := by decide +kernel
theorem dX1_takeSky_48 : decode cX1_takeSky 48 = .ok (.aload_n 0, 1) := by decide +kernel
theorem dX1_takeSky_49 : decode cX1_takeSky 49 = .ok (.getfield 22, 3) := by decide +kernel
theorem dX1_takeSky_52 : decode cX1_takeSky 52 = .ok (.getfield 121, 3) := by decide +kernel
theorem dX1_takeSky_55 : decode cX1_takeSky 55 = .ok (.bipush 8, 2) := by decide +kernel
theorem dX1_takeSky_57 : decode cX1_takeSky 57 = .ok (.if_icmp .lt 7, 3) := by decide +kernel
theorem dX1_takeSky_60 : decode cX1_takeSky 60 = .ok (.iconst 1, 1) := by decide +kernel
theorem dX1_takeSky_61 : decode cX1_takeSky 61 = .ok (.goto 4, 3) := by decide +kernel
theorem dX1_takeSky_64 : decode cX1_takeSky 64 = .ok (.iconst 0, 1) := by decide +kernel
theorem dX1_takeSky_65 : decode cX1_takeSky 65 = .ok (.iconst 5, 1) := by decide +kernel
theorem dX1_takeSky_66 : decode cX1_takeSky 66 = .ok (.invokevirtual 45, 3) := by decide +kernel
theorem dX1_takeSky_69 : decode cX1_takeSky 69 = .ok (.aload_n 0, 1) := by decide +kernel
theorem dX1_takeSky_70 : decode cX1_takeSky 70 = .ok (.getfield 22, 3) := by decide +kernel
theorem dX1_takeSky_73 : decode cX1_takeSky 73 = .ok (.aload_n 0, 1) := by decide +kernel
theorem dX1_takeSky_74 : decode cX1_takeSky 74 = .ok (.invokevirtual 108, 3) := by decide +kernel
theorem dX1_takeSky_77 : decode cX1_takeSky 77 = .ok (.invokevirtual 124, 3) := by decide +kernel
theorem dX1_takeSky_80 : decode cX1_takeSky 80 = .ok (.iinc 1 1, 3) := by decide +kernel
theorem dX1_takeSky_83 : decode cX1_takeSky 83 = .ok (.goto (-67), 3) := by decide +kernel
theorem dX1_takeSky_86 : decode cX1_takeSky 86 = .ok (.return_, 1) := by decide +kernel
theorem dX1_takeNumber_0 : decode cX1_takeNumber 0 = .ok (.aload_n 0, 1) := by decide +kernel
theorem dX1_takeNumber_1 : decode cX1_takeNumber 1 = .ok (.invokevirtual 32, 3) := by decide +kernel
theorem dX1_takeNumber_4 : decode cX1_takeNumber 4 = .ok (.aload_n 0, 1) := by decide +kernel
theorem dX1_takeNumber_5 : decode cX1_takeNumber 5 = .ok (.iconst 2, 1) := by decide +kernel
theorem dX1_takeNumber_6 : decode cX1_takeNumber 6 = .ok (.invokevirtual 68, 3) := by decide +kernel
theorem dX1_takeNumber_9 : decode cX1_takeNumber 9 = .ok (.aload_n 0, 1) := by decide +kernel
theorem dX1_takeNumber_10 : decode cX1_takeNumber 10 = .ok (.aload_n 0, 1) := by decide +kernel
theorem dX1_takeNumber_11 : decode cX1_takeNumber 11 = .ok (.getfield 127, 3) := by decide +kernel
theorem dX1_takeNumber_14 : decode cX1_takeNumber 14 = .ok (.iload_n 1, 1) := by decide +kernel
theorem dX1_takeNumber_15 : decode cX1_takeNumber 15 = .ok (.iload_n 2, 1) := by decide +kernel
theorem dX1_takeNumber_16 : decode cX1_takeNumber 16 = .ok (.invokestatic 130, 3) := by decide +kernel
theorem dX1_takeNumber_19 : decode cX1_takeNumber 19 = .ok (.ifCond .ne 7, 3) := by decide +kernel
theorem dX1_takeNumber_22 : decode cX1_takeNumber 22 = .ok (.iconst 1, 1) := by decide +kernel
theorem dX1_takeNumber_23 : decode cX1_takeNumber 23 = .ok (.goto 4, 3) := by decide +kernel
theorem dX1_takeNumber_26 : decode cX1_takeNumber 26 = .ok (.iconst 0, 1) := by decide +kernel
theorem dX1_takeNumber_27 : decode cX1_takeNumber 27 = .ok (.iconst 3, 1) := by decide +kernel
theorem dX1_takeNumber_28 : decode cX1_takeNumber 28 = .ok (.invokevirtual 45, 3) := by decide +kernel
theorem dX1_takeNumber_31 : decode cX1_takeNumber 31 = .ok (.aload_n 0, 1) := by decide +kernel
theorem dX1_takeNumber_32 : decode cX1_takeNumber 32 = .ok (.getfield 15, 3) := by decide +kernel
theorem dX1_takeNumber_35 : decode cX1_takeNumber 35 = .ok (.ifCond .ne 10, 3) := by decide +kernel
theorem dX1_takeNumber_38 : decode cX1_takeNumber 38 = .ok (.aload_n 0, 1) := by decide +kernel
theorem dX1_takeNumber_39 : decode cX1_takeNumber 39 = .ok (.getfield 127, 3) := by decide +kernel
theorem dX1_takeNumber_42 : decode cX1_takeNumber 42 = .ok (.goto 4, 3) := by decide +kernel
theorem dX1_takeNumber_45 : decode cX1_takeNumber 45 = .ok (.iconst 0, 1) := by decide +kernel
theorem dX1_takeNumber_46 : decode cX1_takeNumber 46 = .ok (.ireturn, 1) := by decide +kernel
theorem dX1_takeSemicolon_0 : decode cX1_takeSemicolon 0 = .ok (.aload_n 0, 1) := by decide +kernel
theorem dX1_takeSemicolon_1 : decode cX1_takeSemicolon 1 = .ok (.invokevirtual 32, 3) := by decide +kernel
theorem dX1_takeSemicolon_4 : decode cX1_takeSemicolon 4 = .ok (.aload_n 0, 1) := by decide +kernel
theorem dX1_takeSemicolon_5 : decode cX1_takeSemicolon 5 = .ok (.iconst 3, 1) := by decide +kernel
theorem dX1_takeSemicolon_6 : decode cX1_takeSemicolon 6 = .ok (.invokevirtual 68, 3) := by decide +kernel
theorem dX1_takeSemicolon_9 : decode cX1_takeSemicolon 9 = .ok (.return_, 1) := by decide +kernel
theorem dX1_weatherHere_0 : decode cX1_weatherHere 0 = .ok (.aload_n 0, 1) := by decide +kernel
theorem dX1_weatherHere_1 : decode cX1_weatherHere 1 = .ok (.iconst 1, 1) := by decide +kernel
theorem dX1_weatherHere_2 : decode cX1_weatherHere 2 = .ok (.invokevirtual 68, 3) := by decide +kernel
theorem dX1_weatherHere_5 : decode cX1_weatherHere 5 = .ok (.aload_n 0, 1) := by decide +kernel
theorem dX1_weatherHere_6 : decode cX1_weatherHere 6 = .ok (.getfield 15, 3) := by decide +kernel
theorem dX1_weatherHere_9 : decode cX1_weatherHere 9 = .ok (.ifCond .ne 12, 3) := by decide +kernel
theorem dX1_weatherHere_12 : decode cX1_weatherHere 12 = .ok (.aload_n 0, 1) := by decide +kernel
theorem dX1_weatherHere_13 : decode cX1_weatherHere 13 = .ok (.invokevirtual 72, 3) := by decide +kernel
theorem dX1_weatherHere_16 : decode cX1_weatherHere 16 = .ok (.iconst 4, 1) := by decide +kernel
theorem dX1_weatherHere_17 : decode cX1_weatherHere 17 = .ok (.isub, 1) := by decide +kernel
theorem dX1_weatherHere_18 : decode cX1_weatherHere 18 = .ok (.goto 4, 3) := by decide +kernel
theorem dX1_weatherHere_21 : decode cX1_weatherHere 21 = .ok (.iconst 0, 1) := by decide +kernel
theorem dX1_weatherHere_22 : decode cX1_weatherHere 22 = .ok (.istore_n 1, 1) := by decide +kernel
theorem dX1_weatherHere_23 : decode cX1_weatherHere 23 = .ok (.aload_n 0, 1) := by decide +kernel
theorem dX1_weatherHere_24 : decode cX1_weatherHere 24 = .ok (.iload_n 1, 1) := by decide +kernel
theorem dX1_weatherHere_25 : decode cX1_weatherHere 25 = .ok (.invokestatic 134, 3) := by decide +kernel
theorem dX1_weatherHere_28 : decode cX1_weatherHere 28 = .ok (.ifCond .ne 7, 3) := by decide +kernel
theorem dX1_weatherHere_31 : decode cX1_weatherHere 31 = .ok (.iconst 1, 1) := by decide +kernel
theorem dX1_weatherHere_32 : decode cX1_weatherHere 32 = .ok (.goto 4, 3) := by decide +kernel
theorem dX1_weatherHere_35 : decode cX1_weatherHere 35 = .ok (.iconst 0, 1) := by decide +kernel
theorem dX1_weatherHere_36 : decode cX1_weatherHere 36 = .ok (.iconst 2, 1) := by decide +kernel
theorem dX1_weatherHere_37 : decode cX1_weatherHere 37 = .ok (.invokevirtual 45, 3) := by decide +kernel
theorem dX1_weatherHere_40 : decode cX1_weatherHere 40 = .ok (.aload_n 0, 1) := by decide +kernel
theorem dX1_weatherHere_41 : decode cX1_weatherHere 41 = .ok (.getfield 15, 3) := by decide +kernel
theorem dX1_weatherHere_44 : decode cX1_weatherHere 44 = .ok (.ifCond .ne 7, 3) := by decide +kernel
theorem dX1_weatherHere_47 : decode cX1_weatherHere 47 = .ok (.iload_n 1, 1) := by decide +kernel
theorem dX1_weatherHere_48 : decode cX1_weatherHere 48 = .ok (.goto 4, 3) := by decide +kernel
theorem dX1_weatherHere_51 : decode cX1_weatherHere 51 = .ok (.iconst 0, 1) := by decide +kernel
theorem dX1_weatherHere_52 : decode cX1_weatherHere 52 = .ok (.ireturn, 1) := by decide +kernel
theorem dX1_expect_0 : decode cX1_expect 0 = .ok (.aload_n 0, 1) := by decide +kernel
theorem dX1_expect_1 : decode cX1_expect 1 = .ok (.aload_n 0, 1) := by decide +kernel
theorem dX1_expect_2 : decode cX1_expect 2 = .ok (.getfield 35, 3) := by decide +kernel
theorem dX1_expect_5 : decode cX1_expect 5 = .ok (.iconst 4, 1) := by decide +kernel
theorem dX1_expect_6 : decode cX1_expect 6 = .ok (.if_icmp .ne 7, 3) := by decide +kernel
theorem dX1_expect_9 : decode cX1_expect 9 = .ok (.iconst 1, 1) := by decide +kernel
theorem dX1_expect_10 : decode cX1_expect 10 = .ok (.goto 4, 3) := by decide +kernel
theorem dX1_expect_13 : decode cX1_expect 13 = .ok (.iconst 0, 1) := by decide +kernel
theorem dX1_expect_14 : decode cX1_expect 14 = .ok (.iconst 1, 1) := by decide +kernel
theorem dX1_expect_15 : decode cX1_expect 15 = .ok (.invokevirtual 45, 3) := by decide +kernel
theorem dX1_expect_18 : decode cX1_expect 18 = .ok (.aload_n 0, 1) := by decide +kernel
theorem dX1_expect_19 : decode cX1_expect 19 = .ok (.aload_n 0, 1) := by decide +kernel
theorem dX1_expect_20 : decode cX1_expect 20 = .ok (.getfield 35, 3) := by decide +kernel
theorem dX1_expect_23 : decode cX1_expect 23 = .ok (.iload_n 1, 1) := by decide +kernel
theorem dX1_expect_24 : decode cX1_expect 24 = .ok (.if_icmp .eq 7, 3) := by decide +kernel
theorem dX1_expect_27 : decode cX1_expect 27 = .ok (.iconst 1, 1) := by decide +kernel
theorem dX1_expect_28 : decode cX1_expect 28 = .ok (.goto 4, 3) := by decide +kernel
theorem dX1_expect_31 : decode cX1_expect 31 = .ok (.iconst 0, 1) := by decide +kernel
theorem dX1_expect_32 : decode cX1_expect 32 = .ok (.iconst 2, 1) := by decide +kernel
theorem dX1_expect_33 : decode cX1_expect 33 = .ok (.invokevirtual 45, 3) := by decide +kernel
theorem dX1_expect_36 : decode cX1_expect 36 = .ok (.return_, 1) := by decide +kernel
theorem dX1_namesStranger_0 : decode cX1_namesStranger 0 = .ok (.iconst 0, 1) := by decide +kernel
theorem dX1_namesStranger_1 : decode cX1_namesStranger 1 = .ok (.istore_n 1, 1) := by decide +kernel
theorem dX1_namesStranger_2 : decode cX1_namesStranger 2 = .ok (.iload_n 1, 1) := by decide +kernel
theorem dX1_namesStranger_3 : decode cX1_namesStranger 3 = .ok (.aload_n 0, 1) := by decide +kernel
theorem dX1_namesStranger_4 : decode cX1_namesStranger 4 = .ok (.getfield 22, 3) := by decide +kernel
theorem dX1_namesStranger_7 : decode cX1_namesStranger 7 = .ok (.getfield 105, 3) := by decide +kernel
theorem dX1_namesStranger_10 : decode cX1_namesStranger 10 = .ok (.if_icmp .ge 53, 3) := by decide +kernel
theorem dX1_namesStranger_13 : decode cX1_namesStranger 13 = .ok (.aload_n 0, 1) := by decide +kernel
theorem dX1_namesStranger_14 : decode cX1_namesStranger 14 = .ok (.getfield 22, 3) := by decide +kernel
theorem dX1_namesStranger_17 : decode cX1_namesStranger 17 = .ok (.getfield 138, 3) := by decide +kernel
theorem dX1_namesStranger_20 : decode cX1_namesStranger 20 = .ok (.iconst 0, 1) := by decide +kernel
theorem dX1_namesStranger_21 : decode cX1_namesStranger 21 = .ok (.aaload, 1) := by decide +kernel
theorem dX1_namesStranger_22 : decode cX1_namesStranger 22 = .ok (.iload_n 1, 1) := by decide +kernel
theorem dX1_namesStranger_23 : decode cX1_namesStranger 23 = .ok (.iaload, 1) := by decide +kernel
theorem dX1_namesStranger_24 : decode cX1_namesStranger 24 = .ok (.aload_n 0, 1) := by decide +kernel
theorem dX1_namesStranger_25 : decode cX1_namesStranger 25 = .ok (.getfield 22, 3) := by decide +kernel
theorem dX1_namesStranger_28 : decode cX1_namesStranger 28 = .ok (.getfield 91, 3) := by decide +kernel
theorem dX1_namesStranger_31 : decode cX1_namesStranger 31 = .ok (.if_icmp .ge 24, 3) := by decide +kernel
theorem dX1_namesStranger_34 : decode cX1_namesStranger 34 = .ok (.aload_n 0, 1) := by decide +kernel
theorem dX1_namesStranger_35 : decode cX1_namesStranger 35 = .ok (.getfield 22, 3) := by decide +kernel
theorem dX1_namesStranger_38 : decode cX1_namesStranger 38 = .ok (.getfield 138, 3) := by decide +kernel
theorem dX1_namesStranger_41 : decode cX1_namesStranger 41 = .ok (.iconst 1, 1) := by decide +kernel
theorem dX1_namesStranger_42 : decode cX1_namesStranger 42 = .ok (.aaload, 1) := by decide +kernel
theorem dX1_namesStranger_43 : decode cX1_namesStranger 43 = .ok (.iload_n 1, 1) := by decide +kernel
theorem dX1_namesStranger_44 : decode cX1_namesStranger 44 = .ok (.iaload, 1) := by decide +kernel
theorem dX1_namesStranger_45 : decode cX1_namesStranger 45 = .ok (.aload_n 0, 1) := by decide +kernel
theorem dX1_namesStranger_46 : decode cX1_namesStranger 46 = .ok (.getfield 22, 3) := by decide +kernel
theorem dX1_namesStranger_49 : decode cX1_namesStranger 49 = .ok (.getfield 91, 3) := by decide +kernel
theorem dX1_namesStranger_52 : decode cX1_namesStranger 52 = .ok (.if_icmp .lt 5, 3) := by decide +kernel
theorem dX1_namesStranger_55 : decode cX1_namesStranger 55 = .ok (.iconst 1, 1) := by decide +kernel
theorem dX1_namesStranger_56 : decode cX1_namesStranger 56 = .ok (.ireturn, 1) := by decide +kernel
theorem dX1_namesStranger_57 : decode cX1_namesStranger 57 = .ok (.iinc 1 1, 3) := by decide +kernel
theorem dX1_namesStranger_60 : decode cX1_namesStranger 60 = .ok (.goto (-58), 3) := by decide +kernel
theorem dX1_namesStranger_63 : decode cX1_namesStranger 63 = .ok (.iconst 0, 1) := by decide +kernel
theorem dX1_namesStranger_64 : decode cX1_namesStranger 64 = .ok (.ireturn, 1) := by decide +kernel
theorem dX1_advance_0 : decode cX1_advance 0 = .ok (.aload_n 0, 1) := by decide +kernel
theorem dX1_advance_1 : decode cX1_advance 1 = .ok (.getfield 15, 3) := by decide +kernel
theorem dX1_advance_4 : decode cX1_advance 4 = .ok (.ifCond .eq 4, 3) := by decide +kernel
theorem dX1_advance_7 : decode cX1_advance 7 = .ok (.return_, 1) := by decide +kernel
theorem dX1_advance_8 : decode cX1_advance 8 = .ok (.aload_n 0, 1) := by decide +kernel
theorem dX1_advance_9 : decode cX1_advance 9 = .ok (.getfield 55, 3) := by decide +kernel
theorem dX1_advance_12 : decode cX1_advance 12 = .ok (.aload_n 0, 1) := by decide +kernel
theorem dX1_advance_13 : decode cX1_advance 13 = .ok (.getfield 26, 3) := by decide +kernel
theorem dX1_advance_16 : decode cX1_advance 16 = .ok (.if_icmp .ge 30, 3) := by decide +kernel
theorem dX1_advance_19 : decode cX1_advance 19 = .ok (.aload_n 0, 1) := by decide +kernel
theorem dX1_advance_20 : decode cX1_advance 20 = .ok (.getfield 11, 3) := by decide +kernel
theorem dX1_advance_23 : decode cX1_advance 23 = .ok (.aload_n 0, 1) := by decide +kernel
theorem dX1_advance_24 : decode cX1_advance 24 = .ok (.getfield 55, 3) := by decide +kernel
theorem dX1_advance_27 : decode cX1_advance 27 = .ok (.iaload, 1) := by decide +kernel
theorem dX1_advance_28 : decode cX1_advance 28 = .ok (.bipush 32, 2) := by decide +kernel
theorem dX1_advance_30 : decode cX1_advance 30 = .ok (.if_icmp .ne 16, 3) := by decide +kernel
theorem dX1_advance_33 : decode cX1_advance 33 = .ok (.aload_n 0, 1) := by decide +kernel
theorem dX1_advance_34 : decode cX1_advance 34 = .ok (.dup, 1) := by decide +kernel
theorem dX1_advance_35 : decode cX1_advance 35 = .ok (.getfield 55, 3) := by decide +kernel
theorem dX1_advance_38 : decode cX1_advance 38 = .ok (.iconst 1, 1) := by decide +kernel
theorem dX1_advance_39 : decode cX1_advance 39 = .ok (.iadd, 1) := by decide +kernel
theorem dX1_advance_40 : decode cX1_advance 40 = .ok (.putfield 55, 3) := by decide +kernel
theorem dX1_advance_43 : decode cX1_advance 43 = .ok (.goto (-35), 3) := by decide +kernel
theorem dX1_advance_46 : decode cX1_advance 46 = .ok (.aload_n 0, 1) := by decide +kernel
theorem dX1_advance_47 : decode cX1_advance 47 = .ok (.aload_n 0, 1) := by decide +kernel
theorem dX1_advance_48 : decode cX1_advance 48 = .ok (.getfield 55, 3) := by decide +kernel
theorem dX1_advance_51 : decode cX1_advance 51 = .ok (.putfield 49, 3) := by decide +kernel
theorem dX1_advance_54 : decode cX1_advance 54 = .ok (.aload_n 0, 1) := by decide +kernel
theorem dX1_advance_55 : decode cX1_advance 55 = .ok (.getfield 55, 3) := by decide +kernel
theorem dX1_advance_58 : decode cX1_advance 58 = .ok (.aload_n 0, 1) := by decide +kernel
theorem dX1_advance_59 : decode cX1_advance 59 = .ok (.getfield 26, 3) := by decide +kernel
theorem dX1_advance_62 : decode cX1_advance 62 = .ok (.if_icmp .lt 11, 3) := by decide +kernel
theorem dX1_advance_65 : decode cX1_advance 65 = .ok (.aload_n 0, 1) := by decide +kernel
theorem dX1_advance_66 : decode cX1_advance 66 = .ok (.iconst 0, 1) := by decide +kernel
theorem dX1_advance_67 : decode cX1_advance 67 = .ok (.putfield 35, 3) := by decide +kernel
theorem dX1_advance_70 : decode cX1_advance 70 = .ok (.goto 80, 3) := by decide +kernel
theorem dX1_advance_73 : decode cX1_advance 73 = .ok (.aload_n 0, 1) := by decide +kernel
theorem dX1_advance_74 : decode cX1_advance 74 = .ok (.getfield 11, 3) := by decide +kernel
theorem dX1_advance_77 : decode cX1_advance 77 = .ok (.aload_n 0, 1) := by decide +kernel
theorem dX1_advance_78 : decode cX1_advance 78 = .ok (.getfield 55, 3) := by decide +kernel
theorem dX1_advance_81 : decode cX1_advance 81 = .ok (.iaload, 1) := by decide +kernel
theorem dX1_advance_82 : decode cX1_advance 82 = .ok (.invokestatic 142, 3) := by decide +kernel
theorem dX1_advance_85 : decode cX1_advance 85 = .ok (.ifCond .eq 10, 3) := by decide +kernel
theorem dX1_advance_88 : decode cX1_advance 88 = .ok (.aload_n 0, 1) := by decide +kernel
theorem dX1_advance_89 : decode cX1_advance 89 = .ok (.invokevirtual 145, 3) := by decide +kernel
theorem dX1_advance_92 : decode cX1_advance 92 = .ok (.goto 58, 3) := by decide +kernel
theorem dX1_advance_95 : decode cX1_advance 95 = .ok (.aload_n 0, 1) := by decide +kernel
theorem dX1_advance_96 : decode cX1_advance 96 = .ok (.getfield 11, 3) := by decide +kernel
theorem dX1_advance_99 : decode cX1_advance 99 = .ok (.aload_n 0, 1) := by decide +kernel
theorem dX1_advance_100 : decode cX1_advance 100 = .ok (.getfield 55, 3) := by decide +kernel
theorem dX1_advance_103 : decode cX1_advance 103 = .ok (.iaload, 1) := by decide +kernel
theorem dX1_advance_104 : decode cX1_advance 104 = .ok (.invokestatic 148, 3) := by decide +kernel
theorem dX1_advance_107 : decode cX1_advance 107 = .ok (.ifCond .eq 10, 3) := by decide +kernel
theorem dX1_advance_110 : decode cX1_advance 110 = .ok (.aload_n 0, 1) := by decide +kernel
theorem dX1_advance_111 : decode cX1_advance 111 = .ok (.invokevirtual 151, 3) := by decide +kernel
theorem dX1_advance_114 : decode cX1_advance 114 = .ok (.goto 36, 3) := by decide +kernel
theorem dX1_advance_117 : decode cX1_advance 117 = .ok (.aload_n 0, 1) := by decide +kernel
theorem dX1_advance_118 : decode cX1_advance 118 = .ok (.aload_n 0, 1) := by decide +kernel
theorem dX1_advance_119 : decode cX1_advance 119 = .ok (.getfield 11, 3) := by decide +kernel
theorem dX1_advance_122 : decode cX1_advance 122 = .ok (.aload_n 0, 1) := by decide +kernel
theorem dX1_advance_123 : decode cX1_advance 123 = .ok (.getfield 55, 3) := by decide +kernel
theorem dX1_advance_126 : decode cX1_advance 126 = .ok (.iaload, 1) := by decide +kernel
theorem dX1_advance_127 : decode cX1_advance 127 = .ok (.bipush 59, 2) := by decide +kernel
theorem dX1_advance_129 : decode cX1_advance 129 = .ok (.if_icmp .ne 7, 3) := by decide +kernel
theorem dX1_advance_132 : decode cX1_advance 132 = .ok (.iconst 3, 1) := by decide +kernel
theorem dX1_advance_133 : decode cX1_advance 133 = .ok (.goto 4, 3) := by decide +kernel
theorem dX1_advance_136 : decode cX1_advance 136 = .ok (.iconst 4, 1) := by decide +kernel
theorem dX1_advance_137 : decode cX1_advance 137 = .ok (.putfield 35, 3) := by decide +kernel
theorem dX1_advance_140 : decode cX1_advance 140 = .ok (.aload_n 0, 1) := by decide +kernel
theorem dX1_advance_141 : decode cX1_advance 141 = .ok (.dup, 1) := by decide +kernel
theorem dX1_advance_142 : decode cX1_advance 142 = .ok (.getfield 55, 3) := by decide +kernel
theorem dX1_advance_145 : decode cX1_advance 145 = .ok (.iconst 1, 1) := by decide +kernel
theorem dX1_advance_146 : decode cX1_advance 146 = .ok (.iadd, 1) := by decide +kernel
theorem dX1_advance_147 : decode cX1_advance 147 = .ok (.putfield 55, 3) := by decide +kernel
theorem dX1_advance_150 : decode cX1_advance 150 = .ok (.return_, 1) := by decide +kernel
theorem dX1_readName_0 : decode cX1_readName 0 = .ok (.aload_n 0, 1) := by decide +kernel
theorem dX1_readName_1 : decode cX1_readName 1 = .ok (.getfield 55, 3) := by decide +kernel
theorem dX1_readName_4 : decode cX1_readName 4 = .ok (.aload_n 0, 1) := by decide +kernel
theorem dX1_readName_5 : decode cX1_readName 5 = .ok (.getfield 26, 3) := by decide +kernel
theorem dX1_readName_8 : decode cX1_readName 8 = .ok (.if_icmp .ge 31, 3) := by decide +kernel
theorem dX1_readName_11 : decode cX1_readName 11 = .ok (.aload_n 0, 1) := by decide +kernel
theorem dX1_readName_12 : decode cX1_readName 12 = .ok (.getfield 11, 3) := by decide +kernel
theorem dX1_readName_15 : decode cX1_readName 15 = .ok (.aload_n 0, 1) := by decide +kernel
theorem dX1_readName_16 : decode cX1_readName 16 = .ok (.getfield 55, 3) := by decide +kernel
theorem dX1_readName_19 : decode cX1_readName 19 = .ok (.iaload, 1) := by decide +kernel
theorem dX1_readName_20 : decode cX1_readName 20 = .ok (.invokestatic 142, 3) := by decide +kernel
theorem dX1_readName_23 : decode cX1_readName 23 = .ok (.ifCond .eq 16, 3) := by decide +kernel
theorem dX1_readName_26 : decode cX1_readName 26 = .ok (.aload_n 0, 1) := by decide +kernel
theorem dX1_readName_27 : decode cX1_readName 27 = .ok (.dup, 1) := by decide +kernel
theorem dX1_readName_28 : decode cX1_readName 28 = .ok (.getfield 55, 3) := by decide +kernel
theorem dX1_readName_31 : decode cX1_readName 31 = .ok (.iconst 1, 1) := by decide +kernel
theorem dX1_readName_32 : decode cX1_readName 32 = .ok (.iadd, 1) := by decide +kernel
theorem dX1_readName_33 : decode cX1_readName 33 = .ok (.putfield 55, 3) := by decide +kernel
theorem dX1_readName_36 : decode cX1_readName 36 = .ok (.goto (-36), 3) := by decide +kernel
theorem dX1_readName_39 : decode cX1_readName 39 = .ok (.aload_n 0, 1) := by decide +kernel
theorem dX1_readName_40 : decode cX1_readName 40 = .ok (.iconst 1, 1) := by decide +kernel
theorem dX1_readName_41 : decode cX1_readName 41 = .ok (.putfield 35, 3) := by decide +kernel
theorem dX1_readName_44 : decode cX1_readName 44 = .ok (.return_, 1) := by decide +kernel
theorem dX1_readNumber_0 : decode cX1_readNumber 0 = .ok (.aload_n 0, 1) := by decide +kernel
theorem dX1_readNumber_1 : decode cX1_readNumber 1 = .ok (.iconst 0, 1) := by decide +kernel
theorem dX1_readNumber_2 : decode cX1_readNumber 2 = .ok (.putfield 127, 3) := by decide +kernel
theorem dX1_readNumber_5 : decode cX1_readNumber 5 = .ok (.aload_n 0, 1) := by decide +kernel
theorem dX1_readNumber_6 : decode cX1_readNumber 6 = .ok (.getfield 55, 3) := by decide +kernel
theorem dX1_readNumber_9 : decode cX1_readNumber 9 = .ok (.aload_n 0, 1) := by decide +kernel
theorem dX1_readNumber_10 : decode cX1_readNumber 10 = .ok (.getfield 26, 3) := by decide +kernel
theorem dX1_readNumber_13 : decode cX1_readNumber 13 = .ok (.if_icmp .ge 55, 3) := by decide +kernel
theorem dX1_readNumber_16 : decode cX1_readNumber 16 = .ok (.aload_n 0, 1) := by decide +kernel
theorem dX1_readNumber_17 : decode cX1_readNumber 17 = .ok (.getfield 11, 3) := by decide +kernel
theorem dX1_readNumber_20 : decode cX1_readNumber 20 = .ok (.aload_n 0, 1) := by decide +kernel
theorem dX1_readNumber_21 : decode cX1_readNumber 21 = .ok (.getfield 55, 3) := by decide +kernel
theorem dX1_readNumber_24 : decode cX1_readNumber 24 = .ok (.iaload, 1) := by decide +kernel
theorem dX1_readNumber_25 : decode cX1_readNumber 25 = .ok (.invokestatic 148, 3) := by decide +kernel
theorem dX1_readNumber_28 : decode cX1_readNumber 28 = .ok (.ifCond .eq 40, 3) := by decide +kernel
theorem dX1_readNumber_31 : decode cX1_readNumber 31 = .ok (.aload_n 0, 1) := by decide +kernel
theorem dX1_readNumber_32 : decode cX1_readNumber 32 = .ok (.aload_n 0, 1) := by decide +kernel
theorem dX1_readNumber_33 : decode cX1_readNumber 33 = .ok (.getfield 127, 3) := by decide +kernel
theorem dX1_readNumber_36 : decode cX1_readNumber 36 = .ok (.bipush 10, 2) := by decide +kernel
theorem dX1_readNumber_38 : decode cX1_readNumber 38 = .ok (.imul, 1) := by decide +kernel
theorem dX1_readNumber_39 : decode cX1_readNumber 39 = .ok (.aload_n 0, 1) := by decide +kernel
theorem dX1_readNumber_40 : decode cX1_readNumber 40 = .ok (.getfield 11, 3) := by decide +kernel
theorem dX1_readNumber_43 : decode cX1_readNumber 43 = .ok (.aload_n 0, 1) := by decide +kernel
theorem dX1_readNumber_44 : decode cX1_readNumber 44 = .ok (.getfield 55, 3) := by decide +kernel
theorem dX1_readNumber_47 : decode cX1_readNumber 47 = .ok (.iaload, 1) := by decide +kernel
theorem dX1_readNumber_48 : decode cX1_readNumber 48 = .ok (.iadd, 1) := by decide +kernel
theorem dX1_readNumber_49 : decode cX1_readNumber 49 = .ok (.bipush 48, 2) := by decide +kernel
theorem dX1_readNumber_51 : decode cX1_readNumber 51 = .ok (.isub, 1) := by decide +kernel
theorem dX1_readNumber_52 : decode cX1_readNumber 52 = .ok (.putfield 127, 3) := by decide +kernel
theorem dX1_readNumber_55 : decode cX1_readNumber 55 = .ok (.aload_n 0, 1) := by decide +kernel
theorem dX1_readNumber_56 : decode cX1_readNumber 56 = .ok (.dup, 1) := by decide +kernel
theorem dX1_readNumber_57 : decode cX1_readNumber 57 = .ok (.getfield 55, 3) := by decide +kernel
theorem dX1_readNumber_60 : decode cX1_readNumber 60 = .ok (.iconst 1, 1) := by decide +kernel
theorem dX1_readNumber_61 : decode cX1_readNumber 61 = .ok (.iadd, 1) := by decide +kernel
theorem dX1_readNumber_62 : decode cX1_readNumber 62 = .ok (.putfield 55, 3) := by decide +kernel
theorem dX1_readNumber_65 : decode cX1_readNumber 65 = .ok (.goto (-60), 3) := by decide +kernel
theorem dX1_readNumber_68 : decode cX1_readNumber 68 = .ok (.aload_n 0, 1) := by decide +kernel
theorem dX1_readNumber_69 : decode cX1_readNumber 69 = .ok (.aload_n 0, 1) := by decide +kernel
theorem dX1_readNumber_70 : decode cX1_readNumber 70 = .ok (.getfield 55, 3) := by decide +kernel
theorem dX1_readNumber_73 : decode cX1_readNumber 73 = .ok (.aload_n 0, 1) := by decide +kernel
theorem dX1_readNumber_74 : decode cX1_readNumber 74 = .ok (.getfield 49, 3) := by decide +kernel
theorem dX1_readNumber_77 : decode cX1_readNumber 77 = .ok (.isub, 1) := by decide +kernel
theorem dX1_readNumber_78 : decode cX1_readNumber 78 = .ok (.iconst 2, 1) := by decide +kernel
theorem dX1_readNumber_79 : decode cX1_readNumber 79 = .ok (.if_icmp .gt 7, 3) := by decide +kernel
theorem dX1_readNumber_82 : decode cX1_readNumber 82 = .ok (.iconst 2, 1) := by decide +kernel
theorem dX1_readNumber_83 : decode cX1_readNumber 83 = .ok (.goto 4, 3) := by decide +kernel
theorem dX1_readNumber_86 : decode cX1_readNumber 86 = .ok (.iconst 4, 1) := by decide +kernel
theorem dX1_readNumber_87 : decode cX1_readNumber 87 = .ok (.putfield 35, 3) := by decide +kernel
theorem dX1_readNumber_90 : decode cX1_readNumber 90 = .ok (.return_, 1) := by decide +kernel
theorem dX1_isLetter_0 : decode cX1_isLetter 0 = .ok (.iload_n 0, 1) := by decide +kernel
theorem dX1_isLetter_1 : decode cX1_isLetter 1 = .ok (.bipush 97, 2) := by decide +kernel
theorem dX1_isLetter_3 : decode cX1_isLetter 3 = .ok (.if_icmp .lt 13, 3) := by decide +kernel
theorem dX1_isLetter_6 : decode cX1_isLetter 6 = .ok (.iload_n 0, 1) := by decide +kernel
theorem dX1_isLetter_7 : decode cX1_isLetter 7 = .ok (.bipush 122, 2) := by decide +kernel
theorem dX1_isLetter_9 : decode cX1_isLetter 9 = .ok (.if_icmp .gt 7, 3) := by decide +kernel
theorem dX1_isLetter_12 : decode cX1_isLetter 12 = .ok (.iconst 1, 1) := by decide +kernel
theorem dX1_isLetter_13 : decode cX1_isLetter 13 = .ok (.goto 4, 3) := by decide +kernel
theorem dX1_isLetter_16 : decode cX1_isLetter 16 = .ok (.iconst 0, 1) := by decide +kernel
theorem dX1_isLetter_17 : decode cX1_isLetter 17 = .ok (.ireturn, 1) := by decide +kernel
theorem dX1_isFigure_0 : decode cX1_isFigure 0 = .ok (.iload_n 0, 1) := by decide +kernel
theorem dX1_isFigure_1 : decode cX1_isFigure 1 = .ok (.bipush 48, 2) := by decide +kernel
theorem dX1_isFigure_3 : decode cX1_isFigure 3 = .ok (.if_icmp .lt 13, 3) := by decide +kernel
theorem dX1_isFigure_6 : decode cX1_isFigure 6 = .ok (.iload_n 0, 1) := by decide +kernel
theorem dX1_isFigure_7 : decode cX1_isFigure 7 = .ok (.bipush 57, 2) := by decide +kernel
theorem dX1_isFigure_9 : decode cX1_isFigure 9 = .ok (.if_icmp .gt 7, 3) := by decide +kernel
theorem dX1_isFigure_12 : decode cX1_isFigure 12 = .ok (.iconst 1, 1) := by decide +kernel
theorem dX1_isFigure_13 : decode cX1_isFigure 13 = .ok (.goto 4, 3) := by decide +kernel
theorem dX1_isFigure_16 : decode cX1_isFigure 16 = .ok (.iconst 0, 1) := by decide +kernel
theorem dX1_isFigure_17 : decode cX1_isFigure 17 = .ok (.ireturn, 1) := by decide +kernel
theorem dX1_wordHere_0 : decode cX1_wordHere 0 = .ok (.iconst 0, 1) := by decide +kernel
theorem dX1_wordHere_1 : decode cX1_wordHere 1 = .ok (.istore_n 1, 1) := by decide +kernel
theorem dX1_wordHere_2 : decode cX1_wordHere 2 = .ok (.iload_n 1, 1) := by decide +kernel
theorem dX1_wordHere_3 : decode cX1_wordHere 3 = .ok (.bipush 12, 2) := by decide +kernel
theorem dX1_wordHere_5 : decode cX1_wordHere 5 = .ok (.if_icmp .ge 22, 3) := by decide +kernel
theorem dX1_wordHere_8 : decode cX1_wordHere 8 = .ok (.aload_n 0, 1) := by decide +kernel
theorem dX1_wordHere_9 : decode cX1_wordHere 9 = .ok (.iload_n 1, 1) := by decide +kernel
theorem dX1_wordHere_10 : decode cX1_wordHere 10 = .ok (.invokestatic 154, 3) := by decide +kernel
theorem dX1_wordHere_13 : decode cX1_wordHere 13 = .ok (.invokevirtual 158, 3) := by decide +kernel
theorem dX1_wordHere_16 : decode cX1_wordHere 16 = .ok (.ifCond .eq 5, 3) := by decide +kernel
theorem dX1_wordHere_19 : decode cX1_wordHere 19 = .ok (.iload_n 1, 1) := by decide +kernel
theorem dX1_wordHere_20 : decode cX1_wordHere 20 = .ok (.ireturn, 1) := by decide +kernel
theorem dX1_wordHere_21 : decode cX1_wordHere 21 = .ok (.iinc 1 1, 3) := by decide +kernel
theorem dX1_wordHere_24 : decode cX1_wordHere 24 = .ok (.goto (-22), 3) := by decide +kernel
theorem dX1_wordHere_27 : decode cX1_wordHere 27 = .ok (.iconst (-1), 1) := by decide +kernel
theorem dX1_wordHere_28 : decode cX1_wordHere 28 = .ok (.ireturn, 1) := by decide +kernel
theorem dX1_spells_0 : decode cX1_spells 0 = .ok (.aload_n 1, 1) := by decide +kernel
theorem dX1_spells_1 : decode cX1_spells 1 = .ok (.invokevirtual 162, 3) := by decide +kernel
theorem dX1_spells_4 : decode cX1_spells 4 = .ok (.aload_n 0, 1) := by decide +kernel
theorem dX1_spells_5 : decode cX1_spells 5 = .ok (.getfield 55, 3) := by decide +kernel
theorem dX1_spells_8 : decode cX1_spells 8 = .ok (.aload_n 0, 1) := by decide +kernel
theorem dX1_spells_9 : decode cX1_spells 9 = .ok (.getfield 49, 3) := by decide +kernel
theorem dX1_spells_12 : decode cX1_spells 12 = .ok (.isub, 1) := by decide +kernel
theorem dX1_spells_13 : decode cX1_spells 13 = .ok (.if_icmp .eq 5, 3) := by decide +kernel
theorem dX1_spells_16 : decode cX1_spells 16 = .ok (.iconst 0, 1) := by decide +kernel
theorem dX1_spells_17 : decode cX1_spells 17 = .ok (.ireturn, 1) := by decide +kernel
theorem dX1_spells_18 : decode cX1_spells 18 = .ok (.iconst 0, 1) := by decide +kernel
theorem dX1_spells_19 : decode cX1_spells 19 = .ok (.istore_n 2, 1) := by decide +kernel
theorem dX1_spells_20 : decode cX1_spells 20 = .ok (.iload_n 2, 1) := by decide +kernel
theorem dX1_spells_21 : decode cX1_spells 21 = .ok (.aload_n 1, 1) := by decide +kernel
theorem dX1_spells_22 : decode cX1_spells 22 = .ok (.invokevirtual 162, 3) := by decide +kernel
theorem dX1_spells_25 : decode cX1_spells 25 = .ok (.if_icmp .ge 30, 3) := by decide +kernel
theorem dX1_spells_28 : decode cX1_spells 28 = .ok (.aload_n 1, 1) := by decide +kernel
theorem dX1_spells_29 : decode cX1_spells 29 = .ok (.iload_n 2, 1) := by decide +kernel
theorem dX1_spells_30 : decode cX1_spells 30 = .ok (.invokevirtual 166, 3) := by decide +kernel
theorem dX1_spells_33 : decode cX1_spells 33 = .ok (.aload_n 0, 1) := by decide +kernel
theorem dX1_spells_34 : decode cX1_spells 34 = .ok (.getfield 11, 3) := by decide +kernel
theorem dX1_spells_37 : decode cX1_spells 37 = .ok (.aload_n 0, 1) := by decide +kernel
theorem dX1_spells_38 : decode cX1_spells 38 = .ok (.getfield 49, 3) := by decide +kernel
theorem dX1_spells_41 : decode cX1_spells 41 = .ok (.iload_n 2, 1) := by decide +kernel
theorem dX1_spells_42 : decode cX1_spells 42 = .ok (.iadd, 1) := by decide +kernel
theorem dX1_spells_43 : decode cX1_spells 43 = .ok (.iaload, 1) := by decide +kernel
theorem dX1_spells_44 : decode cX1_spells 44 = .ok (.if_icmp .eq 5, 3) := by decide +kernel
theorem dX1_spells_47 : decode cX1_spells 47 = .ok (.iconst 0, 1) := by decide +kernel
theorem dX1_spells_48 : decode cX1_spells 48 = .ok (.ireturn, 1) := by decide +kernel
theorem dX1_spells_49 : decode cX1_spells 49 = .ok (.iinc 2 1, 3) := by decide +kernel
theorem dX1_spells_52 : decode cX1_spells 52 = .ok (.goto (-32), 3) := by decide +kernel
theorem dX1_spells_55 : decode cX1_spells 55 = .ok (.iconst 1, 1) := by decide +kernel
theorem dX1_spells_56 : decode cX1_spells 56 = .ok (.ireturn, 1) := by decide +kernel
theorem dX1_wordOf_0 : decode cX1_wordOf 0 = .ok (.iload_n 0, 1) := by decide +kernel
theorem dX1_wordOf_1 : decode cX1_wordOf 1 = .ok (.tableswitch 92 0 10 #[59, 62, 65, 68, 71, 74, 77, 80, 83, 86, 89], 59) := by decide +kernel
theorem dX1_wordOf_60 : decode cX1_wordOf 60 = .ok (.ldc 170, 2) := by decide +kernel
theorem dX1_wordOf_62 : decode cX1_wordOf 62 = .ok (.areturn, 1) := by decide +kernel
theorem dX1_wordOf_63 : decode cX1_wordOf 63 = .ok (.ldc 172, 2) := by decide +kernel
theorem dX1_wordOf_65 : decode cX1_wordOf 65 = .ok (.areturn, 1) := by decide +kernel
theorem dX1_wordOf_66 : decode cX1_wordOf 66 = .ok (.ldc 174, 2) := by decide +kernel
theorem dX1_wordOf_68 : decode cX1_wordOf 68 = .ok (.areturn, 1) := by decide +kernel
theorem dX1_wordOf_69 : decode cX1_wordOf 69 = .ok (.ldc 176, 2) := by decide +kernel
theorem dX1_wordOf_71 : decode cX1_wordOf 71 = .ok (.areturn, 1) := by decide +kernel
theorem dX1_wordOf_72 : decode cX1_wordOf 72 = .ok (.ldc 178, 2) := by decide +kernel
theorem dX1_wordOf_74 : decode cX1_wordOf 74 = .ok (.areturn, 1) := by decide +kernel
theorem dX1_wordOf_75 : decode cX1_wordOf 75 = .ok (.ldc 180, 2) := by decide +kernel
theorem dX1_wordOf_77 : decode cX1_wordOf 77 = .ok (.areturn, 1) := by decide +kernel
theorem dX1_wordOf_78 : decode cX1_wordOf 78 = .ok (.ldc 182, 2) := by decide +kernel
theorem dX1_wordOf_80 : decode cX1_wordOf 80 = .ok (.areturn, 1) := by decide +kernel
theorem dX1_wordOf_81 : decode cX1_wordOf 81 = .ok (.ldc 184, 2) := by decide +kernel
theorem dX1_wordOf_83 : decode cX1_wordOf 83 = .ok (.areturn, 1) := by decide +kernel
theorem dX1_wordOf_84 : decode cX1_wordOf 84 = .ok (.ldc 186, 2) := by decide +kernel
theorem dX1_wordOf_86 : decode cX1_wordOf 86 = .ok (.areturn, 1) := by decide +kernel
theorem dX1_wordOf_87 : decode cX1_wordOf 87 = .ok (.ldc 188, 2) := by decide +kernel
theorem dX1_wordOf_89 : decode cX1_wordOf 89 = .ok (.areturn, 1) := by decide +kernel
theorem dX1_wordOf_90 : decode cX1_wordOf 90 = .ok (.ldc 190, 2) := by decide +kernel
theorem dX1_wordOf_92 : decode cX1_wordOf 92 = .ok (.areturn, 1) := by decide +kernel
theorem dX1_wordOf_93 : decode cX1_wordOf 93 = .ok (.ldc 192, 2) := by decide +kernel
theorem dX1_wordOf_95 : decode cX1_wordOf 95 = .ok (.areturn, 1) := by decide +kernel
theorem dJ6_bitCount_0f7a4_0 : decode cJ6_bitCount_0f7a4 0 = .ok (.iload_n 0, 1) := by decide +kernel
theorem dJ6_bitCount_0f7a4_1 : decode cJ6_bitCount_0f7a4 1 = .ok (.iload_n 0, 1) := by decide +kernel
theorem dJ6_bitCount_0f7a4_2 : decode cJ6_bitCount_0f7a4 2 = .ok (.iconst 1, 1) := by decide +kernel
theorem dJ6_bitCount_0f7a4_3 : decode cJ6_bitCount_0f7a4 3 = .ok (.iushr, 1) := by decide +kernel
theorem dJ6_bitCount_0f7a4_4 : decode cJ6_bitCount_0f7a4 4 = .ok (.ldc_w 265, 3) := by decide +kernel
theorem dJ6_bitCount_0f7a4_7 : decode cJ6_bitCount_0f7a4 7 = .ok (.iand, 1) := by decide +kernel
theorem dJ6_bitCount_0f7a4_8 : decode cJ6_bitCount_0f7a4 8 = .ok (.isub, 1) := by decide +kernel
theorem dJ6_bitCount_0f7a4_9 : decode cJ6_bitCount_0f7a4 9 = .ok (.istore_n 0, 1) := by decide +kernel
theorem dJ6_bitCount_0f7a4_10 : decode cJ6_bitCount_0f7a4 10 = .ok (.iload_n 0, 1) := by decide +kernel
theorem dJ6_bitCount_0f7a4_11 : decode cJ6_bitCount_0f7a4 11 = .ok (.ldc_w 266, 3) := by decide +kernel
theorem dJ6_bitCount_0f7a4_14 : decode cJ6_bitCount_0f7a4 14 = .ok (.iand, 1) := by decide +kernel
theorem dJ6_bitCount_0f7a4_15 : decode cJ6_bitCount_0f7a4 15 = .ok (.iload_n 0, 1) := by decide +kernel
theorem dJ6_bitCount_0f7a4_16 : decode cJ6_bitCount_0f7a4 16 = .ok (.iconst 2, 1) := by decide +kernel
theorem dJ6_bitCount_0f7a4_17 : decode cJ6_bitCount_0f7a4 17 = .ok (.iushr, 1) := by decide +kernel
theorem dJ6_bitCount_0f7a4_18 : decode cJ6_bitCount_0f7a4 18 = .ok (.ldc_w 266, 3) := by decide +kernel
theorem dJ6_bitCount_0f7a4_21 : decode cJ6_bitCount_0f7a4 21 = .ok (.iand, 1) := by decide +kernel
theorem dJ6_bitCount_0f7a4_22 : decode cJ6_bitCount_0f7a4 22 = .ok (.iadd, 1) := by decide +kernel
theorem dJ6_bitCount_0f7a4_23 : decode cJ6_bitCount_0f7a4 23 = .ok (.istore_n 0, 1) := by decide +kernel
theorem dJ6_bitCount_0f7a4_24 : decode cJ6_bitCount_0f7a4 24 = .ok (.iload_n 0, 1) := by decide +kernel
theorem dJ6_bitCount_0f7a4_25 : decode cJ6_bitCount_0f7a4 25 = .ok (.iload_n 0, 1) := by decide +kernel
theorem dJ6_bitCount_0f7a4_26 : decode cJ6_bitCount_0f7a4 26 = .ok (.iconst 4, 1) := by decide +kernel
theorem dJ6_bitCount_0f7a4_27 : decode cJ6_bitCount_0f7a4 27 = .ok (.iushr, 1) := by decide +kernel
theorem dJ6_bitCount_0f7a4_28 : decode cJ6_bitCount_0f7a4 28 = .ok (.iadd, 1) := by decide +kernel
theorem dJ6_bitCount_0f7a4_29 : decode cJ6_bitCount_0f7a4 29 = .ok (.ldc_w 267, 3) := by decide +kernel
theorem dJ6_bitCount_0f7a4_32 : decode cJ6_bitCount_0f7a4 32 = .ok (.iand, 1) := by decide +kernel
theorem dJ6_bitCount_0f7a4_33 : decode cJ6_bitCount_0f7a4 33 = .ok (.istore_n 0, 1) := by decide +kernel
theorem dJ6_bitCount_0f7a4_34 : decode cJ6_bitCount_0f7a4 34 = .ok (.iload_n 0, 1) := by decide +kernel
theorem dJ6_bitCount_0f7a4_35 : decode cJ6_bitCount_0f7a4 35 = .ok (.iload_n 0, 1) := by decide +kernel
theorem dJ6_bitCount_0f7a4_36 : decode cJ6_bitCount_0f7a4 36 = .ok (.bipush 8, 2) := by decide +kernel
theorem dJ6_bitCount_0f7a4_38 : decode cJ6_bitCount_0f7a4 38 = .ok (.iushr, 1) := by decide +kernel
theorem dJ6_bitCount_0f7a4_39 : decode cJ6_bitCount_0f7a4 39 = .ok (.iadd, 1) := by decide +kernel
theorem dJ6_bitCount_0f7a4_40 : decode cJ6_bitCount_0f7a4 40 = .ok (.istore_n 0, 1) := by decide +kernel
theorem dJ6_bitCount_0f7a4_41 : decode cJ6_bitCount_0f7a4 41 = .ok (.iload_n 0, 1) := by decide +kernel
theorem dJ6_bitCount_0f7a4_42 : decode cJ6_bitCount_0f7a4 42 = .ok (.iload_n 0, 1) := by decide +kernel
theorem dJ6_bitCount_0f7a4_43 : decode cJ6_bitCount_0f7a4 43 = .ok (.bipush 16, 2) := by decide +kernel
theorem dJ6_bitCount_0f7a4_45 : decode cJ6_bitCount_0f7a4 45 = .ok (.iushr, 1) := by decide +kernel
theorem dJ6_bitCount_0f7a4_46 : decode cJ6_bitCount_0f7a4 46 = .ok (.iadd, 1) := by decide +kernel
theorem dJ6_bitCount_0f7a4_47 : decode cJ6_bitCount_0f7a4 47 = .ok (.istore_n 0, 1) := by decide +kernel
theorem dJ6_bitCount_0f7a4_48 : decode cJ6_bitCount_0f7a4 48 = .ok (.iload_n 0, 1) := by decide +kernel
theorem dJ6_bitCount_0f7a4_49 : decode cJ6_bitCount_0f7a4 49 = .ok (.bipush 63, 2) := by decide +kernel
theorem dJ6_bitCount_0f7a4_51 : decode cJ6_bitCount_0f7a4 51 = .ok (.iand, 1) := by decide +kernel
theorem dJ6_bitCount_0f7a4_52 : decode cJ6_bitCount_0f7a4 52 = .ok (.ireturn, 1) := by decide +kernel
theorem dJ9_max_7cf53_0 : decode cJ9_max_7cf53 0 = .ok (.iload_n 0, 1) := by decide +kernel
theorem dJ9_max_7cf53_1 : decode cJ9_max_7cf53 1 = .ok (.iload_n 1, 1) := by decide +kernel
theorem dJ9_max_7cf53_2 : decode cJ9_max_7cf53 2 = .ok (.if_icmp .lt 7, 3) := by decide +kernel
theorem dJ9_max_7cf53_5 : decode cJ9_max_7cf53 5 = .ok (.iload_n 0, 1) := by decide +kernel
theorem dJ9_max_7cf53_6 : decode cJ9_max_7cf53 6 = .ok (.goto 4, 3) := by decide +kernel
theorem dJ9_max_7cf53_9 : decode cJ9_max_7cf53 9 = .ok (.iload_n 1, 1) := by decide +kernel
theorem dJ9_max_7cf53_10 : decode cJ9_max_7cf53 10 = .ok (.ireturn, 1) := by decide +kernel
theorem dJ9_max_f86c9_0 : decode cJ9_max_f86c9 0 = .ok (.lload_n 0, 1) := by decide +kernel
theorem dJ9_max_f86c9_1 : decode cJ9_max_f86c9 1 = .ok (.lload_n 2, 1) := by decide +kernel
theorem dJ9_max_f86c9_2 : decode cJ9_max_f86c9 2 = .ok (.lcmp, 1) := by decide +kernel
theorem dJ9_max_f86c9_3 : decode cJ9_max_f86c9 3 = .ok (.ifCond .lt 7, 3) := by decide +kernel
theorem dJ9_max_f86c9_6 : decode cJ9_max_f86c9 6 = .ok (.lload_n 0, 1) := by decide +kernel
theorem dJ9_max_f86c9_7 : decode cJ9_max_f86c9 7 = .ok (.goto 4, 3) := by decide +kernel
theorem dJ9_max_f86c9_10 : decode cJ9_max_f86c9 10 = .ok (.lload_n 2, 1) := by decide +kernel
theorem dJ9_max_f86c9_11 : decode cJ9_max_f86c9 11 = .ok (.lreturn, 1) := by decide +kernel
theorem dJ9_min_7cf53_0 : decode cJ9_min_7cf53 0 = .ok (.iload_n 0, 1) := by decide +kernel
theorem dJ9_min_7cf53_1 : decode cJ9_min_7cf53 1 = .ok (.iload_n 1, 1) := by decide +kernel
theorem dJ9_min_7cf53_2 : decode cJ9_min_7cf53 2 = .ok (.if_icmp .gt 7, 3) := by decide +kernel
theorem dJ9_min_7cf53_5 : decode cJ9_min_7cf53 5 = .ok (.iload_n 0, 1) := by decide +kernel
theorem dJ9_min_7cf53_6 : decode cJ9_min_7cf53 6 = .ok (.goto 4, 3) := by decide +kernel
theorem dJ9_min_7cf53_9 : decode cJ9_min_7cf53 9 = .ok (.iload_n 1, 1) := by decide +kernel
theorem dJ9_min_7cf53_10 : decode cJ9_min_7cf53 10 = .ok (.ireturn, 1) := by decide +kernel
theorem dJ0_length_8abf5_0 : decode cJ0_length_8abf5 0 = .ok (.aload_n 0, 1) := by decide +kernel
theorem dJ0_length_8abf5_1 : decode cJ0_length_8abf5 1 = .ok (.getfield 9, 3) := by decide +kernel
theorem dJ0_length_8abf5_4 : decode cJ0_length_8abf5 4 = .ok (.arraylength, 1) := by decide +kernel
theorem dJ0_length_8abf5_5 : decode cJ0_length_8abf5 5 = .ok (.aload_n 0, 1) := by decide +kernel
theorem dJ0_length_8abf5_6 : decode cJ0_length_8abf5 6 = .ok (.invokevirtual 335, 3) := by decide +kernel
theorem dJ0_length_8abf5_9 : decode cJ0_length_8abf5 9 = .ok (.ishr, 1) := by decide +kernel
theorem dJ0_length_8abf5_10 : decode cJ0_length_8abf5 10 = .ok (.ireturn, 1) := by decide +kernel
theorem dJ0_charAt_5068e_0 : decode cJ0_charAt_5068e 0 = .ok (.aload_n 0, 1) := by decide +kernel
theorem dJ0_charAt_5068e_1 : decode cJ0_charAt_5068e 1 = .ok (.invokevirtual 492, 3) := by decide +kernel
theorem dJ0_charAt_5068e_4 : decode cJ0_charAt_5068e 4 = .ok (.ifCond .eq 12, 3) := by decide +kernel
theorem dJ0_charAt_5068e_7 : decode cJ0_charAt_5068e 7 = .ok (.aload_n 0, 1) := by decide +kernel
theorem dJ0_charAt_5068e_8 : decode cJ0_charAt_5068e 8 = .ok (.getfield 9, 3) := by decide +kernel
theorem dJ0_charAt_5068e_11 : decode cJ0_charAt_5068e 11 = .ok (.iload_n 1, 1) := by decide +kernel
theorem dJ0_charAt_5068e_12 : decode cJ0_charAt_5068e 12 = .ok (.invokestatic 495, 3) := by decide +kernel
theorem dJ0_charAt_5068e_15 : decode cJ0_charAt_5068e 15 = .ok (.ireturn, 1) := by decide +kernel
theorem dJ0_charAt_5068e_16 : decode cJ0_charAt_5068e 16 = .ok (.aload_n 0, 1) := by decide +kernel
theorem dJ0_charAt_5068e_17 : decode cJ0_charAt_5068e 17 = .ok (.getfield 9, 3) := by decide +kernel
theorem dJ0_charAt_5068e_20 : decode cJ0_charAt_5068e 20 = .ok (.iload_n 1, 1) := by decide +kernel
theorem dJ0_charAt_5068e_21 : decode cJ0_charAt_5068e 21 = .ok (.invokestatic 498, 3) := by decide +kernel
theorem dJ0_charAt_5068e_24 : decode cJ0_charAt_5068e 24 = .ok (.ireturn, 1) := by decide +kernel
theorem dJ0_coder_7d493_0 : decode cJ0_coder_7d493 0 = .ok (.getstatic 38, 3) := by decide +kernel
theorem dJ0_coder_7d493_3 : decode cJ0_coder_7d493 3 = .ok (.ifCond .eq 10, 3) := by decide +kernel
theorem dJ0_coder_7d493_6 : decode cJ0_coder_7d493 6 = .ok (.aload_n 0, 1) := by decide +kernel
theorem dJ0_coder_7d493_7 : decode cJ0_coder_7d493 7 = .ok (.getfield 15, 3) := by decide +kernel
theorem dJ0_coder_7d493_10 : decode cJ0_coder_7d493 10 = .ok (.goto 4, 3) := by decide +kernel
theorem dJ0_coder_7d493_13 : decode cJ0_coder_7d493 13 = .ok (.iconst 1, 1) := by decide +kernel
theorem dJ0_coder_7d493_14 : decode cJ0_coder_7d493 14 = .ok (.ireturn, 1) := by decide +kernel
theorem dJ0_isLatin1_aae02_0 : decode cJ0_isLatin1_aae02 0 = .ok (.getstatic 38, 3) := by decide +kernel
theorem dJ0_isLatin1_aae02_3 : decode cJ0_isLatin1_aae02 3 = .ok (.ifCond .eq 14, 3) := by decide +kernel
theorem dJ0_isLatin1_aae02_6 : decode cJ0_isLatin1_aae02 6 = .ok (.aload_n 0, 1) := by decide +kernel
theorem dJ0_isLatin1_aae02_7 : decode cJ0_isLatin1_aae02 7 = .ok (.getfield 15, 3) := by decide +kernel
theorem dJ0_isLatin1_aae02_10 : decode cJ0_isLatin1_aae02 10 = .ok (.ifCond .ne 7, 3) := by decide +kernel
theorem dJ0_isLatin1_aae02_13 : decode cJ0_isLatin1_aae02 13 = .ok (.iconst 1, 1) := by decide +kernel
theorem dJ0_isLatin1_aae02_14 : decode cJ0_isLatin1_aae02 14 = .ok (.goto 4, 3) := by decide +kernel
theorem dJ0_isLatin1_aae02_17 : decode cJ0_isLatin1_aae02 17 = .ok (.iconst 0, 1) := by decide +kernel
theorem dJ0_isLatin1_aae02_18 : decode cJ0_isLatin1_aae02 18 = .ok (.ireturn, 1) := by decide +kernel
theorem dJ0_checkIndex_df160_0 : decode cJ0_checkIndex_df160 0 = .ok (.iload_n 0, 1) := by decide +kernel
theorem dJ0_checkIndex_df160_1 : decode cJ0_checkIndex_df160 1 = .ok (.iload_n 1, 1) := by decide +kernel
theorem dJ0_checkIndex_df160_2 : decode cJ0_checkIndex_df160 2 = .ok (.getstatic 1053, 3) := by decide +kernel
theorem dJ0_checkIndex_df160_5 : decode cJ0_checkIndex_df160 5 = .ok (.invokestatic 1059, 3) := by decide +kernel
theorem dJ0_checkIndex_df160_8 : decode cJ0_checkIndex_df160 8 = .ok (.pop, 1) := by decide +kernel
theorem dJ0_checkIndex_df160_9 : decode cJ0_checkIndex_df160 9 = .ok (.return_, 1) := by decide +kernel
theorem dJ1_charAt_3b067_0 : decode cJ1_charAt_3b067 0 = .ok (.iload_n 1, 1) := by decide +kernel
theorem dJ1_charAt_3b067_1 : decode cJ1_charAt_3b067 1 = .ok (.aload_n 0, 1) := by decide +kernel
theorem dJ1_charAt_3b067_2 : decode cJ1_charAt_3b067 2 = .ok (.arraylength, 1) := by decide +kernel
theorem dJ1_charAt_3b067_3 : decode cJ1_charAt_3b067 3 = .ok (.invokestatic 9, 3) := by decide +kernel
theorem dJ1_charAt_3b067_6 : decode cJ1_charAt_3b067 6 = .ok (.aload_n 0, 1) := by decide +kernel
theorem dJ1_charAt_3b067_7 : decode cJ1_charAt_3b067 7 = .ok (.iload_n 1, 1) := by decide +kernel
theorem dJ1_charAt_3b067_8 : decode cJ1_charAt_3b067 8 = .ok (.baload, 1) := by decide +kernel
theorem dJ1_charAt_3b067_9 : decode cJ1_charAt_3b067 9 = .ok (.sipush 255, 3) := by decide +kernel
theorem dJ1_charAt_3b067_12 : decode cJ1_charAt_3b067 12 = .ok (.iand, 1) := by decide +kernel
theorem dJ1_charAt_3b067_13 : decode cJ1_charAt_3b067 13 = .ok (.i2c, 1) := by decide +kernel
theorem dJ1_charAt_3b067_14 : decode cJ1_charAt_3b067 14 = .ok (.ireturn, 1) := by decide +kernel
theorem dJ2_getChar_3b067_0 : decode cJ2_getChar_3b067 0 = .ok (.getstatic 44, 3) := by decide +kernel
theorem dJ2_getChar_3b067_3 : decode cJ2_getChar_3b067 3 = .ok (.ifCond .ne 25, 3) := by decide +kernel
theorem dJ2_getChar_3b067_6 : decode cJ2_getChar_3b067 6 = .ok (.iload_n 1, 1) := by decide +kernel
theorem dJ2_getChar_3b067_7 : decode cJ2_getChar_3b067 7 = .ok (.ifCond .lt 11, 3) := by decide +kernel
theorem dJ2_getChar_3b067_10 : decode cJ2_getChar_3b067 10 = .ok (.iload_n 1, 1) := by decide +kernel
theorem dJ2_getChar_3b067_11 : decode cJ2_getChar_3b067 11 = .ok (.aload_n 0, 1) := by decide +kernel
theorem dJ2_getChar_3b067_12 : decode cJ2_getChar_3b067 12 = .ok (.invokestatic 48, 3) := by decide +kernel
theorem dJ2_getChar_3b067_15 : decode cJ2_getChar_3b067 15 = .ok (.if_icmp .lt 13, 3) := by decide +kernel
theorem dJ2_getChar_3b067_18 : decode cJ2_getChar_3b067 18 = .ok (.new 52, 3) := by decide +kernel
theorem dJ2_getChar_3b067_21 : decode cJ2_getChar_3b067 21 = .ok (.dup, 1) := by decide +kernel
theorem dJ2_getChar_3b067_22 : decode cJ2_getChar_3b067 22 = .ok (.ldc 54, 2) := by decide +kernel
theorem dJ2_getChar_3b067_24 : decode cJ2_getChar_3b067 24 = .ok (.invokespecial 56, 3) := by decide +kernel
theorem dJ2_getChar_3b067_27 : decode cJ2_getChar_3b067 27 = .ok (.athrow, 1) := by decide +kernel
theorem dJ2_getChar_3b067_28 : decode cJ2_getChar_3b067 28 = .ok (.iload_n 1, 1) := by decide +kernel
theorem dJ2_getChar_3b067_29 : decode cJ2_getChar_3b067 29 = .ok (.iconst 1, 1) := by decide +kernel
theorem dJ2_getChar_3b067_30 : decode cJ2_getChar_3b067 30 = .ok (.ishl, 1) := by decide +kernel
theorem dJ2_getChar_3b067_31 : decode cJ2_getChar_3b067 31 = .ok (.istore_n 1, 1) := by decide +kernel
theorem dJ2_getChar_3b067_32 : decode cJ2_getChar_3b067 32 = .ok (.aload_n 0, 1) := by decide +kernel
theorem dJ2_getChar_3b067_33 : decode cJ2_getChar_3b067 33 = .ok (.iload_n 1, 1) := by decide +kernel
theorem dJ2_getChar_3b067_34 : decode cJ2_getChar_3b067 34 = .ok (.iinc 1 1, 3) := by decide +kernel
theorem dJ2_getChar_3b067_37 : decode cJ2_getChar_3b067 37 = .ok (.baload, 1) := by decide +kernel
theorem dJ2_getChar_3b067_38 : decode cJ2_getChar_3b067 38 = .ok (.sipush 255, 3) := by decide +kernel
theorem dJ2_getChar_3b067_41 : decode cJ2_getChar_3b067 41 = .ok (.iand, 1) := by decide +kernel
theorem dJ2_getChar_3b067_42 : decode cJ2_getChar_3b067 42 = .ok (.getstatic 59, 3) := by decide +kernel
theorem dJ2_getChar_3b067_45 : decode cJ2_getChar_3b067 45 = .ok (.ishl, 1) := by decide +kernel
theorem dJ2_getChar_3b067_46 : decode cJ2_getChar_3b067 46 = .ok (.aload_n 0, 1) := by decide +kernel
theorem dJ2_getChar_3b067_47 : decode cJ2_getChar_3b067 47 = .ok (.iload_n 1, 1) := by decide +kernel
theorem dJ2_getChar_3b067_48 : decode cJ2_getChar_3b067 48 = .ok (.baload, 1) := by decide +kernel
theorem dJ2_getChar_3b067_49 : decode cJ2_getChar_3b067 49 = .ok (.sipush 255, 3) := by decide +kernel
theorem dJ2_getChar_3b067_52 : decode cJ2_getChar_3b067 52 = .ok (.iand, 1) := by decide +kernel
theorem dJ2_getChar_3b067_53 : decode cJ2_getChar_3b067 53 = .ok (.getstatic 63, 3) := by decide +kernel
theorem dJ2_getChar_3b067_56 : decode cJ2_getChar_3b067 56 = .ok (.ishl, 1) := by decide +kernel
theorem dJ2_getChar_3b067_57 : decode cJ2_getChar_3b067 57 = .ok (.ior, 1) := by decide +kernel
theorem dJ2_getChar_3b067_58 : decode cJ2_getChar_3b067 58 = .ok (.i2c, 1) := by decide +kernel
theorem dJ2_getChar_3b067_59 : decode cJ2_getChar_3b067 59 = .ok (.ireturn, 1) := by decide +kernel
theorem dJ2_length_9d52b_0 : decode cJ2_length_9d52b 0 = .ok (.aload_n 0, 1) := by decide +kernel
theorem dJ2_length_9d52b_1 : decode cJ2_length_9d52b 1 = .ok (.arraylength, 1) := by decide +kernel
theorem dJ2_length_9d52b_2 : decode cJ2_length_9d52b 2 = .ok (.iconst 1, 1) := by decide +kernel
theorem dJ2_length_9d52b_3 : decode cJ2_length_9d52b 3 = .ok (.ishr, 1) := by decide +kernel
theorem dJ2_length_9d52b_4 : decode cJ2_length_9d52b 4 = .ok (.ireturn, 1) := by decide +kernel
theorem dJ2_charAt_3b067_0 : decode cJ2_charAt_3b067 0 = .ok (.iload_n 1, 1) := by decide +kernel
theorem dJ2_charAt_3b067_1 : decode cJ2_charAt_3b067 1 = .ok (.aload_n 0, 1) := by decide +kernel
theorem dJ2_charAt_3b067_2 : decode cJ2_charAt_3b067 2 = .ok (.invokestatic 67, 3) := by decide +kernel
theorem dJ2_charAt_3b067_5 : decode cJ2_charAt_3b067 5 = .ok (.aload_n 0, 1) := by decide +kernel
theorem dJ2_charAt_3b067_6 : decode cJ2_charAt_3b067 6 = .ok (.iload_n 1, 1) := by decide +kernel
theorem dJ2_charAt_3b067_7 : decode cJ2_charAt_3b067 7 = .ok (.invokestatic 71, 3) := by decide +kernel
theorem dJ2_charAt_3b067_10 : decode cJ2_charAt_3b067 10 = .ok (.ireturn, 1) := by decide +kernel
theorem dJ2_checkIndex_2214a_0 : decode cJ2_checkIndex_2214a 0 = .ok (.iload_n 0, 1) := by decide +kernel
theorem dJ2_checkIndex_2214a_1 : decode cJ2_checkIndex_2214a 1 = .ok (.aload_n 1, 1) := by decide +kernel
theorem dJ2_checkIndex_2214a_2 : decode cJ2_checkIndex_2214a 2 = .ok (.invokestatic 48, 3) := by decide +kernel
theorem dJ2_checkIndex_2214a_5 : decode cJ2_checkIndex_2214a 5 = .ok (.invokestatic 414, 3) := by decide +kernel
theorem dJ2_checkIndex_2214a_8 : decode cJ2_checkIndex_2214a 8 = .ok (.return_, 1) := by decide +kernel
theorem dJ3_checkIndex_8e157_0 : decode cJ3_checkIndex_8e157 0 = .ok (.iload_n 0, 1) := by decide +kernel
theorem dJ3_checkIndex_8e157_1 : decode cJ3_checkIndex_8e157 1 = .ok (.ifCond .lt 8, 3) := by decide +kernel
theorem dJ3_checkIndex_8e157_4 : decode cJ3_checkIndex_8e157 4 = .ok (.iload_n 0, 1) := by decide +kernel
theorem dJ3_checkIndex_8e157_5 : decode cJ3_checkIndex_8e157 5 = .ok (.iload_n 1, 1) := by decide +kernel
theorem dJ3_checkIndex_8e157_6 : decode cJ3_checkIndex_8e157 6 = .ok (.if_icmp .lt 10, 3) := by decide +kernel
theorem dJ3_checkIndex_8e157_9 : decode cJ3_checkIndex_8e157 9 = .ok (.aload_n 2, 1) := by decide +kernel
theorem dJ3_checkIndex_8e157_10 : decode cJ3_checkIndex_8e157 10 = .ok (.iload_n 0, 1) := by decide +kernel
theorem dJ3_checkIndex_8e157_11 : decode cJ3_checkIndex_8e157 11 = .ok (.iload_n 1, 1) := by decide +kernel
theorem dJ3_checkIndex_8e157_12 : decode cJ3_checkIndex_8e157 12 = .ok (.invokestatic 95, 3) := by decide +kernel
theorem dJ3_checkIndex_8e157_15 : decode cJ3_checkIndex_8e157 15 = .ok (.athrow, 1) := by decide +kernel
theorem dJ3_checkIndex_8e157_16 : decode cJ3_checkIndex_8e157 16 = .ok (.iload_n 0, 1) := by decide +kernel
theorem dJ3_checkIndex_8e157_17 : decode cJ3_checkIndex_8e157 17 = .ok (.ireturn, 1) := by decide +kernel
