theorem dX5_init_0 : decode cX5_init 0 = .ok (.aload_n 0, 1) := by decide +kernel
theorem dX5_init_1 : decode cX5_init 1 = .ok (.invokespecial 1, 3) := by decide +kernel
theorem dX5_init_4 : decode cX5_init 4 = .ok (.aload_n 0, 1) := by decide +kernel
theorem dX5_init_5 : decode cX5_init 5 = .ok (.new 7, 3) := by decide +kernel
theorem dX5_init_8 : decode cX5_init 8 = .ok (.dup, 1) := by decide +kernel
theorem dX5_init_9 : decode cX5_init 9 = .ok (.invokespecial 9, 3) := by decide +kernel
theorem dX5_init_12 : decode cX5_init 12 = .ok (.putfield 10, 3) := by decide +kernel
theorem dX5_init_15 : decode cX5_init 15 = .ok (.aload_n 0, 1) := by decide +kernel
theorem dX5_init_16 : decode cX5_init 16 = .ok (.new 7, 3) := by decide +kernel
theorem dX5_init_19 : decode cX5_init 19 = .ok (.dup, 1) := by decide +kernel
theorem dX5_init_20 : decode cX5_init 20 = .ok (.invokespecial 9, 3) := by decide +kernel
theorem dX5_init_23 : decode cX5_init 23 = .ok (.putfield 16, 3) := by decide +kernel
theorem dX5_init_26 : decode cX5_init 26 = .ok (.aload_n 0, 1) := by decide +kernel
theorem dX5_init_27 : decode cX5_init 27 = .ok (.iconst 2, 1) := by decide +kernel
theorem dX5_init_28 : decode cX5_init 28 = .ok (.anewarray 7, 3) := by decide +kernel
theorem dX5_init_31 : decode cX5_init 31 = .ok (.putfield 19, 3) := by decide +kernel
theorem dX5_init_34 : decode cX5_init 34 = .ok (.aload_n 0, 1) := by decide +kernel
theorem dX5_init_35 : decode cX5_init 35 = .ok (.iconst 2, 1) := by decide +kernel
theorem dX5_init_36 : decode cX5_init 36 = .ok (.newarray .boolean, 2) := by decide +kernel
theorem dX5_init_38 : decode cX5_init 38 = .ok (.putfield 23, 3) := by decide +kernel
theorem dX5_init_41 : decode cX5_init 41 = .ok (.aload_n 0, 1) := by decide +kernel
theorem dX5_init_42 : decode cX5_init 42 = .ok (.new 27, 3) := by decide +kernel
theorem dX5_init_45 : decode cX5_init 45 = .ok (.dup, 1) := by decide +kernel
theorem dX5_init_46 : decode cX5_init 46 = .ok (.invokespecial 29, 3) := by decide +kernel
theorem dX5_init_49 : decode cX5_init 49 = .ok (.putfield 30, 3) := by decide +kernel
theorem dX5_init_52 : decode cX5_init 52 = .ok (.aload_n 0, 1) := by decide +kernel
theorem dX5_init_53 : decode cX5_init 53 = .ok (.new 34, 3) := by decide +kernel
theorem dX5_init_56 : decode cX5_init 56 = .ok (.dup, 1) := by decide +kernel
theorem dX5_init_57 : decode cX5_init 57 = .ok (.invokespecial 36, 3) := by decide +kernel
theorem dX5_init_60 : decode cX5_init 60 = .ok (.putfield 37, 3) := by decide +kernel
theorem dX5_init_63 : decode cX5_init 63 = .ok (.aload_n 0, 1) := by decide +kernel
theorem dX5_init_64 : decode cX5_init 64 = .ok (.new 41, 3) := by decide +kernel
theorem dX5_init_67 : decode cX5_init 67 = .ok (.dup, 1) := by decide +kernel
theorem dX5_init_68 : decode cX5_init 68 = .ok (.invokespecial 43, 3) := by decide +kernel
theorem dX5_init_71 : decode cX5_init 71 = .ok (.putfield 44, 3) := by decide +kernel
theorem dX5_init_74 : decode cX5_init 74 = .ok (.aload_n 0, 1) := by decide +kernel
theorem dX5_init_75 : decode cX5_init 75 = .ok (.iconst 4, 1) := by decide +kernel
theorem dX5_init_76 : decode cX5_init 76 = .ok (.anewarray 48, 3) := by decide +kernel
theorem dX5_init_79 : decode cX5_init 79 = .ok (.putfield 50, 3) := by decide +kernel
theorem dX5_init_82 : decode cX5_init 82 = .ok (.aload_n 0, 1) := by decide +kernel
theorem dX5_init_83 : decode cX5_init 83 = .ok (.bipush 16, 2) := by decide +kernel
theorem dX5_init_85 : decode cX5_init 85 = .ok (.newarray .int, 2) := by decide +kernel
theorem dX5_init_87 : decode cX5_init 87 = .ok (.putfield 54, 3) := by decide +kernel
theorem dX5_init_90 : decode cX5_init 90 = .ok (.aload_n 0, 1) := by decide +kernel
theorem dX5_init_91 : decode cX5_init 91 = .ok (.iconst 0, 1) := by decide +kernel
theorem dX5_init_92 : decode cX5_init 92 = .ok (.putfield 58, 3) := by decide +kernel
theorem dX5_init_95 : decode cX5_init 95 = .ok (.iconst 0, 1) := by decide +kernel
theorem dX5_init_96 : decode cX5_init 96 = .ok (.istore_n 1, 1) := by decide +kernel
theorem dX5_init_97 : decode cX5_init 97 = .ok (.iload_n 1, 1) := by decide +kernel
theorem dX5_init_98 : decode cX5_init 98 = .ok (.iconst 2, 1) := by decide +kernel
theorem dX5_init_99 : decode cX5_init 99 = .ok (.if_icmp .ge 22, 3) := by decide +kernel
theorem dX5_init_102 : decode cX5_init 102 = .ok (.aload_n 0, 1) := by decide +kernel
theorem dX5_init_103 : decode cX5_init 103 = .ok (.getfield 19, 3) := by decide +kernel
theorem dX5_init_106 : decode cX5_init 106 = .ok (.iload_n 1, 1) := by decide +kernel
theorem dX5_init_107 : decode cX5_init 107 = .ok (.new 7, 3) := by decide +kernel
theorem dX5_init_110 : decode cX5_init 110 = .ok (.dup, 1) := by decide +kernel
theorem dX5_init_111 : decode cX5_init 111 = .ok (.invokespecial 9, 3) := by decide +kernel
theorem dX5_init_114 : decode cX5_init 114 = .ok (.aastore, 1) := by decide +kernel
theorem dX5_init_115 : decode cX5_init 115 = .ok (.iinc 1 1, 3) := by decide +kernel
theorem dX5_init_118 : decode cX5_init 118 = .ok (.goto (-21), 3) := by decide +kernel
theorem dX5_init_121 : decode cX5_init 121 = .ok (.iconst 0, 1) := by decide +kernel
theorem dX5_init_122 : decode cX5_init 122 = .ok (.istore_n 1, 1) := by decide +kernel
theorem dX5_init_123 : decode cX5_init 123 = .ok (.iload_n 1, 1) := by decide +kernel
theorem dX5_init_124 : decode cX5_init 124 = .ok (.iconst 4, 1) := by decide +kernel
theorem dX5_init_125 : decode cX5_init 125 = .ok (.if_icmp .ge 22, 3) := by decide +kernel
theorem dX5_init_128 : decode cX5_init 128 = .ok (.aload_n 0, 1) := by decide +kernel
theorem dX5_init_129 : decode cX5_init 129 = .ok (.getfield 50, 3) := by decide +kernel
theorem dX5_init_132 : decode cX5_init 132 = .ok (.iload_n 1, 1) := by decide +kernel
theorem dX5_init_133 : decode cX5_init 133 = .ok (.new 48, 3) := by decide +kernel
theorem dX5_init_136 : decode cX5_init 136 = .ok (.dup, 1) := by decide +kernel
theorem dX5_init_137 : decode cX5_init 137 = .ok (.invokespecial 62, 3) := by decide +kernel
theorem dX5_init_140 : decode cX5_init 140 = .ok (.aastore, 1) := by decide +kernel
theorem dX5_init_141 : decode cX5_init 141 = .ok (.iinc 1 1, 3) := by decide +kernel
theorem dX5_init_144 : decode cX5_init 144 = .ok (.goto (-21), 3) := by decide +kernel
theorem dX5_init_147 : decode cX5_init 147 = .ok (.return_, 1) := by decide +kernel
theorem dX5_feed_0 : decode cX5_feed 0 = .ok (.iload_n 1, 1) := by decide +kernel
theorem dX5_feed_1 : decode cX5_feed 1 = .ok (.iconst 0, 1) := by decide +kernel
theorem dX5_feed_2 : decode cX5_feed 2 = .ok (.bipush 127, 2) := by decide +kernel
theorem dX5_feed_4 : decode cX5_feed 4 = .ok (.invokestatic 63, 3) := by decide +kernel
theorem dX5_feed_7 : decode cX5_feed 7 = .ok (.ifCond .ne 5, 3) := by decide +kernel
theorem dX5_feed_10 : decode cX5_feed 10 = .ok (.iconst (-1), 1) := by decide +kernel
theorem dX5_feed_11 : decode cX5_feed 11 = .ok (.ireturn, 1) := by decide +kernel
theorem dX5_feed_12 : decode cX5_feed 12 = .ok (.aload_n 0, 1) := by decide +kernel
theorem dX5_feed_13 : decode cX5_feed 13 = .ok (.getfield 30, 3) := by decide +kernel
theorem dX5_feed_16 : decode cX5_feed 16 = .ok (.iload_n 1, 1) := by decide +kernel
theorem dX5_feed_17 : decode cX5_feed 17 = .ok (.invokevirtual 67, 3) := by decide +kernel
theorem dX5_feed_20 : decode cX5_feed 20 = .ok (.ireturn, 1) := by decide +kernel
theorem dX5_end_0 : decode cX5_end 0 = .ok (.iload_n 1, 1) := by decide +kernel
theorem dX5_end_1 : decode cX5_end 1 = .ok (.iconst 0, 1) := by decide +kernel
theorem dX5_end_2 : decode cX5_end 2 = .ok (.aload_n 0, 1) := by decide +kernel
theorem dX5_end_3 : decode cX5_end 3 = .ok (.getfield 30, 3) := by decide +kernel
theorem dX5_end_6 : decode cX5_end 6 = .ok (.getfield 71, 3) := by decide +kernel
theorem dX5_end_9 : decode cX5_end 9 = .ok (.invokestatic 63, 3) := by decide +kernel
theorem dX5_end_12 : decode cX5_end 12 = .ok (.ifCond .ne 5, 3) := by decide +kernel
theorem dX5_end_15 : decode cX5_end 15 = .ok (.iconst (-1), 1) := by decide +kernel
theorem dX5_end_16 : decode cX5_end 16 = .ok (.ireturn, 1) := by decide +kernel
theorem dX5_end_17 : decode cX5_end 17 = .ok (.aload_n 0, 1) := by decide +kernel
theorem dX5_end_18 : decode cX5_end 18 = .ok (.getfield 30, 3) := by decide +kernel
theorem dX5_end_21 : decode cX5_end 21 = .ok (.getfield 71, 3) := by decide +kernel
theorem dX5_end_24 : decode cX5_end 24 = .ok (.istore_n 2, 1) := by decide +kernel
theorem dX5_end_25 : decode cX5_end 25 = .ok (.aload_n 0, 1) := by decide +kernel
theorem dX5_end_26 : decode cX5_end 26 = .ok (.getfield 30, 3) := by decide +kernel
theorem dX5_end_29 : decode cX5_end 29 = .ok (.iload_n 1, 1) := by decide +kernel
theorem dX5_end_30 : decode cX5_end 30 = .ok (.putfield 71, 3) := by decide +kernel
theorem dX5_end_33 : decode cX5_end 33 = .ok (.iload_n 2, 1) := by decide +kernel
theorem dX5_end_34 : decode cX5_end 34 = .ok (.ireturn, 1) := by decide +kernel
theorem dX5_text_0 : decode cX5_text 0 = .ok (.aload_n 0, 1) := by decide +kernel
theorem dX5_text_1 : decode cX5_text 1 = .ok (.getfield 30, 3) := by decide +kernel
theorem dX5_text_4 : decode cX5_text 4 = .ok (.invokevirtual 74, 3) := by decide +kernel
theorem dX5_text_7 : decode cX5_text 7 = .ok (.istore_n 1, 1) := by decide +kernel
theorem dX5_text_8 : decode cX5_text 8 = .ok (.iload_n 1, 1) := by decide +kernel
theorem dX5_text_9 : decode cX5_text 9 = .ok (.ifCond .lt 45, 3) := by decide +kernel
theorem dX5_text_12 : decode cX5_text 12 = .ok (.aload_n 0, 1) := by decide +kernel
theorem dX5_text_13 : decode cX5_text 13 = .ok (.getfield 10, 3) := by decide +kernel
theorem dX5_text_16 : decode cX5_text 16 = .ok (.aload_n 0, 1) := by decide +kernel
theorem dX5_text_17 : decode cX5_text 17 = .ok (.getfield 30, 3) := by decide +kernel
theorem dX5_text_20 : decode cX5_text 20 = .ok (.getfield 78, 3) := by decide +kernel
theorem dX5_text_23 : decode cX5_text 23 = .ok (.invokevirtual 81, 3) := by decide +kernel
theorem dX5_text_26 : decode cX5_text 26 = .ok (.aload_n 0, 1) := by decide +kernel
theorem dX5_text_27 : decode cX5_text 27 = .ok (.getfield 44, 3) := by decide +kernel
theorem dX5_text_30 : decode cX5_text 30 = .ok (.iconst 0, 1) := by decide +kernel
theorem dX5_text_31 : decode cX5_text 31 = .ok (.putfield 85, 3) := by decide +kernel
theorem dX5_text_34 : decode cX5_text 34 = .ok (.iconst 0, 1) := by decide +kernel
theorem dX5_text_35 : decode cX5_text 35 = .ok (.istore_n 2, 1) := by decide +kernel
theorem dX5_text_36 : decode cX5_text 36 = .ok (.iload_n 2, 1) := by decide +kernel
theorem dX5_text_37 : decode cX5_text 37 = .ok (.iconst 2, 1) := by decide +kernel
theorem dX5_text_38 : decode cX5_text 38 = .ok (.if_icmp .ge 16, 3) := by decide +kernel
theorem dX5_text_41 : decode cX5_text 41 = .ok (.aload_n 0, 1) := by decide +kernel
theorem dX5_text_42 : decode cX5_text 42 = .ok (.getfield 23, 3) := by decide +kernel
theorem dX5_text_45 : decode cX5_text 45 = .ok (.iload_n 2, 1) := by decide +kernel
theorem dX5_text_46 : decode cX5_text 46 = .ok (.iconst 0, 1) := by decide +kernel
theorem dX5_text_47 : decode cX5_text 47 = .ok (.bastore, 1) := by decide +kernel
theorem dX5_text_48 : decode cX5_text 48 = .ok (.iinc 2 1, 3) := by decide +kernel
theorem dX5_text_51 : decode cX5_text 51 = .ok (.goto (-15), 3) := by decide +kernel
theorem dX5_text_54 : decode cX5_text 54 = .ok (.iload_n 1, 1) := by decide +kernel
theorem dX5_text_55 : decode cX5_text 55 = .ok (.ireturn, 1) := by decide +kernel
theorem dX5_fault_0 : decode cX5_fault 0 = .ok (.aload_n 0, 1) := by decide +kernel
theorem dX5_fault_1 : decode cX5_fault 1 = .ok (.getfield 30, 3) := by decide +kernel
theorem dX5_fault_4 : decode cX5_fault 4 = .ok (.getfield 88, 3) := by decide +kernel
theorem dX5_fault_7 : decode cX5_fault 7 = .ok (.ireturn, 1) := by decide +kernel
theorem dX5_rule_0 : decode cX5_rule 0 = .ok (.iload_n 1, 1) := by decide +kernel
theorem dX5_rule_1 : decode cX5_rule 1 = .ok (.tableswitch 87 0 5 #[39, 47, 55, 63, 71, 79], 39) := by decide +kernel
theorem dX5_rule_40 : decode cX5_rule 40 = .ok (.aload_n 0, 1) := by decide +kernel
theorem dX5_rule_41 : decode cX5_rule 41 = .ok (.getfield 10, 3) := by decide +kernel
theorem dX5_rule_44 : decode cX5_rule 44 = .ok (.getfield 91, 3) := by decide +kernel
theorem dX5_rule_47 : decode cX5_rule 47 = .ok (.ireturn, 1) := by decide +kernel
theorem dX5_rule_48 : decode cX5_rule 48 = .ok (.aload_n 0, 1) := by decide +kernel
theorem dX5_rule_49 : decode cX5_rule 49 = .ok (.getfield 10, 3) := by decide +kernel
theorem dX5_rule_52 : decode cX5_rule 52 = .ok (.getfield 94, 3) := by decide +kernel
theorem dX5_rule_55 : decode cX5_rule 55 = .ok (.ireturn, 1) := by decide +kernel
theorem dX5_rule_56 : decode cX5_rule 56 = .ok (.aload_n 0, 1) := by decide +kernel
theorem dX5_rule_57 : decode cX5_rule 57 = .ok (.getfield 10, 3) := by decide +kernel
theorem dX5_rule_60 : decode cX5_rule 60 = .ok (.getfield 97, 3) := by decide +kernel
theorem dX5_rule_63 : decode cX5_rule 63 = .ok (.ireturn, 1) := by decide +kernel
theorem dX5_rule_64 : decode cX5_rule 64 = .ok (.aload_n 0, 1) := by decide +kernel
theorem dX5_rule_65 : decode cX5_rule 65 = .ok (.getfield 10, 3) := by decide +kernel
theorem dX5_rule_68 : decode cX5_rule 68 = .ok (.getfield 100, 3) := by decide +kernel
theorem dX5_rule_71 : decode cX5_rule 71 = .ok (.ireturn, 1) := by decide +kernel
theorem dX5_rule_72 : decode cX5_rule 72 = .ok (.aload_n 0, 1) := by decide +kernel
theorem dX5_rule_73 : decode cX5_rule 73 = .ok (.getfield 10, 3) := by decide +kernel
theorem dX5_rule_76 : decode cX5_rule 76 = .ok (.getfield 103, 3) := by decide +kernel
theorem dX5_rule_79 : decode cX5_rule 79 = .ok (.ireturn, 1) := by decide +kernel
theorem dX5_rule_80 : decode cX5_rule 80 = .ok (.aload_n 0, 1) := by decide +kernel
theorem dX5_rule_81 : decode cX5_rule 81 = .ok (.getfield 10, 3) := by decide +kernel
theorem dX5_rule_84 : decode cX5_rule 84 = .ok (.invokevirtual 106, 3) := by decide +kernel
theorem dX5_rule_87 : decode cX5_rule 87 = .ok (.ireturn, 1) := by decide +kernel
theorem dX5_rule_88 : decode cX5_rule 88 = .ok (.iconst (-1), 1) := by decide +kernel
theorem dX5_rule_89 : decode cX5_rule 89 = .ok (.ireturn, 1) := by decide +kernel
theorem dX5_one_0 : decode cX5_one 0 = .ok (.aload_n 0, 1) := by decide +kernel
theorem dX5_one_1 : decode cX5_one 1 = .ok (.iload_n 1, 1) := by decide +kernel
theorem dX5_one_2 : decode cX5_one 2 = .ok (.invokevirtual 109, 3) := by decide +kernel
theorem dX5_one_5 : decode cX5_one 5 = .ok (.ifCond .ne 5, 3) := by decide +kernel
theorem dX5_one_8 : decode cX5_one 8 = .ok (.iconst (-1), 1) := by decide +kernel
theorem dX5_one_9 : decode cX5_one 9 = .ok (.ireturn, 1) := by decide +kernel
theorem dX5_one_10 : decode cX5_one 10 = .ok (.iload_n 2, 1) := by decide +kernel
theorem dX5_one_11 : decode cX5_one 11 = .ok (.tableswitch 65 0 4 #[33, 33, 33, 45, 55], 33) := by decide +kernel
theorem dX5_one_44 : decode cX5_one 44 = .ok (.aload_n 0, 1) := by decide +kernel
theorem dX5_one_45 : decode cX5_one 45 = .ok (.getfield 10, 3) := by decide +kernel
theorem dX5_one_48 : decode cX5_one 48 = .ok (.getfield 113, 3) := by decide +kernel
theorem dX5_one_51 : decode cX5_one 51 = .ok (.iload_n 2, 1) := by decide +kernel
theorem dX5_one_52 : decode cX5_one 52 = .ok (.aaload, 1) := by decide +kernel
theorem dX5_one_53 : decode cX5_one 53 = .ok (.iload_n 1, 1) := by decide +kernel
theorem dX5_one_54 : decode cX5_one 54 = .ok (.iaload, 1) := by decide +kernel
theorem dX5_one_55 : decode cX5_one 55 = .ok (.ireturn, 1) := by decide +kernel
theorem dX5_one_56 : decode cX5_one 56 = .ok (.aload_n 0, 1) := by decide +kernel
theorem dX5_one_57 : decode cX5_one 57 = .ok (.getfield 10, 3) := by decide +kernel
theorem dX5_one_60 : decode cX5_one 60 = .ok (.iconst 0, 1) := by decide +kernel
theorem dX5_one_61 : decode cX5_one 61 = .ok (.iload_n 1, 1) := by decide +kernel
theorem dX5_one_62 : decode cX5_one 62 = .ok (.invokevirtual 117, 3) := by decide +kernel
theorem dX5_one_65 : decode cX5_one 65 = .ok (.ireturn, 1) := by decide +kernel
theorem dX5_one_66 : decode cX5_one 66 = .ok (.aload_n 0, 1) := by decide +kernel
theorem dX5_one_67 : decode cX5_one 67 = .ok (.getfield 10, 3) := by decide +kernel
theorem dX5_one_70 : decode cX5_one 70 = .ok (.iconst 1, 1) := by decide +kernel
theorem dX5_one_71 : decode cX5_one 71 = .ok (.iload_n 1, 1) := by decide +kernel
theorem dX5_one_72 : decode cX5_one 72 = .ok (.invokevirtual 117, 3) := by decide +kernel
theorem dX5_one_75 : decode cX5_one 75 = .ok (.ireturn, 1) := by decide +kernel
theorem dX5_one_76 : decode cX5_one 76 = .ok (.iconst (-1), 1) := by decide +kernel
theorem dX5_one_77 : decode cX5_one 77 = .ok (.ireturn, 1) := by decide +kernel
theorem dX5_gain_0 : decode cX5_gain 0 = .ok (.aload_n 0, 1) := by decide +kernel
theorem dX5_gain_1 : decode cX5_gain 1 = .ok (.iload_n 1, 1) := by decide +kernel
theorem dX5_gain_2 : decode cX5_gain 2 = .ok (.invokevirtual 109, 3) := by decide +kernel
theorem dX5_gain_5 : decode cX5_gain 5 = .ok (.ifCond .eq 10, 3) := by decide +kernel
theorem dX5_gain_8 : decode cX5_gain 8 = .ok (.iload_n 2, 1) := by decide +kernel
theorem dX5_gain_9 : decode cX5_gain 9 = .ok (.invokestatic 121, 3) := by decide +kernel
theorem dX5_gain_12 : decode cX5_gain 12 = .ok (.ifCond .ne 5, 3) := by decide +kernel
theorem dX5_gain_15 : decode cX5_gain 15 = .ok (.iconst (-1), 1) := by decide +kernel
theorem dX5_gain_16 : decode cX5_gain 16 = .ok (.ireturn, 1) := by decide +kernel
theorem dX5_gain_17 : decode cX5_gain 17 = .ok (.bipush 100, 2) := by decide +kernel
theorem dX5_gain_19 : decode cX5_gain 19 = .ok (.aload_n 0, 1) := by decide +kernel
theorem dX5_gain_20 : decode cX5_gain 20 = .ok (.getfield 10, 3) := by decide +kernel
theorem dX5_gain_23 : decode cX5_gain 23 = .ok (.iload_n 1, 1) := by decide +kernel
theorem dX5_gain_24 : decode cX5_gain 24 = .ok (.iload_n 2, 1) := by decide +kernel
theorem dX5_gain_25 : decode cX5_gain 25 = .ok (.invokevirtual 124, 3) := by decide +kernel
theorem dX5_gain_28 : decode cX5_gain 28 = .ok (.iadd, 1) := by decide +kernel
theorem dX5_gain_29 : decode cX5_gain 29 = .ok (.ireturn, 1) := by decide +kernel
theorem dX5_cover_0 : decode cX5_cover 0 = .ok (.aload_n 0, 1) := by decide +kernel
theorem dX5_cover_1 : decode cX5_cover 1 = .ok (.iload_n 1, 1) := by decide +kernel
theorem dX5_cover_2 : decode cX5_cover 2 = .ok (.invokevirtual 127, 3) := by decide +kernel
theorem dX5_cover_5 : decode cX5_cover 5 = .ok (.ifCond .eq 12, 3) := by decide +kernel
theorem dX5_cover_8 : decode cX5_cover 8 = .ok (.iload_n 2, 1) := by decide +kernel
theorem dX5_cover_9 : decode cX5_cover 9 = .ok (.iconst 0, 1) := by decide +kernel
theorem dX5_cover_10 : decode cX5_cover 10 = .ok (.iconst 4, 1) := by decide +kernel
theorem dX5_cover_11 : decode cX5_cover 11 = .ok (.invokestatic 63, 3) := by decide +kernel
theorem dX5_cover_14 : decode cX5_cover 14 = .ok (.ifCond .ne 5, 3) := by decide +kernel
theorem dX5_cover_17 : decode cX5_cover 17 = .ok (.iconst (-1), 1) := by decide +kernel
theorem dX5_cover_18 : decode cX5_cover 18 = .ok (.ireturn, 1) := by decide +kernel
theorem dX5_cover_19 : decode cX5_cover 19 = .ok (.aload_n 0, 1) := by decide +kernel
theorem dX5_cover_20 : decode cX5_cover 20 = .ok (.getfield 10, 3) := by decide +kernel
theorem dX5_cover_23 : decode cX5_cover 23 = .ok (.getfield 130, 3) := by decide +kernel
theorem dX5_cover_26 : decode cX5_cover 26 = .ok (.iload_n 2, 1) := by decide +kernel
theorem dX5_cover_27 : decode cX5_cover 27 = .ok (.aaload, 1) := by decide +kernel
theorem dX5_cover_28 : decode cX5_cover 28 = .ok (.iload_n 1, 1) := by decide +kernel
theorem dX5_cover_29 : decode cX5_cover 29 = .ok (.iaload, 1) := by decide +kernel
theorem dX5_cover_30 : decode cX5_cover 30 = .ok (.ireturn, 1) := by decide +kernel
theorem dX5_odds_0 : decode cX5_odds 0 = .ok (.iload_n 1, 1) := by decide +kernel
theorem dX5_odds_1 : decode cX5_odds 1 = .ok (.invokestatic 121, 3) := by decide +kernel
theorem dX5_odds_4 : decode cX5_odds 4 = .ok (.ifCond .eq 15, 3) := by decide +kernel
theorem dX5_odds_7 : decode cX5_odds 7 = .ok (.aload_n 0, 1) := by decide +kernel
theorem dX5_odds_8 : decode cX5_odds 8 = .ok (.getfield 10, 3) := by decide +kernel
theorem dX5_odds_11 : decode cX5_odds 11 = .ok (.getfield 133, 3) := by decide +kernel
theorem dX5_odds_14 : decode cX5_odds 14 = .ok (.iload_n 1, 1) := by decide +kernel
theorem dX5_odds_15 : decode cX5_odds 15 = .ok (.iaload, 1) := by decide +kernel
theorem dX5_odds_16 : decode cX5_odds 16 = .ok (.goto 4, 3) := by decide +kernel
theorem dX5_odds_19 : decode cX5_odds 19 = .ok (.iconst (-1), 1) := by decide +kernel
theorem dX5_odds_20 : decode cX5_odds 20 = .ok (.ireturn, 1) := by decide +kernel
theorem dX5_sky_0 : decode cX5_sky 0 = .ok (.iload_n 1, 1) := by decide +kernel
theorem dX5_sky_1 : decode cX5_sky 1 = .ok (.iconst 0, 1) := by decide +kernel
theorem dX5_sky_2 : decode cX5_sky 2 = .ok (.aload_n 0, 1) := by decide +kernel
theorem dX5_sky_3 : decode cX5_sky 3 = .ok (.getfield 10, 3) := by decide +kernel
theorem dX5_sky_6 : decode cX5_sky 6 = .ok (.getfield 103, 3) := by decide +kernel
theorem dX5_sky_9 : decode cX5_sky 9 = .ok (.iconst 1, 1) := by decide +kernel
theorem dX5_sky_10 : decode cX5_sky 10 = .ok (.isub, 1) := by decide +kernel
theorem dX5_sky_11 : decode cX5_sky 11 = .ok (.invokestatic 63, 3) := by decide +kernel
theorem dX5_sky_14 : decode cX5_sky 14 = .ok (.ifCond .eq 15, 3) := by decide +kernel
theorem dX5_sky_17 : decode cX5_sky 17 = .ok (.aload_n 0, 1) := by decide +kernel
theorem dX5_sky_18 : decode cX5_sky 18 = .ok (.getfield 10, 3) := by decide +kernel
theorem dX5_sky_21 : decode cX5_sky 21 = .ok (.getfield 136, 3) := by decide +kernel
theorem dX5_sky_24 : decode cX5_sky 24 = .ok (.iload_n 1, 1) := by decide +kernel
theorem dX5_sky_25 : decode cX5_sky 25 = .ok (.iaload, 1) := by decide +kernel
theorem dX5_sky_26 : decode cX5_sky 26 = .ok (.goto 4, 3) := by decide +kernel
theorem dX5_sky_29 : decode cX5_sky 29 = .ok (.iconst (-1), 1) := by decide +kernel
theorem dX5_sky_30 : decode cX5_sky 30 = .ok (.ireturn, 1) := by decide +kernel
theorem dX5_owed_0 : decode cX5_owed 0 = .ok (.aload_n 0, 1) := by decide +kernel
theorem dX5_owed_1 : decode cX5_owed 1 = .ok (.iload_n 1, 1) := by decide +kernel
theorem dX5_owed_2 : decode cX5_owed 2 = .ok (.invokevirtual 109, 3) := by decide +kernel
theorem dX5_owed_5 : decode cX5_owed 5 = .ok (.ifCond .eq 16, 3) := by decide +kernel
theorem dX5_owed_8 : decode cX5_owed 8 = .ok (.aload_n 0, 1) := by decide +kernel
theorem dX5_owed_9 : decode cX5_owed 9 = .ok (.iload_n 2, 1) := by decide +kernel
theorem dX5_owed_10 : decode cX5_owed 10 = .ok (.invokevirtual 109, 3) := by decide +kernel
theorem dX5_owed_13 : decode cX5_owed 13 = .ok (.ifCond .eq 8, 3) := by decide +kernel
theorem dX5_owed_16 : decode cX5_owed 16 = .ok (.iload_n 1, 1) := by decide +kernel
theorem dX5_owed_17 : decode cX5_owed 17 = .ok (.iload_n 2, 1) := by decide +kernel
theorem dX5_owed_18 : decode cX5_owed 18 = .ok (.if_icmp .ne 5, 3) := by decide +kernel
theorem dX5_owed_21 : decode cX5_owed 21 = .ok (.iconst (-1), 1) := by decide +kernel
theorem dX5_owed_22 : decode cX5_owed 22 = .ok (.ireturn, 1) := by decide +kernel
theorem dX5_owed_23 : decode cX5_owed 23 = .ok (.aload_n 0, 1) := by decide +kernel
theorem dX5_owed_24 : decode cX5_owed 24 = .ok (.getfield 10, 3) := by decide +kernel
theorem dX5_owed_27 : decode cX5_owed 27 = .ok (.getfield 139, 3) := by decide +kernel
theorem dX5_owed_30 : decode cX5_owed 30 = .ok (.iload_n 1, 1) := by decide +kernel
theorem dX5_owed_31 : decode cX5_owed 31 = .ok (.aaload, 1) := by decide +kernel
theorem dX5_owed_32 : decode cX5_owed 32 = .ok (.iload_n 2, 1) := by decide +kernel
theorem dX5_owed_33 : decode cX5_owed 33 = .ok (.iaload, 1) := by decide +kernel
theorem dX5_owed_34 : decode cX5_owed 34 = .ok (.ireturn, 1) := by decide +kernel
theorem dX5_alter_0 : decode cX5_alter 0 = .ok (.aload_n 0, 1) := by decide +kernel
theorem dX5_alter_1 : decode cX5_alter 1 = .ok (.iload_n 1, 1) := by decide +kernel
theorem dX5_alter_2 : decode cX5_alter 2 = .ok (.invokevirtual 109, 3) := by decide +kernel
theorem dX5_alter_5 : decode cX5_alter 5 = .ok (.ifCond .eq 11, 3) := by decide +kernel
theorem dX5_alter_8 : decode cX5_alter 8 = .ok (.iload_n 2, 1) := by decide +kernel
theorem dX5_alter_9 : decode cX5_alter 9 = .ok (.iload_n 3, 1) := by decide +kernel
theorem dX5_alter_10 : decode cX5_alter 10 = .ok (.invokestatic 142, 3) := by decide +kernel
theorem dX5_alter_13 : decode cX5_alter 13 = .ok (.ifCond .ne 5, 3) := by decide +kernel
theorem dX5_alter_16 : decode cX5_alter 16 = .ok (.iconst (-1), 1) := by decide +kernel
theorem dX5_alter_17 : decode cX5_alter 17 = .ok (.ireturn, 1) := by decide +kernel
theorem dX5_alter_18 : decode cX5_alter 18 = .ok (.aload_n 0, 1) := by decide +kernel
theorem dX5_alter_19 : decode cX5_alter 19 = .ok (.getfield 10, 3) := by decide +kernel
theorem dX5_alter_22 : decode cX5_alter 22 = .ok (.getfield 113, 3) := by decide +kernel
theorem dX5_alter_25 : decode cX5_alter 25 = .ok (.iload_n 2, 1) := by decide +kernel
theorem dX5_alter_26 : decode cX5_alter 26 = .ok (.aaload, 1) := by decide +kernel
theorem dX5_alter_27 : decode cX5_alter 27 = .ok (.iload_n 1, 1) := by decide +kernel
theorem dX5_alter_28 : decode cX5_alter 28 = .ok (.iaload, 1) := by decide +kernel
theorem dX5_alter_29 : decode cX5_alter 29 = .ok (.istore 4, 2) := by decide +kernel
theorem dX5_alter_31 : decode cX5_alter 31 = .ok (.aload_n 0, 1) := by decide +kernel
theorem dX5_alter_32 : decode cX5_alter 32 = .ok (.getfield 10, 3) := by decide +kernel
theorem dX5_alter_35 : decode cX5_alter 35 = .ok (.getfield 113, 3) := by decide +kernel
theorem dX5_alter_38 : decode cX5_alter 38 = .ok (.iload_n 2, 1) := by decide +kernel
theorem dX5_alter_39 : decode cX5_alter 39 = .ok (.aaload, 1) := by decide +kernel
theorem dX5_alter_40 : decode cX5_alter 40 = .ok (.iload_n 1, 1) := by decide +kernel
theorem dX5_alter_41 : decode cX5_alter 41 = .ok (.iload_n 3, 1) := by decide +kernel
theorem dX5_alter_42 : decode cX5_alter 42 = .ok (.iastore, 1) := by decide +kernel
theorem dX5_alter_43 : decode cX5_alter 43 = .ok (.iload 4, 2) := by decide +kernel
theorem dX5_alter_45 : decode cX5_alter 45 = .ok (.ireturn, 1) := by decide +kernel
theorem dX5_sign_0 : decode cX5_sign 0 = .ok (.aload_n 0, 1) := by decide +kernel
theorem dX5_sign_1 : decode cX5_sign 1 = .ok (.iload_n 1, 1) := by decide +kernel
theorem dX5_sign_2 : decode cX5_sign 2 = .ok (.invokevirtual 127, 3) := by decide +kernel
theorem dX5_sign_5 : decode cX5_sign 5 = .ok (.ifCond .eq 11, 3) := by decide +kernel
theorem dX5_sign_8 : decode cX5_sign 8 = .ok (.iload_n 2, 1) := by decide +kernel
theorem dX5_sign_9 : decode cX5_sign 9 = .ok (.iload_n 3, 1) := by decide +kernel
theorem dX5_sign_10 : decode cX5_sign 10 = .ok (.invokestatic 146, 3) := by decide +kernel
theorem dX5_sign_13 : decode cX5_sign 13 = .ok (.ifCond .ne 5, 3) := by decide +kernel
theorem dX5_sign_16 : decode cX5_sign 16 = .ok (.iconst (-1), 1) := by decide +kernel
theorem dX5_sign_17 : decode cX5_sign 17 = .ok (.ireturn, 1) := by decide +kernel
theorem dX5_sign_18 : decode cX5_sign 18 = .ok (.aload_n 0, 1) := by decide +kernel
theorem dX5_sign_19 : decode cX5_sign 19 = .ok (.getfield 10, 3) := by decide +kernel
theorem dX5_sign_22 : decode cX5_sign 22 = .ok (.getfield 130, 3) := by decide +kernel
theorem dX5_sign_25 : decode cX5_sign 25 = .ok (.iload_n 2, 1) := by decide +kernel
theorem dX5_sign_26 : decode cX5_sign 26 = .ok (.aaload, 1) := by decide +kernel
theorem dX5_sign_27 : decode cX5_sign 27 = .ok (.iload_n 1, 1) := by decide +kernel
theorem dX5_sign_28 : decode cX5_sign 28 = .ok (.iaload, 1) := by decide +kernel
theorem dX5_sign_29 : decode cX5_sign 29 = .ok (.istore 4, 2) := by decide +kernel
theorem dX5_sign_31 : decode cX5_sign 31 = .ok (.aload_n 0, 1) := by decide +kernel
theorem dX5_sign_32 : decode cX5_sign 32 = .ok (.getfield 10, 3) := by decide +kernel
theorem dX5_sign_35 : decode cX5_sign 35 = .ok (.getfield 130, 3) := by decide +kernel
theorem dX5_sign_38 : decode cX5_sign 38 = .ok (.iload_n 2, 1) := by decide +kernel
theorem dX5_sign_39 : decode cX5_sign 39 = .ok (.aaload, 1) := by decide +kernel
theorem dX5_sign_40 : decode cX5_sign 40 = .ok (.iload_n 1, 1) := by decide +kernel
theorem dX5_sign_41 : decode cX5_sign 41 = .ok (.iload_n 3, 1) := by decide +kernel
theorem dX5_sign_42 : decode cX5_sign 42 = .ok (.iastore, 1) := by decide +kernel
theorem dX5_sign_43 : decode cX5_sign 43 = .ok (.iload 4, 2) := by decide +kernel
theorem dX5_sign_45 : decode cX5_sign 45 = .ok (.ireturn, 1) := by decide +kernel
theorem dX5_insure_0 : decode cX5_insure 0 = .ok (.aload_n 0, 1) := by decide +kernel
theorem dX5_insure_1 : decode cX5_insure 1 = .ok (.iload_n 1, 1) := by decide +kernel
theorem dX5_insure_2 : decode cX5_insure 2 = .ok (.invokevirtual 109, 3) := by decide +kernel
theorem dX5_insure_5 : decode cX5_insure 5 = .ok (.ifCond .eq 16, 3) := by decide +kernel
theorem dX5_insure_8 : decode cX5_insure 8 = .ok (.aload_n 0, 1) := by decide +kernel
theorem dX5_insure_9 : decode cX5_insure 9 = .ok (.iload_n 2, 1) := by decide +kernel
theorem dX5_insure_10 : decode cX5_insure 10 = .ok (.invokevirtual 109, 3) := by decide +kernel
theorem dX5_insure_13 : decode cX5_insure 13 = .ok (.ifCond .eq 8, 3) := by decide +kernel
theorem dX5_insure_16 : decode cX5_insure 16 = .ok (.iload_n 1, 1) := by decide +kernel
theorem dX5_insure_17 : decode cX5_insure 17 = .ok (.iload_n 2, 1) := by decide +kernel
theorem dX5_insure_18 : decode cX5_insure 18 = .ok (.if_icmp .ne 5, 3) := by decide +kernel
theorem dX5_insure_21 : decode cX5_insure 21 = .ok (.iconst (-1), 1) := by decide +kernel
theorem dX5_insure_22 : decode cX5_insure 22 = .ok (.ireturn, 1) := by decide +kernel
theorem dX5_insure_23 : decode cX5_insure 23 = .ok (.iconst 2, 1) := by decide +kernel
theorem dX5_insure_24 : decode cX5_insure 24 = .ok (.iload_n 3, 1) := by decide +kernel
theorem dX5_insure_25 : decode cX5_insure 25 = .ok (.invokestatic 146, 3) := by decide +kernel
theorem dX5_insure_28 : decode cX5_insure 28 = .ok (.ifCond .eq 21, 3) := by decide +kernel
theorem dX5_insure_31 : decode cX5_insure 31 = .ok (.iconst 3, 1) := by decide +kernel
theorem dX5_insure_32 : decode cX5_insure 32 = .ok (.iload 4, 2) := by decide +kernel
theorem dX5_insure_34 : decode cX5_insure 34 = .ok (.invokestatic 146, 3) := by decide +kernel
theorem dX5_insure_37 : decode cX5_insure 37 = .ok (.ifCond .eq 12, 3) := by decide +kernel
theorem dX5_insure_40 : decode cX5_insure 40 = .ok (.iconst 4, 1) := by decide +kernel
theorem dX5_insure_41 : decode cX5_insure 41 = .ok (.iload 5, 2) := by decide +kernel
theorem dX5_insure_43 : decode cX5_insure 43 = .ok (.invokestatic 146, 3) := by decide +kernel
theorem dX5_insure_46 : decode cX5_insure 46 = .ok (.ifCond .ne 5, 3) := by decide +kernel
theorem dX5_insure_49 : decode cX5_insure 49 = .ok (.iconst (-1), 1) := by decide +kernel
theorem dX5_insure_50 : decode cX5_insure 50 = .ok (.ireturn, 1) := by decide +kernel
theorem dX5_insure_51 : decode cX5_insure 51 = .ok (.aload_n 0, 1) := by decide +kernel
theorem dX5_insure_52 : decode cX5_insure 52 = .ok (.getfield 10, 3) := by decide +kernel
theorem dX5_insure_55 : decode cX5_insure 55 = .ok (.getfield 94, 3) := by decide +kernel
theorem dX5_insure_58 : decode cX5_insure 58 = .ok (.iconst 5, 1) := by decide +kernel
theorem dX5_insure_59 : decode cX5_insure 59 = .ok (.if_icmp .lt 6, 3) := by decide +kernel
theorem dX5_insure_62 : decode cX5_insure 62 = .ok (.bipush (-3), 2) := by decide +kernel
theorem dX5_insure_64 : decode cX5_insure 64 = .ok (.ireturn, 1) := by decide +kernel
theorem dX5_insure_65 : decode cX5_insure 65 = .ok (.aload_n 0, 1) := by decide +kernel
theorem dX5_insure_66 : decode cX5_insure 66 = .ok (.getfield 10, 3) := by decide +kernel
theorem dX5_insure_69 : decode cX5_insure 69 = .ok (.iload_n 1, 1) := by decide +kernel
theorem dX5_insure_70 : decode cX5_insure 70 = .ok (.iload_n 2, 1) := by decide +kernel
theorem dX5_insure_71 : decode cX5_insure 71 = .ok (.iload_n 3, 1) := by decide +kernel
theorem dX5_insure_72 : decode cX5_insure 72 = .ok (.iload 4, 2) := by decide +kernel
theorem dX5_insure_74 : decode cX5_insure 74 = .ok (.iload 5, 2) := by decide +kernel
theorem dX5_insure_76 : decode cX5_insure 76 = .ok (.invokevirtual 149, 3) := by decide +kernel
theorem dX5_insure_79 : decode cX5_insure 79 = .ok (.aload_n 0, 1) := by decide +kernel
theorem dX5_insure_80 : decode cX5_insure 80 = .ok (.getfield 10, 3) := by decide +kernel
theorem dX5_insure_83 : decode cX5_insure 83 = .ok (.getfield 94, 3) := by decide +kernel
theorem dX5_insure_86 : decode cX5_insure 86 = .ok (.iconst 1, 1) := by decide +kernel
theorem dX5_insure_87 : decode cX5_insure 87 = .ok (.isub, 1) := by decide +kernel
theorem dX5_insure_88 : decode cX5_insure 88 = .ok (.ireturn, 1) := by decide +kernel
theorem dX5_drop_0 : decode cX5_drop 0 = .ok (.aload_n 0, 1) := by decide +kernel
theorem dX5_drop_1 : decode cX5_drop 1 = .ok (.iload_n 1, 1) := by decide +kernel
theorem dX5_drop_2 : decode cX5_drop 2 = .ok (.invokevirtual 127, 3) := by decide +kernel
theorem dX5_drop_5 : decode cX5_drop 5 = .ok (.ifCond .ne 5, 3) := by decide +kernel
theorem dX5_drop_8 : decode cX5_drop 8 = .ok (.iconst (-1), 1) := by decide +kernel
theorem dX5_drop_9 : decode cX5_drop 9 = .ok (.ireturn, 1) := by decide +kernel
theorem dX5_drop_10 : decode cX5_drop 10 = .ok (.aload_n 0, 1) := by decide +kernel
theorem dX5_drop_11 : decode cX5_drop 11 = .ok (.getfield 10, 3) := by decide +kernel
theorem dX5_drop_14 : decode cX5_drop 14 = .ok (.iload_n 1, 1) := by decide +kernel
theorem dX5_drop_15 : decode cX5_drop 15 = .ok (.invokevirtual 153, 3) := by decide +kernel
theorem dX5_drop_18 : decode cX5_drop 18 = .ok (.aload_n 0, 1) := by decide +kernel
theorem dX5_drop_19 : decode cX5_drop 19 = .ok (.getfield 10, 3) := by decide +kernel
theorem dX5_drop_22 : decode cX5_drop 22 = .ok (.getfield 94, 3) := by decide +kernel
theorem dX5_drop_25 : decode cX5_drop 25 = .ok (.ireturn, 1) := by decide +kernel
theorem dX5_shift_0 : decode cX5_shift 0 = .ok (.iload_n 1, 1) := by decide +kernel
theorem dX5_shift_1 : decode cX5_shift 1 = .ok (.invokestatic 121, 3) := by decide +kernel
theorem dX5_shift_4 : decode cX5_shift 4 = .ok (.ifCond .eq 15, 3) := by decide +kernel
theorem dX5_shift_7 : decode cX5_shift 7 = .ok (.iload_n 2, 1) := by decide +kernel
theorem dX5_shift_8 : decode cX5_shift 8 = .ok (.invokestatic 121, 3) := by decide +kernel
theorem dX5_shift_11 : decode cX5_shift 11 = .ok (.ifCond .eq 8, 3) := by decide +kernel
theorem dX5_shift_14 : decode cX5_shift 14 = .ok (.iload_n 1, 1) := by decide +kernel
theorem dX5_shift_15 : decode cX5_shift 15 = .ok (.iload_n 2, 1) := by decide +kernel
theorem dX5_shift_16 : decode cX5_shift 16 = .ok (.if_icmp .ne 5, 3) := by decide +kernel
theorem dX5_shift_19 : decode cX5_shift 19 = .ok (.iconst (-1), 1) := by decide +kernel
theorem dX5_shift_20 : decode cX5_shift 20 = .ok (.ireturn, 1) := by decide +kernel
theorem dX5_shift_21 : decode cX5_shift 21 = .ok (.aload_n 0, 1) := by decide +kernel
theorem dX5_shift_22 : decode cX5_shift 22 = .ok (.getfield 10, 3) := by decide +kernel
theorem dX5_shift_25 : decode cX5_shift 25 = .ok (.getfield 133, 3) := by decide +kernel
theorem dX5_shift_28 : decode cX5_shift 28 = .ok (.iload_n 1, 1) := by decide +kernel
theorem dX5_shift_29 : decode cX5_shift 29 = .ok (.iaload, 1) := by decide +kernel
theorem dX5_shift_30 : decode cX5_shift 30 = .ok (.ifCond .ne 6, 3) := by decide +kernel
theorem dX5_shift_33 : decode cX5_shift 33 = .ok (.bipush (-2), 2) := by decide +kernel
theorem dX5_shift_35 : decode cX5_shift 35 = .ok (.ireturn, 1) := by decide +kernel
theorem dX5_shift_36 : decode cX5_shift 36 = .ok (.aload_n 0, 1) := by decide +kernel
theorem dX5_shift_37 : decode cX5_shift 37 = .ok (.getfield 10, 3) := by decide +kernel
theorem dX5_shift_40 : decode cX5_shift 40 = .ok (.getfield 133, 3) := by decide +kernel
theorem dX5_shift_43 : decode cX5_shift 43 = .ok (.iload_n 1, 1) := by decide +kernel
theorem dX5_shift_44 : decode cX5_shift 44 = .ok (.dup2, 1) := by decide +kernel
theorem dX5_shift_45 : decode cX5_shift 45 = .ok (.iaload, 1) := by decide +kernel
theorem dX5_shift_46 : decode cX5_shift 46 = .ok (.iconst 1, 1) := by decide +kernel
theorem dX5_shift_47 : decode cX5_shift 47 = .ok (.isub, 1) := by decide +kernel
theorem dX5_shift_48 : decode cX5_shift 48 = .ok (.iastore, 1) := by decide +kernel
theorem dX5_shift_49 : decode cX5_shift 49 = .ok (.aload_n 0, 1) := by decide +kernel
theorem dX5_shift_50 : decode cX5_shift 50 = .ok (.getfield 10, 3) := by decide +kernel
theorem dX5_shift_53 : decode cX5_shift 53 = .ok (.getfield 133, 3) := by decide +kernel
theorem dX5_shift_56 : decode cX5_shift 56 = .ok (.iload_n 2, 1) := by decide +kernel
theorem dX5_shift_57 : decode cX5_shift 57 = .ok (.dup2, 1) := by decide +kernel
theorem dX5_shift_58 : decode cX5_shift 58 = .ok (.iaload, 1) := by decide +kernel
theorem dX5_shift_59 : decode cX5_shift 59 = .ok (.iconst 1, 1) := by decide +kernel
theorem dX5_shift_60 : decode cX5_shift 60 = .ok (.iadd, 1) := by decide +kernel
theorem dX5_shift_61 : decode cX5_shift 61 = .ok (.iastore, 1) := by decide +kernel
theorem dX5_shift_62 : decode cX5_shift 62 = .ok (.aload_n 0, 1) := by decide +kernel
theorem dX5_shift_63 : decode cX5_shift 63 = .ok (.getfield 10, 3) := by decide +kernel
theorem dX5_shift_66 : decode cX5_shift 66 = .ok (.getfield 133, 3) := by decide +kernel
theorem dX5_shift_69 : decode cX5_shift 69 = .ok (.iload_n 2, 1) := by decide +kernel
theorem dX5_shift_70 : decode cX5_shift 70 = .ok (.iaload, 1) := by decide +kernel
theorem dX5_shift_71 : decode cX5_shift 71 = .ok (.ireturn, 1) := by decide +kernel
theorem dX5_floor_0 : decode cX5_floor 0 = .ok (.iload_n 1, 1) := by decide +kernel
theorem dX5_floor_1 : decode cX5_floor 1 = .ok (.iconst 0, 1) := by decide +kernel
theorem dX5_floor_2 : decode cX5_floor 2 = .ok (.bipush 99, 2) := by decide +kernel
theorem dX5_floor_4 : decode cX5_floor 4 = .ok (.invokestatic 63, 3) := by decide +kernel
theorem dX5_floor_7 : decode cX5_floor 7 = .ok (.ifCond .ne 5, 3) := by decide +kernel
theorem dX5_floor_10 : decode cX5_floor 10 = .ok (.iconst (-1), 1) := by decide +kernel
theorem dX5_floor_11 : decode cX5_floor 11 = .ok (.ireturn, 1) := by decide +kernel
theorem dX5_floor_12 : decode cX5_floor 12 = .ok (.aload_n 0, 1) := by decide +kernel
theorem dX5_floor_13 : decode cX5_floor 13 = .ok (.getfield 10, 3) := by decide +kernel
theorem dX5_floor_16 : decode cX5_floor 16 = .ok (.getfield 97, 3) := by decide +kernel
theorem dX5_floor_19 : decode cX5_floor 19 = .ok (.istore_n 2, 1) := by decide +kernel
theorem dX5_floor_20 : decode cX5_floor 20 = .ok (.aload_n 0, 1) := by decide +kernel
theorem dX5_floor_21 : decode cX5_floor 21 = .ok (.getfield 10, 3) := by decide +kernel
theorem dX5_floor_24 : decode cX5_floor 24 = .ok (.iload_n 1, 1) := by decide +kernel
theorem dX5_floor_25 : decode cX5_floor 25 = .ok (.putfield 97, 3) := by decide +kernel
theorem dX5_floor_28 : decode cX5_floor 28 = .ok (.iload_n 2, 1) := by decide +kernel
theorem dX5_floor_29 : decode cX5_floor 29 = .ok (.ireturn, 1) := by decide +kernel
theorem dX5_plan_0 : decode cX5_plan 0 = .ok (.iload_n 1, 1) := by decide +kernel
theorem dX5_plan_1 : decode cX5_plan 1 = .ok (.invokestatic 121, 3) := by decide +kernel
theorem dX5_plan_4 : decode cX5_plan 4 = .ok (.ifCond .ne 5, 3) := by decide +kernel
theorem dX5_plan_7 : decode cX5_plan 7 = .ok (.iconst (-1), 1) := by decide +kernel
theorem dX5_plan_8 : decode cX5_plan 8 = .ok (.ireturn, 1) := by decide +kernel
theorem dX5_plan_9 : decode cX5_plan 9 = .ok (.aload_n 0, 1) := by decide +kernel
theorem dX5_plan_10 : decode cX5_plan 10 = .ok (.getfield 10, 3) := by decide +kernel
theorem dX5_plan_13 : decode cX5_plan 13 = .ok (.getfield 103, 3) := by decide +kernel
theorem dX5_plan_16 : decode cX5_plan 16 = .ok (.bipush 8, 2) := by decide +kernel
theorem dX5_plan_18 : decode cX5_plan 18 = .ok (.if_icmp .lt 6, 3) := by decide +kernel
theorem dX5_plan_21 : decode cX5_plan 21 = .ok (.bipush (-3), 2) := by decide +kernel
theorem dX5_plan_23 : decode cX5_plan 23 = .ok (.ireturn, 1) := by decide +kernel
theorem dX5_plan_24 : decode cX5_plan 24 = .ok (.aload_n 0, 1) := by decide +kernel
theorem dX5_plan_25 : decode cX5_plan 25 = .ok (.getfield 10, 3) := by decide +kernel
theorem dX5_plan_28 : decode cX5_plan 28 = .ok (.iload_n 1, 1) := by decide +kernel
theorem dX5_plan_29 : decode cX5_plan 29 = .ok (.invokevirtual 157, 3) := by decide +kernel
theorem dX5_plan_32 : decode cX5_plan 32 = .ok (.aload_n 0, 1) := by decide +kernel
theorem dX5_plan_33 : decode cX5_plan 33 = .ok (.getfield 10, 3) := by decide +kernel
theorem dX5_plan_36 : decode cX5_plan 36 = .ok (.getfield 103, 3) := by decide +kernel
theorem dX5_plan_39 : decode cX5_plan 39 = .ok (.ireturn, 1) := by decide +kernel
theorem dX5_cut_0 : decode cX5_cut 0 = .ok (.iload_n 1, 1) := by decide +kernel
theorem dX5_cut_1 : decode cX5_cut 1 = .ok (.iconst 0, 1) := by decide +kernel
theorem dX5_cut_2 : decode cX5_cut 2 = .ok (.aload_n 0, 1) := by decide +kernel
theorem dX5_cut_3 : decode cX5_cut 3 = .ok (.getfield 10, 3) := by decide +kernel
theorem dX5_cut_6 : decode cX5_cut 6 = .ok (.getfield 103, 3) := by decide +kernel
theorem dX5_cut_9 : decode cX5_cut 9 = .ok (.invokestatic 63, 3) := by decide +kernel
theorem dX5_cut_12 : decode cX5_cut 12 = .ok (.ifCond .ne 5, 3) := by decide +kernel
theorem dX5_cut_15 : decode cX5_cut 15 = .ok (.iconst (-1), 1) := by decide +kernel
theorem dX5_cut_16 : decode cX5_cut 16 = .ok (.ireturn, 1) := by decide +kernel
theorem dX5_cut_17 : decode cX5_cut 17 = .ok (.aload_n 0, 1) := by decide +kernel
theorem dX5_cut_18 : decode cX5_cut 18 = .ok (.getfield 10, 3) := by decide +kernel
theorem dX5_cut_21 : decode cX5_cut 21 = .ok (.getfield 103, 3) := by decide +kernel
theorem dX5_cut_24 : decode cX5_cut 24 = .ok (.istore_n 2, 1) := by decide +kernel
theorem dX5_cut_25 : decode cX5_cut 25 = .ok (.aload_n 0, 1) := by decide +kernel
theorem dX5_cut_26 : decode cX5_cut 26 = .ok (.getfield 10, 3) := by decide +kernel
theorem dX5_cut_29 : decode cX5_cut 29 = .ok (.iload_n 1, 1) := by decide +kernel
theorem dX5_cut_30 : decode cX5_cut 30 = .ok (.putfield 103, 3) := by decide +kernel
theorem dX5_cut_33 : decode cX5_cut 33 = .ok (.iload_n 2, 1) := by decide +kernel
theorem dX5_cut_34 : decode cX5_cut 34 = .ok (.ireturn, 1) := by decide +kernel
theorem dX5_week_0 : decode cX5_week 0 = .ok (.aload_n 0, 1) := by decide +kernel
theorem dX5_week_1 : decode cX5_week 1 = .ok (.getfield 10, 3) := by decide +kernel
theorem dX5_week_4 : decode cX5_week 4 = .ok (.iload_n 1, 1) := by decide +kernel
theorem dX5_week_5 : decode cX5_week 5 = .ok (.invokevirtual 160, 3) := by decide +kernel
theorem dX5_week_8 : decode cX5_week 8 = .ok (.ireturn, 1) := by decide +kernel
theorem dX5_runs_0 : decode cX5_runs 0 = .ok (.iload_n 1, 1) := by decide +kernel
theorem dX5_runs_1 : decode cX5_runs 1 = .ok (.tableswitch 89 0 4 #[35, 47, 41, 61, 75], 35) := by decide +kernel
theorem dX5_runs_36 : decode cX5_runs 36 = .ok (.aload_n 0, 1) := by decide +kernel
theorem dX5_runs_37 : decode cX5_runs 37 = .ok (.iconst 0, 1) := by decide +kernel
theorem dX5_runs_38 : decode cX5_runs 38 = .ok (.invokevirtual 163, 3) := by decide +kernel
theorem dX5_runs_41 : decode cX5_runs 41 = .ok (.ireturn, 1) := by decide +kernel
theorem dX5_runs_42 : decode cX5_runs 42 = .ok (.aload_n 0, 1) := by decide +kernel
theorem dX5_runs_43 : decode cX5_runs 43 = .ok (.iconst 1, 1) := by decide +kernel
theorem dX5_runs_44 : decode cX5_runs 44 = .ok (.invokevirtual 163, 3) := by decide +kernel
theorem dX5_runs_47 : decode cX5_runs 47 = .ok (.ireturn, 1) := by decide +kernel
theorem dX5_runs_48 : decode cX5_runs 48 = .ok (.aload_n 0, 1) := by decide +kernel
theorem dX5_runs_49 : decode cX5_runs 49 = .ok (.iconst 0, 1) := by decide +kernel
theorem dX5_runs_50 : decode cX5_runs 50 = .ok (.invokevirtual 163, 3) := by decide +kernel
theorem dX5_runs_53 : decode cX5_runs 53 = .ok (.pop, 1) := by decide +kernel
theorem dX5_runs_54 : decode cX5_runs 54 = .ok (.aload_n 0, 1) := by decide +kernel
theorem dX5_runs_55 : decode cX5_runs 55 = .ok (.getfield 16, 3) := by decide +kernel
theorem dX5_runs_58 : decode cX5_runs 58 = .ok (.invokevirtual 106, 3) := by decide +kernel
theorem dX5_runs_61 : decode cX5_runs 61 = .ok (.ireturn, 1) := by decide +kernel
theorem dX5_runs_62 : decode cX5_runs 62 = .ok (.aload_n 0, 1) := by decide +kernel
theorem dX5_runs_63 : decode cX5_runs 63 = .ok (.iconst 0, 1) := by decide +kernel
theorem dX5_runs_64 : decode cX5_runs 64 = .ok (.invokevirtual 163, 3) := by decide +kernel
theorem dX5_runs_67 : decode cX5_runs 67 = .ok (.pop, 1) := by decide +kernel
theorem dX5_runs_68 : decode cX5_runs 68 = .ok (.aload_n 0, 1) := by decide +kernel
theorem dX5_runs_69 : decode cX5_runs 69 = .ok (.getfield 16, 3) := by decide +kernel
theorem dX5_runs_72 : decode cX5_runs 72 = .ok (.invokevirtual 167, 3) := by decide +kernel
theorem dX5_runs_75 : decode cX5_runs 75 = .ok (.ireturn, 1) := by decide +kernel
theorem dX5_runs_76 : decode cX5_runs 76 = .ok (.aload_n 0, 1) := by decide +kernel
theorem dX5_runs_77 : decode cX5_runs 77 = .ok (.iconst 0, 1) := by decide +kernel
theorem dX5_runs_78 : decode cX5_runs 78 = .ok (.invokevirtual 163, 3) := by decide +kernel
theorem dX5_runs_81 : decode cX5_runs 81 = .ok (.pop, 1) := by decide +kernel
theorem dX5_runs_82 : decode cX5_runs 82 = .ok (.aload_n 0, 1) := by decide +kernel
theorem dX5_runs_83 : decode cX5_runs 83 = .ok (.getfield 16, 3) := by decide +kernel
theorem dX5_runs_86 : decode cX5_runs 86 = .ok (.invokevirtual 170, 3) := by decide +kernel
theorem dX5_runs_89 : decode cX5_runs 89 = .ok (.ireturn, 1) := by decide +kernel
theorem dX5_runs_90 : decode cX5_runs 90 = .ok (.iconst (-1), 1) := by decide +kernel
theorem dX5_runs_91 : decode cX5_runs 91 = .ok (.ireturn, 1) := by decide +kernel
theorem dX5_ahead_0 : decode cX5_ahead 0 = .ok (.aload_n 0, 1) := by decide +kernel
theorem dX5_ahead_1 : decode cX5_ahead 1 = .ok (.iload_n 1, 1) := by decide +kernel
theorem dX5_ahead_2 : decode cX5_ahead 2 = .ok (.invokevirtual 109, 3) := by decide +kernel
theorem dX5_ahead_5 : decode cX5_ahead 5 = .ok (.ifCond .ne 5, 3) := by decide +kernel
theorem dX5_ahead_8 : decode cX5_ahead 8 = .ok (.iconst (-1), 1) := by decide +kernel
theorem dX5_ahead_9 : decode cX5_ahead 9 = .ok (.ireturn, 1) := by decide +kernel
theorem dX5_ahead_10 : decode cX5_ahead 10 = .ok (.aload_n 0, 1) := by decide +kernel
theorem dX5_ahead_11 : decode cX5_ahead 11 = .ok (.iconst 0, 1) := by decide +kernel
theorem dX5_ahead_12 : decode cX5_ahead 12 = .ok (.invokevirtual 163, 3) := by decide +kernel
theorem dX5_ahead_15 : decode cX5_ahead 15 = .ok (.pop, 1) := by decide +kernel
theorem dX5_ahead_16 : decode cX5_ahead 16 = .ok (.aload_n 0, 1) := by decide +kernel
theorem dX5_ahead_17 : decode cX5_ahead 17 = .ok (.getfield 16, 3) := by decide +kernel
theorem dX5_ahead_20 : decode cX5_ahead 20 = .ok (.getfield 173, 3) := by decide +kernel
theorem dX5_ahead_23 : decode cX5_ahead 23 = .ok (.iload_n 1, 1) := by decide +kernel
theorem dX5_ahead_24 : decode cX5_ahead 24 = .ok (.iaload, 1) := by decide +kernel
theorem dX5_ahead_25 : decode cX5_ahead 25 = .ok (.ireturn, 1) := by decide +kernel
theorem dX5_least_0 : decode cX5_least 0 = .ok (.aload_n 0, 1) := by decide +kernel
theorem dX5_least_1 : decode cX5_least 1 = .ok (.iload_n 1, 1) := by decide +kernel
theorem dX5_least_2 : decode cX5_least 2 = .ok (.invokevirtual 109, 3) := by decide +kernel
theorem dX5_least_5 : decode cX5_least 5 = .ok (.ifCond .eq 19, 3) := by decide +kernel
theorem dX5_least_8 : decode cX5_least 8 = .ok (.iload_n 2, 1) := by decide +kernel
theorem dX5_least_9 : decode cX5_least 9 = .ok (.invokestatic 176, 3) := by decide +kernel
theorem dX5_least_12 : decode cX5_least 12 = .ok (.ifCond .eq 12, 3) := by decide +kernel
theorem dX5_least_15 : decode cX5_least 15 = .ok (.iload_n 3, 1) := by decide +kernel
theorem dX5_least_16 : decode cX5_least 16 = .ok (.iconst 0, 1) := by decide +kernel
theorem dX5_least_17 : decode cX5_least 17 = .ok (.iconst 2, 1) := by decide +kernel
theorem dX5_least_18 : decode cX5_least 18 = .ok (.invokestatic 63, 3) := by decide +kernel
theorem dX5_least_21 : decode cX5_least 21 = .ok (.ifCond .ne 5, 3) := by decide +kernel
theorem dX5_least_24 : decode cX5_least 24 = .ok (.iconst (-1), 1) := by decide +kernel
theorem dX5_least_25 : decode cX5_least 25 = .ok (.ireturn, 1) := by decide +kernel
theorem dX5_least_26 : decode cX5_least 26 = .ok (.aload_n 0, 1) := by decide +kernel
theorem dX5_least_27 : decode cX5_least 27 = .ok (.getfield 37, 3) := by decide +kernel
theorem dX5_least_30 : decode cX5_least 30 = .ok (.aload_n 0, 1) := by decide +kernel
theorem dX5_least_31 : decode cX5_least 31 = .ok (.getfield 10, 3) := by decide +kernel
theorem dX5_least_34 : decode cX5_least 34 = .ok (.iload_n 2, 1) := by decide +kernel
theorem dX5_least_35 : decode cX5_least 35 = .ok (.invokevirtual 179, 3) := by decide +kernel
theorem dX5_least_38 : decode cX5_least 38 = .ok (.iload_n 3, 1) := by decide +kernel
theorem dX5_least_39 : decode cX5_least 39 = .ok (.lookupswitch 54 #[(0, 25), (1, 44)], 25) := by decide +kernel
theorem dX5_least_64 : decode cX5_least 64 = .ok (.aload_n 0, 1) := by decide +kernel
theorem dX5_least_65 : decode cX5_least 65 = .ok (.getfield 37, 3) := by decide +kernel
theorem dX5_least_68 : decode cX5_least 68 = .ok (.iload_n 1, 1) := by decide +kernel
theorem dX5_least_69 : decode cX5_least 69 = .ok (.iload_n 2, 1) := by decide +kernel
theorem dX5_least_70 : decode cX5_least 70 = .ok (.aload_n 0, 1) := by decide +kernel
theorem dX5_least_71 : decode cX5_least 71 = .ok (.getfield 37, 3) := by decide +kernel
theorem dX5_least_74 : decode cX5_least 74 = .ok (.iload_n 1, 1) := by decide +kernel
theorem dX5_least_75 : decode cX5_least 75 = .ok (.iload_n 2, 1) := by decide +kernel
theorem dX5_least_76 : decode cX5_least 76 = .ok (.invokevirtual 183, 3) := by decide +kernel
theorem dX5_least_79 : decode cX5_least 79 = .ok (.invokevirtual 186, 3) := by decide +kernel
theorem dX5_least_82 : decode cX5_least 82 = .ok (.ireturn, 1) := by decide +kernel
theorem dX5_least_83 : decode cX5_least 83 = .ok (.aload_n 0, 1) := by decide +kernel
theorem dX5_least_84 : decode cX5_least 84 = .ok (.getfield 37, 3) := by decide +kernel
theorem dX5_least_87 : decode cX5_least 87 = .ok (.iload_n 1, 1) := by decide +kernel
theorem dX5_least_88 : decode cX5_least 88 = .ok (.iload_n 2, 1) := by decide +kernel
theorem dX5_least_89 : decode cX5_least 89 = .ok (.invokevirtual 183, 3) := by decide +kernel
theorem dX5_least_92 : decode cX5_least 92 = .ok (.ireturn, 1) := by decide +kernel
theorem dX5_least_93 : decode cX5_least 93 = .ok (.aload_n 0, 1) := by decide +kernel
theorem dX5_least_94 : decode cX5_least 94 = .ok (.getfield 37, 3) := by decide +kernel
theorem dX5_least_97 : decode cX5_least 97 = .ok (.iload_n 1, 1) := by decide +kernel
theorem dX5_least_98 : decode cX5_least 98 = .ok (.iload_n 2, 1) := by decide +kernel
theorem dX5_least_99 : decode cX5_least 99 = .ok (.invokevirtual 190, 3) := by decide +kernel
theorem dX5_least_102 : decode cX5_least 102 = .ok (.ireturn, 1) := by decide +kernel
theorem dX5_safe_0 : decode cX5_safe 0 = .ok (.iload_n 1, 1) := by decide +kernel
theorem dX5_safe_1 : decode cX5_safe 1 = .ok (.invokestatic 176, 3) := by decide +kernel
theorem dX5_safe_4 : decode cX5_safe 4 = .ok (.ifCond .ne 5, 3) := by decide +kernel
theorem dX5_safe_7 : decode cX5_safe 7 = .ok (.iconst (-1), 1) := by decide +kernel
theorem dX5_safe_8 : decode cX5_safe 8 = .ok (.ireturn, 1) := by decide +kernel
theorem dX5_safe_9 : decode cX5_safe 9 = .ok (.aload_n 0, 1) := by decide +kernel
theorem dX5_safe_10 : decode cX5_safe 10 = .ok (.getfield 37, 3) := by decide +kernel
theorem dX5_safe_13 : decode cX5_safe 13 = .ok (.aload_n 0, 1) := by decide +kernel
theorem dX5_safe_14 : decode cX5_safe 14 = .ok (.getfield 10, 3) := by decide +kernel
theorem dX5_safe_17 : decode cX5_safe 17 = .ok (.invokevirtual 193, 3) := by decide +kernel
theorem dX5_safe_20 : decode cX5_safe 20 = .ok (.aload_n 0, 1) := by decide +kernel
theorem dX5_safe_21 : decode cX5_safe 21 = .ok (.getfield 37, 3) := by decide +kernel
theorem dX5_safe_24 : decode cX5_safe 24 = .ok (.iload_n 1, 1) := by decide +kernel
theorem dX5_safe_25 : decode cX5_safe 25 = .ok (.iconst 0, 1) := by decide +kernel
theorem dX5_safe_26 : decode cX5_safe 26 = .ok (.invokevirtual 196, 3) := by decide +kernel
theorem dX5_safe_29 : decode cX5_safe 29 = .ok (.ireturn, 1) := by decide +kernel
theorem dX5_fair_0 : decode cX5_fair 0 = .ok (.aload_n 0, 1) := by decide +kernel
theorem dX5_fair_1 : decode cX5_fair 1 = .ok (.iload_n 1, 1) := by decide +kernel
theorem dX5_fair_2 : decode cX5_fair 2 = .ok (.invokevirtual 127, 3) := by decide +kernel
theorem dX5_fair_5 : decode cX5_fair 5 = .ok (.ifCond .ne 5, 3) := by decide +kernel
theorem dX5_fair_8 : decode cX5_fair 8 = .ok (.iconst (-1), 1) := by decide +kernel
theorem dX5_fair_9 : decode cX5_fair 9 = .ok (.ireturn, 1) := by decide +kernel
theorem dX5_fair_10 : decode cX5_fair 10 = .ok (.aload_n 0, 1) := by decide +kernel
theorem dX5_fair_11 : decode cX5_fair 11 = .ok (.getfield 10, 3) := by decide +kernel
theorem dX5_fair_14 : decode cX5_fair 14 = .ok (.getfield 130, 3) := by decide +kernel
theorem dX5_fair_17 : decode cX5_fair 17 = .ok (.iconst 3, 1) := by decide +kernel
theorem dX5_fair_18 : decode cX5_fair 18 = .ok (.aaload, 1) := by decide +kernel
theorem dX5_fair_19 : decode cX5_fair 19 = .ok (.iload_n 1, 1) := by decide +kernel
theorem dX5_fair_20 : decode cX5_fair 20 = .ok (.iaload, 1) := by decide +kernel
theorem dX5_fair_21 : decode cX5_fair 21 = .ok (.aload_n 0, 1) := by decide +kernel
theorem dX5_fair_22 : decode cX5_fair 22 = .ok (.getfield 10, 3) := by decide +kernel
theorem dX5_fair_25 : decode cX5_fair 25 = .ok (.getfield 133, 3) := by decide +kernel
theorem dX5_fair_28 : decode cX5_fair 28 = .ok (.aload_n 0, 1) := by decide +kernel
theorem dX5_fair_29 : decode cX5_fair 29 = .ok (.getfield 10, 3) := by decide +kernel
theorem dX5_fair_32 : decode cX5_fair 32 = .ok (.getfield 130, 3) := by decide +kernel
theorem dX5_fair_35 : decode cX5_fair 35 = .ok (.iconst 2, 1) := by decide +kernel
theorem dX5_fair_36 : decode cX5_fair 36 = .ok (.aaload, 1) := by decide +kernel
theorem dX5_fair_37 : decode cX5_fair 37 = .ok (.iload_n 1, 1) := by decide +kernel
theorem dX5_fair_38 : decode cX5_fair 38 = .ok (.iaload, 1) := by decide +kernel
theorem dX5_fair_39 : decode cX5_fair 39 = .ok (.iaload, 1) := by decide +kernel
theorem dX5_fair_40 : decode cX5_fair 40 = .ok (.imul, 1) := by decide +kernel
theorem dX5_fair_41 : decode cX5_fair 41 = .ok (.istore_n 2, 1) := by decide +kernel
theorem dX5_fair_42 : decode cX5_fair 42 = .ok (.iload_n 2, 1) := by decide +kernel
theorem dX5_fair_43 : decode cX5_fair 43 = .ok (.bipush 10, 2) := by decide +kernel
theorem dX5_fair_45 : decode cX5_fair 45 = .ok (.iadd, 1) := by decide +kernel
theorem dX5_fair_46 : decode cX5_fair 46 = .ok (.iconst 1, 1) := by decide +kernel
theorem dX5_fair_47 : decode cX5_fair 47 = .ok (.isub, 1) := by decide +kernel
theorem dX5_fair_48 : decode cX5_fair 48 = .ok (.bipush 10, 2) := by decide +kernel
theorem dX5_fair_50 : decode cX5_fair 50 = .ok (.idiv, 1) := by decide +kernel
theorem dX5_fair_51 : decode cX5_fair 51 = .ok (.ireturn, 1) := by decide +kernel
theorem dX5_help_0 : decode cX5_help 0 = .ok (.iload_n 1, 1) := by decide +kernel
theorem dX5_help_1 : decode cX5_help 1 = .ok (.iconst 1, 1) := by decide +kernel
theorem dX5_help_2 : decode cX5_help 2 = .ok (.bipush 20, 2) := by decide +kernel
theorem dX5_help_4 : decode cX5_help 4 = .ok (.invokestatic 63, 3) := by decide +kernel
theorem dX5_help_7 : decode cX5_help 7 = .ok (.ifCond .eq 12, 3) := by decide +kernel
theorem dX5_help_10 : decode cX5_help 10 = .ok (.iload_n 2, 1) := by decide +kernel
theorem dX5_help_11 : decode cX5_help 11 = .ok (.iconst 0, 1) := by decide +kernel
theorem dX5_help_12 : decode cX5_help 12 = .ok (.iconst 1, 1) := by decide +kernel
theorem dX5_help_13 : decode cX5_help 13 = .ok (.invokestatic 63, 3) := by decide +kernel
theorem dX5_help_16 : decode cX5_help 16 = .ok (.ifCond .ne 5, 3) := by decide +kernel
theorem dX5_help_19 : decode cX5_help 19 = .ok (.iconst (-1), 1) := by decide +kernel
theorem dX5_help_20 : decode cX5_help 20 = .ok (.ireturn, 1) := by decide +kernel
theorem dX5_help_21 : decode cX5_help 21 = .ok (.aload_n 0, 1) := by decide +kernel
theorem dX5_help_22 : decode cX5_help 22 = .ok (.getfield 10, 3) := by decide +kernel
theorem dX5_help_25 : decode cX5_help 25 = .ok (.getfield 94, 3) := by decide +kernel
theorem dX5_help_28 : decode cX5_help 28 = .ok (.iconst 5, 1) := by decide +kernel
theorem dX5_help_29 : decode cX5_help 29 = .ok (.if_icmp .lt 6, 3) := by decide +kernel
theorem dX5_help_32 : decode cX5_help 32 = .ok (.bipush (-3), 2) := by decide +kernel
theorem dX5_help_34 : decode cX5_help 34 = .ok (.ireturn, 1) := by decide +kernel
theorem dX5_help_35 : decode cX5_help 35 = .ok (.aload_n 0, 1) := by decide +kernel
theorem dX5_help_36 : decode cX5_help 36 = .ok (.getfield 37, 3) := by decide +kernel
theorem dX5_help_39 : decode cX5_help 39 = .ok (.aload_n 0, 1) := by decide +kernel
theorem dX5_help_40 : decode cX5_help 40 = .ok (.getfield 10, 3) := by decide +kernel
theorem dX5_help_43 : decode cX5_help 43 = .ok (.iload_n 1, 1) := by decide +kernel
theorem dX5_help_44 : decode cX5_help 44 = .ok (.invokevirtual 199, 3) := by decide +kernel
theorem dX5_help_47 : decode cX5_help 47 = .ok (.aload_n 0, 1) := by decide +kernel
theorem dX5_help_48 : decode cX5_help 48 = .ok (.getfield 37, 3) := by decide +kernel
theorem dX5_help_51 : decode cX5_help 51 = .ok (.iload_n 2, 1) := by decide +kernel
theorem dX5_help_52 : decode cX5_help 52 = .ok (.invokevirtual 202, 3) := by decide +kernel
theorem dX5_help_55 : decode cX5_help 55 = .ok (.ireturn, 1) := by decide +kernel
theorem dX5_spare_0 : decode cX5_spare 0 = .ok (.iload_n 1, 1) := by decide +kernel
theorem dX5_spare_1 : decode cX5_spare 1 = .ok (.iconst 0, 1) := by decide +kernel
theorem dX5_spare_2 : decode cX5_spare 2 = .ok (.iconst 1, 1) := by decide +kernel
theorem dX5_spare_3 : decode cX5_spare 3 = .ok (.invokestatic 63, 3) := by decide +kernel
theorem dX5_spare_6 : decode cX5_spare 6 = .ok (.ifCond .ne 5, 3) := by decide +kernel
theorem dX5_spare_9 : decode cX5_spare 9 = .ok (.iconst (-1), 1) := by decide +kernel
theorem dX5_spare_10 : decode cX5_spare 10 = .ok (.ireturn, 1) := by decide +kernel
theorem dX5_spare_11 : decode cX5_spare 11 = .ok (.aload_n 0, 1) := by decide +kernel
theorem dX5_spare_12 : decode cX5_spare 12 = .ok (.getfield 37, 3) := by decide +kernel
theorem dX5_spare_15 : decode cX5_spare 15 = .ok (.aload_n 0, 1) := by decide +kernel
theorem dX5_spare_16 : decode cX5_spare 16 = .ok (.getfield 10, 3) := by decide +kernel
theorem dX5_spare_19 : decode cX5_spare 19 = .ok (.invokevirtual 205, 3) := by decide +kernel
theorem dX5_spare_22 : decode cX5_spare 22 = .ok (.aload_n 0, 1) := by decide +kernel
theorem dX5_spare_23 : decode cX5_spare 23 = .ok (.getfield 37, 3) := by decide +kernel
theorem dX5_spare_26 : decode cX5_spare 26 = .ok (.iload_n 1, 1) := by decide +kernel
theorem dX5_spare_27 : decode cX5_spare 27 = .ok (.invokevirtual 202, 3) := by decide +kernel
theorem dX5_spare_30 : decode cX5_spare 30 = .ok (.ireturn, 1) := by decide +kernel
theorem dX5_dear_0 : decode cX5_dear 0 = .ok (.iload_n 1, 1) := by decide +kernel
theorem dX5_dear_1 : decode cX5_dear 1 = .ok (.iconst 0, 1) := by decide +kernel
theorem dX5_dear_2 : decode cX5_dear 2 = .ok (.iconst 1, 1) := by decide +kernel
theorem dX5_dear_3 : decode cX5_dear 3 = .ok (.invokestatic 63, 3) := by decide +kernel
theorem dX5_dear_6 : decode cX5_dear 6 = .ok (.ifCond .ne 5, 3) := by decide +kernel
theorem dX5_dear_9 : decode cX5_dear 9 = .ok (.iconst (-1), 1) := by decide +kernel
theorem dX5_dear_10 : decode cX5_dear 10 = .ok (.ireturn, 1) := by decide +kernel
theorem dX5_dear_11 : decode cX5_dear 11 = .ok (.iconst 0, 1) := by decide +kernel
theorem dX5_dear_12 : decode cX5_dear 12 = .ok (.istore_n 2, 1) := by decide +kernel
theorem dX5_dear_13 : decode cX5_dear 13 = .ok (.iconst 1, 1) := by decide +kernel
theorem dX5_dear_14 : decode cX5_dear 14 = .ok (.istore_n 3, 1) := by decide +kernel
theorem dX5_dear_15 : decode cX5_dear 15 = .ok (.iload_n 3, 1) := by decide +kernel
theorem dX5_dear_16 : decode cX5_dear 16 = .ok (.iconst 4, 1) := by decide +kernel
theorem dX5_dear_17 : decode cX5_dear 17 = .ok (.if_icmp .ge 30, 3) := by decide +kernel
theorem dX5_dear_20 : decode cX5_dear 20 = .ok (.aload_n 0, 1) := by decide +kernel
theorem dX5_dear_21 : decode cX5_dear 21 = .ok (.getfield 10, 3) := by decide +kernel
theorem dX5_dear_24 : decode cX5_dear 24 = .ok (.iload_n 3, 1) := by decide +kernel
theorem dX5_dear_25 : decode cX5_dear 25 = .ok (.invokevirtual 208, 3) := by decide +kernel
theorem dX5_dear_28 : decode cX5_dear 28 = .ok (.aload_n 0, 1) := by decide +kernel
theorem dX5_dear_29 : decode cX5_dear 29 = .ok (.getfield 10, 3) := by decide +kernel
theorem dX5_dear_32 : decode cX5_dear 32 = .ok (.iload_n 2, 1) := by decide +kernel
theorem dX5_dear_33 : decode cX5_dear 33 = .ok (.invokevirtual 208, 3) := by decide +kernel
theorem dX5_dear_36 : decode cX5_dear 36 = .ok (.if_icmp .le 5, 3) := by decide +kernel
theorem dX5_dear_39 : decode cX5_dear 39 = .ok (.iload_n 3, 1) := by decide +kernel
theorem dX5_dear_40 : decode cX5_dear 40 = .ok (.istore_n 2, 1) := by decide +kernel
theorem dX5_dear_41 : decode cX5_dear 41 = .ok (.iinc 3 1, 3) := by decide +kernel
theorem dX5_dear_44 : decode cX5_dear 44 = .ok (.goto (-29), 3) := by decide +kernel
theorem dX5_dear_47 : decode cX5_dear 47 = .ok (.iload_n 1, 1) := by decide +kernel
theorem dX5_dear_48 : decode cX5_dear 48 = .ok (.ifCond .ne 7, 3) := by decide +kernel
theorem dX5_dear_51 : decode cX5_dear 51 = .ok (.iload_n 2, 1) := by decide +kernel
theorem dX5_dear_52 : decode cX5_dear 52 = .ok (.goto 11, 3) := by decide +kernel
theorem dX5_dear_55 : decode cX5_dear 55 = .ok (.aload_n 0, 1) := by decide +kernel
theorem dX5_dear_56 : decode cX5_dear 56 = .ok (.getfield 10, 3) := by decide +kernel
theorem dX5_dear_59 : decode cX5_dear 59 = .ok (.iload_n 2, 1) := by decide +kernel
theorem dX5_dear_60 : decode cX5_dear 60 = .ok (.invokevirtual 208, 3) := by decide +kernel
theorem dX5_dear_63 : decode cX5_dear 63 = .ok (.ireturn, 1) := by decide +kernel
theorem dX5_mean_0 : decode cX5_mean 0 = .ok (.aload_n 0, 1) := by decide +kernel
theorem dX5_mean_1 : decode cX5_mean 1 = .ok (.iload_n 1, 1) := by decide +kernel
theorem dX5_mean_2 : decode cX5_mean 2 = .ok (.invokevirtual 109, 3) := by decide +kernel
theorem dX5_mean_5 : decode cX5_mean 5 = .ok (.ifCond .eq 19, 3) := by decide +kernel
theorem dX5_mean_8 : decode cX5_mean 8 = .ok (.iload_n 2, 1) := by decide +kernel
theorem dX5_mean_9 : decode cX5_mean 9 = .ok (.invokestatic 176, 3) := by decide +kernel
theorem dX5_mean_12 : decode cX5_mean 12 = .ok (.ifCond .eq 12, 3) := by decide +kernel
theorem dX5_mean_15 : decode cX5_mean 15 = .ok (.iload_n 3, 1) := by decide +kernel
theorem dX5_mean_16 : decode cX5_mean 16 = .ok (.iconst 0, 1) := by decide +kernel
theorem dX5_mean_17 : decode cX5_mean 17 = .ok (.iconst 1, 1) := by decide +kernel
theorem dX5_mean_18 : decode cX5_mean 18 = .ok (.invokestatic 63, 3) := by decide +kernel
theorem dX5_mean_21 : decode cX5_mean 21 = .ok (.ifCond .ne 7, 3) := by decide +kernel
theorem dX5_mean_24 : decode cX5_mean 24 = .ok (.ldc2_w 211, 3) := by decide +kernel
theorem dX5_mean_27 : decode cX5_mean 27 = .ok (.lreturn, 1) := by decide +kernel
theorem dX5_mean_28 : decode cX5_mean 28 = .ok (.aload_n 0, 1) := by decide +kernel
theorem dX5_mean_29 : decode cX5_mean 29 = .ok (.getfield 37, 3) := by decide +kernel
theorem dX5_mean_32 : decode cX5_mean 32 = .ok (.aload_n 0, 1) := by decide +kernel
theorem dX5_mean_33 : decode cX5_mean 33 = .ok (.getfield 10, 3) := by decide +kernel
theorem dX5_mean_36 : decode cX5_mean 36 = .ok (.iload_n 2, 1) := by decide +kernel
theorem dX5_mean_37 : decode cX5_mean 37 = .ok (.invokevirtual 179, 3) := by decide +kernel
theorem dX5_mean_40 : decode cX5_mean 40 = .ok (.aload_n 0, 1) := by decide +kernel
theorem dX5_mean_41 : decode cX5_mean 41 = .ok (.getfield 37, 3) := by decide +kernel
theorem dX5_mean_44 : decode cX5_mean 44 = .ok (.iload_n 1, 1) := by decide +kernel
theorem dX5_mean_45 : decode cX5_mean 45 = .ok (.iload_n 2, 1) := by decide +kernel
theorem dX5_mean_46 : decode cX5_mean 46 = .ok (.invokevirtual 213, 3) := by decide +kernel
theorem dX5_mean_49 : decode cX5_mean 49 = .ok (.bipush 10, 2) := by decide +kernel
theorem dX5_mean_51 : decode cX5_mean 51 = .ok (.iload_n 2, 1) := by decide +kernel
theorem dX5_mean_52 : decode cX5_mean 52 = .ok (.invokestatic 217, 3) := by decide +kernel
theorem dX5_mean_55 : decode cX5_mean 55 = .ok (.iload_n 3, 1) := by decide +kernel
theorem dX5_mean_56 : decode cX5_mean 56 = .ok (.invokestatic 220, 3) := by decide +kernel
theorem dX5_mean_59 : decode cX5_mean 59 = .ok (.lreturn, 1) := by decide +kernel
theorem dX5_luck_0 : decode cX5_luck 0 = .ok (.aload_n 0, 1) := by decide +kernel
theorem dX5_luck_1 : decode cX5_luck 1 = .ok (.iload_n 1, 1) := by decide +kernel
theorem dX5_luck_2 : decode cX5_luck 2 = .ok (.invokevirtual 109, 3) := by decide +kernel
theorem dX5_luck_5 : decode cX5_luck 5 = .ok (.ifCond .eq 19, 3) := by decide +kernel
theorem dX5_luck_8 : decode cX5_luck 8 = .ok (.iload_n 2, 1) := by decide +kernel
theorem dX5_luck_9 : decode cX5_luck 9 = .ok (.invokestatic 176, 3) := by decide +kernel
theorem dX5_luck_12 : decode cX5_luck 12 = .ok (.ifCond .eq 12, 3) := by decide +kernel
theorem dX5_luck_15 : decode cX5_luck 15 = .ok (.iload_n 3, 1) := by decide +kernel
theorem dX5_luck_16 : decode cX5_luck 16 = .ok (.iconst 0, 1) := by decide +kernel
theorem dX5_luck_17 : decode cX5_luck 17 = .ok (.iconst 1, 1) := by decide +kernel
theorem dX5_luck_18 : decode cX5_luck 18 = .ok (.invokestatic 63, 3) := by decide +kernel
theorem dX5_luck_21 : decode cX5_luck 21 = .ok (.ifCond .ne 7, 3) := by decide +kernel
theorem dX5_luck_24 : decode cX5_luck 24 = .ok (.ldc2_w 211, 3) := by decide +kernel
theorem dX5_luck_27 : decode cX5_luck 27 = .ok (.lreturn, 1) := by decide +kernel
theorem dX5_luck_28 : decode cX5_luck 28 = .ok (.aload_n 0, 1) := by decide +kernel
theorem dX5_luck_29 : decode cX5_luck 29 = .ok (.getfield 37, 3) := by decide +kernel
theorem dX5_luck_32 : decode cX5_luck 32 = .ok (.aload_n 0, 1) := by decide +kernel
theorem dX5_luck_33 : decode cX5_luck 33 = .ok (.getfield 10, 3) := by decide +kernel
theorem dX5_luck_36 : decode cX5_luck 36 = .ok (.iload_n 2, 1) := by decide +kernel
theorem dX5_luck_37 : decode cX5_luck 37 = .ok (.invokevirtual 179, 3) := by decide +kernel
theorem dX5_luck_40 : decode cX5_luck 40 = .ok (.aload_n 0, 1) := by decide +kernel
theorem dX5_luck_41 : decode cX5_luck 41 = .ok (.getfield 37, 3) := by decide +kernel
theorem dX5_luck_44 : decode cX5_luck 44 = .ok (.iload_n 1, 1) := by decide +kernel
theorem dX5_luck_45 : decode cX5_luck 45 = .ok (.iload_n 2, 1) := by decide +kernel
theorem dX5_luck_46 : decode cX5_luck 46 = .ok (.invokevirtual 224, 3) := by decide +kernel
theorem dX5_luck_49 : decode cX5_luck 49 = .ok (.bipush 10, 2) := by decide +kernel
theorem dX5_luck_51 : decode cX5_luck 51 = .ok (.iload_n 2, 1) := by decide +kernel
theorem dX5_luck_52 : decode cX5_luck 52 = .ok (.invokestatic 217, 3) := by decide +kernel
theorem dX5_luck_55 : decode cX5_luck 55 = .ok (.iload_n 3, 1) := by decide +kernel
theorem dX5_luck_56 : decode cX5_luck 56 = .ok (.invokestatic 220, 3) := by decide +kernel
theorem dX5_luck_59 : decode cX5_luck 59 = .ok (.lreturn, 1) := by decide +kernel
theorem dX5_forecast_0 : decode cX5_forecast 0 = .ok (.aload_n 0, 1) := by decide +kernel
theorem dX5_forecast_1 : decode cX5_forecast 1 = .ok (.iload_n 1, 1) := by decide +kernel
theorem dX5_forecast_2 : decode cX5_forecast 2 = .ok (.invokevirtual 109, 3) := by decide +kernel
theorem dX5_forecast_5 : decode cX5_forecast 5 = .ok (.ifCond .eq 12, 3) := by decide +kernel
theorem dX5_forecast_8 : decode cX5_forecast 8 = .ok (.iload_n 2, 1) := by decide +kernel
theorem dX5_forecast_9 : decode cX5_forecast 9 = .ok (.iconst 0, 1) := by decide +kernel
theorem dX5_forecast_10 : decode cX5_forecast 10 = .ok (.iconst 1, 1) := by decide +kernel
theorem dX5_forecast_11 : decode cX5_forecast 11 = .ok (.invokestatic 63, 3) := by decide +kernel
theorem dX5_forecast_14 : decode cX5_forecast 14 = .ok (.ifCond .ne 7, 3) := by decide +kernel
theorem dX5_forecast_17 : decode cX5_forecast 17 = .ok (.ldc2_w 211, 3) := by decide +kernel
theorem dX5_forecast_20 : decode cX5_forecast 20 = .ok (.lreturn, 1) := by decide +kernel
theorem dX5_forecast_21 : decode cX5_forecast 21 = .ok (.iconst 0, 1) := by decide +kernel
theorem dX5_forecast_22 : decode cX5_forecast 22 = .ok (.istore_n 3, 1) := by decide +kernel
theorem dX5_forecast_23 : decode cX5_forecast 23 = .ok (.iconst 0, 1) := by decide +kernel
theorem dX5_forecast_24 : decode cX5_forecast 24 = .ok (.istore 4, 2) := by decide +kernel
theorem dX5_forecast_26 : decode cX5_forecast 26 = .ok (.iconst 0, 1) := by decide +kernel
theorem dX5_forecast_27 : decode cX5_forecast 27 = .ok (.istore 5, 2) := by decide +kernel
theorem dX5_forecast_29 : decode cX5_forecast 29 = .ok (.iload 5, 2) := by decide +kernel
theorem dX5_forecast_31 : decode cX5_forecast 31 = .ok (.iconst 4, 1) := by decide +kernel
theorem dX5_forecast_32 : decode cX5_forecast 32 = .ok (.if_icmp .ge 48, 3) := by decide +kernel
theorem dX5_forecast_35 : decode cX5_forecast 35 = .ok (.aload_n 0, 1) := by decide +kernel
theorem dX5_forecast_36 : decode cX5_forecast 36 = .ok (.getfield 10, 3) := by decide +kernel
theorem dX5_forecast_39 : decode cX5_forecast 39 = .ok (.getfield 133, 3) := by decide +kernel
theorem dX5_forecast_42 : decode cX5_forecast 42 = .ok (.iload 5, 2) := by decide +kernel
theorem dX5_forecast_44 : decode cX5_forecast 44 = .ok (.iaload, 1) := by decide +kernel
theorem dX5_forecast_45 : decode cX5_forecast 45 = .ok (.aload_n 0, 1) := by decide +kernel
theorem dX5_forecast_46 : decode cX5_forecast 46 = .ok (.getfield 10, 3) := by decide +kernel
theorem dX5_forecast_49 : decode cX5_forecast 49 = .ok (.iload_n 1, 1) := by decide +kernel
theorem dX5_forecast_50 : decode cX5_forecast 50 = .ok (.iload 5, 2) := by decide +kernel
theorem dX5_forecast_52 : decode cX5_forecast 52 = .ok (.invokevirtual 124, 3) := by decide +kernel
theorem dX5_forecast_55 : decode cX5_forecast 55 = .ok (.imul, 1) := by decide +kernel
theorem dX5_forecast_56 : decode cX5_forecast 56 = .ok (.istore 6, 2) := by decide +kernel
theorem dX5_forecast_58 : decode cX5_forecast 58 = .ok (.iload_n 3, 1) := by decide +kernel
theorem dX5_forecast_59 : decode cX5_forecast 59 = .ok (.iload 6, 2) := by decide +kernel
theorem dX5_forecast_61 : decode cX5_forecast 61 = .ok (.iadd, 1) := by decide +kernel
theorem dX5_forecast_62 : decode cX5_forecast 62 = .ok (.istore_n 3, 1) := by decide +kernel
theorem dX5_forecast_63 : decode cX5_forecast 63 = .ok (.iload 4, 2) := by decide +kernel
theorem dX5_forecast_65 : decode cX5_forecast 65 = .ok (.iload 6, 2) := by decide +kernel
theorem dX5_forecast_67 : decode cX5_forecast 67 = .ok (.iconst 0, 1) := by decide +kernel
theorem dX5_forecast_68 : decode cX5_forecast 68 = .ok (.invokestatic 227, 3) := by decide +kernel
theorem dX5_forecast_71 : decode cX5_forecast 71 = .ok (.iadd, 1) := by decide +kernel
theorem dX5_forecast_72 : decode cX5_forecast 72 = .ok (.istore 4, 2) := by decide +kernel
theorem dX5_forecast_74 : decode cX5_forecast 74 = .ok (.iinc 5 1, 3) := by decide +kernel
theorem dX5_forecast_77 : decode cX5_forecast 77 = .ok (.goto (-48), 3) := by decide +kernel
theorem dX5_forecast_80 : decode cX5_forecast 80 = .ok (.iload 4, 2) := by decide +kernel
theorem dX5_forecast_82 : decode cX5_forecast 82 = .ok (.iload_n 3, 1) := by decide +kernel
theorem dX5_forecast_83 : decode cX5_forecast 83 = .ok (.iconst 0, 1) := by decide +kernel
theorem dX5_forecast_84 : decode cX5_forecast 84 = .ok (.invokestatic 227, 3) := by decide +kernel
theorem dX5_forecast_87 : decode cX5_forecast 87 = .ok (.isub, 1) := by decide +kernel
theorem dX5_forecast_88 : decode cX5_forecast 88 = .ok (.i2l, 1) := by decide +kernel
theorem dX5_forecast_89 : decode cX5_forecast 89 = .ok (.ldc2_w 232, 3) := by decide +kernel
theorem dX5_forecast_92 : decode cX5_forecast 92 = .ok (.iload_n 2, 1) := by decide +kernel
theorem dX5_forecast_93 : decode cX5_forecast 93 = .ok (.invokestatic 220, 3) := by decide +kernel
theorem dX5_forecast_96 : decode cX5_forecast 96 = .ok (.lreturn, 1) := by decide +kernel
theorem dX5_pays_0 : decode cX5_pays 0 = .ok (.iconst 1, 1) := by decide +kernel
theorem dX5_pays_1 : decode cX5_pays 1 = .ok (.aload_n 0, 1) := by decide +kernel
theorem dX5_pays_2 : decode cX5_pays 2 = .ok (.getfield 10, 3) := by decide +kernel
theorem dX5_pays_5 : decode cX5_pays 5 = .ok (.getfield 91, 3) := by decide +kernel
theorem dX5_pays_8 : decode cX5_pays 8 = .ok (.ishl, 1) := by decide +kernel
theorem dX5_pays_9 : decode cX5_pays 9 = .ok (.iconst 1, 1) := by decide +kernel
theorem dX5_pays_10 : decode cX5_pays 10 = .ok (.isub, 1) := by decide +kernel
theorem dX5_pays_11 : decode cX5_pays 11 = .ok (.istore_n 1, 1) := by decide +kernel
theorem dX5_pays_12 : decode cX5_pays 12 = .ok (.aload_n 0, 1) := by decide +kernel
theorem dX5_pays_13 : decode cX5_pays 13 = .ok (.getfield 54, 3) := by decide +kernel
theorem dX5_pays_16 : decode cX5_pays 16 = .ok (.iconst 0, 1) := by decide +kernel
theorem dX5_pays_17 : decode cX5_pays 17 = .ok (.iconst 0, 1) := by decide +kernel
theorem dX5_pays_18 : decode cX5_pays 18 = .ok (.iastore, 1) := by decide +kernel
theorem dX5_pays_19 : decode cX5_pays 19 = .ok (.iconst 1, 1) := by decide +kernel
theorem dX5_pays_20 : decode cX5_pays 20 = .ok (.istore_n 2, 1) := by decide +kernel
theorem dX5_pays_21 : decode cX5_pays 21 = .ok (.iload_n 2, 1) := by decide +kernel
theorem dX5_pays_22 : decode cX5_pays 22 = .ok (.iload_n 1, 1) := by decide +kernel
theorem dX5_pays_23 : decode cX5_pays 23 = .ok (.if_icmp .gt 93, 3) := by decide +kernel
theorem dX5_pays_26 : decode cX5_pays 26 = .ok (.iconst 0, 1) := by decide +kernel
theorem dX5_pays_27 : decode cX5_pays 27 = .ok (.istore_n 3, 1) := by decide +kernel
theorem dX5_pays_28 : decode cX5_pays 28 = .ok (.iconst 0, 1) := by decide +kernel
theorem dX5_pays_29 : decode cX5_pays 29 = .ok (.istore 4, 2) := by decide +kernel
theorem dX5_pays_31 : decode cX5_pays 31 = .ok (.iconst 0, 1) := by decide +kernel
theorem dX5_pays_32 : decode cX5_pays 32 = .ok (.istore 5, 2) := by decide +kernel
theorem dX5_pays_34 : decode cX5_pays 34 = .ok (.iload 5, 2) := by decide +kernel
theorem dX5_pays_36 : decode cX5_pays 36 = .ok (.aload_n 0, 1) := by decide +kernel
theorem dX5_pays_37 : decode cX5_pays 37 = .ok (.getfield 10, 3) := by decide +kernel
theorem dX5_pays_40 : decode cX5_pays 40 = .ok (.getfield 91, 3) := by decide +kernel
theorem dX5_pays_43 : decode cX5_pays 43 = .ok (.if_icmp .ge 49, 3) := by decide +kernel
theorem dX5_pays_46 : decode cX5_pays 46 = .ok (.iload_n 2, 1) := by decide +kernel
theorem dX5_pays_47 : decode cX5_pays 47 = .ok (.iload 5, 2) := by decide +kernel
theorem dX5_pays_49 : decode cX5_pays 49 = .ok (.ishr, 1) := by decide +kernel
theorem dX5_pays_50 : decode cX5_pays 50 = .ok (.iconst 1, 1) := by decide +kernel
theorem dX5_pays_51 : decode cX5_pays 51 = .ok (.iand, 1) := by decide +kernel
theorem dX5_pays_52 : decode cX5_pays 52 = .ok (.iconst 1, 1) := by decide +kernel
theorem dX5_pays_53 : decode cX5_pays 53 = .ok (.if_icmp .ne 33, 3) := by decide +kernel
theorem dX5_pays_56 : decode cX5_pays 56 = .ok (.iload 4, 2) := by decide +kernel
theorem dX5_pays_58 : decode cX5_pays 58 = .ok (.aload_n 0, 1) := by decide +kernel
theorem dX5_pays_59 : decode cX5_pays 59 = .ok (.getfield 10, 3) := by decide +kernel
theorem dX5_pays_62 : decode cX5_pays 62 = .ok (.iload 5, 2) := by decide +kernel
theorem dX5_pays_64 : decode cX5_pays 64 = .ok (.invokevirtual 234, 3) := by decide +kernel
theorem dX5_pays_67 : decode cX5_pays 67 = .ok (.iadd, 1) := by decide +kernel
theorem dX5_pays_68 : decode cX5_pays 68 = .ok (.istore 4, 2) := by decide +kernel
theorem dX5_pays_70 : decode cX5_pays 70 = .ok (.iload_n 3, 1) := by decide +kernel
theorem dX5_pays_71 : decode cX5_pays 71 = .ok (.aload_n 0, 1) := by decide +kernel
theorem dX5_pays_72 : decode cX5_pays 72 = .ok (.getfield 54, 3) := by decide +kernel
theorem dX5_pays_75 : decode cX5_pays 75 = .ok (.iload_n 2, 1) := by decide +kernel
theorem dX5_pays_76 : decode cX5_pays 76 = .ok (.iconst 1, 1) := by decide +kernel
theorem dX5_pays_77 : decode cX5_pays 77 = .ok (.iload 5, 2) := by decide +kernel
theorem dX5_pays_79 : decode cX5_pays 79 = .ok (.ishl, 1) := by decide +kernel
theorem dX5_pays_80 : decode cX5_pays 80 = .ok (.ixor, 1) := by decide +kernel
theorem dX5_pays_81 : decode cX5_pays 81 = .ok (.iaload, 1) := by decide +kernel
theorem dX5_pays_82 : decode cX5_pays 82 = .ok (.invokestatic 227, 3) := by decide +kernel
theorem dX5_pays_85 : decode cX5_pays 85 = .ok (.istore_n 3, 1) := by decide +kernel
theorem dX5_pays_86 : decode cX5_pays 86 = .ok (.iinc 5 1, 3) := by decide +kernel
theorem dX5_pays_89 : decode cX5_pays 89 = .ok (.goto (-55), 3) := by decide +kernel
theorem dX5_pays_92 : decode cX5_pays 92 = .ok (.aload_n 0, 1) := by decide +kernel
theorem dX5_pays_93 : decode cX5_pays 93 = .ok (.getfield 54, 3) := by decide +kernel
theorem dX5_pays_96 : decode cX5_pays 96 = .ok (.iload_n 2, 1) := by decide +kernel
theorem dX5_pays_97 : decode cX5_pays 97 = .ok (.iload 4, 2) := by decide +kernel
theorem dX5_pays_99 : decode cX5_pays 99 = .ok (.ifCond .ne 9, 3) := by decide +kernel
theorem dX5_pays_102 : decode cX5_pays 102 = .ok (.iload_n 3, 1) := by decide +kernel
theorem dX5_pays_103 : decode cX5_pays 103 = .ok (.iconst 1, 1) := by decide +kernel
theorem dX5_pays_104 : decode cX5_pays 104 = .ok (.iadd, 1) := by decide +kernel
theorem dX5_pays_105 : decode cX5_pays 105 = .ok (.goto 4, 3) := by decide +kernel
theorem dX5_pays_108 : decode cX5_pays 108 = .ok (.iload_n 3, 1) := by decide +kernel
theorem dX5_pays_109 : decode cX5_pays 109 = .ok (.iastore, 1) := by decide +kernel
theorem dX5_pays_110 : decode cX5_pays 110 = .ok (.iinc 2 1, 3) := by decide +kernel
theorem dX5_pays_113 : decode cX5_pays 113 = .ok (.goto (-92), 3) := by decide +kernel
theorem dX5_pays_116 : decode cX5_pays 116 = .ok (.aload_n 0, 1) := by decide +kernel
theorem dX5_pays_117 : decode cX5_pays 117 = .ok (.getfield 10, 3) := by decide +kernel
theorem dX5_pays_120 : decode cX5_pays 120 = .ok (.getfield 91, 3) := by decide +kernel
theorem dX5_pays_123 : decode cX5_pays 123 = .ok (.aload_n 0, 1) := by decide +kernel
theorem dX5_pays_124 : decode cX5_pays 124 = .ok (.getfield 54, 3) := by decide +kernel
theorem dX5_pays_127 : decode cX5_pays 127 = .ok (.iload_n 1, 1) := by decide +kernel
theorem dX5_pays_128 : decode cX5_pays 128 = .ok (.iaload, 1) := by decide +kernel
theorem dX5_pays_129 : decode cX5_pays 129 = .ok (.isub, 1) := by decide +kernel
theorem dX5_pays_130 : decode cX5_pays 130 = .ok (.ireturn, 1) := by decide +kernel
theorem dX5_forgive_0 : decode cX5_forgive 0 = .ok (.aload_n 0, 1) := by decide +kernel
theorem dX5_forgive_1 : decode cX5_forgive 1 = .ok (.getfield 10, 3) := by decide +kernel
theorem dX5_forgive_4 : decode cX5_forgive 4 = .ok (.invokevirtual 170, 3) := by decide +kernel
theorem dX5_forgive_7 : decode cX5_forgive 7 = .ok (.istore_n 1, 1) := by decide +kernel
theorem dX5_forgive_8 : decode cX5_forgive 8 = .ok (.aload_n 0, 1) := by decide +kernel
theorem dX5_forgive_9 : decode cX5_forgive 9 = .ok (.getfield 10, 3) := by decide +kernel
theorem dX5_forgive_12 : decode cX5_forgive 12 = .ok (.invokevirtual 237, 3) := by decide +kernel
theorem dX5_forgive_15 : decode cX5_forgive 15 = .ok (.iload_n 1, 1) := by decide +kernel
theorem dX5_forgive_16 : decode cX5_forgive 16 = .ok (.ireturn, 1) := by decide +kernel
theorem dX5_see_0 : decode cX5_see 0 = .ok (.aload_n 0, 1) := by decide +kernel
theorem dX5_see_1 : decode cX5_see 1 = .ok (.iload_n 1, 1) := by decide +kernel
theorem dX5_see_2 : decode cX5_see 2 = .ok (.invokevirtual 109, 3) := by decide +kernel
theorem dX5_see_5 : decode cX5_see 5 = .ok (.ifCond .eq 23, 3) := by decide +kernel
theorem dX5_see_8 : decode cX5_see 8 = .ok (.iload_n 2, 1) := by decide +kernel
theorem dX5_see_9 : decode cX5_see 9 = .ok (.iconst 1, 1) := by decide +kernel
theorem dX5_see_10 : decode cX5_see 10 = .ok (.iconst 4, 1) := by decide +kernel
theorem dX5_see_11 : decode cX5_see 11 = .ok (.invokestatic 63, 3) := by decide +kernel
theorem dX5_see_14 : decode cX5_see 14 = .ok (.ifCond .eq 14, 3) := by decide +kernel
theorem dX5_see_17 : decode cX5_see 17 = .ok (.iload_n 3, 1) := by decide +kernel
theorem dX5_see_18 : decode cX5_see 18 = .ok (.iconst 0, 1) := by decide +kernel
theorem dX5_see_19 : decode cX5_see 19 = .ok (.sipush 255, 3) := by decide +kernel
theorem dX5_see_22 : decode cX5_see 22 = .ok (.invokestatic 63, 3) := by decide +kernel
theorem dX5_see_25 : decode cX5_see 25 = .ok (.ifCond .ne 5, 3) := by decide +kernel
theorem dX5_see_28 : decode cX5_see 28 = .ok (.iconst (-1), 1) := by decide +kernel
theorem dX5_see_29 : decode cX5_see 29 = .ok (.ireturn, 1) := by decide +kernel
theorem dX5_see_30 : decode cX5_see 30 = .ok (.aload_n 0, 1) := by decide +kernel
theorem dX5_see_31 : decode cX5_see 31 = .ok (.getfield 44, 3) := by decide +kernel
theorem dX5_see_34 : decode cX5_see 34 = .ok (.getfield 85, 3) := by decide +kernel
theorem dX5_see_37 : decode cX5_see 37 = .ok (.bipush 6, 2) := by decide +kernel
theorem dX5_see_39 : decode cX5_see 39 = .ok (.if_icmp .lt 6, 3) := by decide +kernel
theorem dX5_see_42 : decode cX5_see 42 = .ok (.bipush (-3), 2) := by decide +kernel
theorem dX5_see_44 : decode cX5_see 44 = .ok (.ireturn, 1) := by decide +kernel
theorem dX5_see_45 : decode cX5_see 45 = .ok (.aload_n 0, 1) := by decide +kernel
theorem dX5_see_46 : decode cX5_see 46 = .ok (.getfield 44, 3) := by decide +kernel
theorem dX5_see_49 : decode cX5_see 49 = .ok (.iload_n 1, 1) := by decide +kernel
theorem dX5_see_50 : decode cX5_see 50 = .ok (.iload_n 2, 1) := by decide +kernel
theorem dX5_see_51 : decode cX5_see 51 = .ok (.iload_n 3, 1) := by decide +kernel
theorem dX5_see_52 : decode cX5_see 52 = .ok (.invokevirtual 240, 3) := by decide +kernel
theorem dX5_see_55 : decode cX5_see 55 = .ok (.aload_n 0, 1) := by decide +kernel
theorem dX5_see_56 : decode cX5_see 56 = .ok (.getfield 44, 3) := by decide +kernel
theorem dX5_see_59 : decode cX5_see 59 = .ok (.getfield 85, 3) := by decide +kernel
theorem dX5_see_62 : decode cX5_see 62 = .ok (.ireturn, 1) := by decide +kernel
theorem dX5_forget_0 : decode cX5_forget 0 = .ok (.iload_n 1, 1) := by decide +kernel
theorem dX5_forget_1 : decode cX5_forget 1 = .ok (.iconst 0, 1) := by decide +kernel
theorem dX5_forget_2 : decode cX5_forget 2 = .ok (.aload_n 0, 1) := by decide +kernel
theorem dX5_forget_3 : decode cX5_forget 3 = .ok (.getfield 44, 3) := by decide +kernel
theorem dX5_forget_6 : decode cX5_forget 6 = .ok (.getfield 85, 3) := by decide +kernel
theorem dX5_forget_9 : decode cX5_forget 9 = .ok (.invokestatic 63, 3) := by decide +kernel
theorem dX5_forget_12 : decode cX5_forget 12 = .ok (.ifCond .ne 5, 3) := by decide +kernel
theorem dX5_forget_15 : decode cX5_forget 15 = .ok (.iconst (-1), 1) := by decide +kernel
theorem dX5_forget_16 : decode cX5_forget 16 = .ok (.ireturn, 1) := by decide +kernel
theorem dX5_forget_17 : decode cX5_forget 17 = .ok (.aload_n 0, 1) := by decide +kernel
theorem dX5_forget_18 : decode cX5_forget 18 = .ok (.getfield 44, 3) := by decide +kernel
theorem dX5_forget_21 : decode cX5_forget 21 = .ok (.getfield 85, 3) := by decide +kernel
theorem dX5_forget_24 : decode cX5_forget 24 = .ok (.istore_n 2, 1) := by decide +kernel
theorem dX5_forget_25 : decode cX5_forget 25 = .ok (.aload_n 0, 1) := by decide +kernel
theorem dX5_forget_26 : decode cX5_forget 26 = .ok (.getfield 44, 3) := by decide +kernel
theorem dX5_forget_29 : decode cX5_forget 29 = .ok (.iload_n 1, 1) := by decide +kernel
theorem dX5_forget_30 : decode cX5_forget 30 = .ok (.putfield 85, 3) := by decide +kernel
theorem dX5_forget_33 : decode cX5_forget 33 = .ok (.iload_n 2, 1) := by decide +kernel
theorem dX5_forget_34 : decode cX5_forget 34 = .ok (.ireturn, 1) := by decide +kernel
theorem dX5_fits_0 : decode cX5_fits 0 = .ok (.iload_n 1, 1) := by decide +kernel
theorem dX5_fits_1 : decode cX5_fits 1 = .ok (.bipush 10, 2) := by decide +kernel
theorem dX5_fits_3 : decode cX5_fits 3 = .ok (.isub, 1) := by decide +kernel
theorem dX5_fits_4 : decode cX5_fits 4 = .ok (.istore_n 2, 1) := by decide +kernel
theorem dX5_fits_5 : decode cX5_fits 5 = .ok (.iload_n 1, 1) := by decide +kernel
theorem dX5_fits_6 : decode cX5_fits 6 = .ok (.ifCond .eq 19, 3) := by decide +kernel
theorem dX5_fits_9 : decode cX5_fits 9 = .ok (.iload_n 1, 1) := by decide +kernel
theorem dX5_fits_10 : decode cX5_fits 10 = .ok (.iconst 1, 1) := by decide +kernel
theorem dX5_fits_11 : decode cX5_fits 11 = .ok (.if_icmp .eq 14, 3) := by decide +kernel
theorem dX5_fits_14 : decode cX5_fits 14 = .ok (.iload_n 2, 1) := by decide +kernel
theorem dX5_fits_15 : decode cX5_fits 15 = .ok (.iconst 0, 1) := by decide +kernel
theorem dX5_fits_16 : decode cX5_fits 16 = .ok (.iconst 3, 1) := by decide +kernel
theorem dX5_fits_17 : decode cX5_fits 17 = .ok (.invokestatic 63, 3) := by decide +kernel
theorem dX5_fits_20 : decode cX5_fits 20 = .ok (.ifCond .ne 5, 3) := by decide +kernel
theorem dX5_fits_23 : decode cX5_fits 23 = .ok (.iconst (-1), 1) := by decide +kernel
theorem dX5_fits_24 : decode cX5_fits 24 = .ok (.ireturn, 1) := by decide +kernel
theorem dX5_fits_25 : decode cX5_fits 25 = .ok (.aload_n 0, 1) := by decide +kernel
theorem dX5_fits_26 : decode cX5_fits 26 = .ok (.getfield 37, 3) := by decide +kernel
theorem dX5_fits_29 : decode cX5_fits 29 = .ok (.aload_n 0, 1) := by decide +kernel
theorem dX5_fits_30 : decode cX5_fits 30 = .ok (.getfield 10, 3) := by decide +kernel
theorem dX5_fits_33 : decode cX5_fits 33 = .ok (.aload_n 0, 1) := by decide +kernel
theorem dX5_fits_34 : decode cX5_fits 34 = .ok (.getfield 44, 3) := by decide +kernel
theorem dX5_fits_37 : decode cX5_fits 37 = .ok (.invokevirtual 244, 3) := by decide +kernel
theorem dX5_fits_40 : decode cX5_fits 40 = .ok (.iload_n 1, 1) := by decide +kernel
theorem dX5_fits_41 : decode cX5_fits 41 = .ok (.ifCond .ne 11, 3) := by decide +kernel
theorem dX5_fits_44 : decode cX5_fits 44 = .ok (.aload_n 0, 1) := by decide +kernel
theorem dX5_fits_45 : decode cX5_fits 45 = .ok (.getfield 37, 3) := by decide +kernel
theorem dX5_fits_48 : decode cX5_fits 48 = .ok (.getfield 248, 3) := by decide +kernel
theorem dX5_fits_51 : decode cX5_fits 51 = .ok (.ireturn, 1) := by decide +kernel
theorem dX5_fits_52 : decode cX5_fits 52 = .ok (.iload_n 1, 1) := by decide +kernel
theorem dX5_fits_53 : decode cX5_fits 53 = .ok (.iconst 1, 1) := by decide +kernel
theorem dX5_fits_54 : decode cX5_fits 54 = .ok (.if_icmp .ne 28, 3) := by decide +kernel
theorem dX5_fits_57 : decode cX5_fits 57 = .ok (.aload_n 0, 1) := by decide +kernel
theorem dX5_fits_58 : decode cX5_fits 58 = .ok (.getfield 37, 3) := by decide +kernel
theorem dX5_fits_61 : decode cX5_fits 61 = .ok (.getfield 248, 3) := by decide +kernel
theorem dX5_fits_64 : decode cX5_fits 64 = .ok (.ifCond .ne 8, 3) := by decide +kernel
theorem dX5_fits_67 : decode cX5_fits 67 = .ok (.bipush (-4), 2) := by decide +kernel
theorem dX5_fits_69 : decode cX5_fits 69 = .ok (.goto 12, 3) := by decide +kernel
theorem dX5_fits_72 : decode cX5_fits 72 = .ok (.aload_n 0, 1) := by decide +kernel
theorem dX5_fits_73 : decode cX5_fits 73 = .ok (.getfield 37, 3) := by decide +kernel
theorem dX5_fits_76 : decode cX5_fits 76 = .ok (.getfield 251, 3) := by decide +kernel
theorem dX5_fits_79 : decode cX5_fits 79 = .ok (.iconst 0, 1) := by decide +kernel
theorem dX5_fits_80 : decode cX5_fits 80 = .ok (.iaload, 1) := by decide +kernel
theorem dX5_fits_81 : decode cX5_fits 81 = .ok (.ireturn, 1) := by decide +kernel
theorem dX5_fits_82 : decode cX5_fits 82 = .ok (.aload_n 0, 1) := by decide +kernel
theorem dX5_fits_83 : decode cX5_fits 83 = .ok (.getfield 37, 3) := by decide +kernel
theorem dX5_fits_86 : decode cX5_fits 86 = .ok (.iload_n 2, 1) := by decide +kernel
theorem dX5_fits_87 : decode cX5_fits 87 = .ok (.invokevirtual 254, 3) := by decide +kernel
theorem dX5_fits_90 : decode cX5_fits 90 = .ok (.ireturn, 1) := by decide +kernel
theorem dX5_look_0 : decode cX5_look 0 = .ok (.iload_n 1, 1) := by decide +kernel
theorem dX5_look_1 : decode cX5_look 1 = .ok (.iconst 0, 1) := by decide +kernel
theorem dX5_look_2 : decode cX5_look 2 = .ok (.iconst 1, 1) := by decide +kernel
theorem dX5_look_3 : decode cX5_look 3 = .ok (.invokestatic 63, 3) := by decide +kernel
theorem dX5_look_6 : decode cX5_look 6 = .ok (.ifCond .ne 5, 3) := by decide +kernel
theorem dX5_look_9 : decode cX5_look 9 = .ok (.iconst (-1), 1) := by decide +kernel
theorem dX5_look_10 : decode cX5_look 10 = .ok (.ireturn, 1) := by decide +kernel
theorem dX5_look_11 : decode cX5_look 11 = .ok (.aload_n 0, 1) := by decide +kernel
theorem dX5_look_12 : decode cX5_look 12 = .ok (.getfield 37, 3) := by decide +kernel
theorem dX5_look_15 : decode cX5_look 15 = .ok (.aload_n 0, 1) := by decide +kernel
theorem dX5_look_16 : decode cX5_look 16 = .ok (.getfield 10, 3) := by decide +kernel
theorem dX5_look_19 : decode cX5_look 19 = .ok (.aload_n 0, 1) := by decide +kernel
theorem dX5_look_20 : decode cX5_look 20 = .ok (.getfield 44, 3) := by decide +kernel
theorem dX5_look_23 : decode cX5_look 23 = .ok (.invokevirtual 244, 3) := by decide +kernel
theorem dX5_look_26 : decode cX5_look 26 = .ok (.aload_n 0, 1) := by decide +kernel
theorem dX5_look_27 : decode cX5_look 27 = .ok (.getfield 37, 3) := by decide +kernel
theorem dX5_look_30 : decode cX5_look 30 = .ok (.invokevirtual 257, 3) := by decide +kernel
theorem dX5_look_33 : decode cX5_look 33 = .ok (.aload_n 0, 1) := by decide +kernel
theorem dX5_look_34 : decode cX5_look 34 = .ok (.getfield 37, 3) := by decide +kernel
theorem dX5_look_37 : decode cX5_look 37 = .ok (.iload_n 1, 1) := by decide +kernel
theorem dX5_look_38 : decode cX5_look 38 = .ok (.invokevirtual 202, 3) := by decide +kernel
theorem dX5_look_41 : decode cX5_look 41 = .ok (.ireturn, 1) := by decide +kernel
theorem dX5_drift_0 : decode cX5_drift 0 = .ok (.iload_n 2, 1) := by decide +kernel
theorem dX5_drift_1 : decode cX5_drift 1 = .ok (.iconst 1, 1) := by decide +kernel
theorem dX5_drift_2 : decode cX5_drift 2 = .ok (.bipush 60, 2) := by decide +kernel
theorem dX5_drift_4 : decode cX5_drift 4 = .ok (.invokestatic 63, 3) := by decide +kernel
theorem dX5_drift_7 : decode cX5_drift 7 = .ok (.ifCond .eq 12, 3) := by decide +kernel
theorem dX5_drift_10 : decode cX5_drift 10 = .ok (.iload_n 3, 1) := by decide +kernel
theorem dX5_drift_11 : decode cX5_drift 11 = .ok (.iconst 0, 1) := by decide +kernel
theorem dX5_drift_12 : decode cX5_drift 12 = .ok (.iconst 1, 1) := by decide +kernel
theorem dX5_drift_13 : decode cX5_drift 13 = .ok (.invokestatic 63, 3) := by decide +kernel
theorem dX5_drift_16 : decode cX5_drift 16 = .ok (.ifCond .ne 5, 3) := by decide +kernel
theorem dX5_drift_19 : decode cX5_drift 19 = .ok (.iconst (-1), 1) := by decide +kernel
theorem dX5_drift_20 : decode cX5_drift 20 = .ok (.ireturn, 1) := by decide +kernel
theorem dX5_drift_21 : decode cX5_drift 21 = .ok (.aload_n 0, 1) := by decide +kernel
theorem dX5_drift_22 : decode cX5_drift 22 = .ok (.getfield 16, 3) := by decide +kernel
theorem dX5_drift_25 : decode cX5_drift 25 = .ok (.aload_n 0, 1) := by decide +kernel
theorem dX5_drift_26 : decode cX5_drift 26 = .ok (.getfield 10, 3) := by decide +kernel
theorem dX5_drift_29 : decode cX5_drift 29 = .ok (.invokevirtual 81, 3) := by decide +kernel
theorem dX5_drift_32 : decode cX5_drift 32 = .ok (.iconst 0, 1) := by decide +kernel
theorem dX5_drift_33 : decode cX5_drift 33 = .ok (.istore 4, 2) := by decide +kernel
theorem dX5_drift_35 : decode cX5_drift 35 = .ok (.iload_n 1, 1) := by decide +kernel
theorem dX5_drift_36 : decode cX5_drift 36 = .ok (.istore 5, 2) := by decide +kernel
theorem dX5_drift_38 : decode cX5_drift 38 = .ok (.iconst 0, 1) := by decide +kernel
theorem dX5_drift_39 : decode cX5_drift 39 = .ok (.istore 6, 2) := by decide +kernel
theorem dX5_drift_41 : decode cX5_drift 41 = .ok (.iload 6, 2) := by decide +kernel
theorem dX5_drift_43 : decode cX5_drift 43 = .ok (.iload_n 2, 1) := by decide +kernel
theorem dX5_drift_44 : decode cX5_drift 44 = .ok (.if_icmp .ge 52, 3) := by decide +kernel
theorem dX5_drift_47 : decode cX5_drift 47 = .ok (.iload 5, 2) := by decide +kernel
theorem dX5_drift_49 : decode cX5_drift 49 = .ok (.ldc_w 260, 3) := by decide +kernel
theorem dX5_drift_52 : decode cX5_drift 52 = .ok (.imul, 1) := by decide +kernel
theorem dX5_drift_53 : decode cX5_drift 53 = .ok (.sipush 12345, 3) := by decide +kernel
theorem dX5_drift_56 : decode cX5_drift 56 = .ok (.iadd, 1) := by decide +kernel
theorem dX5_drift_57 : decode cX5_drift 57 = .ok (.istore 5, 2) := by decide +kernel
theorem dX5_drift_59 : decode cX5_drift 59 = .ok (.iload 4, 2) := by decide +kernel
theorem dX5_drift_61 : decode cX5_drift 61 = .ok (.aload_n 0, 1) := by decide +kernel
theorem dX5_drift_62 : decode cX5_drift 62 = .ok (.getfield 16, 3) := by decide +kernel
theorem dX5_drift_65 : decode cX5_drift 65 = .ok (.aload_n 0, 1) := by decide +kernel
theorem dX5_drift_66 : decode cX5_drift 66 = .ok (.getfield 10, 3) := by decide +kernel
theorem dX5_drift_69 : decode cX5_drift 69 = .ok (.iload 5, 2) := by decide +kernel
theorem dX5_drift_71 : decode cX5_drift 71 = .ok (.bipush 16, 2) := by decide +kernel
theorem dX5_drift_73 : decode cX5_drift 73 = .ok (.iushr, 1) := by decide +kernel
theorem dX5_drift_74 : decode cX5_drift 74 = .ok (.sipush 32767, 3) := by decide +kernel
theorem dX5_drift_77 : decode cX5_drift 77 = .ok (.iand, 1) := by decide +kernel
theorem dX5_drift_78 : decode cX5_drift 78 = .ok (.bipush 10, 2) := by decide +kernel
theorem dX5_drift_80 : decode cX5_drift 80 = .ok (.irem, 1) := by decide +kernel
theorem dX5_drift_81 : decode cX5_drift 81 = .ok (.invokevirtual 261, 3) := by decide +kernel
theorem dX5_drift_84 : decode cX5_drift 84 = .ok (.invokevirtual 264, 3) := by decide +kernel
theorem dX5_drift_87 : decode cX5_drift 87 = .ok (.iadd, 1) := by decide +kernel
theorem dX5_drift_88 : decode cX5_drift 88 = .ok (.istore 4, 2) := by decide +kernel
theorem dX5_drift_90 : decode cX5_drift 90 = .ok (.iinc 6 1, 3) := by decide +kernel
theorem dX5_drift_93 : decode cX5_drift 93 = .ok (.goto (-52), 3) := by decide +kernel
theorem dX5_drift_96 : decode cX5_drift 96 = .ok (.iload_n 3, 1) := by decide +kernel
theorem dX5_drift_97 : decode cX5_drift 97 = .ok (.ifCond .ne 8, 3) := by decide +kernel
theorem dX5_drift_100 : decode cX5_drift 100 = .ok (.iload 4, 2) := by decide +kernel
theorem dX5_drift_102 : decode cX5_drift 102 = .ok (.goto 10, 3) := by decide +kernel
theorem dX5_drift_105 : decode cX5_drift 105 = .ok (.aload_n 0, 1) := by decide +kernel
theorem dX5_drift_106 : decode cX5_drift 106 = .ok (.getfield 16, 3) := by decide +kernel
theorem dX5_drift_109 : decode cX5_drift 109 = .ok (.invokevirtual 167, 3) := by decide +kernel
theorem dX5_drift_112 : decode cX5_drift 112 = .ok (.ireturn, 1) := by decide +kernel
theorem dX5_keep_0 : decode cX5_keep 0 = .ok (.iload_n 1, 1) := by decide +kernel
theorem dX5_keep_1 : decode cX5_keep 1 = .ok (.iconst 0, 1) := by decide +kernel
theorem dX5_keep_2 : decode cX5_keep 2 = .ok (.iconst 1, 1) := by decide +kernel
theorem dX5_keep_3 : decode cX5_keep 3 = .ok (.invokestatic 63, 3) := by decide +kernel
theorem dX5_keep_6 : decode cX5_keep 6 = .ok (.ifCond .ne 5, 3) := by decide +kernel
theorem dX5_keep_9 : decode cX5_keep 9 = .ok (.iconst (-1), 1) := by decide +kernel
theorem dX5_keep_10 : decode cX5_keep 10 = .ok (.ireturn, 1) := by decide +kernel
theorem dX5_keep_11 : decode cX5_keep 11 = .ok (.aload_n 0, 1) := by decide +kernel
theorem dX5_keep_12 : decode cX5_keep 12 = .ok (.getfield 23, 3) := by decide +kernel
theorem dX5_keep_15 : decode cX5_keep 15 = .ok (.iload_n 1, 1) := by decide +kernel
theorem dX5_keep_16 : decode cX5_keep 16 = .ok (.baload, 1) := by decide +kernel
theorem dX5_keep_17 : decode cX5_keep 17 = .ok (.ifCond .eq 7, 3) := by decide +kernel
theorem dX5_keep_20 : decode cX5_keep 20 = .ok (.iconst 1, 1) := by decide +kernel
theorem dX5_keep_21 : decode cX5_keep 21 = .ok (.goto 4, 3) := by decide +kernel
theorem dX5_keep_24 : decode cX5_keep 24 = .ok (.iconst 0, 1) := by decide +kernel
theorem dX5_keep_25 : decode cX5_keep 25 = .ok (.istore_n 2, 1) := by decide +kernel
theorem dX5_keep_26 : decode cX5_keep 26 = .ok (.aload_n 0, 1) := by decide +kernel
theorem dX5_keep_27 : decode cX5_keep 27 = .ok (.getfield 19, 3) := by decide +kernel
theorem dX5_keep_30 : decode cX5_keep 30 = .ok (.iload_n 1, 1) := by decide +kernel
theorem dX5_keep_31 : decode cX5_keep 31 = .ok (.aaload, 1) := by decide +kernel
theorem dX5_keep_32 : decode cX5_keep 32 = .ok (.aload_n 0, 1) := by decide +kernel
theorem dX5_keep_33 : decode cX5_keep 33 = .ok (.getfield 10, 3) := by decide +kernel
theorem dX5_keep_36 : decode cX5_keep 36 = .ok (.invokevirtual 81, 3) := by decide +kernel
theorem dX5_keep_39 : decode cX5_keep 39 = .ok (.aload_n 0, 1) := by decide +kernel
theorem dX5_keep_40 : decode cX5_keep 40 = .ok (.getfield 23, 3) := by decide +kernel
theorem dX5_keep_43 : decode cX5_keep 43 = .ok (.iload_n 1, 1) := by decide +kernel
theorem dX5_keep_44 : decode cX5_keep 44 = .ok (.iconst 1, 1) := by decide +kernel
theorem dX5_keep_45 : decode cX5_keep 45 = .ok (.bastore, 1) := by decide +kernel
theorem dX5_keep_46 : decode cX5_keep 46 = .ok (.iload_n 2, 1) := by decide +kernel
theorem dX5_keep_47 : decode cX5_keep 47 = .ok (.ireturn, 1) := by decide +kernel
theorem dX5_back_0 : decode cX5_back 0 = .ok (.iload_n 1, 1) := by decide +kernel
theorem dX5_back_1 : decode cX5_back 1 = .ok (.iconst 0, 1) := by decide +kernel
theorem dX5_back_2 : decode cX5_back 2 = .ok (.iconst 1, 1) := by decide +kernel
theorem dX5_back_3 : decode cX5_back 3 = .ok (.invokestatic 63, 3) := by decide +kernel
theorem dX5_back_6 : decode cX5_back 6 = .ok (.ifCond .ne 5, 3) := by decide +kernel
theorem dX5_back_9 : decode cX5_back 9 = .ok (.iconst (-1), 1) := by decide +kernel
theorem dX5_back_10 : decode cX5_back 10 = .ok (.ireturn, 1) := by decide +kernel
theorem dX5_back_11 : decode cX5_back 11 = .ok (.aload_n 0, 1) := by decide +kernel
theorem dX5_back_12 : decode cX5_back 12 = .ok (.getfield 23, 3) := by decide +kernel
theorem dX5_back_15 : decode cX5_back 15 = .ok (.iload_n 1, 1) := by decide +kernel
theorem dX5_back_16 : decode cX5_back 16 = .ok (.baload, 1) := by decide +kernel
theorem dX5_back_17 : decode cX5_back 17 = .ok (.ifCond .ne 6, 3) := by decide +kernel
theorem dX5_back_20 : decode cX5_back 20 = .ok (.bipush (-2), 2) := by decide +kernel
theorem dX5_back_22 : decode cX5_back 22 = .ok (.ireturn, 1) := by decide +kernel
theorem dX5_back_23 : decode cX5_back 23 = .ok (.aload_n 0, 1) := by decide +kernel
theorem dX5_back_24 : decode cX5_back 24 = .ok (.getfield 10, 3) := by decide +kernel
theorem dX5_back_27 : decode cX5_back 27 = .ok (.aload_n 0, 1) := by decide +kernel
theorem dX5_back_28 : decode cX5_back 28 = .ok (.getfield 19, 3) := by decide +kernel
theorem dX5_back_31 : decode cX5_back 31 = .ok (.iload_n 1, 1) := by decide +kernel
theorem dX5_back_32 : decode cX5_back 32 = .ok (.aaload, 1) := by decide +kernel
theorem dX5_back_33 : decode cX5_back 33 = .ok (.invokevirtual 81, 3) := by decide +kernel
theorem dX5_back_36 : decode cX5_back 36 = .ok (.aload_n 0, 1) := by decide +kernel
theorem dX5_back_37 : decode cX5_back 37 = .ok (.getfield 10, 3) := by decide +kernel
theorem dX5_back_40 : decode cX5_back 40 = .ok (.getfield 100, 3) := by decide +kernel
theorem dX5_back_43 : decode cX5_back 43 = .ok (.ireturn, 1) := by decide +kernel
theorem dX5_sheet_0 : decode cX5_sheet 0 = .ok (.iload_n 1, 1) := by decide +kernel
theorem dX5_sheet_1 : decode cX5_sheet 1 = .ok (.invokestatic 267, 3) := by decide +kernel
theorem dX5_sheet_4 : decode cX5_sheet 4 = .ok (.ifCond .eq 16, 3) := by decide +kernel
theorem dX5_sheet_7 : decode cX5_sheet 7 = .ok (.iload_n 2, 1) := by decide +kernel
theorem dX5_sheet_8 : decode cX5_sheet 8 = .ok (.invokestatic 270, 3) := by decide +kernel
theorem dX5_sheet_11 : decode cX5_sheet 11 = .ok (.ifCond .eq 9, 3) := by decide +kernel
theorem dX5_sheet_14 : decode cX5_sheet 14 = .ok (.iload_n 3, 1) := by decide +kernel
theorem dX5_sheet_15 : decode cX5_sheet 15 = .ok (.bipush 40, 2) := by decide +kernel
theorem dX5_sheet_17 : decode cX5_sheet 17 = .ok (.if_icmp .le 5, 3) := by decide +kernel
theorem dX5_sheet_20 : decode cX5_sheet 20 = .ok (.iconst (-1), 1) := by decide +kernel
theorem dX5_sheet_21 : decode cX5_sheet 21 = .ok (.ireturn, 1) := by decide +kernel
theorem dX5_sheet_22 : decode cX5_sheet 22 = .ok (.iload_n 3, 1) := by decide +kernel
theorem dX5_sheet_23 : decode cX5_sheet 23 = .ok (.ifCond .ge 6, 3) := by decide +kernel
theorem dX5_sheet_26 : decode cX5_sheet 26 = .ok (.bipush (-14), 2) := by decide +kernel
theorem dX5_sheet_28 : decode cX5_sheet 28 = .ok (.ireturn, 1) := by decide +kernel
theorem dX5_sheet_29 : decode cX5_sheet 29 = .ok (.aload_n 0, 1) := by decide +kernel
theorem dX5_sheet_30 : decode cX5_sheet 30 = .ok (.getfield 50, 3) := by decide +kernel
theorem dX5_sheet_33 : decode cX5_sheet 33 = .ok (.iload_n 1, 1) := by decide +kernel
theorem dX5_sheet_34 : decode cX5_sheet 34 = .ok (.aaload, 1) := by decide +kernel
theorem dX5_sheet_35 : decode cX5_sheet 35 = .ok (.iload_n 2, 1) := by decide +kernel
theorem dX5_sheet_36 : decode cX5_sheet 36 = .ok (.iload_n 3, 1) := by decide +kernel
theorem dX5_sheet_37 : decode cX5_sheet 37 = .ok (.invokevirtual 273, 3) := by decide +kernel
theorem dX5_sheet_40 : decode cX5_sheet 40 = .ok (.iconst 1, 1) := by decide +kernel
theorem dX5_sheet_41 : decode cX5_sheet 41 = .ok (.ireturn, 1) := by decide +kernel
theorem dX5_lay_0 : decode cX5_lay 0 = .ok (.iload_n 1, 1) := by decide +kernel
theorem dX5_lay_1 : decode cX5_lay 1 = .ok (.invokestatic 267, 3) := by decide +kernel
theorem dX5_lay_4 : decode cX5_lay 4 = .ok (.ifCond .ne 5, 3) := by decide +kernel
theorem dX5_lay_7 : decode cX5_lay 7 = .ok (.iconst (-1), 1) := by decide +kernel
theorem dX5_lay_8 : decode cX5_lay 8 = .ok (.ireturn, 1) := by decide +kernel
theorem dX5_lay_9 : decode cX5_lay 9 = .ok (.aload_n 0, 1) := by decide +kernel
theorem dX5_lay_10 : decode cX5_lay 10 = .ok (.getfield 50, 3) := by decide +kernel
theorem dX5_lay_13 : decode cX5_lay 13 = .ok (.iload_n 1, 1) := by decide +kernel
theorem dX5_lay_14 : decode cX5_lay 14 = .ok (.aaload, 1) := by decide +kernel
theorem dX5_lay_15 : decode cX5_lay 15 = .ok (.aload_n 0, 1) := by decide +kernel
theorem dX5_lay_16 : decode cX5_lay 16 = .ok (.getfield 50, 3) := by decide +kernel
theorem dX5_lay_19 : decode cX5_lay 19 = .ok (.iload_n 1, 1) := by decide +kernel
theorem dX5_lay_20 : decode cX5_lay 20 = .ok (.aaload, 1) := by decide +kernel
theorem dX5_lay_21 : decode cX5_lay 21 = .ok (.getfield 277, 3) := by decide +kernel
theorem dX5_lay_24 : decode cX5_lay 24 = .ok (.iload_n 2, 1) := by decide +kernel
theorem dX5_lay_25 : decode cX5_lay 25 = .ok (.invokevirtual 280, 3) := by decide +kernel
theorem dX5_lay_28 : decode cX5_lay 28 = .ok (.istore 4, 2) := by decide +kernel
theorem dX5_lay_30 : decode cX5_lay 30 = .ok (.iload 4, 2) := by decide +kernel
theorem dX5_lay_32 : decode cX5_lay 32 = .ok (.ifCond .eq 9, 3) := by decide +kernel
theorem dX5_lay_35 : decode cX5_lay 35 = .ok (.bipush (-10), 2) := by decide +kernel
theorem dX5_lay_37 : decode cX5_lay 37 = .ok (.iload 4, 2) := by decide +kernel
theorem dX5_lay_39 : decode cX5_lay 39 = .ok (.isub, 1) := by decide +kernel
theorem dX5_lay_40 : decode cX5_lay 40 = .ok (.ireturn, 1) := by decide +kernel
theorem dX5_lay_41 : decode cX5_lay 41 = .ok (.aload_n 0, 1) := by decide +kernel
theorem dX5_lay_42 : decode cX5_lay 42 = .ok (.getfield 50, 3) := by decide +kernel
theorem dX5_lay_45 : decode cX5_lay 45 = .ok (.iload_n 1, 1) := by decide +kernel
theorem dX5_lay_46 : decode cX5_lay 46 = .ok (.aaload, 1) := by decide +kernel
theorem dX5_lay_47 : decode cX5_lay 47 = .ok (.iload_n 2, 1) := by decide +kernel
theorem dX5_lay_48 : decode cX5_lay 48 = .ok (.iload_n 3, 1) := by decide +kernel
theorem dX5_lay_49 : decode cX5_lay 49 = .ok (.invokevirtual 283, 3) := by decide +kernel
theorem dX5_lay_52 : decode cX5_lay 52 = .ok (.iconst 1, 1) := by decide +kernel
theorem dX5_lay_53 : decode cX5_lay 53 = .ok (.ireturn, 1) := by decide +kernel
theorem dX5_read_0 : decode cX5_read 0 = .ok (.iload_n 1, 1) := by decide +kernel
theorem dX5_read_1 : decode cX5_read 1 = .ok (.invokestatic 267, 3) := by decide +kernel
theorem dX5_read_4 : decode cX5_read 4 = .ok (.ifCond .eq 21, 3) := by decide +kernel
theorem dX5_read_7 : decode cX5_read 7 = .ok (.iload_n 2, 1) := by decide +kernel
theorem dX5_read_8 : decode cX5_read 8 = .ok (.invokestatic 270, 3) := by decide +kernel
theorem dX5_read_11 : decode cX5_read 11 = .ok (.ifCond .eq 14, 3) := by decide +kernel
theorem dX5_read_14 : decode cX5_read 14 = .ok (.iload 4, 2) := by decide +kernel
theorem dX5_read_16 : decode cX5_read 16 = .ok (.iconst 0, 1) := by decide +kernel
theorem dX5_read_17 : decode cX5_read 17 = .ok (.bipush 20, 2) := by decide +kernel
theorem dX5_read_19 : decode cX5_read 19 = .ok (.invokestatic 63, 3) := by decide +kernel
theorem dX5_read_22 : decode cX5_read 22 = .ok (.ifCond .ne 5, 3) := by decide +kernel
theorem dX5_read_25 : decode cX5_read 25 = .ok (.iconst (-1), 1) := by decide +kernel
theorem dX5_read_26 : decode cX5_read 26 = .ok (.ireturn, 1) := by decide +kernel
theorem dX5_read_27 : decode cX5_read 27 = .ok (.aload_n 0, 1) := by decide +kernel
theorem dX5_read_28 : decode cX5_read 28 = .ok (.getfield 16, 3) := by decide +kernel
theorem dX5_read_31 : decode cX5_read 31 = .ok (.aload_n 0, 1) := by decide +kernel
theorem dX5_read_32 : decode cX5_read 32 = .ok (.getfield 10, 3) := by decide +kernel
theorem dX5_read_35 : decode cX5_read 35 = .ok (.invokevirtual 81, 3) := by decide +kernel
theorem dX5_read_38 : decode cX5_read 38 = .ok (.iconst 0, 1) := by decide +kernel
theorem dX5_read_39 : decode cX5_read 39 = .ok (.istore 5, 2) := by decide +kernel
theorem dX5_read_41 : decode cX5_read 41 = .ok (.iconst 0, 1) := by decide +kernel
theorem dX5_read_42 : decode cX5_read 42 = .ok (.istore 6, 2) := by decide +kernel
theorem dX5_read_44 : decode cX5_read 44 = .ok (.iconst 0, 1) := by decide +kernel
theorem dX5_read_45 : decode cX5_read 45 = .ok (.istore 7, 2) := by decide +kernel
theorem dX5_read_47 : decode cX5_read 47 = .ok (.iload 7, 2) := by decide +kernel
theorem dX5_read_49 : decode cX5_read 49 = .ok (.iload 4, 2) := by decide +kernel
theorem dX5_read_51 : decode cX5_read 51 = .ok (.if_icmp .ge 68, 3) := by decide +kernel
theorem dX5_read_54 : decode cX5_read 54 = .ok (.iload 5, 2) := by decide +kernel
theorem dX5_read_56 : decode cX5_read 56 = .ok (.ifCond .ne 63, 3) := by decide +kernel
theorem dX5_read_59 : decode cX5_read 59 = .ok (.aload_n 0, 1) := by decide +kernel
theorem dX5_read_60 : decode cX5_read 60 = .ok (.getfield 50, 3) := by decide +kernel
theorem dX5_read_63 : decode cX5_read 63 = .ok (.iload_n 1, 1) := by decide +kernel
theorem dX5_read_64 : decode cX5_read 64 = .ok (.aaload, 1) := by decide +kernel
theorem dX5_read_65 : decode cX5_read 65 = .ok (.iload_n 2, 1) := by decide +kernel
theorem dX5_read_66 : decode cX5_read 66 = .ok (.iload_n 3, 1) := by decide +kernel
theorem dX5_read_67 : decode cX5_read 67 = .ok (.iload 7, 2) := by decide +kernel
theorem dX5_read_69 : decode cX5_read 69 = .ok (.iadd, 1) := by decide +kernel
theorem dX5_read_70 : decode cX5_read 70 = .ok (.invokevirtual 280, 3) := by decide +kernel
theorem dX5_read_73 : decode cX5_read 73 = .ok (.istore 5, 2) := by decide +kernel
theorem dX5_read_75 : decode cX5_read 75 = .ok (.iload 5, 2) := by decide +kernel
theorem dX5_read_77 : decode cX5_read 77 = .ok (.ifCond .ne 36, 3) := by decide +kernel
theorem dX5_read_80 : decode cX5_read 80 = .ok (.aload_n 0, 1) := by decide +kernel
theorem dX5_read_81 : decode cX5_read 81 = .ok (.getfield 16, 3) := by decide +kernel
theorem dX5_read_84 : decode cX5_read 84 = .ok (.aload_n 0, 1) := by decide +kernel
theorem dX5_read_85 : decode cX5_read 85 = .ok (.getfield 50, 3) := by decide +kernel
theorem dX5_read_88 : decode cX5_read 88 = .ok (.iload_n 1, 1) := by decide +kernel
theorem dX5_read_89 : decode cX5_read 89 = .ok (.aaload, 1) := by decide +kernel
theorem dX5_read_90 : decode cX5_read 90 = .ok (.getfield 286, 3) := by decide +kernel
theorem dX5_read_93 : decode cX5_read 93 = .ok (.iload_n 3, 1) := by decide +kernel
theorem dX5_read_94 : decode cX5_read 94 = .ok (.iload 7, 2) := by decide +kernel
theorem dX5_read_96 : decode cX5_read 96 = .ok (.iadd, 1) := by decide +kernel
theorem dX5_read_97 : decode cX5_read 97 = .ok (.iaload, 1) := by decide +kernel
theorem dX5_read_98 : decode cX5_read 98 = .ok (.invokevirtual 160, 3) := by decide +kernel
theorem dX5_read_101 : decode cX5_read 101 = .ok (.ifCond .ge 9, 3) := by decide +kernel
theorem dX5_read_104 : decode cX5_read 104 = .ok (.bipush (-20), 2) := by decide +kernel
theorem dX5_read_106 : decode cX5_read 106 = .ok (.iload 7, 2) := by decide +kernel
theorem dX5_read_108 : decode cX5_read 108 = .ok (.isub, 1) := by decide +kernel
theorem dX5_read_109 : decode cX5_read 109 = .ok (.ireturn, 1) := by decide +kernel
theorem dX5_read_110 : decode cX5_read 110 = .ok (.iinc 6 1, 3) := by decide +kernel
theorem dX5_read_113 : decode cX5_read 113 = .ok (.iinc 7 1, 3) := by decide +kernel
theorem dX5_read_116 : decode cX5_read 116 = .ok (.goto (-69), 3) := by decide +kernel
theorem dX5_read_119 : decode cX5_read 119 = .ok (.aload_n 0, 1) := by decide +kernel
theorem dX5_read_120 : decode cX5_read 120 = .ok (.getfield 10, 3) := by decide +kernel
theorem dX5_read_123 : decode cX5_read 123 = .ok (.aload_n 0, 1) := by decide +kernel
theorem dX5_read_124 : decode cX5_read 124 = .ok (.getfield 16, 3) := by decide +kernel
theorem dX5_read_127 : decode cX5_read 127 = .ok (.invokevirtual 81, 3) := by decide +kernel
theorem dX5_read_130 : decode cX5_read 130 = .ok (.aload_n 0, 1) := by decide +kernel
theorem dX5_read_131 : decode cX5_read 131 = .ok (.iload 5, 2) := by decide +kernel
theorem dX5_read_133 : decode cX5_read 133 = .ok (.putfield 58, 3) := by decide +kernel
theorem dX5_read_136 : decode cX5_read 136 = .ok (.iload 6, 2) := by decide +kernel
theorem dX5_read_138 : decode cX5_read 138 = .ok (.ireturn, 1) := by decide +kernel
theorem dX5_torn_0 : decode cX5_torn 0 = .ok (.aload_n 0, 1) := by decide +kernel
theorem dX5_torn_1 : decode cX5_torn 1 = .ok (.getfield 58, 3) := by decide +kernel
theorem dX5_torn_4 : decode cX5_torn 4 = .ok (.ireturn, 1) := by decide +kernel
theorem dX5_count_0 : decode cX5_count 0 = .ok (.iload_n 1, 1) := by decide +kernel
theorem dX5_count_1 : decode cX5_count 1 = .ok (.tableswitch 104 0 5 #[39, 47, 52, 60, 88, 96], 39) := by decide +kernel
theorem dX5_count_40 : decode cX5_count 40 = .ok (.aload_n 0, 1) := by decide +kernel
theorem dX5_count_41 : decode cX5_count 41 = .ok (.getfield 44, 3) := by decide +kernel
theorem dX5_count_44 : decode cX5_count 44 = .ok (.getfield 85, 3) := by decide +kernel
theorem dX5_count_47 : decode cX5_count 47 = .ok (.ireturn, 1) := by decide +kernel
theorem dX5_count_48 : decode cX5_count 48 = .ok (.aload_n 0, 1) := by decide +kernel
theorem dX5_count_49 : decode cX5_count 49 = .ok (.invokevirtual 289, 3) := by decide +kernel
theorem dX5_count_52 : decode cX5_count 52 = .ok (.ireturn, 1) := by decide +kernel
theorem dX5_count_53 : decode cX5_count 53 = .ok (.aload_n 0, 1) := by decide +kernel
theorem dX5_count_54 : decode cX5_count 54 = .ok (.getfield 30, 3) := by decide +kernel
theorem dX5_count_57 : decode cX5_count 57 = .ok (.getfield 71, 3) := by decide +kernel
theorem dX5_count_60 : decode cX5_count 60 = .ok (.ireturn, 1) := by decide +kernel
theorem dX5_count_61 : decode cX5_count 61 = .ok (.aload_n 0, 1) := by decide +kernel
theorem dX5_count_62 : decode cX5_count 62 = .ok (.getfield 50, 3) := by decide +kernel
theorem dX5_count_65 : decode cX5_count 65 = .ok (.iconst 0, 1) := by decide +kernel
theorem dX5_count_66 : decode cX5_count 66 = .ok (.aaload, 1) := by decide +kernel
theorem dX5_count_67 : decode cX5_count 67 = .ok (.getfield 277, 3) := by decide +kernel
theorem dX5_count_70 : decode cX5_count 70 = .ok (.iconst (-1), 1) := by decide +kernel
theorem dX5_count_71 : decode cX5_count 71 = .ok (.if_icmp .ne 8, 3) := by decide +kernel
theorem dX5_count_74 : decode cX5_count 74 = .ok (.bipush (-4), 2) := by decide +kernel
theorem dX5_count_76 : decode cX5_count 76 = .ok (.goto 12, 3) := by decide +kernel
theorem dX5_count_79 : decode cX5_count 79 = .ok (.aload_n 0, 1) := by decide +kernel
theorem dX5_count_80 : decode cX5_count 80 = .ok (.getfield 50, 3) := by decide +kernel
theorem dX5_count_83 : decode cX5_count 83 = .ok (.iconst 0, 1) := by decide +kernel
theorem dX5_count_84 : decode cX5_count 84 = .ok (.aaload, 1) := by decide +kernel
theorem dX5_count_85 : decode cX5_count 85 = .ok (.getfield 292, 3) := by decide +kernel
theorem dX5_count_88 : decode cX5_count 88 = .ok (.ireturn, 1) := by decide +kernel
theorem dX5_count_89 : decode cX5_count 89 = .ok (.aload_n 0, 1) := by decide +kernel
theorem dX5_count_90 : decode cX5_count 90 = .ok (.getfield 10, 3) := by decide +kernel
theorem dX5_count_93 : decode cX5_count 93 = .ok (.invokevirtual 167, 3) := by decide +kernel
theorem dX5_count_96 : decode cX5_count 96 = .ok (.ireturn, 1) := by decide +kernel
theorem dX5_count_97 : decode cX5_count 97 = .ok (.aload_n 0, 1) := by decide +kernel
theorem dX5_count_98 : decode cX5_count 98 = .ok (.getfield 10, 3) := by decide +kernel
theorem dX5_count_101 : decode cX5_count 101 = .ok (.invokevirtual 170, 3) := by decide +kernel
theorem dX5_count_104 : decode cX5_count 104 = .ok (.ireturn, 1) := by decide +kernel
theorem dX5_count_105 : decode cX5_count 105 = .ok (.iconst (-1), 1) := by decide +kernel
theorem dX5_count_106 : decode cX5_count 106 = .ok (.ireturn, 1) := by decide +kernel
theorem dX5_within_0 : decode cX5_within 0 = .ok (.iload_n 0, 1) := by decide +kernel
theorem dX5_within_1 : decode cX5_within 1 = .ok (.iload_n 1, 1) := by decide +kernel
theorem dX5_within_2 : decode cX5_within 2 = .ok (.if_icmp .lt 12, 3) := by decide +kernel
theorem dX5_within_5 : decode cX5_within 5 = .ok (.iload_n 0, 1) := by decide +kernel
theorem dX5_within_6 : decode cX5_within 6 = .ok (.iload_n 2, 1) := by decide +kernel
theorem dX5_within_7 : decode cX5_within 7 = .ok (.if_icmp .gt 7, 3) := by decide +kernel
theorem dX5_within_10 : decode cX5_within 10 = .ok (.iconst 1, 1) := by decide +kernel
theorem dX5_within_11 : decode cX5_within 11 = .ok (.goto 4, 3) := by decide +kernel
theorem dX5_within_14 : decode cX5_within 14 = .ok (.iconst 0, 1) := by decide +kernel
theorem dX5_within_15 : decode cX5_within 15 = .ok (.ireturn, 1) := by decide +kernel
theorem dX5_isWeather_0 : decode cX5_isWeather 0 = .ok (.iload_n 0, 1) := by decide +kernel
theorem dX5_isWeather_1 : decode cX5_isWeather 1 = .ok (.iconst 0, 1) := by decide +kernel
theorem dX5_isWeather_2 : decode cX5_isWeather 2 = .ok (.iconst 3, 1) := by decide +kernel
theorem dX5_isWeather_3 : decode cX5_isWeather 3 = .ok (.invokestatic 63, 3) := by decide +kernel
theorem dX5_isWeather_6 : decode cX5_isWeather 6 = .ok (.ireturn, 1) := by decide +kernel
theorem dX5_isAhead_0 : decode cX5_isAhead 0 = .ok (.iload_n 0, 1) := by decide +kernel
theorem dX5_isAhead_1 : decode cX5_isAhead 1 = .ok (.iconst 0, 1) := by decide +kernel
theorem dX5_isAhead_2 : decode cX5_isAhead 2 = .ok (.iconst 4, 1) := by decide +kernel
theorem dX5_isAhead_3 : decode cX5_isAhead 3 = .ok (.invokestatic 63, 3) := by decide +kernel
theorem dX5_isAhead_6 : decode cX5_isAhead 6 = .ok (.ireturn, 1) := by decide +kernel
theorem dX5_isSheet_0 : decode cX5_isSheet 0 = .ok (.iload_n 0, 1) := by decide +kernel
theorem dX5_isSheet_1 : decode cX5_isSheet 1 = .ok (.iconst 0, 1) := by decide +kernel
theorem dX5_isSheet_2 : decode cX5_isSheet 2 = .ok (.iconst 3, 1) := by decide +kernel
theorem dX5_isSheet_3 : decode cX5_isSheet 3 = .ok (.invokestatic 63, 3) := by decide +kernel
theorem dX5_isSheet_6 : decode cX5_isSheet 6 = .ok (.ireturn, 1) := by decide +kernel
theorem dX5_isLane_0 : decode cX5_isLane 0 = .ok (.iload_n 0, 1) := by decide +kernel
theorem dX5_isLane_1 : decode cX5_isLane 1 = .ok (.iconst 0, 1) := by decide +kernel
theorem dX5_isLane_2 : decode cX5_isLane 2 = .ok (.iconst 2, 1) := by decide +kernel
theorem dX5_isLane_3 : decode cX5_isLane 3 = .ok (.invokestatic 63, 3) := by decide +kernel
theorem dX5_isLane_6 : decode cX5_isLane 6 = .ok (.ireturn, 1) := by decide +kernel
theorem dX5_isOne_0 : decode cX5_isOne 0 = .ok (.iload_n 1, 1) := by decide +kernel
theorem dX5_isOne_1 : decode cX5_isOne 1 = .ok (.iconst 0, 1) := by decide +kernel
theorem dX5_isOne_2 : decode cX5_isOne 2 = .ok (.aload_n 0, 1) := by decide +kernel
theorem dX5_isOne_3 : decode cX5_isOne 3 = .ok (.getfield 10, 3) := by decide +kernel
theorem dX5_isOne_6 : decode cX5_isOne 6 = .ok (.getfield 91, 3) := by decide +kernel
theorem dX5_isOne_9 : decode cX5_isOne 9 = .ok (.iconst 1, 1) := by decide +kernel
theorem dX5_isOne_10 : decode cX5_isOne 10 = .ok (.isub, 1) := by decide +kernel
theorem dX5_isOne_11 : decode cX5_isOne 11 = .ok (.invokestatic 63, 3) := by decide +kernel
theorem dX5_isOne_14 : decode cX5_isOne 14 = .ok (.ireturn, 1) := by decide +kernel
theorem dX5_isCover_0 : decode cX5_isCover 0 = .ok (.iload_n 1, 1) := by decide +kernel
theorem dX5_isCover_1 : decode cX5_isCover 1 = .ok (.iconst 0, 1) := by decide +kernel
theorem dX5_isCover_2 : decode cX5_isCover 2 = .ok (.aload_n 0, 1) := by decide +kernel
theorem dX5_isCover_3 : decode cX5_isCover 3 = .ok (.getfield 10, 3) := by decide +kernel
theorem dX5_isCover_6 : decode cX5_isCover 6 = .ok (.getfield 94, 3) := by decide +kernel
theorem dX5_isCover_9 : decode cX5_isCover 9 = .ok (.iconst 1, 1) := by decide +kernel
theorem dX5_isCover_10 : decode cX5_isCover 10 = .ok (.isub, 1) := by decide +kernel
theorem dX5_isCover_11 : decode cX5_isCover 11 = .ok (.invokestatic 63, 3) := by decide +kernel
theorem dX5_isCover_14 : decode cX5_isCover 14 = .ok (.ireturn, 1) := by decide +kernel
theorem dX5_fitsOne_0 : decode cX5_fitsOne 0 = .ok (.iload_n 0, 1) := by decide +kernel
theorem dX5_fitsOne_1 : decode cX5_fitsOne 1 = .ok (.tableswitch 50 0 2 #[27, 34, 41], 27) := by decide +kernel
theorem dX5_fitsOne_28 : decode cX5_fitsOne 28 = .ok (.iload_n 1, 1) := by decide +kernel
theorem dX5_fitsOne_29 : decode cX5_fitsOne 29 = .ok (.iconst 0, 1) := by decide +kernel
theorem dX5_fitsOne_30 : decode cX5_fitsOne 30 = .ok (.iconst 3, 1) := by decide +kernel
theorem dX5_fitsOne_31 : decode cX5_fitsOne 31 = .ok (.invokestatic 63, 3) := by decide +kernel
theorem dX5_fitsOne_34 : decode cX5_fitsOne 34 = .ok (.ireturn, 1) := by decide +kernel
theorem dX5_fitsOne_35 : decode cX5_fitsOne 35 = .ok (.iload_n 1, 1) := by decide +kernel
theorem dX5_fitsOne_36 : decode cX5_fitsOne 36 = .ok (.iconst 1, 1) := by decide +kernel
theorem dX5_fitsOne_37 : decode cX5_fitsOne 37 = .ok (.iconst 5, 1) := by decide +kernel
theorem dX5_fitsOne_38 : decode cX5_fitsOne 38 = .ok (.invokestatic 63, 3) := by decide +kernel
theorem dX5_fitsOne_41 : decode cX5_fitsOne 41 = .ok (.ireturn, 1) := by decide +kernel
theorem dX5_fitsOne_42 : decode cX5_fitsOne 42 = .ok (.iload_n 1, 1) := by decide +kernel
theorem dX5_fitsOne_43 : decode cX5_fitsOne 43 = .ok (.iconst 0, 1) := by decide +kernel
theorem dX5_fitsOne_44 : decode cX5_fitsOne 44 = .ok (.sipush 999, 3) := by decide +kernel
theorem dX5_fitsOne_47 : decode cX5_fitsOne 47 = .ok (.invokestatic 63, 3) := by decide +kernel
theorem dX5_fitsOne_50 : decode cX5_fitsOne 50 = .ok (.ireturn, 1) := by decide +kernel
theorem dX5_fitsOne_51 : decode cX5_fitsOne 51 = .ok (.iconst 0, 1) := by decide +kernel
theorem dX5_fitsOne_52 : decode cX5_fitsOne 52 = .ok (.ireturn, 1) := by decide +kernel
theorem dX5_fitsCover_0 : decode cX5_fitsCover 0 = .ok (.iload_n 0, 1) := by decide +kernel
theorem dX5_fitsCover_1 : decode cX5_fitsCover 1 = .ok (.tableswitch 48 2 4 #[27, 32, 40], 27) := by decide +kernel
theorem dX5_fitsCover_28 : decode cX5_fitsCover 28 = .ok (.iload_n 1, 1) := by decide +kernel
theorem dX5_fitsCover_29 : decode cX5_fitsCover 29 = .ok (.invokestatic 121, 3) := by decide +kernel
theorem dX5_fitsCover_32 : decode cX5_fitsCover 32 = .ok (.ireturn, 1) := by decide +kernel
theorem dX5_fitsCover_33 : decode cX5_fitsCover 33 = .ok (.iload_n 1, 1) := by decide +kernel
theorem dX5_fitsCover_34 : decode cX5_fitsCover 34 = .ok (.iconst 0, 1) := by decide +kernel
theorem dX5_fitsCover_35 : decode cX5_fitsCover 35 = .ok (.bipush 20, 2) := by decide +kernel
theorem dX5_fitsCover_37 : decode cX5_fitsCover 37 = .ok (.invokestatic 63, 3) := by decide +kernel
theorem dX5_fitsCover_40 : decode cX5_fitsCover 40 = .ok (.ireturn, 1) := by decide +kernel
theorem dX5_fitsCover_41 : decode cX5_fitsCover 41 = .ok (.iload_n 1, 1) := by decide +kernel
theorem dX5_fitsCover_42 : decode cX5_fitsCover 42 = .ok (.iconst 0, 1) := by decide +kernel
theorem dX5_fitsCover_43 : decode cX5_fitsCover 43 = .ok (.bipush 9, 2) := by decide +kernel
theorem dX5_fitsCover_45 : decode cX5_fitsCover 45 = .ok (.invokestatic 63, 3) := by decide +kernel
theorem dX5_fitsCover_48 : decode cX5_fitsCover 48 = .ok (.ireturn, 1) := by decide +kernel
theorem dX5_fitsCover_49 : decode cX5_fitsCover 49 = .ok (.iconst 0, 1) := by decide +kernel
theorem dX5_fitsCover_50 : decode cX5_fitsCover 50 = .ok (.ireturn, 1) := by decide +kernel
theorem dX5_imagesKept_0 : decode cX5_imagesKept 0 = .ok (.iconst 0, 1) := by decide +kernel
theorem dX5_imagesKept_1 : decode cX5_imagesKept 1 = .ok (.istore_n 1, 1) := by decide +kernel
theorem dX5_imagesKept_2 : decode cX5_imagesKept 2 = .ok (.iconst 0, 1) := by decide +kernel
theorem dX5_imagesKept_3 : decode cX5_imagesKept 3 = .ok (.istore_n 2, 1) := by decide +kernel
theorem dX5_imagesKept_4 : decode cX5_imagesKept 4 = .ok (.iload_n 2, 1) := by decide +kernel
theorem dX5_imagesKept_5 : decode cX5_imagesKept 5 = .ok (.iconst 2, 1) := by decide +kernel
theorem dX5_imagesKept_6 : decode cX5_imagesKept 6 = .ok (.if_icmp .ge 26, 3) := by decide +kernel
theorem dX5_imagesKept_9 : decode cX5_imagesKept 9 = .ok (.iload_n 1, 1) := by decide +kernel
theorem dX5_imagesKept_10 : decode cX5_imagesKept 10 = .ok (.aload_n 0, 1) := by decide +kernel
theorem dX5_imagesKept_11 : decode cX5_imagesKept 11 = .ok (.getfield 23, 3) := by decide +kernel
theorem dX5_imagesKept_14 : decode cX5_imagesKept 14 = .ok (.iload_n 2, 1) := by decide +kernel
theorem dX5_imagesKept_15 : decode cX5_imagesKept 15 = .ok (.baload, 1) := by decide +kernel
theorem dX5_imagesKept_16 : decode cX5_imagesKept 16 = .ok (.ifCond .eq 7, 3) := by decide +kernel
theorem dX5_imagesKept_19 : decode cX5_imagesKept 19 = .ok (.iconst 1, 1) := by decide +kernel
theorem dX5_imagesKept_20 : decode cX5_imagesKept 20 = .ok (.goto 4, 3) := by decide +kernel
theorem dX5_imagesKept_23 : decode cX5_imagesKept 23 = .ok (.iconst 0, 1) := by decide +kernel
theorem dX5_imagesKept_24 : decode cX5_imagesKept 24 = .ok (.iadd, 1) := by decide +kernel
theorem dX5_imagesKept_25 : decode cX5_imagesKept 25 = .ok (.istore_n 1, 1) := by decide +kernel
theorem dX5_imagesKept_26 : decode cX5_imagesKept 26 = .ok (.iinc 2 1, 3) := by decide +kernel
theorem dX5_imagesKept_29 : decode cX5_imagesKept 29 = .ok (.goto (-25), 3) := by decide +kernel
theorem dX5_imagesKept_32 : decode cX5_imagesKept 32 = .ok (.iload_n 1, 1) := by decide +kernel
theorem dX5_imagesKept_33 : decode cX5_imagesKept 33 = .ok (.ireturn, 1) := by decide +kernel
theorem dX5_followPlan_0 : decode cX5_followPlan 0 = .ok (.aload_n 0, 1) := by decide +kernel
theorem dX5_followPlan_1 : decode cX5_followPlan 1 = .ok (.getfield 16, 3) := by decide +kernel
theorem dX5_followPlan_4 : decode cX5_followPlan 4 = .ok (.aload_n 0, 1) := by decide +kernel
theorem dX5_followPlan_5 : decode cX5_followPlan 5 = .ok (.getfield 10, 3) := by decide +kernel
theorem dX5_followPlan_8 : decode cX5_followPlan 8 = .ok (.invokevirtual 81, 3) := by decide +kernel
theorem dX5_followPlan_11 : decode cX5_followPlan 11 = .ok (.iconst 0, 1) := by decide +kernel
theorem dX5_followPlan_12 : decode cX5_followPlan 12 = .ok (.istore_n 2, 1) := by decide +kernel
theorem dX5_followPlan_13 : decode cX5_followPlan 13 = .ok (.bipush (-4), 2) := by decide +kernel
theorem dX5_followPlan_15 : decode cX5_followPlan 15 = .ok (.istore_n 3, 1) := by decide +kernel
theorem dX5_followPlan_16 : decode cX5_followPlan 16 = .ok (.iconst 0, 1) := by decide +kernel
theorem dX5_followPlan_17 : decode cX5_followPlan 17 = .ok (.istore 4, 2) := by decide +kernel
theorem dX5_followPlan_19 : decode cX5_followPlan 19 = .ok (.iload 4, 2) := by decide +kernel
theorem dX5_followPlan_21 : decode cX5_followPlan 21 = .ok (.aload_n 0, 1) := by decide +kernel
theorem dX5_followPlan_22 : decode cX5_followPlan 22 = .ok (.getfield 10, 3) := by decide +kernel
theorem dX5_followPlan_25 : decode cX5_followPlan 25 = .ok (.getfield 103, 3) := by decide +kernel
theorem dX5_followPlan_28 : decode cX5_followPlan 28 = .ok (.if_icmp .ge 47, 3) := by decide +kernel
theorem dX5_followPlan_31 : decode cX5_followPlan 31 = .ok (.aload_n 0, 1) := by decide +kernel
theorem dX5_followPlan_32 : decode cX5_followPlan 32 = .ok (.getfield 16, 3) := by decide +kernel
theorem dX5_followPlan_35 : decode cX5_followPlan 35 = .ok (.aload_n 0, 1) := by decide +kernel
theorem dX5_followPlan_36 : decode cX5_followPlan 36 = .ok (.getfield 10, 3) := by decide +kernel
theorem dX5_followPlan_39 : decode cX5_followPlan 39 = .ok (.getfield 136, 3) := by decide +kernel
theorem dX5_followPlan_42 : decode cX5_followPlan 42 = .ok (.iload 4, 2) := by decide +kernel
theorem dX5_followPlan_44 : decode cX5_followPlan 44 = .ok (.iaload, 1) := by decide +kernel
theorem dX5_followPlan_45 : decode cX5_followPlan 45 = .ok (.invokevirtual 264, 3) := by decide +kernel
theorem dX5_followPlan_48 : decode cX5_followPlan 48 = .ok (.istore 5, 2) := by decide +kernel
theorem dX5_followPlan_50 : decode cX5_followPlan 50 = .ok (.iload 5, 2) := by decide +kernel
theorem dX5_followPlan_52 : decode cX5_followPlan 52 = .ok (.ifCond .le 12, 3) := by decide +kernel
theorem dX5_followPlan_55 : decode cX5_followPlan 55 = .ok (.iload_n 3, 1) := by decide +kernel
theorem dX5_followPlan_56 : decode cX5_followPlan 56 = .ok (.bipush (-4), 2) := by decide +kernel
theorem dX5_followPlan_58 : decode cX5_followPlan 58 = .ok (.if_icmp .ne 6, 3) := by decide +kernel
theorem dX5_followPlan_61 : decode cX5_followPlan 61 = .ok (.iload 4, 2) := by decide +kernel
theorem dX5_followPlan_63 : decode cX5_followPlan 63 = .ok (.istore_n 3, 1) := by decide +kernel
theorem dX5_followPlan_64 : decode cX5_followPlan 64 = .ok (.iload_n 2, 1) := by decide +kernel
theorem dX5_followPlan_65 : decode cX5_followPlan 65 = .ok (.iload 5, 2) := by decide +kernel
theorem dX5_followPlan_67 : decode cX5_followPlan 67 = .ok (.iadd, 1) := by decide +kernel
theorem dX5_followPlan_68 : decode cX5_followPlan 68 = .ok (.istore_n 2, 1) := by decide +kernel
theorem dX5_followPlan_69 : decode cX5_followPlan 69 = .ok (.iinc 4 1, 3) := by decide +kernel
theorem dX5_followPlan_72 : decode cX5_followPlan 72 = .ok (.goto (-53), 3) := by decide +kernel
theorem dX5_followPlan_75 : decode cX5_followPlan 75 = .ok (.iload_n 1, 1) := by decide +kernel
theorem dX5_followPlan_76 : decode cX5_followPlan 76 = .ok (.ifCond .eq 7, 3) := by decide +kernel
theorem dX5_followPlan_79 : decode cX5_followPlan 79 = .ok (.iload_n 3, 1) := by decide +kernel
theorem dX5_followPlan_80 : decode cX5_followPlan 80 = .ok (.goto 4, 3) := by decide +kernel
theorem dX5_followPlan_83 : decode cX5_followPlan 83 = .ok (.iload_n 2, 1) := by decide +kernel
theorem dX5_followPlan_84 : decode cX5_followPlan 84 = .ok (.ireturn, 1) := by decide +kernel
theorem dX5_power_0 : decode cX5_power 0 = .ok (.lconst 1, 1) := by decide +kernel
theorem dX5_power_1 : decode cX5_power 1 = .ok (.lstore_n 2, 1) := by decide +kernel
theorem dX5_power_2 : decode cX5_power 2 = .ok (.iconst 0, 1) := by decide +kernel
theorem dX5_power_3 : decode cX5_power 3 = .ok (.istore 4, 2) := by decide +kernel
theorem dX5_power_5 : decode cX5_power 5 = .ok (.iload 4, 2) := by decide +kernel
theorem dX5_power_7 : decode cX5_power 7 = .ok (.iload_n 1, 1) := by decide +kernel
theorem dX5_power_8 : decode cX5_power 8 = .ok (.if_icmp .ge 14, 3) := by decide +kernel
theorem dX5_power_11 : decode cX5_power 11 = .ok (.lload_n 2, 1) := by decide +kernel
theorem dX5_power_12 : decode cX5_power 12 = .ok (.iload_n 0, 1) := by decide +kernel
theorem dX5_power_13 : decode cX5_power 13 = .ok (.i2l, 1) := by decide +kernel
theorem dX5_power_14 : decode cX5_power 14 = .ok (.lmul, 1) := by decide +kernel
theorem dX5_power_15 : decode cX5_power 15 = .ok (.lstore_n 2, 1) := by decide +kernel
theorem dX5_power_16 : decode cX5_power 16 = .ok (.iinc 4 1, 3) := by decide +kernel
theorem dX5_power_19 : decode cX5_power 19 = .ok (.goto (-14), 3) := by decide +kernel
theorem dX5_power_22 : decode cX5_power 22 = .ok (.lload_n 2, 1) := by decide +kernel
theorem dX5_power_23 : decode cX5_power 23 = .ok (.lreturn, 1) := by decide +kernel
theorem dX5_part_0 : decode cX5_part 0 = .ok (.lconst 1, 1) := by decide +kernel
theorem dX5_part_1 : decode cX5_part 1 = .ok (.lload_n 0, 1) := by decide +kernel
theorem dX5_part_2 : decode cX5_part 2 = .ok (.lload_n 2, 1) := by decide +kernel
theorem dX5_part_3 : decode cX5_part 3 = .ok (.invokestatic 293, 3) := by decide +kernel
theorem dX5_part_6 : decode cX5_part 6 = .ok (.invokestatic 297, 3) := by decide +kernel
theorem dX5_part_9 : decode cX5_part 9 = .ok (.lstore 5, 2) := by decide +kernel
theorem dX5_part_11 : decode cX5_part 11 = .ok (.iload 4, 2) := by decide +kernel
theorem dX5_part_13 : decode cX5_part 13 = .ok (.ifCond .ne 7, 3) := by decide +kernel
theorem dX5_part_16 : decode cX5_part 16 = .ok (.lload_n 0, 1) := by decide +kernel
theorem dX5_part_17 : decode cX5_part 17 = .ok (.goto 4, 3) := by decide +kernel
theorem dX5_part_20 : decode cX5_part 20 = .ok (.lload_n 2, 1) := by decide +kernel
theorem dX5_part_21 : decode cX5_part 21 = .ok (.lload 5, 2) := by decide +kernel
theorem dX5_part_23 : decode cX5_part 23 = .ok (.ldiv, 1) := by decide +kernel
theorem dX5_part_24 : decode cX5_part 24 = .ok (.lreturn, 1) := by decide +kernel
theorem dX5_commonDivisor_0 : decode cX5_commonDivisor 0 = .ok (.lload_n 0, 1) := by decide +kernel
theorem dX5_commonDivisor_1 : decode cX5_commonDivisor 1 = .ok (.lstore 4, 2) := by decide +kernel
theorem dX5_commonDivisor_3 : decode cX5_commonDivisor 3 = .ok (.lload_n 2, 1) := by decide +kernel
theorem dX5_commonDivisor_4 : decode cX5_commonDivisor 4 = .ok (.lstore 6, 2) := by decide +kernel
theorem dX5_commonDivisor_6 : decode cX5_commonDivisor 6 = .ok (.iconst 0, 1) := by decide +kernel
theorem dX5_commonDivisor_7 : decode cX5_commonDivisor 7 = .ok (.istore 8, 2) := by decide +kernel
theorem dX5_commonDivisor_9 : decode cX5_commonDivisor 9 = .ok (.iload 8, 2) := by decide +kernel
theorem dX5_commonDivisor_11 : decode cX5_commonDivisor 11 = .ok (.bipush 100, 2) := by decide +kernel
theorem dX5_commonDivisor_13 : decode cX5_commonDivisor 13 = .ok (.if_icmp .ge 31, 3) := by decide +kernel
theorem dX5_commonDivisor_16 : decode cX5_commonDivisor 16 = .ok (.lload 6, 2) := by decide +kernel
theorem dX5_commonDivisor_18 : decode cX5_commonDivisor 18 = .ok (.lconst 0, 1) := by decide +kernel
theorem dX5_commonDivisor_19 : decode cX5_commonDivisor 19 = .ok (.lcmp, 1) := by decide +kernel
theorem dX5_commonDivisor_20 : decode cX5_commonDivisor 20 = .ok (.ifCond .eq 24, 3) := by decide +kernel
theorem dX5_commonDivisor_23 : decode cX5_commonDivisor 23 = .ok (.lload 4, 2) := by decide +kernel
theorem dX5_commonDivisor_25 : decode cX5_commonDivisor 25 = .ok (.lload 6, 2) := by decide +kernel
theorem dX5_commonDivisor_27 : decode cX5_commonDivisor 27 = .ok (.lrem, 1) := by decide +kernel
theorem dX5_commonDivisor_28 : decode cX5_commonDivisor 28 = .ok (.lstore 9, 2) := by decide +kernel
theorem dX5_commonDivisor_30 : decode cX5_commonDivisor 30 = .ok (.lload 6, 2) := by decide +kernel
theorem dX5_commonDivisor_32 : decode cX5_commonDivisor 32 = .ok (.lstore 4, 2) := by decide +kernel
theorem dX5_commonDivisor_34 : decode cX5_commonDivisor 34 = .ok (.lload 9, 2) := by decide +kernel
theorem dX5_commonDivisor_36 : decode cX5_commonDivisor 36 = .ok (.lstore 6, 2) := by decide +kernel
theorem dX5_commonDivisor_38 : decode cX5_commonDivisor 38 = .ok (.iinc 8 1, 3) := by decide +kernel
theorem dX5_commonDivisor_41 : decode cX5_commonDivisor 41 = .ok (.goto (-32), 3) := by decide +kernel
theorem dX5_commonDivisor_44 : decode cX5_commonDivisor 44 = .ok (.lload 4, 2) := by decide +kernel
theorem dX5_commonDivisor_46 : decode cX5_commonDivisor 46 = .ok (.lreturn, 1) := by decide +kernel
