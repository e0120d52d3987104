theorem dX6_pays_28 : decode cX6_pays 28 = .ok (.ior, 1) := by decide +kernel
theorem dX6_pays_29 : decode cX6_pays 29 = .ok (.istore_n 1, 1) := by decide +kernel
theorem dX6_pays_30 : decode cX6_pays 30 = .ok (.iinc 2 1, 3) := by decide +kernel
theorem dX6_pays_33 : decode cX6_pays 33 = .ok (.goto (-29), 3) := by decide +kernel
theorem dX6_pays_36 : decode cX6_pays 36 = .ok (.iconst 0, 1) := by decide +kernel
theorem dX6_pays_37 : decode cX6_pays 37 = .ok (.istore_n 2, 1) := by decide +kernel
theorem dX6_pays_38 : decode cX6_pays 38 = .ok (.iload_n 2, 1) := by decide +kernel
theorem dX6_pays_39 : decode cX6_pays 39 = .ok (.iconst 1, 1) := by decide +kernel
theorem dX6_pays_40 : decode cX6_pays 40 = .ok (.aload_n 0, 1) := by decide +kernel
theorem dX6_pays_41 : decode cX6_pays 41 = .ok (.getfield 148, 3) := by decide +kernel
theorem dX6_pays_44 : decode cX6_pays 44 = .ok (.ishl, 1) := by decide +kernel
theorem dX6_pays_45 : decode cX6_pays 45 = .ok (.if_icmp .ge 105, 3) := by decide +kernel
theorem dX6_pays_48 : decode cX6_pays 48 = .ok (.aload_n 0, 1) := by decide +kernel
theorem dX6_pays_49 : decode cX6_pays 49 = .ok (.getfield 28, 3) := by decide +kernel
theorem dX6_pays_52 : decode cX6_pays 52 = .ok (.iload_n 2, 1) := by decide +kernel
theorem dX6_pays_53 : decode cX6_pays 53 = .ok (.iconst 0, 1) := by decide +kernel
theorem dX6_pays_54 : decode cX6_pays 54 = .ok (.iastore, 1) := by decide +kernel
theorem dX6_pays_55 : decode cX6_pays 55 = .ok (.iconst 1, 1) := by decide +kernel
theorem dX6_pays_56 : decode cX6_pays 56 = .ok (.istore_n 3, 1) := by decide +kernel
theorem dX6_pays_57 : decode cX6_pays 57 = .ok (.iload_n 3, 1) := by decide +kernel
theorem dX6_pays_58 : decode cX6_pays 58 = .ok (.iload_n 2, 1) := by decide +kernel
theorem dX6_pays_59 : decode cX6_pays 59 = .ok (.if_icmp .gt 85, 3) := by decide +kernel
theorem dX6_pays_62 : decode cX6_pays 62 = .ok (.iload_n 3, 1) := by decide +kernel
theorem dX6_pays_63 : decode cX6_pays 63 = .ok (.iload_n 2, 1) := by decide +kernel
theorem dX6_pays_64 : decode cX6_pays 64 = .ok (.iconst (-1), 1) := by decide +kernel
theorem dX6_pays_65 : decode cX6_pays 65 = .ok (.ixor, 1) := by decide +kernel
theorem dX6_pays_66 : decode cX6_pays 66 = .ok (.iand, 1) := by decide +kernel
theorem dX6_pays_67 : decode cX6_pays 67 = .ok (.ifCond .ne 15, 3) := by decide +kernel
theorem dX6_pays_70 : decode cX6_pays 70 = .ok (.aload_n 0, 1) := by decide +kernel
theorem dX6_pays_71 : decode cX6_pays 71 = .ok (.iload_n 3, 1) := by decide +kernel
theorem dX6_pays_72 : decode cX6_pays 72 = .ok (.invokevirtual 259, 3) := by decide +kernel
theorem dX6_pays_75 : decode cX6_pays 75 = .ok (.ifCond .ne 7, 3) := by decide +kernel
theorem dX6_pays_78 : decode cX6_pays 78 = .ok (.iconst 1, 1) := by decide +kernel
theorem dX6_pays_79 : decode cX6_pays 79 = .ok (.goto 4, 3) := by decide +kernel
theorem dX6_pays_82 : decode cX6_pays 82 = .ok (.iconst 0, 1) := by decide +kernel
theorem dX6_pays_83 : decode cX6_pays 83 = .ok (.istore 4, 2) := by decide +kernel
theorem dX6_pays_85 : decode cX6_pays 85 = .ok (.aload_n 0, 1) := by decide +kernel
theorem dX6_pays_86 : decode cX6_pays 86 = .ok (.getfield 28, 3) := by decide +kernel
theorem dX6_pays_89 : decode cX6_pays 89 = .ok (.iload_n 2, 1) := by decide +kernel
theorem dX6_pays_90 : decode cX6_pays 90 = .ok (.iload 4, 2) := by decide +kernel
theorem dX6_pays_92 : decode cX6_pays 92 = .ok (.ifCond .eq 39, 3) := by decide +kernel
theorem dX6_pays_95 : decode cX6_pays 95 = .ok (.aload_n 0, 1) := by decide +kernel
theorem dX6_pays_96 : decode cX6_pays 96 = .ok (.getfield 28, 3) := by decide +kernel
theorem dX6_pays_99 : decode cX6_pays 99 = .ok (.iload_n 2, 1) := by decide +kernel
theorem dX6_pays_100 : decode cX6_pays 100 = .ok (.iload_n 3, 1) := by decide +kernel
theorem dX6_pays_101 : decode cX6_pays 101 = .ok (.iconst (-1), 1) := by decide +kernel
theorem dX6_pays_102 : decode cX6_pays 102 = .ok (.ixor, 1) := by decide +kernel
theorem dX6_pays_103 : decode cX6_pays 103 = .ok (.iand, 1) := by decide +kernel
theorem dX6_pays_104 : decode cX6_pays 104 = .ok (.iaload, 1) := by decide +kernel
theorem dX6_pays_105 : decode cX6_pays 105 = .ok (.iconst 1, 1) := by decide +kernel
theorem dX6_pays_106 : decode cX6_pays 106 = .ok (.iadd, 1) := by decide +kernel
theorem dX6_pays_107 : decode cX6_pays 107 = .ok (.aload_n 0, 1) := by decide +kernel
theorem dX6_pays_108 : decode cX6_pays 108 = .ok (.getfield 28, 3) := by decide +kernel
theorem dX6_pays_111 : decode cX6_pays 111 = .ok (.iload_n 2, 1) := by decide +kernel
theorem dX6_pays_112 : decode cX6_pays 112 = .ok (.iaload, 1) := by decide +kernel
theorem dX6_pays_113 : decode cX6_pays 113 = .ok (.if_icmp .le 18, 3) := by decide +kernel
theorem dX6_pays_116 : decode cX6_pays 116 = .ok (.aload_n 0, 1) := by decide +kernel
theorem dX6_pays_117 : decode cX6_pays 117 = .ok (.getfield 28, 3) := by decide +kernel
theorem dX6_pays_120 : decode cX6_pays 120 = .ok (.iload_n 2, 1) := by decide +kernel
theorem dX6_pays_121 : decode cX6_pays 121 = .ok (.iload_n 3, 1) := by decide +kernel
theorem dX6_pays_122 : decode cX6_pays 122 = .ok (.iconst (-1), 1) := by decide +kernel
theorem dX6_pays_123 : decode cX6_pays 123 = .ok (.ixor, 1) := by decide +kernel
theorem dX6_pays_124 : decode cX6_pays 124 = .ok (.iand, 1) := by decide +kernel
theorem dX6_pays_125 : decode cX6_pays 125 = .ok (.iaload, 1) := by decide +kernel
theorem dX6_pays_126 : decode cX6_pays 126 = .ok (.iconst 1, 1) := by decide +kernel
theorem dX6_pays_127 : decode cX6_pays 127 = .ok (.iadd, 1) := by decide +kernel
theorem dX6_pays_128 : decode cX6_pays 128 = .ok (.goto 9, 3) := by decide +kernel
theorem dX6_pays_131 : decode cX6_pays 131 = .ok (.aload_n 0, 1) := by decide +kernel
theorem dX6_pays_132 : decode cX6_pays 132 = .ok (.getfield 28, 3) := by decide +kernel
theorem dX6_pays_135 : decode cX6_pays 135 = .ok (.iload_n 2, 1) := by decide +kernel
theorem dX6_pays_136 : decode cX6_pays 136 = .ok (.iaload, 1) := by decide +kernel
theorem dX6_pays_137 : decode cX6_pays 137 = .ok (.iastore, 1) := by decide +kernel
theorem dX6_pays_138 : decode cX6_pays 138 = .ok (.iinc 3 1, 3) := by decide +kernel
theorem dX6_pays_141 : decode cX6_pays 141 = .ok (.goto (-84), 3) := by decide +kernel
theorem dX6_pays_144 : decode cX6_pays 144 = .ok (.iinc 2 1, 3) := by decide +kernel
theorem dX6_pays_147 : decode cX6_pays 147 = .ok (.goto (-109), 3) := by decide +kernel
theorem dX6_pays_150 : decode cX6_pays 150 = .ok (.iload_n 1, 1) := by decide +kernel
theorem dX6_pays_151 : decode cX6_pays 151 = .ok (.invokestatic 241, 3) := by decide +kernel
theorem dX6_pays_154 : decode cX6_pays 154 = .ok (.aload_n 0, 1) := by decide +kernel
theorem dX6_pays_155 : decode cX6_pays 155 = .ok (.getfield 28, 3) := by decide +kernel
theorem dX6_pays_158 : decode cX6_pays 158 = .ok (.iload_n 1, 1) := by decide +kernel
theorem dX6_pays_159 : decode cX6_pays 159 = .ok (.iaload, 1) := by decide +kernel
theorem dX6_pays_160 : decode cX6_pays 160 = .ok (.isub, 1) := by decide +kernel
theorem dX6_pays_161 : decode cX6_pays 161 = .ok (.ireturn, 1) := by decide +kernel
theorem dX6_forgive_0 : decode cX6_forgive 0 = .ok (.aload_n 0, 1) := by decide +kernel
theorem dX6_forgive_1 : decode cX6_forgive 1 = .ok (.iconst 0, 1) := by decide +kernel
theorem dX6_forgive_2 : decode cX6_forgive 2 = .ok (.invokevirtual 225, 3) := by decide +kernel
theorem dX6_forgive_5 : decode cX6_forgive 5 = .ok (.istore_n 1, 1) := by decide +kernel
theorem dX6_forgive_6 : decode cX6_forgive 6 = .ok (.iconst 0, 1) := by decide +kernel
theorem dX6_forgive_7 : decode cX6_forgive 7 = .ok (.istore_n 2, 1) := by decide +kernel
theorem dX6_forgive_8 : decode cX6_forgive 8 = .ok (.iload_n 2, 1) := by decide +kernel
theorem dX6_forgive_9 : decode cX6_forgive 9 = .ok (.bipush 16, 2) := by decide +kernel
theorem dX6_forgive_11 : decode cX6_forgive 11 = .ok (.if_icmp .ge 19, 3) := by decide +kernel
theorem dX6_forgive_14 : decode cX6_forgive 14 = .ok (.aload_n 0, 1) := by decide +kernel
theorem dX6_forgive_15 : decode cX6_forgive 15 = .ok (.getfield 7, 3) := by decide +kernel
theorem dX6_forgive_18 : decode cX6_forgive 18 = .ok (.bipush 53, 2) := by decide +kernel
theorem dX6_forgive_20 : decode cX6_forgive 20 = .ok (.iload_n 2, 1) := by decide +kernel
theorem dX6_forgive_21 : decode cX6_forgive 21 = .ok (.iadd, 1) := by decide +kernel
theorem dX6_forgive_22 : decode cX6_forgive 22 = .ok (.iconst 0, 1) := by decide +kernel
theorem dX6_forgive_23 : decode cX6_forgive 23 = .ok (.iastore, 1) := by decide +kernel
theorem dX6_forgive_24 : decode cX6_forgive 24 = .ok (.iinc 2 1, 3) := by decide +kernel
theorem dX6_forgive_27 : decode cX6_forgive 27 = .ok (.goto (-19), 3) := by decide +kernel
theorem dX6_forgive_30 : decode cX6_forgive 30 = .ok (.iload_n 1, 1) := by decide +kernel
theorem dX6_forgive_31 : decode cX6_forgive 31 = .ok (.ireturn, 1) := by decide +kernel
theorem dX6_see_0 : decode cX6_see 0 = .ok (.aload_n 0, 1) := by decide +kernel
theorem dX6_see_1 : decode cX6_see 1 = .ok (.iload_n 1, 1) := by decide +kernel
theorem dX6_see_2 : decode cX6_see 2 = .ok (.invokevirtual 160, 3) := by decide +kernel
theorem dX6_see_5 : decode cX6_see 5 = .ok (.ifCond .eq 27, 3) := by decide +kernel
theorem dX6_see_8 : decode cX6_see 8 = .ok (.iload_n 2, 1) := by decide +kernel
theorem dX6_see_9 : decode cX6_see 9 = .ok (.i2l, 1) := by decide +kernel
theorem dX6_see_10 : decode cX6_see 10 = .ok (.lconst 1, 1) := by decide +kernel
theorem dX6_see_11 : decode cX6_see 11 = .ok (.ldc2_w 164, 3) := by decide +kernel
theorem dX6_see_14 : decode cX6_see 14 = .ok (.invokestatic 55, 3) := by decide +kernel
theorem dX6_see_17 : decode cX6_see 17 = .ok (.ifCond .eq 15, 3) := by decide +kernel
theorem dX6_see_20 : decode cX6_see 20 = .ok (.iload_n 3, 1) := by decide +kernel
theorem dX6_see_21 : decode cX6_see 21 = .ok (.i2l, 1) := by decide +kernel
theorem dX6_see_22 : decode cX6_see 22 = .ok (.lconst 0, 1) := by decide +kernel
theorem dX6_see_23 : decode cX6_see 23 = .ok (.ldc2_w 262, 3) := by decide +kernel
theorem dX6_see_26 : decode cX6_see 26 = .ok (.invokestatic 55, 3) := by decide +kernel
theorem dX6_see_29 : decode cX6_see 29 = .ok (.ifCond .ne 5, 3) := by decide +kernel
theorem dX6_see_32 : decode cX6_see 32 = .ok (.iconst (-1), 1) := by decide +kernel
theorem dX6_see_33 : decode cX6_see 33 = .ok (.ireturn, 1) := by decide +kernel
theorem dX6_see_34 : decode cX6_see 34 = .ok (.aload_n 0, 1) := by decide +kernel
theorem dX6_see_35 : decode cX6_see 35 = .ok (.getfield 151, 3) := by decide +kernel
theorem dX6_see_38 : decode cX6_see 38 = .ok (.bipush 6, 2) := by decide +kernel
theorem dX6_see_40 : decode cX6_see 40 = .ok (.if_icmp .ne 6, 3) := by decide +kernel
theorem dX6_see_43 : decode cX6_see 43 = .ok (.bipush (-3), 2) := by decide +kernel
theorem dX6_see_45 : decode cX6_see 45 = .ok (.ireturn, 1) := by decide +kernel
theorem dX6_see_46 : decode cX6_see 46 = .ok (.aload_n 0, 1) := by decide +kernel
theorem dX6_see_47 : decode cX6_see 47 = .ok (.getfield 31, 3) := by decide +kernel
theorem dX6_see_50 : decode cX6_see 50 = .ok (.iconst 3, 1) := by decide +kernel
theorem dX6_see_51 : decode cX6_see 51 = .ok (.aload_n 0, 1) := by decide +kernel
theorem dX6_see_52 : decode cX6_see 52 = .ok (.getfield 151, 3) := by decide +kernel
theorem dX6_see_55 : decode cX6_see 55 = .ok (.imul, 1) := by decide +kernel
theorem dX6_see_56 : decode cX6_see 56 = .ok (.iload_n 1, 1) := by decide +kernel
theorem dX6_see_57 : decode cX6_see 57 = .ok (.iastore, 1) := by decide +kernel
theorem dX6_see_58 : decode cX6_see 58 = .ok (.aload_n 0, 1) := by decide +kernel
theorem dX6_see_59 : decode cX6_see 59 = .ok (.getfield 31, 3) := by decide +kernel
theorem dX6_see_62 : decode cX6_see 62 = .ok (.iconst 3, 1) := by decide +kernel
theorem dX6_see_63 : decode cX6_see 63 = .ok (.aload_n 0, 1) := by decide +kernel
theorem dX6_see_64 : decode cX6_see 64 = .ok (.getfield 151, 3) := by decide +kernel
theorem dX6_see_67 : decode cX6_see 67 = .ok (.imul, 1) := by decide +kernel
theorem dX6_see_68 : decode cX6_see 68 = .ok (.iconst 1, 1) := by decide +kernel
theorem dX6_see_69 : decode cX6_see 69 = .ok (.iadd, 1) := by decide +kernel
theorem dX6_see_70 : decode cX6_see 70 = .ok (.iload_n 2, 1) := by decide +kernel
theorem dX6_see_71 : decode cX6_see 71 = .ok (.iastore, 1) := by decide +kernel
theorem dX6_see_72 : decode cX6_see 72 = .ok (.aload_n 0, 1) := by decide +kernel
theorem dX6_see_73 : decode cX6_see 73 = .ok (.getfield 31, 3) := by decide +kernel
theorem dX6_see_76 : decode cX6_see 76 = .ok (.iconst 3, 1) := by decide +kernel
theorem dX6_see_77 : decode cX6_see 77 = .ok (.aload_n 0, 1) := by decide +kernel
theorem dX6_see_78 : decode cX6_see 78 = .ok (.getfield 151, 3) := by decide +kernel
theorem dX6_see_81 : decode cX6_see 81 = .ok (.imul, 1) := by decide +kernel
theorem dX6_see_82 : decode cX6_see 82 = .ok (.iconst 2, 1) := by decide +kernel
theorem dX6_see_83 : decode cX6_see 83 = .ok (.iadd, 1) := by decide +kernel
theorem dX6_see_84 : decode cX6_see 84 = .ok (.iload_n 3, 1) := by decide +kernel
theorem dX6_see_85 : decode cX6_see 85 = .ok (.iastore, 1) := by decide +kernel
theorem dX6_see_86 : decode cX6_see 86 = .ok (.aload_n 0, 1) := by decide +kernel
theorem dX6_see_87 : decode cX6_see 87 = .ok (.dup, 1) := by decide +kernel
theorem dX6_see_88 : decode cX6_see 88 = .ok (.getfield 151, 3) := by decide +kernel
theorem dX6_see_91 : decode cX6_see 91 = .ok (.iconst 1, 1) := by decide +kernel
theorem dX6_see_92 : decode cX6_see 92 = .ok (.iadd, 1) := by decide +kernel
theorem dX6_see_93 : decode cX6_see 93 = .ok (.putfield 151, 3) := by decide +kernel
theorem dX6_see_96 : decode cX6_see 96 = .ok (.aload_n 0, 1) := by decide +kernel
theorem dX6_see_97 : decode cX6_see 97 = .ok (.getfield 151, 3) := by decide +kernel
theorem dX6_see_100 : decode cX6_see 100 = .ok (.ireturn, 1) := by decide +kernel
theorem dX6_forget_0 : decode cX6_forget 0 = .ok (.iload_n 1, 1) := by decide +kernel
theorem dX6_forget_1 : decode cX6_forget 1 = .ok (.i2l, 1) := by decide +kernel
theorem dX6_forget_2 : decode cX6_forget 2 = .ok (.lconst 0, 1) := by decide +kernel
theorem dX6_forget_3 : decode cX6_forget 3 = .ok (.aload_n 0, 1) := by decide +kernel
theorem dX6_forget_4 : decode cX6_forget 4 = .ok (.getfield 151, 3) := by decide +kernel
theorem dX6_forget_7 : decode cX6_forget 7 = .ok (.i2l, 1) := by decide +kernel
theorem dX6_forget_8 : decode cX6_forget 8 = .ok (.invokestatic 55, 3) := by decide +kernel
theorem dX6_forget_11 : decode cX6_forget 11 = .ok (.ifCond .ne 5, 3) := by decide +kernel
theorem dX6_forget_14 : decode cX6_forget 14 = .ok (.iconst (-1), 1) := by decide +kernel
theorem dX6_forget_15 : decode cX6_forget 15 = .ok (.ireturn, 1) := by decide +kernel
theorem dX6_forget_16 : decode cX6_forget 16 = .ok (.aload_n 0, 1) := by decide +kernel
theorem dX6_forget_17 : decode cX6_forget 17 = .ok (.getfield 151, 3) := by decide +kernel
theorem dX6_forget_20 : decode cX6_forget 20 = .ok (.istore_n 2, 1) := by decide +kernel
theorem dX6_forget_21 : decode cX6_forget 21 = .ok (.aload_n 0, 1) := by decide +kernel
theorem dX6_forget_22 : decode cX6_forget 22 = .ok (.iload_n 1, 1) := by decide +kernel
theorem dX6_forget_23 : decode cX6_forget 23 = .ok (.putfield 151, 3) := by decide +kernel
theorem dX6_forget_26 : decode cX6_forget 26 = .ok (.iload_n 2, 1) := by decide +kernel
theorem dX6_forget_27 : decode cX6_forget 27 = .ok (.ireturn, 1) := by decide +kernel
theorem dX6_allSkies_0 : decode cX6_allSkies 0 = .ok (.iconst 0, 1) := by decide +kernel
theorem dX6_allSkies_1 : decode cX6_allSkies 1 = .ok (.istore_n 1, 1) := by decide +kernel
theorem dX6_allSkies_2 : decode cX6_allSkies 2 = .ok (.iload_n 1, 1) := by decide +kernel
theorem dX6_allSkies_3 : decode cX6_allSkies 3 = .ok (.sipush 256, 3) := by decide +kernel
theorem dX6_allSkies_6 : decode cX6_allSkies 6 = .ok (.if_icmp .ge 176, 3) := by decide +kernel
theorem dX6_allSkies_9 : decode cX6_allSkies 9 = .ok (.aload_n 0, 1) := by decide +kernel
theorem dX6_allSkies_10 : decode cX6_allSkies 10 = .ok (.iconst 0, 1) := by decide +kernel
theorem dX6_allSkies_11 : decode cX6_allSkies 11 = .ok (.sipush 276, 3) := by decide +kernel
theorem dX6_allSkies_14 : decode cX6_allSkies 14 = .ok (.invokevirtual 215, 3) := by decide +kernel
theorem dX6_allSkies_17 : decode cX6_allSkies 17 = .ok (.aload_n 0, 1) := by decide +kernel
theorem dX6_allSkies_18 : decode cX6_allSkies 18 = .ok (.getfield 37, 3) := by decide +kernel
theorem dX6_allSkies_21 : decode cX6_allSkies 21 = .ok (.iload_n 1, 1) := by decide +kernel
theorem dX6_allSkies_22 : decode cX6_allSkies 22 = .ok (.iconst 1, 1) := by decide +kernel
theorem dX6_allSkies_23 : decode cX6_allSkies 23 = .ok (.bastore, 1) := by decide +kernel
theorem dX6_allSkies_24 : decode cX6_allSkies 24 = .ok (.iconst 0, 1) := by decide +kernel
theorem dX6_allSkies_25 : decode cX6_allSkies 25 = .ok (.istore_n 2, 1) := by decide +kernel
theorem dX6_allSkies_26 : decode cX6_allSkies 26 = .ok (.iload_n 2, 1) := by decide +kernel
theorem dX6_allSkies_27 : decode cX6_allSkies 27 = .ok (.iconst 4, 1) := by decide +kernel
theorem dX6_allSkies_28 : decode cX6_allSkies 28 = .ok (.if_icmp .ge 64, 3) := by decide +kernel
theorem dX6_allSkies_31 : decode cX6_allSkies 31 = .ok (.aload_n 0, 1) := by decide +kernel
theorem dX6_allSkies_32 : decode cX6_allSkies 32 = .ok (.sipush 276, 3) := by decide +kernel
theorem dX6_allSkies_35 : decode cX6_allSkies 35 = .ok (.iload_n 1, 1) := by decide +kernel
theorem dX6_allSkies_36 : decode cX6_allSkies 36 = .ok (.iconst 2, 1) := by decide +kernel
theorem dX6_allSkies_37 : decode cX6_allSkies 37 = .ok (.iconst 3, 1) := by decide +kernel
theorem dX6_allSkies_38 : decode cX6_allSkies 38 = .ok (.iload_n 2, 1) := by decide +kernel
theorem dX6_allSkies_39 : decode cX6_allSkies 39 = .ok (.isub, 1) := by decide +kernel
theorem dX6_allSkies_40 : decode cX6_allSkies 40 = .ok (.imul, 1) := by decide +kernel
theorem dX6_allSkies_41 : decode cX6_allSkies 41 = .ok (.ishr, 1) := by decide +kernel
theorem dX6_allSkies_42 : decode cX6_allSkies 42 = .ok (.iconst 3, 1) := by decide +kernel
theorem dX6_allSkies_43 : decode cX6_allSkies 43 = .ok (.iand, 1) := by decide +kernel
theorem dX6_allSkies_44 : decode cX6_allSkies 44 = .ok (.invokevirtual 206, 3) := by decide +kernel
theorem dX6_allSkies_47 : decode cX6_allSkies 47 = .ok (.pop, 1) := by decide +kernel
theorem dX6_allSkies_48 : decode cX6_allSkies 48 = .ok (.iconst 0, 1) := by decide +kernel
theorem dX6_allSkies_49 : decode cX6_allSkies 49 = .ok (.istore_n 3, 1) := by decide +kernel
theorem dX6_allSkies_50 : decode cX6_allSkies 50 = .ok (.iload_n 3, 1) := by decide +kernel
theorem dX6_allSkies_51 : decode cX6_allSkies 51 = .ok (.iconst 4, 1) := by decide +kernel
theorem dX6_allSkies_52 : decode cX6_allSkies 52 = .ok (.if_icmp .ge 34, 3) := by decide +kernel
theorem dX6_allSkies_55 : decode cX6_allSkies 55 = .ok (.aload_n 0, 1) := by decide +kernel
theorem dX6_allSkies_56 : decode cX6_allSkies 56 = .ok (.getfield 34, 3) := by decide +kernel
theorem dX6_allSkies_59 : decode cX6_allSkies 59 = .ok (.bipush 16, 2) := by decide +kernel
theorem dX6_allSkies_61 : decode cX6_allSkies 61 = .ok (.iload_n 1, 1) := by decide +kernel
theorem dX6_allSkies_62 : decode cX6_allSkies 62 = .ok (.imul, 1) := by decide +kernel
theorem dX6_allSkies_63 : decode cX6_allSkies 63 = .ok (.iconst 4, 1) := by decide +kernel
theorem dX6_allSkies_64 : decode cX6_allSkies 64 = .ok (.iload_n 2, 1) := by decide +kernel
theorem dX6_allSkies_65 : decode cX6_allSkies 65 = .ok (.imul, 1) := by decide +kernel
theorem dX6_allSkies_66 : decode cX6_allSkies 66 = .ok (.iadd, 1) := by decide +kernel
theorem dX6_allSkies_67 : decode cX6_allSkies 67 = .ok (.iload_n 3, 1) := by decide +kernel
theorem dX6_allSkies_68 : decode cX6_allSkies 68 = .ok (.iadd, 1) := by decide +kernel
theorem dX6_allSkies_69 : decode cX6_allSkies 69 = .ok (.aload_n 0, 1) := by decide +kernel
theorem dX6_allSkies_70 : decode cX6_allSkies 70 = .ok (.getfield 7, 3) := by decide +kernel
theorem dX6_allSkies_73 : decode cX6_allSkies 73 = .ok (.sipush 284, 3) := by decide +kernel
theorem dX6_allSkies_76 : decode cX6_allSkies 76 = .ok (.iload_n 3, 1) := by decide +kernel
theorem dX6_allSkies_77 : decode cX6_allSkies 77 = .ok (.iadd, 1) := by decide +kernel
theorem dX6_allSkies_78 : decode cX6_allSkies 78 = .ok (.iaload, 1) := by decide +kernel
theorem dX6_allSkies_79 : decode cX6_allSkies 79 = .ok (.iastore, 1) := by decide +kernel
theorem dX6_allSkies_80 : decode cX6_allSkies 80 = .ok (.iinc 3 1, 3) := by decide +kernel
theorem dX6_allSkies_83 : decode cX6_allSkies 83 = .ok (.goto (-33), 3) := by decide +kernel
theorem dX6_allSkies_86 : decode cX6_allSkies 86 = .ok (.iinc 2 1, 3) := by decide +kernel
theorem dX6_allSkies_89 : decode cX6_allSkies 89 = .ok (.goto (-63), 3) := by decide +kernel
theorem dX6_allSkies_92 : decode cX6_allSkies 92 = .ok (.iconst 0, 1) := by decide +kernel
theorem dX6_allSkies_93 : decode cX6_allSkies 93 = .ok (.istore_n 2, 1) := by decide +kernel
theorem dX6_allSkies_94 : decode cX6_allSkies 94 = .ok (.iload_n 2, 1) := by decide +kernel
theorem dX6_allSkies_95 : decode cX6_allSkies 95 = .ok (.aload_n 0, 1) := by decide +kernel
theorem dX6_allSkies_96 : decode cX6_allSkies 96 = .ok (.getfield 151, 3) := by decide +kernel
theorem dX6_allSkies_99 : decode cX6_allSkies 99 = .ok (.if_icmp .ge 77, 3) := by decide +kernel
theorem dX6_allSkies_102 : decode cX6_allSkies 102 = .ok (.bipush 16, 2) := by decide +kernel
theorem dX6_allSkies_104 : decode cX6_allSkies 104 = .ok (.iload_n 1, 1) := by decide +kernel
theorem dX6_allSkies_105 : decode cX6_allSkies 105 = .ok (.imul, 1) := by decide +kernel
theorem dX6_allSkies_106 : decode cX6_allSkies 106 = .ok (.iconst 4, 1) := by decide +kernel
theorem dX6_allSkies_107 : decode cX6_allSkies 107 = .ok (.aload_n 0, 1) := by decide +kernel
theorem dX6_allSkies_108 : decode cX6_allSkies 108 = .ok (.getfield 31, 3) := by decide +kernel
theorem dX6_allSkies_111 : decode cX6_allSkies 111 = .ok (.iconst 3, 1) := by decide +kernel
theorem dX6_allSkies_112 : decode cX6_allSkies 112 = .ok (.iload_n 2, 1) := by decide +kernel
theorem dX6_allSkies_113 : decode cX6_allSkies 113 = .ok (.imul, 1) := by decide +kernel
theorem dX6_allSkies_114 : decode cX6_allSkies 114 = .ok (.iconst 1, 1) := by decide +kernel
theorem dX6_allSkies_115 : decode cX6_allSkies 115 = .ok (.iadd, 1) := by decide +kernel
theorem dX6_allSkies_116 : decode cX6_allSkies 116 = .ok (.iaload, 1) := by decide +kernel
theorem dX6_allSkies_117 : decode cX6_allSkies 117 = .ok (.iconst 1, 1) := by decide +kernel
theorem dX6_allSkies_118 : decode cX6_allSkies 118 = .ok (.isub, 1) := by decide +kernel
theorem dX6_allSkies_119 : decode cX6_allSkies 119 = .ok (.imul, 1) := by decide +kernel
theorem dX6_allSkies_120 : decode cX6_allSkies 120 = .ok (.iadd, 1) := by decide +kernel
theorem dX6_allSkies_121 : decode cX6_allSkies 121 = .ok (.aload_n 0, 1) := by decide +kernel
theorem dX6_allSkies_122 : decode cX6_allSkies 122 = .ok (.getfield 31, 3) := by decide +kernel
theorem dX6_allSkies_125 : decode cX6_allSkies 125 = .ok (.iconst 3, 1) := by decide +kernel
theorem dX6_allSkies_126 : decode cX6_allSkies 126 = .ok (.iload_n 2, 1) := by decide +kernel
theorem dX6_allSkies_127 : decode cX6_allSkies 127 = .ok (.imul, 1) := by decide +kernel
theorem dX6_allSkies_128 : decode cX6_allSkies 128 = .ok (.iaload, 1) := by decide +kernel
theorem dX6_allSkies_129 : decode cX6_allSkies 129 = .ok (.iadd, 1) := by decide +kernel
theorem dX6_allSkies_130 : decode cX6_allSkies 130 = .ok (.istore_n 3, 1) := by decide +kernel
theorem dX6_allSkies_131 : decode cX6_allSkies 131 = .ok (.aload_n 0, 1) := by decide +kernel
theorem dX6_allSkies_132 : decode cX6_allSkies 132 = .ok (.getfield 37, 3) := by decide +kernel
theorem dX6_allSkies_135 : decode cX6_allSkies 135 = .ok (.iload_n 1, 1) := by decide +kernel
theorem dX6_allSkies_136 : decode cX6_allSkies 136 = .ok (.aload_n 0, 1) := by decide +kernel
theorem dX6_allSkies_137 : decode cX6_allSkies 137 = .ok (.getfield 37, 3) := by decide +kernel
theorem dX6_allSkies_140 : decode cX6_allSkies 140 = .ok (.iload_n 1, 1) := by decide +kernel
theorem dX6_allSkies_141 : decode cX6_allSkies 141 = .ok (.baload, 1) := by decide +kernel
theorem dX6_allSkies_142 : decode cX6_allSkies 142 = .ok (.ifCond .eq 26, 3) := by decide +kernel
theorem dX6_allSkies_145 : decode cX6_allSkies 145 = .ok (.aload_n 0, 1) := by decide +kernel
theorem dX6_allSkies_146 : decode cX6_allSkies 146 = .ok (.getfield 34, 3) := by decide +kernel
theorem dX6_allSkies_149 : decode cX6_allSkies 149 = .ok (.iload_n 3, 1) := by decide +kernel
theorem dX6_allSkies_150 : decode cX6_allSkies 150 = .ok (.iaload, 1) := by decide +kernel
theorem dX6_allSkies_151 : decode cX6_allSkies 151 = .ok (.aload_n 0, 1) := by decide +kernel
theorem dX6_allSkies_152 : decode cX6_allSkies 152 = .ok (.getfield 31, 3) := by decide +kernel
theorem dX6_allSkies_155 : decode cX6_allSkies 155 = .ok (.iconst 3, 1) := by decide +kernel
theorem dX6_allSkies_156 : decode cX6_allSkies 156 = .ok (.iload_n 2, 1) := by decide +kernel
theorem dX6_allSkies_157 : decode cX6_allSkies 157 = .ok (.imul, 1) := by decide +kernel
theorem dX6_allSkies_158 : decode cX6_allSkies 158 = .ok (.iconst 2, 1) := by decide +kernel
theorem dX6_allSkies_159 : decode cX6_allSkies 159 = .ok (.iadd, 1) := by decide +kernel
theorem dX6_allSkies_160 : decode cX6_allSkies 160 = .ok (.iaload, 1) := by decide +kernel
theorem dX6_allSkies_161 : decode cX6_allSkies 161 = .ok (.if_icmp .ne 7, 3) := by decide +kernel
theorem dX6_allSkies_164 : decode cX6_allSkies 164 = .ok (.iconst 1, 1) := by decide +kernel
theorem dX6_allSkies_165 : decode cX6_allSkies 165 = .ok (.goto 4, 3) := by decide +kernel
theorem dX6_allSkies_168 : decode cX6_allSkies 168 = .ok (.iconst 0, 1) := by decide +kernel
theorem dX6_allSkies_169 : decode cX6_allSkies 169 = .ok (.bastore, 1) := by decide +kernel
theorem dX6_allSkies_170 : decode cX6_allSkies 170 = .ok (.iinc 2 1, 3) := by decide +kernel
theorem dX6_allSkies_173 : decode cX6_allSkies 173 = .ok (.goto (-79), 3) := by decide +kernel
theorem dX6_allSkies_176 : decode cX6_allSkies 176 = .ok (.iinc 1 1, 3) := by decide +kernel
theorem dX6_allSkies_179 : decode cX6_allSkies 179 = .ok (.goto (-177), 3) := by decide +kernel
theorem dX6_allSkies_182 : decode cX6_allSkies 182 = .ok (.return_, 1) := by decide +kernel
theorem dX6_fits_0 : decode cX6_fits 0 = .ok (.iload_n 1, 1) := by decide +kernel
theorem dX6_fits_1 : decode cX6_fits 1 = .ok (.i2l, 1) := by decide +kernel
theorem dX6_fits_2 : decode cX6_fits 2 = .ok (.lconst 0, 1) := by decide +kernel
theorem dX6_fits_3 : decode cX6_fits 3 = .ok (.lconst 1, 1) := by decide +kernel
theorem dX6_fits_4 : decode cX6_fits 4 = .ok (.invokestatic 55, 3) := by decide +kernel
theorem dX6_fits_7 : decode cX6_fits 7 = .ok (.ifCond .ne 19, 3) := by decide +kernel
theorem dX6_fits_10 : decode cX6_fits 10 = .ok (.iload_n 1, 1) := by decide +kernel
theorem dX6_fits_11 : decode cX6_fits 11 = .ok (.i2l, 1) := by decide +kernel
theorem dX6_fits_12 : decode cX6_fits 12 = .ok (.ldc2_w 244, 3) := by decide +kernel
theorem dX6_fits_15 : decode cX6_fits 15 = .ok (.ldc2_w 264, 3) := by decide +kernel
theorem dX6_fits_18 : decode cX6_fits 18 = .ok (.invokestatic 55, 3) := by decide +kernel
theorem dX6_fits_21 : decode cX6_fits 21 = .ok (.ifCond .ne 5, 3) := by decide +kernel
theorem dX6_fits_24 : decode cX6_fits 24 = .ok (.iconst (-1), 1) := by decide +kernel
theorem dX6_fits_25 : decode cX6_fits 25 = .ok (.ireturn, 1) := by decide +kernel
theorem dX6_fits_26 : decode cX6_fits 26 = .ok (.aload_n 0, 1) := by decide +kernel
theorem dX6_fits_27 : decode cX6_fits 27 = .ok (.invokevirtual 266, 3) := by decide +kernel
theorem dX6_fits_30 : decode cX6_fits 30 = .ok (.iconst 0, 1) := by decide +kernel
theorem dX6_fits_31 : decode cX6_fits 31 = .ok (.istore_n 2, 1) := by decide +kernel
theorem dX6_fits_32 : decode cX6_fits 32 = .ok (.bipush (-4), 2) := by decide +kernel
theorem dX6_fits_34 : decode cX6_fits 34 = .ok (.istore_n 3, 1) := by decide +kernel
theorem dX6_fits_35 : decode cX6_fits 35 = .ok (.iconst 0, 1) := by decide +kernel
theorem dX6_fits_36 : decode cX6_fits 36 = .ok (.istore 4, 2) := by decide +kernel
theorem dX6_fits_38 : decode cX6_fits 38 = .ok (.iconst 0, 1) := by decide +kernel
theorem dX6_fits_39 : decode cX6_fits 39 = .ok (.istore 5, 2) := by decide +kernel
theorem dX6_fits_41 : decode cX6_fits 41 = .ok (.iload 5, 2) := by decide +kernel
theorem dX6_fits_43 : decode cX6_fits 43 = .ok (.sipush 256, 3) := by decide +kernel
theorem dX6_fits_46 : decode cX6_fits 46 = .ok (.if_icmp .ge 85, 3) := by decide +kernel
theorem dX6_fits_49 : decode cX6_fits 49 = .ok (.aload_n 0, 1) := by decide +kernel
theorem dX6_fits_50 : decode cX6_fits 50 = .ok (.getfield 37, 3) := by decide +kernel
theorem dX6_fits_53 : decode cX6_fits 53 = .ok (.iload 5, 2) := by decide +kernel
theorem dX6_fits_55 : decode cX6_fits 55 = .ok (.baload, 1) := by decide +kernel
theorem dX6_fits_56 : decode cX6_fits 56 = .ok (.ifCond .eq 12, 3) := by decide +kernel
theorem dX6_fits_59 : decode cX6_fits 59 = .ok (.iload_n 2, 1) := by decide +kernel
theorem dX6_fits_60 : decode cX6_fits 60 = .ok (.ifCond .ne 8, 3) := by decide +kernel
theorem dX6_fits_63 : decode cX6_fits 63 = .ok (.iload 5, 2) := by decide +kernel
theorem dX6_fits_65 : decode cX6_fits 65 = .ok (.goto 4, 3) := by decide +kernel
theorem dX6_fits_68 : decode cX6_fits 68 = .ok (.iload_n 3, 1) := by decide +kernel
theorem dX6_fits_69 : decode cX6_fits 69 = .ok (.istore_n 3, 1) := by decide +kernel
theorem dX6_fits_70 : decode cX6_fits 70 = .ok (.iload_n 2, 1) := by decide +kernel
theorem dX6_fits_71 : decode cX6_fits 71 = .ok (.aload_n 0, 1) := by decide +kernel
theorem dX6_fits_72 : decode cX6_fits 72 = .ok (.getfield 37, 3) := by decide +kernel
theorem dX6_fits_75 : decode cX6_fits 75 = .ok (.iload 5, 2) := by decide +kernel
theorem dX6_fits_77 : decode cX6_fits 77 = .ok (.baload, 1) := by decide +kernel
theorem dX6_fits_78 : decode cX6_fits 78 = .ok (.ifCond .eq 7, 3) := by decide +kernel
theorem dX6_fits_81 : decode cX6_fits 81 = .ok (.iconst 1, 1) := by decide +kernel
theorem dX6_fits_82 : decode cX6_fits 82 = .ok (.goto 4, 3) := by decide +kernel
theorem dX6_fits_85 : decode cX6_fits 85 = .ok (.iconst 0, 1) := by decide +kernel
theorem dX6_fits_86 : decode cX6_fits 86 = .ok (.iadd, 1) := by decide +kernel
theorem dX6_fits_87 : decode cX6_fits 87 = .ok (.istore_n 2, 1) := by decide +kernel
theorem dX6_fits_88 : decode cX6_fits 88 = .ok (.iload 4, 2) := by decide +kernel
theorem dX6_fits_90 : decode cX6_fits 90 = .ok (.aload_n 0, 1) := by decide +kernel
theorem dX6_fits_91 : decode cX6_fits 91 = .ok (.getfield 37, 3) := by decide +kernel
theorem dX6_fits_94 : decode cX6_fits 94 = .ok (.iload 5, 2) := by decide +kernel
theorem dX6_fits_96 : decode cX6_fits 96 = .ok (.baload, 1) := by decide +kernel
theorem dX6_fits_97 : decode cX6_fits 97 = .ok (.ifCond .eq 24, 3) := by decide +kernel
theorem dX6_fits_100 : decode cX6_fits 100 = .ok (.iload_n 1, 1) := by decide +kernel
theorem dX6_fits_101 : decode cX6_fits 101 = .ok (.iconst 1, 1) := by decide +kernel
theorem dX6_fits_102 : decode cX6_fits 102 = .ok (.if_icmp .le 19, 3) := by decide +kernel
theorem dX6_fits_105 : decode cX6_fits 105 = .ok (.iconst 1, 1) := by decide +kernel
theorem dX6_fits_106 : decode cX6_fits 106 = .ok (.iload 5, 2) := by decide +kernel
theorem dX6_fits_108 : decode cX6_fits 108 = .ok (.iconst 2, 1) := by decide +kernel
theorem dX6_fits_109 : decode cX6_fits 109 = .ok (.bipush 13, 2) := by decide +kernel
theorem dX6_fits_111 : decode cX6_fits 111 = .ok (.iload_n 1, 1) := by decide +kernel
theorem dX6_fits_112 : decode cX6_fits 112 = .ok (.isub, 1) := by decide +kernel
theorem dX6_fits_113 : decode cX6_fits 113 = .ok (.imul, 1) := by decide +kernel
theorem dX6_fits_114 : decode cX6_fits 114 = .ok (.ishr, 1) := by decide +kernel
theorem dX6_fits_115 : decode cX6_fits 115 = .ok (.iconst 3, 1) := by decide +kernel
theorem dX6_fits_116 : decode cX6_fits 116 = .ok (.iand, 1) := by decide +kernel
theorem dX6_fits_117 : decode cX6_fits 117 = .ok (.ishl, 1) := by decide +kernel
theorem dX6_fits_118 : decode cX6_fits 118 = .ok (.goto 4, 3) := by decide +kernel
theorem dX6_fits_121 : decode cX6_fits 121 = .ok (.iconst 0, 1) := by decide +kernel
theorem dX6_fits_122 : decode cX6_fits 122 = .ok (.ior, 1) := by decide +kernel
theorem dX6_fits_123 : decode cX6_fits 123 = .ok (.istore 4, 2) := by decide +kernel
theorem dX6_fits_125 : decode cX6_fits 125 = .ok (.iinc 5 1, 3) := by decide +kernel
theorem dX6_fits_128 : decode cX6_fits 128 = .ok (.goto (-87), 3) := by decide +kernel
theorem dX6_fits_131 : decode cX6_fits 131 = .ok (.iload_n 1, 1) := by decide +kernel
theorem dX6_fits_132 : decode cX6_fits 132 = .ok (.ifCond .ne 7, 3) := by decide +kernel
theorem dX6_fits_135 : decode cX6_fits 135 = .ok (.iload_n 2, 1) := by decide +kernel
theorem dX6_fits_136 : decode cX6_fits 136 = .ok (.goto 14, 3) := by decide +kernel
theorem dX6_fits_139 : decode cX6_fits 139 = .ok (.iload_n 1, 1) := by decide +kernel
theorem dX6_fits_140 : decode cX6_fits 140 = .ok (.iconst 1, 1) := by decide +kernel
theorem dX6_fits_141 : decode cX6_fits 141 = .ok (.if_icmp .ne 7, 3) := by decide +kernel
theorem dX6_fits_144 : decode cX6_fits 144 = .ok (.iload_n 3, 1) := by decide +kernel
theorem dX6_fits_145 : decode cX6_fits 145 = .ok (.goto 5, 3) := by decide +kernel
theorem dX6_fits_148 : decode cX6_fits 148 = .ok (.iload 4, 2) := by decide +kernel
theorem dX6_fits_150 : decode cX6_fits 150 = .ok (.ireturn, 1) := by decide +kernel
theorem dX6_worstAt_0 : decode cX6_worstAt 0 = .ok (.iconst 0, 1) := by decide +kernel
theorem dX6_worstAt_1 : decode cX6_worstAt 1 = .ok (.istore_n 2, 1) := by decide +kernel
theorem dX6_worstAt_2 : decode cX6_worstAt 2 = .ok (.iconst 0, 1) := by decide +kernel
theorem dX6_worstAt_3 : decode cX6_worstAt 3 = .ok (.istore_n 3, 1) := by decide +kernel
theorem dX6_worstAt_4 : decode cX6_worstAt 4 = .ok (.iload_n 3, 1) := by decide +kernel
theorem dX6_worstAt_5 : decode cX6_worstAt 5 = .ok (.sipush 256, 3) := by decide +kernel
theorem dX6_worstAt_8 : decode cX6_worstAt 8 = .ok (.if_icmp .ge 97, 3) := by decide +kernel
theorem dX6_worstAt_11 : decode cX6_worstAt 11 = .ok (.iconst 0, 1) := by decide +kernel
theorem dX6_worstAt_12 : decode cX6_worstAt 12 = .ok (.istore 4, 2) := by decide +kernel
theorem dX6_worstAt_14 : decode cX6_worstAt 14 = .ok (.iconst 0, 1) := by decide +kernel
theorem dX6_worstAt_15 : decode cX6_worstAt 15 = .ok (.istore 5, 2) := by decide +kernel
theorem dX6_worstAt_17 : decode cX6_worstAt 17 = .ok (.iload 5, 2) := by decide +kernel
theorem dX6_worstAt_19 : decode cX6_worstAt 19 = .ok (.sipush 256, 3) := by decide +kernel
theorem dX6_worstAt_22 : decode cX6_worstAt 22 = .ok (.if_icmp .ge 64, 3) := by decide +kernel
theorem dX6_worstAt_25 : decode cX6_worstAt 25 = .ok (.aload_n 0, 1) := by decide +kernel
theorem dX6_worstAt_26 : decode cX6_worstAt 26 = .ok (.getfield 37, 3) := by decide +kernel
theorem dX6_worstAt_29 : decode cX6_worstAt 29 = .ok (.iload_n 3, 1) := by decide +kernel
theorem dX6_worstAt_30 : decode cX6_worstAt 30 = .ok (.baload, 1) := by decide +kernel
theorem dX6_worstAt_31 : decode cX6_worstAt 31 = .ok (.ifCond .eq 55, 3) := by decide +kernel
theorem dX6_worstAt_34 : decode cX6_worstAt 34 = .ok (.iload 4, 2) := by decide +kernel
theorem dX6_worstAt_36 : decode cX6_worstAt 36 = .ok (.aload_n 0, 1) := by decide +kernel
theorem dX6_worstAt_37 : decode cX6_worstAt 37 = .ok (.getfield 37, 3) := by decide +kernel
theorem dX6_worstAt_40 : decode cX6_worstAt 40 = .ok (.iload 5, 2) := by decide +kernel
theorem dX6_worstAt_42 : decode cX6_worstAt 42 = .ok (.baload, 1) := by decide +kernel
theorem dX6_worstAt_43 : decode cX6_worstAt 43 = .ok (.ifCond .eq 33, 3) := by decide +kernel
theorem dX6_worstAt_46 : decode cX6_worstAt 46 = .ok (.aload_n 0, 1) := by decide +kernel
theorem dX6_worstAt_47 : decode cX6_worstAt 47 = .ok (.getfield 34, 3) := by decide +kernel
theorem dX6_worstAt_50 : decode cX6_worstAt 50 = .ok (.bipush 16, 2) := by decide +kernel
theorem dX6_worstAt_52 : decode cX6_worstAt 52 = .ok (.iload_n 3, 1) := by decide +kernel
theorem dX6_worstAt_53 : decode cX6_worstAt 53 = .ok (.imul, 1) := by decide +kernel
theorem dX6_worstAt_54 : decode cX6_worstAt 54 = .ok (.iload_n 1, 1) := by decide +kernel
theorem dX6_worstAt_55 : decode cX6_worstAt 55 = .ok (.iadd, 1) := by decide +kernel
theorem dX6_worstAt_56 : decode cX6_worstAt 56 = .ok (.iaload, 1) := by decide +kernel
theorem dX6_worstAt_57 : decode cX6_worstAt 57 = .ok (.aload_n 0, 1) := by decide +kernel
theorem dX6_worstAt_58 : decode cX6_worstAt 58 = .ok (.getfield 34, 3) := by decide +kernel
theorem dX6_worstAt_61 : decode cX6_worstAt 61 = .ok (.bipush 16, 2) := by decide +kernel
theorem dX6_worstAt_63 : decode cX6_worstAt 63 = .ok (.iload 5, 2) := by decide +kernel
theorem dX6_worstAt_65 : decode cX6_worstAt 65 = .ok (.imul, 1) := by decide +kernel
theorem dX6_worstAt_66 : decode cX6_worstAt 66 = .ok (.iload_n 1, 1) := by decide +kernel
theorem dX6_worstAt_67 : decode cX6_worstAt 67 = .ok (.iadd, 1) := by decide +kernel
theorem dX6_worstAt_68 : decode cX6_worstAt 68 = .ok (.iaload, 1) := by decide +kernel
theorem dX6_worstAt_69 : decode cX6_worstAt 69 = .ok (.if_icmp .ne 7, 3) := by decide +kernel
theorem dX6_worstAt_72 : decode cX6_worstAt 72 = .ok (.iconst 1, 1) := by decide +kernel
theorem dX6_worstAt_73 : decode cX6_worstAt 73 = .ok (.goto 4, 3) := by decide +kernel
theorem dX6_worstAt_76 : decode cX6_worstAt 76 = .ok (.iconst 0, 1) := by decide +kernel
theorem dX6_worstAt_77 : decode cX6_worstAt 77 = .ok (.iadd, 1) := by decide +kernel
theorem dX6_worstAt_78 : decode cX6_worstAt 78 = .ok (.istore 4, 2) := by decide +kernel
theorem dX6_worstAt_80 : decode cX6_worstAt 80 = .ok (.iinc 5 1, 3) := by decide +kernel
theorem dX6_worstAt_83 : decode cX6_worstAt 83 = .ok (.goto (-66), 3) := by decide +kernel
theorem dX6_worstAt_86 : decode cX6_worstAt 86 = .ok (.iload 4, 2) := by decide +kernel
theorem dX6_worstAt_88 : decode cX6_worstAt 88 = .ok (.iload_n 2, 1) := by decide +kernel
theorem dX6_worstAt_89 : decode cX6_worstAt 89 = .ok (.if_icmp .le 8, 3) := by decide +kernel
theorem dX6_worstAt_92 : decode cX6_worstAt 92 = .ok (.iload 4, 2) := by decide +kernel
theorem dX6_worstAt_94 : decode cX6_worstAt 94 = .ok (.goto 4, 3) := by decide +kernel
theorem dX6_worstAt_97 : decode cX6_worstAt 97 = .ok (.iload_n 2, 1) := by decide +kernel
theorem dX6_worstAt_98 : decode cX6_worstAt 98 = .ok (.istore_n 2, 1) := by decide +kernel
theorem dX6_worstAt_99 : decode cX6_worstAt 99 = .ok (.iinc 3 1, 3) := by decide +kernel
theorem dX6_worstAt_102 : decode cX6_worstAt 102 = .ok (.goto (-98), 3) := by decide +kernel
theorem dX6_worstAt_105 : decode cX6_worstAt 105 = .ok (.iload_n 2, 1) := by decide +kernel
theorem dX6_worstAt_106 : decode cX6_worstAt 106 = .ok (.ireturn, 1) := by decide +kernel
theorem dX6_look_0 : decode cX6_look 0 = .ok (.iload_n 1, 1) := by decide +kernel
theorem dX6_look_1 : decode cX6_look 1 = .ok (.i2l, 1) := by decide +kernel
theorem dX6_look_2 : decode cX6_look 2 = .ok (.lconst 0, 1) := by decide +kernel
theorem dX6_look_3 : decode cX6_look 3 = .ok (.lconst 1, 1) := by decide +kernel
theorem dX6_look_4 : decode cX6_look 4 = .ok (.invokestatic 55, 3) := by decide +kernel
theorem dX6_look_7 : decode cX6_look 7 = .ok (.ifCond .ne 5, 3) := by decide +kernel
theorem dX6_look_10 : decode cX6_look 10 = .ok (.iconst (-1), 1) := by decide +kernel
theorem dX6_look_11 : decode cX6_look 11 = .ok (.ireturn, 1) := by decide +kernel
theorem dX6_look_12 : decode cX6_look 12 = .ok (.aload_n 0, 1) := by decide +kernel
theorem dX6_look_13 : decode cX6_look 13 = .ok (.invokevirtual 266, 3) := by decide +kernel
theorem dX6_look_16 : decode cX6_look 16 = .ok (.iconst 0, 1) := by decide +kernel
theorem dX6_look_17 : decode cX6_look 17 = .ok (.istore_n 2, 1) := by decide +kernel
theorem dX6_look_18 : decode cX6_look 18 = .ok (.iconst 0, 1) := by decide +kernel
theorem dX6_look_19 : decode cX6_look 19 = .ok (.istore_n 3, 1) := by decide +kernel
theorem dX6_look_20 : decode cX6_look 20 = .ok (.iload_n 3, 1) := by decide +kernel
theorem dX6_look_21 : decode cX6_look 21 = .ok (.sipush 256, 3) := by decide +kernel
theorem dX6_look_24 : decode cX6_look 24 = .ok (.if_icmp .ge 26, 3) := by decide +kernel
theorem dX6_look_27 : decode cX6_look 27 = .ok (.iload_n 2, 1) := by decide +kernel
theorem dX6_look_28 : decode cX6_look 28 = .ok (.aload_n 0, 1) := by decide +kernel
theorem dX6_look_29 : decode cX6_look 29 = .ok (.getfield 37, 3) := by decide +kernel
theorem dX6_look_32 : decode cX6_look 32 = .ok (.iload_n 3, 1) := by decide +kernel
theorem dX6_look_33 : decode cX6_look 33 = .ok (.baload, 1) := by decide +kernel
theorem dX6_look_34 : decode cX6_look 34 = .ok (.ifCond .eq 7, 3) := by decide +kernel
theorem dX6_look_37 : decode cX6_look 37 = .ok (.iconst 1, 1) := by decide +kernel
theorem dX6_look_38 : decode cX6_look 38 = .ok (.goto 4, 3) := by decide +kernel
theorem dX6_look_41 : decode cX6_look 41 = .ok (.iconst 0, 1) := by decide +kernel
theorem dX6_look_42 : decode cX6_look 42 = .ok (.iadd, 1) := by decide +kernel
theorem dX6_look_43 : decode cX6_look 43 = .ok (.istore_n 2, 1) := by decide +kernel
theorem dX6_look_44 : decode cX6_look 44 = .ok (.iinc 3 1, 3) := by decide +kernel
theorem dX6_look_47 : decode cX6_look 47 = .ok (.goto (-27), 3) := by decide +kernel
theorem dX6_look_50 : decode cX6_look 50 = .ok (.bipush (-4), 2) := by decide +kernel
theorem dX6_look_52 : decode cX6_look 52 = .ok (.istore_n 3, 1) := by decide +kernel
theorem dX6_look_53 : decode cX6_look 53 = .ok (.iconst 0, 1) := by decide +kernel
theorem dX6_look_54 : decode cX6_look 54 = .ok (.istore 4, 2) := by decide +kernel
theorem dX6_look_56 : decode cX6_look 56 = .ok (.iload 4, 2) := by decide +kernel
theorem dX6_look_58 : decode cX6_look 58 = .ok (.aload_n 0, 1) := by decide +kernel
theorem dX6_look_59 : decode cX6_look 59 = .ok (.getfield 148, 3) := by decide +kernel
theorem dX6_look_62 : decode cX6_look 62 = .ok (.if_icmp .ge 71, 3) := by decide +kernel
theorem dX6_look_65 : decode cX6_look 65 = .ok (.iconst 1, 1) := by decide +kernel
theorem dX6_look_66 : decode cX6_look 66 = .ok (.istore 5, 2) := by decide +kernel
theorem dX6_look_68 : decode cX6_look 68 = .ok (.iload 5, 2) := by decide +kernel
theorem dX6_look_70 : decode cX6_look 70 = .ok (.iconst 4, 1) := by decide +kernel
theorem dX6_look_71 : decode cX6_look 71 = .ok (.if_icmp .gt 56, 3) := by decide +kernel
theorem dX6_look_74 : decode cX6_look 74 = .ok (.aload_n 0, 1) := by decide +kernel
theorem dX6_look_75 : decode cX6_look 75 = .ok (.iconst 4, 1) := by decide +kernel
theorem dX6_look_76 : decode cX6_look 76 = .ok (.iload 5, 2) := by decide +kernel
theorem dX6_look_78 : decode cX6_look 78 = .ok (.iconst 1, 1) := by decide +kernel
theorem dX6_look_79 : decode cX6_look 79 = .ok (.isub, 1) := by decide +kernel
theorem dX6_look_80 : decode cX6_look 80 = .ok (.imul, 1) := by decide +kernel
theorem dX6_look_81 : decode cX6_look 81 = .ok (.iload 4, 2) := by decide +kernel
theorem dX6_look_83 : decode cX6_look 83 = .ok (.iadd, 1) := by decide +kernel
theorem dX6_look_84 : decode cX6_look 84 = .ok (.invokevirtual 269, 3) := by decide +kernel
theorem dX6_look_87 : decode cX6_look 87 = .ok (.istore 6, 2) := by decide +kernel
theorem dX6_look_89 : decode cX6_look 89 = .ok (.iload 6, 2) := by decide +kernel
theorem dX6_look_91 : decode cX6_look 91 = .ok (.iload_n 2, 1) := by decide +kernel
theorem dX6_look_92 : decode cX6_look 92 = .ok (.if_icmp .ge 14, 3) := by decide +kernel
theorem dX6_look_95 : decode cX6_look 95 = .ok (.bipush 10, 2) := by decide +kernel
theorem dX6_look_97 : decode cX6_look 97 = .ok (.iload 4, 2) := by decide +kernel
theorem dX6_look_99 : decode cX6_look 99 = .ok (.imul, 1) := by decide +kernel
theorem dX6_look_100 : decode cX6_look 100 = .ok (.iload 5, 2) := by decide +kernel
theorem dX6_look_102 : decode cX6_look 102 = .ok (.iadd, 1) := by decide +kernel
theorem dX6_look_103 : decode cX6_look 103 = .ok (.goto 4, 3) := by decide +kernel
theorem dX6_look_106 : decode cX6_look 106 = .ok (.iload_n 3, 1) := by decide +kernel
theorem dX6_look_107 : decode cX6_look 107 = .ok (.istore_n 3, 1) := by decide +kernel
theorem dX6_look_108 : decode cX6_look 108 = .ok (.iload 6, 2) := by decide +kernel
theorem dX6_look_110 : decode cX6_look 110 = .ok (.iload_n 2, 1) := by decide +kernel
theorem dX6_look_111 : decode cX6_look 111 = .ok (.if_icmp .ge 8, 3) := by decide +kernel
theorem dX6_look_114 : decode cX6_look 114 = .ok (.iload 6, 2) := by decide +kernel
theorem dX6_look_116 : decode cX6_look 116 = .ok (.goto 4, 3) := by decide +kernel
theorem dX6_look_119 : decode cX6_look 119 = .ok (.iload_n 2, 1) := by decide +kernel
theorem dX6_look_120 : decode cX6_look 120 = .ok (.istore_n 2, 1) := by decide +kernel
theorem dX6_look_121 : decode cX6_look 121 = .ok (.iinc 5 1, 3) := by decide +kernel
theorem dX6_look_124 : decode cX6_look 124 = .ok (.goto (-56), 3) := by decide +kernel
theorem dX6_look_127 : decode cX6_look 127 = .ok (.iinc 4 1, 3) := by decide +kernel
theorem dX6_look_130 : decode cX6_look 130 = .ok (.goto (-74), 3) := by decide +kernel
theorem dX6_look_133 : decode cX6_look 133 = .ok (.iload_n 3, 1) := by decide +kernel
theorem dX6_look_134 : decode cX6_look 134 = .ok (.bipush (-4), 2) := by decide +kernel
theorem dX6_look_136 : decode cX6_look 136 = .ok (.if_icmp .eq 7, 3) := by decide +kernel
theorem dX6_look_139 : decode cX6_look 139 = .ok (.iload_n 1, 1) := by decide +kernel
theorem dX6_look_140 : decode cX6_look 140 = .ok (.ifCond .ne 7, 3) := by decide +kernel
theorem dX6_look_143 : decode cX6_look 143 = .ok (.iload_n 3, 1) := by decide +kernel
theorem dX6_look_144 : decode cX6_look 144 = .ok (.goto 4, 3) := by decide +kernel
theorem dX6_look_147 : decode cX6_look 147 = .ok (.iload_n 2, 1) := by decide +kernel
theorem dX6_look_148 : decode cX6_look 148 = .ok (.ireturn, 1) := by decide +kernel
theorem dX6_weatherOf_0 : decode cX6_weatherOf 0 = .ok (.iconst 0, 1) := by decide +kernel
theorem dX6_weatherOf_1 : decode cX6_weatherOf 1 = .ok (.istore_n 2, 1) := by decide +kernel
theorem dX6_weatherOf_2 : decode cX6_weatherOf 2 = .ok (.aload_n 0, 1) := by decide +kernel
theorem dX6_weatherOf_3 : decode cX6_weatherOf 3 = .ok (.iconst 0, 1) := by decide +kernel
theorem dX6_weatherOf_4 : decode cX6_weatherOf 4 = .ok (.invokevirtual 178, 3) := by decide +kernel
theorem dX6_weatherOf_7 : decode cX6_weatherOf 7 = .ok (.istore_n 3, 1) := by decide +kernel
theorem dX6_weatherOf_8 : decode cX6_weatherOf 8 = .ok (.iload_n 1, 1) := by decide +kernel
theorem dX6_weatherOf_9 : decode cX6_weatherOf 9 = .ok (.iload_n 3, 1) := by decide +kernel
theorem dX6_weatherOf_10 : decode cX6_weatherOf 10 = .ok (.if_icmp .lt 17, 3) := by decide +kernel
theorem dX6_weatherOf_13 : decode cX6_weatherOf 13 = .ok (.iinc 2 1, 3) := by decide +kernel
theorem dX6_weatherOf_16 : decode cX6_weatherOf 16 = .ok (.iload_n 3, 1) := by decide +kernel
theorem dX6_weatherOf_17 : decode cX6_weatherOf 17 = .ok (.aload_n 0, 1) := by decide +kernel
theorem dX6_weatherOf_18 : decode cX6_weatherOf 18 = .ok (.iload_n 2, 1) := by decide +kernel
theorem dX6_weatherOf_19 : decode cX6_weatherOf 19 = .ok (.invokevirtual 178, 3) := by decide +kernel
theorem dX6_weatherOf_22 : decode cX6_weatherOf 22 = .ok (.iadd, 1) := by decide +kernel
theorem dX6_weatherOf_23 : decode cX6_weatherOf 23 = .ok (.istore_n 3, 1) := by decide +kernel
theorem dX6_weatherOf_24 : decode cX6_weatherOf 24 = .ok (.goto (-16), 3) := by decide +kernel
theorem dX6_weatherOf_27 : decode cX6_weatherOf 27 = .ok (.iload_n 2, 1) := by decide +kernel
theorem dX6_weatherOf_28 : decode cX6_weatherOf 28 = .ok (.ireturn, 1) := by decide +kernel
theorem dX6_drift_0 : decode cX6_drift 0 = .ok (.iload_n 2, 1) := by decide +kernel
theorem dX6_drift_1 : decode cX6_drift 1 = .ok (.i2l, 1) := by decide +kernel
theorem dX6_drift_2 : decode cX6_drift 2 = .ok (.lconst 1, 1) := by decide +kernel
theorem dX6_drift_3 : decode cX6_drift 3 = .ok (.ldc2_w 272, 3) := by decide +kernel
theorem dX6_drift_6 : decode cX6_drift 6 = .ok (.invokestatic 55, 3) := by decide +kernel
theorem dX6_drift_9 : decode cX6_drift 9 = .ok (.ifCond .eq 13, 3) := by decide +kernel
theorem dX6_drift_12 : decode cX6_drift 12 = .ok (.iload_n 3, 1) := by decide +kernel
theorem dX6_drift_13 : decode cX6_drift 13 = .ok (.i2l, 1) := by decide +kernel
theorem dX6_drift_14 : decode cX6_drift 14 = .ok (.lconst 0, 1) := by decide +kernel
theorem dX6_drift_15 : decode cX6_drift 15 = .ok (.lconst 1, 1) := by decide +kernel
theorem dX6_drift_16 : decode cX6_drift 16 = .ok (.invokestatic 55, 3) := by decide +kernel
theorem dX6_drift_19 : decode cX6_drift 19 = .ok (.ifCond .ne 5, 3) := by decide +kernel
theorem dX6_drift_22 : decode cX6_drift 22 = .ok (.iconst (-1), 1) := by decide +kernel
theorem dX6_drift_23 : decode cX6_drift 23 = .ok (.ireturn, 1) := by decide +kernel
theorem dX6_drift_24 : decode cX6_drift 24 = .ok (.aload_n 0, 1) := by decide +kernel
theorem dX6_drift_25 : decode cX6_drift 25 = .ok (.iconst 0, 1) := by decide +kernel
theorem dX6_drift_26 : decode cX6_drift 26 = .ok (.sipush 276, 3) := by decide +kernel
theorem dX6_drift_29 : decode cX6_drift 29 = .ok (.invokevirtual 215, 3) := by decide +kernel
theorem dX6_drift_32 : decode cX6_drift 32 = .ok (.iload_n 1, 1) := by decide +kernel
theorem dX6_drift_33 : decode cX6_drift 33 = .ok (.istore 4, 2) := by decide +kernel
theorem dX6_drift_35 : decode cX6_drift 35 = .ok (.iconst 0, 1) := by decide +kernel
theorem dX6_drift_36 : decode cX6_drift 36 = .ok (.istore 5, 2) := by decide +kernel
theorem dX6_drift_38 : decode cX6_drift 38 = .ok (.iconst 0, 1) := by decide +kernel
theorem dX6_drift_39 : decode cX6_drift 39 = .ok (.istore 6, 2) := by decide +kernel
theorem dX6_drift_41 : decode cX6_drift 41 = .ok (.iload 6, 2) := by decide +kernel
theorem dX6_drift_43 : decode cX6_drift 43 = .ok (.iload_n 2, 1) := by decide +kernel
theorem dX6_drift_44 : decode cX6_drift 44 = .ok (.if_icmp .ge 49, 3) := by decide +kernel
theorem dX6_drift_47 : decode cX6_drift 47 = .ok (.iload 4, 2) := by decide +kernel
theorem dX6_drift_49 : decode cX6_drift 49 = .ok (.ldc_w 274, 3) := by decide +kernel
theorem dX6_drift_52 : decode cX6_drift 52 = .ok (.imul, 1) := by decide +kernel
theorem dX6_drift_53 : decode cX6_drift 53 = .ok (.sipush 12345, 3) := by decide +kernel
theorem dX6_drift_56 : decode cX6_drift 56 = .ok (.iadd, 1) := by decide +kernel
theorem dX6_drift_57 : decode cX6_drift 57 = .ok (.istore 4, 2) := by decide +kernel
theorem dX6_drift_59 : decode cX6_drift 59 = .ok (.iload 5, 2) := by decide +kernel
theorem dX6_drift_61 : decode cX6_drift 61 = .ok (.aload_n 0, 1) := by decide +kernel
theorem dX6_drift_62 : decode cX6_drift 62 = .ok (.sipush 276, 3) := by decide +kernel
theorem dX6_drift_65 : decode cX6_drift 65 = .ok (.aload_n 0, 1) := by decide +kernel
theorem dX6_drift_66 : decode cX6_drift 66 = .ok (.iload 4, 2) := by decide +kernel
theorem dX6_drift_68 : decode cX6_drift 68 = .ok (.bipush 16, 2) := by decide +kernel
theorem dX6_drift_70 : decode cX6_drift 70 = .ok (.ishr, 1) := by decide +kernel
theorem dX6_drift_71 : decode cX6_drift 71 = .ok (.sipush 32767, 3) := by decide +kernel
theorem dX6_drift_74 : decode cX6_drift 74 = .ok (.iand, 1) := by decide +kernel
theorem dX6_drift_75 : decode cX6_drift 75 = .ok (.bipush 10, 2) := by decide +kernel
theorem dX6_drift_77 : decode cX6_drift 77 = .ok (.irem, 1) := by decide +kernel
theorem dX6_drift_78 : decode cX6_drift 78 = .ok (.invokevirtual 275, 3) := by decide +kernel
theorem dX6_drift_81 : decode cX6_drift 81 = .ok (.invokevirtual 206, 3) := by decide +kernel
theorem dX6_drift_84 : decode cX6_drift 84 = .ok (.iadd, 1) := by decide +kernel
theorem dX6_drift_85 : decode cX6_drift 85 = .ok (.istore 5, 2) := by decide +kernel
theorem dX6_drift_87 : decode cX6_drift 87 = .ok (.iinc 6 1, 3) := by decide +kernel
theorem dX6_drift_90 : decode cX6_drift 90 = .ok (.goto (-49), 3) := by decide +kernel
theorem dX6_drift_93 : decode cX6_drift 93 = .ok (.iload_n 3, 1) := by decide +kernel
theorem dX6_drift_94 : decode cX6_drift 94 = .ok (.ifCond .ne 8, 3) := by decide +kernel
theorem dX6_drift_97 : decode cX6_drift 97 = .ok (.iload 5, 2) := by decide +kernel
theorem dX6_drift_99 : decode cX6_drift 99 = .ok (.goto 10, 3) := by decide +kernel
theorem dX6_drift_102 : decode cX6_drift 102 = .ok (.aload_n 0, 1) := by decide +kernel
theorem dX6_drift_103 : decode cX6_drift 103 = .ok (.sipush 276, 3) := by decide +kernel
theorem dX6_drift_106 : decode cX6_drift 106 = .ok (.invokevirtual 222, 3) := by decide +kernel
theorem dX6_drift_109 : decode cX6_drift 109 = .ok (.ireturn, 1) := by decide +kernel
theorem dX6_keep_0 : decode cX6_keep 0 = .ok (.iload_n 1, 1) := by decide +kernel
theorem dX6_keep_1 : decode cX6_keep 1 = .ok (.i2l, 1) := by decide +kernel
theorem dX6_keep_2 : decode cX6_keep 2 = .ok (.lconst 0, 1) := by decide +kernel
theorem dX6_keep_3 : decode cX6_keep 3 = .ok (.lconst 1, 1) := by decide +kernel
theorem dX6_keep_4 : decode cX6_keep 4 = .ok (.invokestatic 55, 3) := by decide +kernel
theorem dX6_keep_7 : decode cX6_keep 7 = .ok (.ifCond .ne 5, 3) := by decide +kernel
theorem dX6_keep_10 : decode cX6_keep 10 = .ok (.iconst (-1), 1) := by decide +kernel
theorem dX6_keep_11 : decode cX6_keep 11 = .ok (.ireturn, 1) := by decide +kernel
theorem dX6_keep_12 : decode cX6_keep 12 = .ok (.aload_n 0, 1) := by decide +kernel
theorem dX6_keep_13 : decode cX6_keep 13 = .ok (.iconst 0, 1) := by decide +kernel
theorem dX6_keep_14 : decode cX6_keep 14 = .ok (.bipush 69, 2) := by decide +kernel
theorem dX6_keep_16 : decode cX6_keep 16 = .ok (.iload_n 1, 1) := by decide +kernel
theorem dX6_keep_17 : decode cX6_keep 17 = .ok (.iconst 1, 1) := by decide +kernel
theorem dX6_keep_18 : decode cX6_keep 18 = .ok (.iadd, 1) := by decide +kernel
theorem dX6_keep_19 : decode cX6_keep 19 = .ok (.imul, 1) := by decide +kernel
theorem dX6_keep_20 : decode cX6_keep 20 = .ok (.invokevirtual 215, 3) := by decide +kernel
theorem dX6_keep_23 : decode cX6_keep 23 = .ok (.aload_n 0, 1) := by decide +kernel
theorem dX6_keep_24 : decode cX6_keep 24 = .ok (.getfield 41, 3) := by decide +kernel
theorem dX6_keep_27 : decode cX6_keep 27 = .ok (.iload_n 1, 1) := by decide +kernel
theorem dX6_keep_28 : decode cX6_keep 28 = .ok (.baload, 1) := by decide +kernel
theorem dX6_keep_29 : decode cX6_keep 29 = .ok (.ifCond .eq 7, 3) := by decide +kernel
theorem dX6_keep_32 : decode cX6_keep 32 = .ok (.iconst 1, 1) := by decide +kernel
theorem dX6_keep_33 : decode cX6_keep 33 = .ok (.goto 4, 3) := by decide +kernel
theorem dX6_keep_36 : decode cX6_keep 36 = .ok (.iconst 0, 1) := by decide +kernel
theorem dX6_keep_37 : decode cX6_keep 37 = .ok (.istore_n 2, 1) := by decide +kernel
theorem dX6_keep_38 : decode cX6_keep 38 = .ok (.aload_n 0, 1) := by decide +kernel
theorem dX6_keep_39 : decode cX6_keep 39 = .ok (.getfield 41, 3) := by decide +kernel
theorem dX6_keep_42 : decode cX6_keep 42 = .ok (.iload_n 1, 1) := by decide +kernel
theorem dX6_keep_43 : decode cX6_keep 43 = .ok (.iconst 1, 1) := by decide +kernel
theorem dX6_keep_44 : decode cX6_keep 44 = .ok (.bastore, 1) := by decide +kernel
theorem dX6_keep_45 : decode cX6_keep 45 = .ok (.iload_n 2, 1) := by decide +kernel
theorem dX6_keep_46 : decode cX6_keep 46 = .ok (.ireturn, 1) := by decide +kernel
theorem dX6_back_0 : decode cX6_back 0 = .ok (.iload_n 1, 1) := by decide +kernel
theorem dX6_back_1 : decode cX6_back 1 = .ok (.i2l, 1) := by decide +kernel
theorem dX6_back_2 : decode cX6_back 2 = .ok (.lconst 0, 1) := by decide +kernel
theorem dX6_back_3 : decode cX6_back 3 = .ok (.lconst 1, 1) := by decide +kernel
theorem dX6_back_4 : decode cX6_back 4 = .ok (.invokestatic 55, 3) := by decide +kernel
theorem dX6_back_7 : decode cX6_back 7 = .ok (.ifCond .ne 5, 3) := by decide +kernel
theorem dX6_back_10 : decode cX6_back 10 = .ok (.iconst (-1), 1) := by decide +kernel
theorem dX6_back_11 : decode cX6_back 11 = .ok (.ireturn, 1) := by decide +kernel
theorem dX6_back_12 : decode cX6_back 12 = .ok (.aload_n 0, 1) := by decide +kernel
theorem dX6_back_13 : decode cX6_back 13 = .ok (.getfield 41, 3) := by decide +kernel
theorem dX6_back_16 : decode cX6_back 16 = .ok (.iload_n 1, 1) := by decide +kernel
theorem dX6_back_17 : decode cX6_back 17 = .ok (.baload, 1) := by decide +kernel
theorem dX6_back_18 : decode cX6_back 18 = .ok (.ifCond .ne 6, 3) := by decide +kernel
theorem dX6_back_21 : decode cX6_back 21 = .ok (.bipush (-2), 2) := by decide +kernel
theorem dX6_back_23 : decode cX6_back 23 = .ok (.ireturn, 1) := by decide +kernel
theorem dX6_back_24 : decode cX6_back 24 = .ok (.aload_n 0, 1) := by decide +kernel
theorem dX6_back_25 : decode cX6_back 25 = .ok (.bipush 69, 2) := by decide +kernel
theorem dX6_back_27 : decode cX6_back 27 = .ok (.iload_n 1, 1) := by decide +kernel
theorem dX6_back_28 : decode cX6_back 28 = .ok (.iconst 1, 1) := by decide +kernel
theorem dX6_back_29 : decode cX6_back 29 = .ok (.iadd, 1) := by decide +kernel
theorem dX6_back_30 : decode cX6_back 30 = .ok (.imul, 1) := by decide +kernel
theorem dX6_back_31 : decode cX6_back 31 = .ok (.iconst 0, 1) := by decide +kernel
theorem dX6_back_32 : decode cX6_back 32 = .ok (.invokevirtual 215, 3) := by decide +kernel
theorem dX6_back_35 : decode cX6_back 35 = .ok (.aload_n 0, 1) := by decide +kernel
theorem dX6_back_36 : decode cX6_back 36 = .ok (.getfield 7, 3) := by decide +kernel
theorem dX6_back_39 : decode cX6_back 39 = .ok (.bipush 52, 2) := by decide +kernel
theorem dX6_back_41 : decode cX6_back 41 = .ok (.iaload, 1) := by decide +kernel
theorem dX6_back_42 : decode cX6_back 42 = .ok (.ireturn, 1) := by decide +kernel
theorem dX6_sheet_0 : decode cX6_sheet 0 = .ok (.iload_n 1, 1) := by decide +kernel
theorem dX6_sheet_1 : decode cX6_sheet 1 = .ok (.i2l, 1) := by decide +kernel
theorem dX6_sheet_2 : decode cX6_sheet 2 = .ok (.lconst 0, 1) := by decide +kernel
theorem dX6_sheet_3 : decode cX6_sheet 3 = .ok (.ldc2_w 111, 3) := by decide +kernel
theorem dX6_sheet_6 : decode cX6_sheet 6 = .ok (.invokestatic 55, 3) := by decide +kernel
theorem dX6_sheet_9 : decode cX6_sheet 9 = .ok (.ifCond .eq 21, 3) := by decide +kernel
theorem dX6_sheet_12 : decode cX6_sheet 12 = .ok (.iload_n 2, 1) := by decide +kernel
theorem dX6_sheet_13 : decode cX6_sheet 13 = .ok (.i2l, 1) := by decide +kernel
theorem dX6_sheet_14 : decode cX6_sheet 14 = .ok (.lconst 0, 1) := by decide +kernel
theorem dX6_sheet_15 : decode cX6_sheet 15 = .ok (.ldc2_w 228, 3) := by decide +kernel
theorem dX6_sheet_18 : decode cX6_sheet 18 = .ok (.invokestatic 55, 3) := by decide +kernel
theorem dX6_sheet_21 : decode cX6_sheet 21 = .ok (.ifCond .eq 9, 3) := by decide +kernel
theorem dX6_sheet_24 : decode cX6_sheet 24 = .ok (.iload_n 3, 1) := by decide +kernel
theorem dX6_sheet_25 : decode cX6_sheet 25 = .ok (.bipush 40, 2) := by decide +kernel
theorem dX6_sheet_27 : decode cX6_sheet 27 = .ok (.if_icmp .le 5, 3) := by decide +kernel
theorem dX6_sheet_30 : decode cX6_sheet 30 = .ok (.iconst (-1), 1) := by decide +kernel
theorem dX6_sheet_31 : decode cX6_sheet 31 = .ok (.ireturn, 1) := by decide +kernel
theorem dX6_sheet_32 : decode cX6_sheet 32 = .ok (.iload_n 3, 1) := by decide +kernel
theorem dX6_sheet_33 : decode cX6_sheet 33 = .ok (.ifCond .ge 6, 3) := by decide +kernel
theorem dX6_sheet_36 : decode cX6_sheet 36 = .ok (.bipush (-14), 2) := by decide +kernel
theorem dX6_sheet_38 : decode cX6_sheet 38 = .ok (.ireturn, 1) := by decide +kernel
theorem dX6_sheet_39 : decode cX6_sheet 39 = .ok (.aload_n 0, 1) := by decide +kernel
theorem dX6_sheet_40 : decode cX6_sheet 40 = .ok (.getfield 44, 3) := by decide +kernel
theorem dX6_sheet_43 : decode cX6_sheet 43 = .ok (.iload_n 1, 1) := by decide +kernel
theorem dX6_sheet_44 : decode cX6_sheet 44 = .ok (.iload_n 2, 1) := by decide +kernel
theorem dX6_sheet_45 : decode cX6_sheet 45 = .ok (.iastore, 1) := by decide +kernel
theorem dX6_sheet_46 : decode cX6_sheet 46 = .ok (.aload_n 0, 1) := by decide +kernel
theorem dX6_sheet_47 : decode cX6_sheet 47 = .ok (.getfield 47, 3) := by decide +kernel
theorem dX6_sheet_50 : decode cX6_sheet 50 = .ok (.iload_n 1, 1) := by decide +kernel
theorem dX6_sheet_51 : decode cX6_sheet 51 = .ok (.iload_n 3, 1) := by decide +kernel
theorem dX6_sheet_52 : decode cX6_sheet 52 = .ok (.iastore, 1) := by decide +kernel
theorem dX6_sheet_53 : decode cX6_sheet 53 = .ok (.iconst 0, 1) := by decide +kernel
theorem dX6_sheet_54 : decode cX6_sheet 54 = .ok (.istore 4, 2) := by decide +kernel
theorem dX6_sheet_56 : decode cX6_sheet 56 = .ok (.iload 4, 2) := by decide +kernel
theorem dX6_sheet_58 : decode cX6_sheet 58 = .ok (.bipush 40, 2) := by decide +kernel
theorem dX6_sheet_60 : decode cX6_sheet 60 = .ok (.if_icmp .ge 22, 3) := by decide +kernel
theorem dX6_sheet_63 : decode cX6_sheet 63 = .ok (.aload_n 0, 1) := by decide +kernel
theorem dX6_sheet_64 : decode cX6_sheet 64 = .ok (.getfield 50, 3) := by decide +kernel
theorem dX6_sheet_67 : decode cX6_sheet 67 = .ok (.bipush 40, 2) := by decide +kernel
theorem dX6_sheet_69 : decode cX6_sheet 69 = .ok (.iload_n 1, 1) := by decide +kernel
theorem dX6_sheet_70 : decode cX6_sheet 70 = .ok (.imul, 1) := by decide +kernel
theorem dX6_sheet_71 : decode cX6_sheet 71 = .ok (.iload 4, 2) := by decide +kernel
theorem dX6_sheet_73 : decode cX6_sheet 73 = .ok (.iadd, 1) := by decide +kernel
theorem dX6_sheet_74 : decode cX6_sheet 74 = .ok (.iconst 0, 1) := by decide +kernel
theorem dX6_sheet_75 : decode cX6_sheet 75 = .ok (.iastore, 1) := by decide +kernel
theorem dX6_sheet_76 : decode cX6_sheet 76 = .ok (.iinc 4 1, 3) := by decide +kernel
theorem dX6_sheet_79 : decode cX6_sheet 79 = .ok (.goto (-23), 3) := by decide +kernel
theorem dX6_sheet_82 : decode cX6_sheet 82 = .ok (.iconst 1, 1) := by decide +kernel
theorem dX6_sheet_83 : decode cX6_sheet 83 = .ok (.ireturn, 1) := by decide +kernel
theorem dX6_lay_0 : decode cX6_lay 0 = .ok (.iload_n 1, 1) := by decide +kernel
theorem dX6_lay_1 : decode cX6_lay 1 = .ok (.i2l, 1) := by decide +kernel
theorem dX6_lay_2 : decode cX6_lay 2 = .ok (.lconst 0, 1) := by decide +kernel
theorem dX6_lay_3 : decode cX6_lay 3 = .ok (.ldc2_w 111, 3) := by decide +kernel
theorem dX6_lay_6 : decode cX6_lay 6 = .ok (.invokestatic 55, 3) := by decide +kernel
theorem dX6_lay_9 : decode cX6_lay 9 = .ok (.ifCond .ne 5, 3) := by decide +kernel
theorem dX6_lay_12 : decode cX6_lay 12 = .ok (.iconst (-1), 1) := by decide +kernel
theorem dX6_lay_13 : decode cX6_lay 13 = .ok (.ireturn, 1) := by decide +kernel
theorem dX6_lay_14 : decode cX6_lay 14 = .ok (.aload_n 0, 1) := by decide +kernel
theorem dX6_lay_15 : decode cX6_lay 15 = .ok (.getfield 44, 3) := by decide +kernel
theorem dX6_lay_18 : decode cX6_lay 18 = .ok (.iload_n 1, 1) := by decide +kernel
theorem dX6_lay_19 : decode cX6_lay 19 = .ok (.iaload, 1) := by decide +kernel
theorem dX6_lay_20 : decode cX6_lay 20 = .ok (.bipush (-4), 2) := by decide +kernel
theorem dX6_lay_22 : decode cX6_lay 22 = .ok (.if_icmp .ne 6, 3) := by decide +kernel
theorem dX6_lay_25 : decode cX6_lay 25 = .ok (.bipush (-11), 2) := by decide +kernel
theorem dX6_lay_27 : decode cX6_lay 27 = .ok (.ireturn, 1) := by decide +kernel
theorem dX6_lay_28 : decode cX6_lay 28 = .ok (.iload_n 2, 1) := by decide +kernel
theorem dX6_lay_29 : decode cX6_lay 29 = .ok (.i2l, 1) := by decide +kernel
theorem dX6_lay_30 : decode cX6_lay 30 = .ok (.lconst 0, 1) := by decide +kernel
theorem dX6_lay_31 : decode cX6_lay 31 = .ok (.aload_n 0, 1) := by decide +kernel
theorem dX6_lay_32 : decode cX6_lay 32 = .ok (.getfield 47, 3) := by decide +kernel
theorem dX6_lay_35 : decode cX6_lay 35 = .ok (.iload_n 1, 1) := by decide +kernel
theorem dX6_lay_36 : decode cX6_lay 36 = .ok (.iaload, 1) := by decide +kernel
theorem dX6_lay_37 : decode cX6_lay 37 = .ok (.iconst 1, 1) := by decide +kernel
theorem dX6_lay_38 : decode cX6_lay 38 = .ok (.isub, 1) := by decide +kernel
theorem dX6_lay_39 : decode cX6_lay 39 = .ok (.i2l, 1) := by decide +kernel
theorem dX6_lay_40 : decode cX6_lay 40 = .ok (.invokestatic 55, 3) := by decide +kernel
theorem dX6_lay_43 : decode cX6_lay 43 = .ok (.ifCond .ne 6, 3) := by decide +kernel
theorem dX6_lay_46 : decode cX6_lay 46 = .ok (.bipush (-12), 2) := by decide +kernel
theorem dX6_lay_48 : decode cX6_lay 48 = .ok (.ireturn, 1) := by decide +kernel
theorem dX6_lay_49 : decode cX6_lay 49 = .ok (.aload_n 0, 1) := by decide +kernel
theorem dX6_lay_50 : decode cX6_lay 50 = .ok (.getfield 50, 3) := by decide +kernel
theorem dX6_lay_53 : decode cX6_lay 53 = .ok (.bipush 40, 2) := by decide +kernel
theorem dX6_lay_55 : decode cX6_lay 55 = .ok (.iload_n 1, 1) := by decide +kernel
theorem dX6_lay_56 : decode cX6_lay 56 = .ok (.imul, 1) := by decide +kernel
theorem dX6_lay_57 : decode cX6_lay 57 = .ok (.iload_n 2, 1) := by decide +kernel
theorem dX6_lay_58 : decode cX6_lay 58 = .ok (.iadd, 1) := by decide +kernel
theorem dX6_lay_59 : decode cX6_lay 59 = .ok (.aload_n 0, 1) := by decide +kernel
theorem dX6_lay_60 : decode cX6_lay 60 = .ok (.getfield 44, 3) := by decide +kernel
theorem dX6_lay_63 : decode cX6_lay 63 = .ok (.iload_n 1, 1) := by decide +kernel
theorem dX6_lay_64 : decode cX6_lay 64 = .ok (.iaload, 1) := by decide +kernel
theorem dX6_lay_65 : decode cX6_lay 65 = .ok (.ifCond .ne 13, 3) := by decide +kernel
theorem dX6_lay_68 : decode cX6_lay 68 = .ok (.iload_n 3, 1) := by decide +kernel
theorem dX6_lay_69 : decode cX6_lay 69 = .ok (.bipush 24, 2) := by decide +kernel
theorem dX6_lay_71 : decode cX6_lay 71 = .ok (.ishl, 1) := by decide +kernel
theorem dX6_lay_72 : decode cX6_lay 72 = .ok (.bipush 24, 2) := by decide +kernel
theorem dX6_lay_74 : decode cX6_lay 74 = .ok (.ishr, 1) := by decide +kernel
theorem dX6_lay_75 : decode cX6_lay 75 = .ok (.goto 24, 3) := by decide +kernel
theorem dX6_lay_78 : decode cX6_lay 78 = .ok (.aload_n 0, 1) := by decide +kernel
theorem dX6_lay_79 : decode cX6_lay 79 = .ok (.getfield 44, 3) := by decide +kernel
theorem dX6_lay_82 : decode cX6_lay 82 = .ok (.iload_n 1, 1) := by decide +kernel
theorem dX6_lay_83 : decode cX6_lay 83 = .ok (.iaload, 1) := by decide +kernel
theorem dX6_lay_84 : decode cX6_lay 84 = .ok (.iconst 1, 1) := by decide +kernel
theorem dX6_lay_85 : decode cX6_lay 85 = .ok (.if_icmp .ne 13, 3) := by decide +kernel
theorem dX6_lay_88 : decode cX6_lay 88 = .ok (.iload_n 3, 1) := by decide +kernel
theorem dX6_lay_89 : decode cX6_lay 89 = .ok (.bipush 16, 2) := by decide +kernel
theorem dX6_lay_91 : decode cX6_lay 91 = .ok (.ishl, 1) := by decide +kernel
theorem dX6_lay_92 : decode cX6_lay 92 = .ok (.bipush 16, 2) := by decide +kernel
theorem dX6_lay_94 : decode cX6_lay 94 = .ok (.ishr, 1) := by decide +kernel
theorem dX6_lay_95 : decode cX6_lay 95 = .ok (.goto 4, 3) := by decide +kernel
theorem dX6_lay_98 : decode cX6_lay 98 = .ok (.iload_n 3, 1) := by decide +kernel
theorem dX6_lay_99 : decode cX6_lay 99 = .ok (.iastore, 1) := by decide +kernel
theorem dX6_lay_100 : decode cX6_lay 100 = .ok (.iconst 1, 1) := by decide +kernel
theorem dX6_lay_101 : decode cX6_lay 101 = .ok (.ireturn, 1) := by decide +kernel
theorem dX6_read_0 : decode cX6_read 0 = .ok (.iload_n 1, 1) := by decide +kernel
theorem dX6_read_1 : decode cX6_read 1 = .ok (.i2l, 1) := by decide +kernel
theorem dX6_read_2 : decode cX6_read 2 = .ok (.lconst 0, 1) := by decide +kernel
theorem dX6_read_3 : decode cX6_read 3 = .ok (.ldc2_w 111, 3) := by decide +kernel
theorem dX6_read_6 : decode cX6_read 6 = .ok (.invokestatic 55, 3) := by decide +kernel
theorem dX6_read_9 : decode cX6_read 9 = .ok (.ifCond .eq 28, 3) := by decide +kernel
theorem dX6_read_12 : decode cX6_read 12 = .ok (.iload_n 2, 1) := by decide +kernel
theorem dX6_read_13 : decode cX6_read 13 = .ok (.i2l, 1) := by decide +kernel
theorem dX6_read_14 : decode cX6_read 14 = .ok (.lconst 0, 1) := by decide +kernel
theorem dX6_read_15 : decode cX6_read 15 = .ok (.ldc2_w 228, 3) := by decide +kernel
theorem dX6_read_18 : decode cX6_read 18 = .ok (.invokestatic 55, 3) := by decide +kernel
theorem dX6_read_21 : decode cX6_read 21 = .ok (.ifCond .eq 16, 3) := by decide +kernel
theorem dX6_read_24 : decode cX6_read 24 = .ok (.iload 4, 2) := by decide +kernel
theorem dX6_read_26 : decode cX6_read 26 = .ok (.i2l, 1) := by decide +kernel
theorem dX6_read_27 : decode cX6_read 27 = .ok (.lconst 0, 1) := by decide +kernel
theorem dX6_read_28 : decode cX6_read 28 = .ok (.ldc2_w 189, 3) := by decide +kernel
theorem dX6_read_31 : decode cX6_read 31 = .ok (.invokestatic 55, 3) := by decide +kernel
theorem dX6_read_34 : decode cX6_read 34 = .ok (.ifCond .ne 5, 3) := by decide +kernel
theorem dX6_read_37 : decode cX6_read 37 = .ok (.iconst (-1), 1) := by decide +kernel
theorem dX6_read_38 : decode cX6_read 38 = .ok (.ireturn, 1) := by decide +kernel
theorem dX6_read_39 : decode cX6_read 39 = .ok (.aload_n 0, 1) := by decide +kernel
theorem dX6_read_40 : decode cX6_read 40 = .ok (.iconst 0, 1) := by decide +kernel
theorem dX6_read_41 : decode cX6_read 41 = .ok (.sipush 207, 3) := by decide +kernel
theorem dX6_read_44 : decode cX6_read 44 = .ok (.invokevirtual 215, 3) := by decide +kernel
theorem dX6_read_47 : decode cX6_read 47 = .ok (.iconst 0, 1) := by decide +kernel
theorem dX6_read_48 : decode cX6_read 48 = .ok (.istore 5, 2) := by decide +kernel
theorem dX6_read_50 : decode cX6_read 50 = .ok (.iconst 0, 1) := by decide +kernel
theorem dX6_read_51 : decode cX6_read 51 = .ok (.istore 6, 2) := by decide +kernel
theorem dX6_read_53 : decode cX6_read 53 = .ok (.iconst 0, 1) := by decide +kernel
theorem dX6_read_54 : decode cX6_read 54 = .ok (.istore 7, 2) := by decide +kernel
theorem dX6_read_56 : decode cX6_read 56 = .ok (.iload 7, 2) := by decide +kernel
theorem dX6_read_58 : decode cX6_read 58 = .ok (.iload 4, 2) := by decide +kernel
theorem dX6_read_60 : decode cX6_read 60 = .ok (.if_icmp .ge 115, 3) := by decide +kernel
theorem dX6_read_63 : decode cX6_read 63 = .ok (.iload 5, 2) := by decide +kernel
theorem dX6_read_65 : decode cX6_read 65 = .ok (.ifCond .ne 110, 3) := by decide +kernel
theorem dX6_read_68 : decode cX6_read 68 = .ok (.aload_n 0, 1) := by decide +kernel
theorem dX6_read_69 : decode cX6_read 69 = .ok (.getfield 44, 3) := by decide +kernel
theorem dX6_read_72 : decode cX6_read 72 = .ok (.iload_n 1, 1) := by decide +kernel
theorem dX6_read_73 : decode cX6_read 73 = .ok (.iaload, 1) := by decide +kernel
theorem dX6_read_74 : decode cX6_read 74 = .ok (.bipush (-4), 2) := by decide +kernel
theorem dX6_read_76 : decode cX6_read 76 = .ok (.if_icmp .ne 7, 3) := by decide +kernel
theorem dX6_read_79 : decode cX6_read 79 = .ok (.iconst 1, 1) := by decide +kernel
theorem dX6_read_80 : decode cX6_read 80 = .ok (.goto 44, 3) := by decide +kernel
theorem dX6_read_83 : decode cX6_read 83 = .ok (.aload_n 0, 1) := by decide +kernel
theorem dX6_read_84 : decode cX6_read 84 = .ok (.getfield 44, 3) := by decide +kernel
theorem dX6_read_87 : decode cX6_read 87 = .ok (.iload_n 1, 1) := by decide +kernel
theorem dX6_read_88 : decode cX6_read 88 = .ok (.iaload, 1) := by decide +kernel
theorem dX6_read_89 : decode cX6_read 89 = .ok (.iload_n 2, 1) := by decide +kernel
theorem dX6_read_90 : decode cX6_read 90 = .ok (.if_icmp .eq 7, 3) := by decide +kernel
theorem dX6_read_93 : decode cX6_read 93 = .ok (.iconst 3, 1) := by decide +kernel
theorem dX6_read_94 : decode cX6_read 94 = .ok (.goto 30, 3) := by decide +kernel
theorem dX6_read_97 : decode cX6_read 97 = .ok (.iload_n 3, 1) := by decide +kernel
theorem dX6_read_98 : decode cX6_read 98 = .ok (.i2l, 1) := by decide +kernel
theorem dX6_read_99 : decode cX6_read 99 = .ok (.iload 7, 2) := by decide +kernel
theorem dX6_read_101 : decode cX6_read 101 = .ok (.i2l, 1) := by decide +kernel
theorem dX6_read_102 : decode cX6_read 102 = .ok (.ladd, 1) := by decide +kernel
theorem dX6_read_103 : decode cX6_read 103 = .ok (.lconst 0, 1) := by decide +kernel
theorem dX6_read_104 : decode cX6_read 104 = .ok (.aload_n 0, 1) := by decide +kernel
theorem dX6_read_105 : decode cX6_read 105 = .ok (.getfield 47, 3) := by decide +kernel
theorem dX6_read_108 : decode cX6_read 108 = .ok (.iload_n 1, 1) := by decide +kernel
theorem dX6_read_109 : decode cX6_read 109 = .ok (.iaload, 1) := by decide +kernel
theorem dX6_read_110 : decode cX6_read 110 = .ok (.iconst 1, 1) := by decide +kernel
theorem dX6_read_111 : decode cX6_read 111 = .ok (.isub, 1) := by decide +kernel
theorem dX6_read_112 : decode cX6_read 112 = .ok (.i2l, 1) := by decide +kernel
theorem dX6_read_113 : decode cX6_read 113 = .ok (.invokestatic 55, 3) := by decide +kernel
theorem dX6_read_116 : decode cX6_read 116 = .ok (.ifCond .ne 7, 3) := by decide +kernel
theorem dX6_read_119 : decode cX6_read 119 = .ok (.iconst 2, 1) := by decide +kernel
theorem dX6_read_120 : decode cX6_read 120 = .ok (.goto 4, 3) := by decide +kernel
theorem dX6_read_123 : decode cX6_read 123 = .ok (.iconst 0, 1) := by decide +kernel
theorem dX6_read_124 : decode cX6_read 124 = .ok (.istore 5, 2) := by decide +kernel
theorem dX6_read_126 : decode cX6_read 126 = .ok (.iload 5, 2) := by decide +kernel
theorem dX6_read_128 : decode cX6_read 128 = .ok (.ifCond .ne 41, 3) := by decide +kernel
theorem dX6_read_131 : decode cX6_read 131 = .ok (.aload_n 0, 1) := by decide +kernel
theorem dX6_read_132 : decode cX6_read 132 = .ok (.aload_n 0, 1) := by decide +kernel
theorem dX6_read_133 : decode cX6_read 133 = .ok (.getfield 50, 3) := by decide +kernel
theorem dX6_read_136 : decode cX6_read 136 = .ok (.bipush 40, 2) := by decide +kernel
theorem dX6_read_138 : decode cX6_read 138 = .ok (.iload_n 1, 1) := by decide +kernel
theorem dX6_read_139 : decode cX6_read 139 = .ok (.imul, 1) := by decide +kernel
theorem dX6_read_140 : decode cX6_read 140 = .ok (.iload_n 3, 1) := by decide +kernel
theorem dX6_read_141 : decode cX6_read 141 = .ok (.iadd, 1) := by decide +kernel
theorem dX6_read_142 : decode cX6_read 142 = .ok (.iload 7, 2) := by decide +kernel
theorem dX6_read_144 : decode cX6_read 144 = .ok (.iadd, 1) := by decide +kernel
theorem dX6_read_145 : decode cX6_read 145 = .ok (.iaload, 1) := by decide +kernel
theorem dX6_read_146 : decode cX6_read 146 = .ok (.invokevirtual 209, 3) := by decide +kernel
theorem dX6_read_149 : decode cX6_read 149 = .ok (.ifCond .ge 17, 3) := by decide +kernel
theorem dX6_read_152 : decode cX6_read 152 = .ok (.aload_n 0, 1) := by decide +kernel
theorem dX6_read_153 : decode cX6_read 153 = .ok (.sipush 207, 3) := by decide +kernel
theorem dX6_read_156 : decode cX6_read 156 = .ok (.iconst 0, 1) := by decide +kernel
theorem dX6_read_157 : decode cX6_read 157 = .ok (.invokevirtual 215, 3) := by decide +kernel
theorem dX6_read_160 : decode cX6_read 160 = .ok (.bipush (-20), 2) := by decide +kernel
theorem dX6_read_162 : decode cX6_read 162 = .ok (.iload 6, 2) := by decide +kernel
theorem dX6_read_164 : decode cX6_read 164 = .ok (.isub, 1) := by decide +kernel
theorem dX6_read_165 : decode cX6_read 165 = .ok (.ireturn, 1) := by decide +kernel
theorem dX6_read_166 : decode cX6_read 166 = .ok (.iinc 6 1, 3) := by decide +kernel
theorem dX6_read_169 : decode cX6_read 169 = .ok (.iinc 7 1, 3) := by decide +kernel
theorem dX6_read_172 : decode cX6_read 172 = .ok (.goto (-116), 3) := by decide +kernel
theorem dX6_read_175 : decode cX6_read 175 = .ok (.aload_n 0, 1) := by decide +kernel
theorem dX6_read_176 : decode cX6_read 176 = .ok (.iload 5, 2) := by decide +kernel
theorem dX6_read_178 : decode cX6_read 178 = .ok (.putfield 278, 3) := by decide +kernel
theorem dX6_read_181 : decode cX6_read 181 = .ok (.iload 6, 2) := by decide +kernel
theorem dX6_read_183 : decode cX6_read 183 = .ok (.ireturn, 1) := by decide +kernel
theorem dX6_torn_0 : decode cX6_torn 0 = .ok (.aload_n 0, 1) := by decide +kernel
theorem dX6_torn_1 : decode cX6_torn 1 = .ok (.getfield 278, 3) := by decide +kernel
theorem dX6_torn_4 : decode cX6_torn 4 = .ok (.ireturn, 1) := by decide +kernel
theorem dX6_count_0 : decode cX6_count 0 = .ok (.iload_n 1, 1) := by decide +kernel
theorem dX6_count_1 : decode cX6_count 1 = .ok (.tableswitch 114 0 5 #[39, 44, 74, 79, 102, 108], 39) := by decide +kernel
theorem dX6_count_40 : decode cX6_count 40 = .ok (.aload_n 0, 1) := by decide +kernel
theorem dX6_count_41 : decode cX6_count 41 = .ok (.getfield 151, 3) := by decide +kernel
theorem dX6_count_44 : decode cX6_count 44 = .ok (.ireturn, 1) := by decide +kernel
theorem dX6_count_45 : decode cX6_count 45 = .ok (.aload_n 0, 1) := by decide +kernel
theorem dX6_count_46 : decode cX6_count 46 = .ok (.getfield 41, 3) := by decide +kernel
theorem dX6_count_49 : decode cX6_count 49 = .ok (.iconst 0, 1) := by decide +kernel
theorem dX6_count_50 : decode cX6_count 50 = .ok (.baload, 1) := by decide +kernel
theorem dX6_count_51 : decode cX6_count 51 = .ok (.ifCond .eq 7, 3) := by decide +kernel
theorem dX6_count_54 : decode cX6_count 54 = .ok (.iconst 1, 1) := by decide +kernel
theorem dX6_count_55 : decode cX6_count 55 = .ok (.goto 4, 3) := by decide +kernel
theorem dX6_count_58 : decode cX6_count 58 = .ok (.iconst 0, 1) := by decide +kernel
theorem dX6_count_59 : decode cX6_count 59 = .ok (.aload_n 0, 1) := by decide +kernel
theorem dX6_count_60 : decode cX6_count 60 = .ok (.getfield 41, 3) := by decide +kernel
theorem dX6_count_63 : decode cX6_count 63 = .ok (.iconst 1, 1) := by decide +kernel
theorem dX6_count_64 : decode cX6_count 64 = .ok (.baload, 1) := by decide +kernel
theorem dX6_count_65 : decode cX6_count 65 = .ok (.ifCond .eq 7, 3) := by decide +kernel
theorem dX6_count_68 : decode cX6_count 68 = .ok (.iconst 1, 1) := by decide +kernel
theorem dX6_count_69 : decode cX6_count 69 = .ok (.goto 4, 3) := by decide +kernel
theorem dX6_count_72 : decode cX6_count 72 = .ok (.iconst 0, 1) := by decide +kernel
theorem dX6_count_73 : decode cX6_count 73 = .ok (.iadd, 1) := by decide +kernel
theorem dX6_count_74 : decode cX6_count 74 = .ok (.ireturn, 1) := by decide +kernel
theorem dX6_count_75 : decode cX6_count 75 = .ok (.aload_n 0, 1) := by decide +kernel
theorem dX6_count_76 : decode cX6_count 76 = .ok (.getfield 59, 3) := by decide +kernel
theorem dX6_count_79 : decode cX6_count 79 = .ok (.ireturn, 1) := by decide +kernel
theorem dX6_count_80 : decode cX6_count 80 = .ok (.aload_n 0, 1) := by decide +kernel
theorem dX6_count_81 : decode cX6_count 81 = .ok (.getfield 44, 3) := by decide +kernel
theorem dX6_count_84 : decode cX6_count 84 = .ok (.iconst 0, 1) := by decide +kernel
theorem dX6_count_85 : decode cX6_count 85 = .ok (.iaload, 1) := by decide +kernel
theorem dX6_count_86 : decode cX6_count 86 = .ok (.bipush (-4), 2) := by decide +kernel
theorem dX6_count_88 : decode cX6_count 88 = .ok (.if_icmp .ne 8, 3) := by decide +kernel
theorem dX6_count_91 : decode cX6_count 91 = .ok (.bipush (-4), 2) := by decide +kernel
theorem dX6_count_93 : decode cX6_count 93 = .ok (.goto 9, 3) := by decide +kernel
theorem dX6_count_96 : decode cX6_count 96 = .ok (.aload_n 0, 1) := by decide +kernel
theorem dX6_count_97 : decode cX6_count 97 = .ok (.getfield 47, 3) := by decide +kernel
theorem dX6_count_100 : decode cX6_count 100 = .ok (.iconst 0, 1) := by decide +kernel
theorem dX6_count_101 : decode cX6_count 101 = .ok (.iaload, 1) := by decide +kernel
theorem dX6_count_102 : decode cX6_count 102 = .ok (.ireturn, 1) := by decide +kernel
theorem dX6_count_103 : decode cX6_count 103 = .ok (.aload_n 0, 1) := by decide +kernel
theorem dX6_count_104 : decode cX6_count 104 = .ok (.iconst 0, 1) := by decide +kernel
theorem dX6_count_105 : decode cX6_count 105 = .ok (.invokevirtual 222, 3) := by decide +kernel
theorem dX6_count_108 : decode cX6_count 108 = .ok (.ireturn, 1) := by decide +kernel
theorem dX6_count_109 : decode cX6_count 109 = .ok (.aload_n 0, 1) := by decide +kernel
theorem dX6_count_110 : decode cX6_count 110 = .ok (.iconst 0, 1) := by decide +kernel
theorem dX6_count_111 : decode cX6_count 111 = .ok (.invokevirtual 225, 3) := by decide +kernel
theorem dX6_count_114 : decode cX6_count 114 = .ok (.ireturn, 1) := by decide +kernel
theorem dX6_count_115 : decode cX6_count 115 = .ok (.iconst (-1), 1) := by decide +kernel
theorem dX6_count_116 : decode cX6_count 116 = .ok (.ireturn, 1) := by decide +kernel
