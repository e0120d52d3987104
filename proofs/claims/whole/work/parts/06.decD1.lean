theorem dX6_readMore_108 : decode cX6_readMore 108 = .ok (.isub, 1) := by decide +kernel
theorem dX6_readMore_109 : decode cX6_readMore 109 = .ok (.iastore, 1) := by decide +kernel
theorem dX6_readMore_110 : decode cX6_readMore 110 = .ok (.goto 7, 3) := by decide +kernel
theorem dX6_readMore_113 : decode cX6_readMore 113 = .ok (.aload_n 0, 1) := by decide +kernel
theorem dX6_readMore_114 : decode cX6_readMore 114 = .ok (.invokevirtual 131, 3) := by decide +kernel
theorem dX6_readMore_117 : decode cX6_readMore 117 = .ok (.return_, 1) := by decide +kernel
theorem dX6_readLine_0 : decode cX6_readLine 0 = .ok (.aload_n 0, 1) := by decide +kernel
theorem dX6_readLine_1 : decode cX6_readLine 1 = .ok (.invokevirtual 107, 3) := by decide +kernel
theorem dX6_readLine_4 : decode cX6_readLine 4 = .ok (.istore_n 1, 1) := by decide +kernel
theorem dX6_readLine_5 : decode cX6_readLine 5 = .ok (.iload_n 1, 1) := by decide +kernel
theorem dX6_readLine_6 : decode cX6_readLine 6 = .ok (.i2l, 1) := by decide +kernel
theorem dX6_readLine_7 : decode cX6_readLine 7 = .ok (.lconst 0, 1) := by decide +kernel
theorem dX6_readLine_8 : decode cX6_readLine 8 = .ok (.ldc2_w 134, 3) := by decide +kernel
theorem dX6_readLine_11 : decode cX6_readLine 11 = .ok (.invokestatic 55, 3) := by decide +kernel
theorem dX6_readLine_14 : decode cX6_readLine 14 = .ok (.ifCond .ne 9, 3) := by decide +kernel
theorem dX6_readLine_17 : decode cX6_readLine 17 = .ok (.aload_n 0, 1) := by decide +kernel
theorem dX6_readLine_18 : decode cX6_readLine 18 = .ok (.iconst 2, 1) := by decide +kernel
theorem dX6_readLine_19 : decode cX6_readLine 19 = .ok (.invokevirtual 93, 3) := by decide +kernel
theorem dX6_readLine_22 : decode cX6_readLine 22 = .ok (.return_, 1) := by decide +kernel
theorem dX6_readLine_23 : decode cX6_readLine 23 = .ok (.iload_n 1, 1) := by decide +kernel
theorem dX6_readLine_24 : decode cX6_readLine 24 = .ok (.iconst 3, 1) := by decide +kernel
theorem dX6_readLine_25 : decode cX6_readLine 25 = .ok (.if_icmp .gt 11, 3) := by decide +kernel
theorem dX6_readLine_28 : decode cX6_readLine 28 = .ok (.aload_n 0, 1) := by decide +kernel
theorem dX6_readLine_29 : decode cX6_readLine 29 = .ok (.getfield 122, 3) := by decide +kernel
theorem dX6_readLine_32 : decode cX6_readLine 32 = .ok (.iconst 4, 1) := by decide +kernel
theorem dX6_readLine_33 : decode cX6_readLine 33 = .ok (.if_icmp .eq 19, 3) := by decide +kernel
theorem dX6_readLine_36 : decode cX6_readLine 36 = .ok (.iload_n 1, 1) := by decide +kernel
theorem dX6_readLine_37 : decode cX6_readLine 37 = .ok (.iconst 4, 1) := by decide +kernel
theorem dX6_readLine_38 : decode cX6_readLine 38 = .ok (.if_icmp .ne 19, 3) := by decide +kernel
theorem dX6_readLine_41 : decode cX6_readLine 41 = .ok (.aload_n 0, 1) := by decide +kernel
theorem dX6_readLine_42 : decode cX6_readLine 42 = .ok (.getfield 16, 3) := by decide +kernel
theorem dX6_readLine_45 : decode cX6_readLine 45 = .ok (.bipush 37, 2) := by decide +kernel
theorem dX6_readLine_47 : decode cX6_readLine 47 = .ok (.iaload, 1) := by decide +kernel
theorem dX6_readLine_48 : decode cX6_readLine 48 = .ok (.iconst 5, 1) := by decide +kernel
theorem dX6_readLine_49 : decode cX6_readLine 49 = .ok (.if_icmp .ne 8, 3) := by decide +kernel
theorem dX6_readLine_52 : decode cX6_readLine 52 = .ok (.aload_n 0, 1) := by decide +kernel
theorem dX6_readLine_53 : decode cX6_readLine 53 = .ok (.iconst 5, 1) := by decide +kernel
theorem dX6_readLine_54 : decode cX6_readLine 54 = .ok (.invokevirtual 93, 3) := by decide +kernel
theorem dX6_readLine_57 : decode cX6_readLine 57 = .ok (.iload_n 1, 1) := by decide +kernel
theorem dX6_readLine_58 : decode cX6_readLine 58 = .ok (.iconst 5, 1) := by decide +kernel
theorem dX6_readLine_59 : decode cX6_readLine 59 = .ok (.if_icmp .lt 20, 3) := by decide +kernel
theorem dX6_readLine_62 : decode cX6_readLine 62 = .ok (.aload_n 0, 1) := by decide +kernel
theorem dX6_readLine_63 : decode cX6_readLine 63 = .ok (.getfield 136, 3) := by decide +kernel
theorem dX6_readLine_66 : decode cX6_readLine 66 = .ok (.iload_n 1, 1) := by decide +kernel
theorem dX6_readLine_67 : decode cX6_readLine 67 = .ok (.ishr, 1) := by decide +kernel
theorem dX6_readLine_68 : decode cX6_readLine 68 = .ok (.iconst 1, 1) := by decide +kernel
theorem dX6_readLine_69 : decode cX6_readLine 69 = .ok (.iand, 1) := by decide +kernel
theorem dX6_readLine_70 : decode cX6_readLine 70 = .ok (.iconst 1, 1) := by decide +kernel
theorem dX6_readLine_71 : decode cX6_readLine 71 = .ok (.if_icmp .ne 8, 3) := by decide +kernel
theorem dX6_readLine_74 : decode cX6_readLine 74 = .ok (.aload_n 0, 1) := by decide +kernel
theorem dX6_readLine_75 : decode cX6_readLine 75 = .ok (.iconst 4, 1) := by decide +kernel
theorem dX6_readLine_76 : decode cX6_readLine 76 = .ok (.invokevirtual 93, 3) := by decide +kernel
theorem dX6_readLine_79 : decode cX6_readLine 79 = .ok (.aload_n 0, 1) := by decide +kernel
theorem dX6_readLine_80 : decode cX6_readLine 80 = .ok (.dup, 1) := by decide +kernel
theorem dX6_readLine_81 : decode cX6_readLine 81 = .ok (.getfield 136, 3) := by decide +kernel
theorem dX6_readLine_84 : decode cX6_readLine 84 = .ok (.iconst 1, 1) := by decide +kernel
theorem dX6_readLine_85 : decode cX6_readLine 85 = .ok (.iload_n 1, 1) := by decide +kernel
theorem dX6_readLine_86 : decode cX6_readLine 86 = .ok (.ishl, 1) := by decide +kernel
theorem dX6_readLine_87 : decode cX6_readLine 87 = .ok (.ior, 1) := by decide +kernel
theorem dX6_readLine_88 : decode cX6_readLine 88 = .ok (.putfield 136, 3) := by decide +kernel
theorem dX6_readLine_91 : decode cX6_readLine 91 = .ok (.aload_n 0, 1) := by decide +kernel
theorem dX6_readLine_92 : decode cX6_readLine 92 = .ok (.invokevirtual 97, 3) := by decide +kernel
theorem dX6_readLine_95 : decode cX6_readLine 95 = .ok (.aload_n 0, 1) := by decide +kernel
theorem dX6_readLine_96 : decode cX6_readLine 96 = .ok (.getfield 63, 3) := by decide +kernel
theorem dX6_readLine_99 : decode cX6_readLine 99 = .ok (.ifCond .le 4, 3) := by decide +kernel
theorem dX6_readLine_102 : decode cX6_readLine 102 = .ok (.return_, 1) := by decide +kernel
theorem dX6_readLine_103 : decode cX6_readLine 103 = .ok (.aload_n 0, 1) := by decide +kernel
theorem dX6_readLine_104 : decode cX6_readLine 104 = .ok (.iload_n 1, 1) := by decide +kernel
theorem dX6_readLine_105 : decode cX6_readLine 105 = .ok (.invokevirtual 139, 3) := by decide +kernel
theorem dX6_readLine_108 : decode cX6_readLine 108 = .ok (.aload_n 0, 1) := by decide +kernel
theorem dX6_readLine_109 : decode cX6_readLine 109 = .ok (.getfield 63, 3) := by decide +kernel
theorem dX6_readLine_112 : decode cX6_readLine 112 = .ok (.ifCond .ne 16, 3) := by decide +kernel
theorem dX6_readLine_115 : decode cX6_readLine 115 = .ok (.aload_n 0, 1) := by decide +kernel
theorem dX6_readLine_116 : decode cX6_readLine 116 = .ok (.getfield 72, 3) := by decide +kernel
theorem dX6_readLine_119 : decode cX6_readLine 119 = .ok (.iconst 3, 1) := by decide +kernel
theorem dX6_readLine_120 : decode cX6_readLine 120 = .ok (.if_icmp .eq 8, 3) := by decide +kernel
theorem dX6_readLine_123 : decode cX6_readLine 123 = .ok (.aload_n 0, 1) := by decide +kernel
theorem dX6_readLine_124 : decode cX6_readLine 124 = .ok (.iconst 2, 1) := by decide +kernel
theorem dX6_readLine_125 : decode cX6_readLine 125 = .ok (.invokevirtual 93, 3) := by decide +kernel
theorem dX6_readLine_128 : decode cX6_readLine 128 = .ok (.aload_n 0, 1) := by decide +kernel
theorem dX6_readLine_129 : decode cX6_readLine 129 = .ok (.invokevirtual 97, 3) := by decide +kernel
theorem dX6_readLine_132 : decode cX6_readLine 132 = .ok (.return_, 1) := by decide +kernel
theorem dX6_text_0 : decode cX6_text 0 = .ok (.aload_n 0, 1) := by decide +kernel
theorem dX6_text_1 : decode cX6_text 1 = .ok (.iconst 0, 1) := by decide +kernel
theorem dX6_text_2 : decode cX6_text 2 = .ok (.putfield 63, 3) := by decide +kernel
theorem dX6_text_5 : decode cX6_text 5 = .ok (.aload_n 0, 1) := by decide +kernel
theorem dX6_text_6 : decode cX6_text 6 = .ok (.iconst 0, 1) := by decide +kernel
theorem dX6_text_7 : decode cX6_text 7 = .ok (.putfield 75, 3) := by decide +kernel
theorem dX6_text_10 : decode cX6_text 10 = .ok (.aload_n 0, 1) := by decide +kernel
theorem dX6_text_11 : decode cX6_text 11 = .ok (.iconst 0, 1) := by decide +kernel
theorem dX6_text_12 : decode cX6_text 12 = .ok (.putfield 122, 3) := by decide +kernel
theorem dX6_text_15 : decode cX6_text 15 = .ok (.aload_n 0, 1) := by decide +kernel
theorem dX6_text_16 : decode cX6_text 16 = .ok (.iconst 0, 1) := by decide +kernel
theorem dX6_text_17 : decode cX6_text 17 = .ok (.putfield 136, 3) := by decide +kernel
theorem dX6_text_20 : decode cX6_text 20 = .ok (.aload_n 0, 1) := by decide +kernel
theorem dX6_text_21 : decode cX6_text 21 = .ok (.iconst (-1), 1) := by decide +kernel
theorem dX6_text_22 : decode cX6_text 22 = .ok (.putfield 104, 3) := by decide +kernel
theorem dX6_text_25 : decode cX6_text 25 = .ok (.iconst 0, 1) := by decide +kernel
theorem dX6_text_26 : decode cX6_text 26 = .ok (.istore_n 1, 1) := by decide +kernel
theorem dX6_text_27 : decode cX6_text 27 = .ok (.iconst 0, 1) := by decide +kernel
theorem dX6_text_28 : decode cX6_text 28 = .ok (.istore_n 2, 1) := by decide +kernel
theorem dX6_text_29 : decode cX6_text 29 = .ok (.iload_n 2, 1) := by decide +kernel
theorem dX6_text_30 : decode cX6_text 30 = .ok (.bipush 69, 2) := by decide +kernel
theorem dX6_text_32 : decode cX6_text 32 = .ok (.if_icmp .ge 16, 3) := by decide +kernel
theorem dX6_text_35 : decode cX6_text 35 = .ok (.aload_n 0, 1) := by decide +kernel
theorem dX6_text_36 : decode cX6_text 36 = .ok (.getfield 16, 3) := by decide +kernel
theorem dX6_text_39 : decode cX6_text 39 = .ok (.iload_n 2, 1) := by decide +kernel
theorem dX6_text_40 : decode cX6_text 40 = .ok (.iconst 0, 1) := by decide +kernel
theorem dX6_text_41 : decode cX6_text 41 = .ok (.iastore, 1) := by decide +kernel
theorem dX6_text_42 : decode cX6_text 42 = .ok (.iinc 2 1, 3) := by decide +kernel
theorem dX6_text_45 : decode cX6_text 45 = .ok (.goto (-16), 3) := by decide +kernel
theorem dX6_text_48 : decode cX6_text 48 = .ok (.aload_n 0, 1) := by decide +kernel
theorem dX6_text_49 : decode cX6_text 49 = .ok (.invokevirtual 97, 3) := by decide +kernel
theorem dX6_text_52 : decode cX6_text 52 = .ok (.aload_n 0, 1) := by decide +kernel
theorem dX6_text_53 : decode cX6_text 53 = .ok (.getfield 63, 3) := by decide +kernel
theorem dX6_text_56 : decode cX6_text 56 = .ok (.ifCond .ne 20, 3) := by decide +kernel
theorem dX6_text_59 : decode cX6_text 59 = .ok (.aload_n 0, 1) := by decide +kernel
theorem dX6_text_60 : decode cX6_text 60 = .ok (.getfield 72, 3) := by decide +kernel
theorem dX6_text_63 : decode cX6_text 63 = .ok (.ifCond .eq 13, 3) := by decide +kernel
theorem dX6_text_66 : decode cX6_text 66 = .ok (.aload_n 0, 1) := by decide +kernel
theorem dX6_text_67 : decode cX6_text 67 = .ok (.invokevirtual 142, 3) := by decide +kernel
theorem dX6_text_70 : decode cX6_text 70 = .ok (.iinc 1 1, 3) := by decide +kernel
theorem dX6_text_73 : decode cX6_text 73 = .ok (.goto (-21), 3) := by decide +kernel
theorem dX6_text_76 : decode cX6_text 76 = .ok (.aload_n 0, 1) := by decide +kernel
theorem dX6_text_77 : decode cX6_text 77 = .ok (.getfield 63, 3) := by decide +kernel
theorem dX6_text_80 : decode cX6_text 80 = .ok (.ifCond .ne 20, 3) := by decide +kernel
theorem dX6_text_83 : decode cX6_text 83 = .ok (.aload_n 0, 1) := by decide +kernel
theorem dX6_text_84 : decode cX6_text 84 = .ok (.getfield 104, 3) := by decide +kernel
theorem dX6_text_87 : decode cX6_text 87 = .ok (.aload_n 0, 1) := by decide +kernel
theorem dX6_text_88 : decode cX6_text 88 = .ok (.getfield 122, 3) := by decide +kernel
theorem dX6_text_91 : decode cX6_text 91 = .ok (.if_icmp .lt 9, 3) := by decide +kernel
theorem dX6_text_94 : decode cX6_text 94 = .ok (.aload_n 0, 1) := by decide +kernel
theorem dX6_text_95 : decode cX6_text 95 = .ok (.bipush 6, 2) := by decide +kernel
theorem dX6_text_97 : decode cX6_text 97 = .ok (.invokevirtual 93, 3) := by decide +kernel
theorem dX6_text_100 : decode cX6_text 100 = .ok (.aload_n 0, 1) := by decide +kernel
theorem dX6_text_101 : decode cX6_text 101 = .ok (.iconst 0, 1) := by decide +kernel
theorem dX6_text_102 : decode cX6_text 102 = .ok (.putfield 59, 3) := by decide +kernel
theorem dX6_text_105 : decode cX6_text 105 = .ok (.aload_n 0, 1) := by decide +kernel
theorem dX6_text_106 : decode cX6_text 106 = .ok (.aload_n 0, 1) := by decide +kernel
theorem dX6_text_107 : decode cX6_text 107 = .ok (.getfield 63, 3) := by decide +kernel
theorem dX6_text_110 : decode cX6_text 110 = .ok (.putfield 145, 3) := by decide +kernel
theorem dX6_text_113 : decode cX6_text 113 = .ok (.aload_n 0, 1) := by decide +kernel
theorem dX6_text_114 : decode cX6_text 114 = .ok (.getfield 63, 3) := by decide +kernel
theorem dX6_text_117 : decode cX6_text 117 = .ok (.ifCond .le 11, 3) := by decide +kernel
theorem dX6_text_120 : decode cX6_text 120 = .ok (.bipush (-10), 2) := by decide +kernel
theorem dX6_text_122 : decode cX6_text 122 = .ok (.aload_n 0, 1) := by decide +kernel
theorem dX6_text_123 : decode cX6_text 123 = .ok (.getfield 69, 3) := by decide +kernel
theorem dX6_text_126 : decode cX6_text 126 = .ok (.isub, 1) := by decide +kernel
theorem dX6_text_127 : decode cX6_text 127 = .ok (.ireturn, 1) := by decide +kernel
theorem dX6_text_128 : decode cX6_text 128 = .ok (.iconst 0, 1) := by decide +kernel
theorem dX6_text_129 : decode cX6_text 129 = .ok (.istore_n 2, 1) := by decide +kernel
theorem dX6_text_130 : decode cX6_text 130 = .ok (.iload_n 2, 1) := by decide +kernel
theorem dX6_text_131 : decode cX6_text 131 = .ok (.bipush 69, 2) := by decide +kernel
theorem dX6_text_133 : decode cX6_text 133 = .ok (.if_icmp .ge 21, 3) := by decide +kernel
theorem dX6_text_136 : decode cX6_text 136 = .ok (.aload_n 0, 1) := by decide +kernel
theorem dX6_text_137 : decode cX6_text 137 = .ok (.getfield 7, 3) := by decide +kernel
theorem dX6_text_140 : decode cX6_text 140 = .ok (.iload_n 2, 1) := by decide +kernel
theorem dX6_text_141 : decode cX6_text 141 = .ok (.aload_n 0, 1) := by decide +kernel
theorem dX6_text_142 : decode cX6_text 142 = .ok (.getfield 16, 3) := by decide +kernel
theorem dX6_text_145 : decode cX6_text 145 = .ok (.iload_n 2, 1) := by decide +kernel
theorem dX6_text_146 : decode cX6_text 146 = .ok (.iaload, 1) := by decide +kernel
theorem dX6_text_147 : decode cX6_text 147 = .ok (.iastore, 1) := by decide +kernel
theorem dX6_text_148 : decode cX6_text 148 = .ok (.iinc 2 1, 3) := by decide +kernel
theorem dX6_text_151 : decode cX6_text 151 = .ok (.goto (-21), 3) := by decide +kernel
theorem dX6_text_154 : decode cX6_text 154 = .ok (.aload_n 0, 1) := by decide +kernel
theorem dX6_text_155 : decode cX6_text 155 = .ok (.aload_n 0, 1) := by decide +kernel
theorem dX6_text_156 : decode cX6_text 156 = .ok (.getfield 122, 3) := by decide +kernel
theorem dX6_text_159 : decode cX6_text 159 = .ok (.putfield 148, 3) := by decide +kernel
theorem dX6_text_162 : decode cX6_text 162 = .ok (.aload_n 0, 1) := by decide +kernel
theorem dX6_text_163 : decode cX6_text 163 = .ok (.iconst 0, 1) := by decide +kernel
theorem dX6_text_164 : decode cX6_text 164 = .ok (.putfield 151, 3) := by decide +kernel
theorem dX6_text_167 : decode cX6_text 167 = .ok (.aload_n 0, 1) := by decide +kernel
theorem dX6_text_168 : decode cX6_text 168 = .ok (.getfield 41, 3) := by decide +kernel
theorem dX6_text_171 : decode cX6_text 171 = .ok (.iconst 0, 1) := by decide +kernel
theorem dX6_text_172 : decode cX6_text 172 = .ok (.iconst 0, 1) := by decide +kernel
theorem dX6_text_173 : decode cX6_text 173 = .ok (.bastore, 1) := by decide +kernel
theorem dX6_text_174 : decode cX6_text 174 = .ok (.aload_n 0, 1) := by decide +kernel
theorem dX6_text_175 : decode cX6_text 175 = .ok (.getfield 41, 3) := by decide +kernel
theorem dX6_text_178 : decode cX6_text 178 = .ok (.iconst 1, 1) := by decide +kernel
theorem dX6_text_179 : decode cX6_text 179 = .ok (.iconst 0, 1) := by decide +kernel
theorem dX6_text_180 : decode cX6_text 180 = .ok (.bastore, 1) := by decide +kernel
theorem dX6_text_181 : decode cX6_text 181 = .ok (.iload_n 1, 1) := by decide +kernel
theorem dX6_text_182 : decode cX6_text 182 = .ok (.ireturn, 1) := by decide +kernel
theorem dX6_fault_0 : decode cX6_fault 0 = .ok (.aload_n 0, 1) := by decide +kernel
theorem dX6_fault_1 : decode cX6_fault 1 = .ok (.getfield 145, 3) := by decide +kernel
theorem dX6_fault_4 : decode cX6_fault 4 = .ok (.ireturn, 1) := by decide +kernel
theorem dX6_isOne_0 : decode cX6_isOne 0 = .ok (.iload_n 1, 1) := by decide +kernel
theorem dX6_isOne_1 : decode cX6_isOne 1 = .ok (.i2l, 1) := by decide +kernel
theorem dX6_isOne_2 : decode cX6_isOne 2 = .ok (.lconst 0, 1) := by decide +kernel
theorem dX6_isOne_3 : decode cX6_isOne 3 = .ok (.aload_n 0, 1) := by decide +kernel
theorem dX6_isOne_4 : decode cX6_isOne 4 = .ok (.getfield 148, 3) := by decide +kernel
theorem dX6_isOne_7 : decode cX6_isOne 7 = .ok (.iconst 1, 1) := by decide +kernel
theorem dX6_isOne_8 : decode cX6_isOne 8 = .ok (.isub, 1) := by decide +kernel
theorem dX6_isOne_9 : decode cX6_isOne 9 = .ok (.i2l, 1) := by decide +kernel
theorem dX6_isOne_10 : decode cX6_isOne 10 = .ok (.invokestatic 55, 3) := by decide +kernel
theorem dX6_isOne_13 : decode cX6_isOne 13 = .ok (.ireturn, 1) := by decide +kernel
theorem dX6_isCover_0 : decode cX6_isCover 0 = .ok (.iload_n 1, 1) := by decide +kernel
theorem dX6_isCover_1 : decode cX6_isCover 1 = .ok (.i2l, 1) := by decide +kernel
theorem dX6_isCover_2 : decode cX6_isCover 2 = .ok (.lconst 0, 1) := by decide +kernel
theorem dX6_isCover_3 : decode cX6_isCover 3 = .ok (.aload_n 0, 1) := by decide +kernel
theorem dX6_isCover_4 : decode cX6_isCover 4 = .ok (.getfield 7, 3) := by decide +kernel
theorem dX6_isCover_7 : decode cX6_isCover 7 = .ok (.bipush 37, 2) := by decide +kernel
theorem dX6_isCover_9 : decode cX6_isCover 9 = .ok (.iaload, 1) := by decide +kernel
theorem dX6_isCover_10 : decode cX6_isCover 10 = .ok (.iconst 1, 1) := by decide +kernel
theorem dX6_isCover_11 : decode cX6_isCover 11 = .ok (.isub, 1) := by decide +kernel
theorem dX6_isCover_12 : decode cX6_isCover 12 = .ok (.i2l, 1) := by decide +kernel
theorem dX6_isCover_13 : decode cX6_isCover 13 = .ok (.invokestatic 55, 3) := by decide +kernel
theorem dX6_isCover_16 : decode cX6_isCover 16 = .ok (.ireturn, 1) := by decide +kernel
theorem dX6_isWeather_0 : decode cX6_isWeather 0 = .ok (.iload_n 0, 1) := by decide +kernel
theorem dX6_isWeather_1 : decode cX6_isWeather 1 = .ok (.i2l, 1) := by decide +kernel
theorem dX6_isWeather_2 : decode cX6_isWeather 2 = .ok (.lconst 0, 1) := by decide +kernel
theorem dX6_isWeather_3 : decode cX6_isWeather 3 = .ok (.ldc2_w 111, 3) := by decide +kernel
theorem dX6_isWeather_6 : decode cX6_isWeather 6 = .ok (.invokestatic 55, 3) := by decide +kernel
theorem dX6_isWeather_9 : decode cX6_isWeather 9 = .ok (.ireturn, 1) := by decide +kernel
theorem dX6_floorNow_0 : decode cX6_floorNow 0 = .ok (.aload_n 0, 1) := by decide +kernel
theorem dX6_floorNow_1 : decode cX6_floorNow 1 = .ok (.getfield 7, 3) := by decide +kernel
theorem dX6_floorNow_4 : decode cX6_floorNow 4 = .ok (.bipush 42, 2) := by decide +kernel
theorem dX6_floorNow_6 : decode cX6_floorNow 6 = .ok (.iaload, 1) := by decide +kernel
theorem dX6_floorNow_7 : decode cX6_floorNow 7 = .ok (.iconst 5, 1) := by decide +kernel
theorem dX6_floorNow_8 : decode cX6_floorNow 8 = .ok (.iadd, 1) := by decide +kernel
theorem dX6_floorNow_9 : decode cX6_floorNow 9 = .ok (.ireturn, 1) := by decide +kernel
theorem dX6_belowOn_0 : decode cX6_belowOn 0 = .ok (.iconst 0, 1) := by decide +kernel
theorem dX6_belowOn_1 : decode cX6_belowOn 1 = .ok (.istore_n 2, 1) := by decide +kernel
theorem dX6_belowOn_2 : decode cX6_belowOn 2 = .ok (.iconst 0, 1) := by decide +kernel
theorem dX6_belowOn_3 : decode cX6_belowOn 3 = .ok (.istore_n 3, 1) := by decide +kernel
theorem dX6_belowOn_4 : decode cX6_belowOn 4 = .ok (.iload_n 3, 1) := by decide +kernel
theorem dX6_belowOn_5 : decode cX6_belowOn 5 = .ok (.aload_n 0, 1) := by decide +kernel
theorem dX6_belowOn_6 : decode cX6_belowOn 6 = .ok (.getfield 148, 3) := by decide +kernel
theorem dX6_belowOn_9 : decode cX6_belowOn 9 = .ok (.if_icmp .ge 37, 3) := by decide +kernel
theorem dX6_belowOn_12 : decode cX6_belowOn 12 = .ok (.iload_n 2, 1) := by decide +kernel
theorem dX6_belowOn_13 : decode cX6_belowOn 13 = .ok (.aload_n 0, 1) := by decide +kernel
theorem dX6_belowOn_14 : decode cX6_belowOn 14 = .ok (.getfield 7, 3) := by decide +kernel
theorem dX6_belowOn_17 : decode cX6_belowOn 17 = .ok (.iload_n 1, 1) := by decide +kernel
theorem dX6_belowOn_18 : decode cX6_belowOn 18 = .ok (.bipush 8, 2) := by decide +kernel
theorem dX6_belowOn_20 : decode cX6_belowOn 20 = .ok (.iadd, 1) := by decide +kernel
theorem dX6_belowOn_21 : decode cX6_belowOn 21 = .ok (.iload_n 3, 1) := by decide +kernel
theorem dX6_belowOn_22 : decode cX6_belowOn 22 = .ok (.iadd, 1) := by decide +kernel
theorem dX6_belowOn_23 : decode cX6_belowOn 23 = .ok (.iaload, 1) := by decide +kernel
theorem dX6_belowOn_24 : decode cX6_belowOn 24 = .ok (.aload_n 0, 1) := by decide +kernel
theorem dX6_belowOn_25 : decode cX6_belowOn 25 = .ok (.invokevirtual 154, 3) := by decide +kernel
theorem dX6_belowOn_28 : decode cX6_belowOn 28 = .ok (.if_icmp .ge 9, 3) := by decide +kernel
theorem dX6_belowOn_31 : decode cX6_belowOn 31 = .ok (.iconst 1, 1) := by decide +kernel
theorem dX6_belowOn_32 : decode cX6_belowOn 32 = .ok (.iload_n 3, 1) := by decide +kernel
theorem dX6_belowOn_33 : decode cX6_belowOn 33 = .ok (.ishl, 1) := by decide +kernel
theorem dX6_belowOn_34 : decode cX6_belowOn 34 = .ok (.goto 4, 3) := by decide +kernel
theorem dX6_belowOn_37 : decode cX6_belowOn 37 = .ok (.iconst 0, 1) := by decide +kernel
theorem dX6_belowOn_38 : decode cX6_belowOn 38 = .ok (.ior, 1) := by decide +kernel
theorem dX6_belowOn_39 : decode cX6_belowOn 39 = .ok (.istore_n 2, 1) := by decide +kernel
theorem dX6_belowOn_40 : decode cX6_belowOn 40 = .ok (.iinc 3 1, 3) := by decide +kernel
theorem dX6_belowOn_43 : decode cX6_belowOn 43 = .ok (.goto (-39), 3) := by decide +kernel
theorem dX6_belowOn_46 : decode cX6_belowOn 46 = .ok (.iload_n 2, 1) := by decide +kernel
theorem dX6_belowOn_47 : decode cX6_belowOn 47 = .ok (.ireturn, 1) := by decide +kernel
theorem dX6_rule_0 : decode cX6_rule 0 = .ok (.iload_n 1, 1) := by decide +kernel
theorem dX6_rule_1 : decode cX6_rule 1 = .ok (.tableswitch 79 0 5 #[39, 44, 52, 57, 65, 73], 39) := by decide +kernel
theorem dX6_rule_40 : decode cX6_rule 40 = .ok (.aload_n 0, 1) := by decide +kernel
theorem dX6_rule_41 : decode cX6_rule 41 = .ok (.getfield 148, 3) := by decide +kernel
theorem dX6_rule_44 : decode cX6_rule 44 = .ok (.ireturn, 1) := by decide +kernel
theorem dX6_rule_45 : decode cX6_rule 45 = .ok (.aload_n 0, 1) := by decide +kernel
theorem dX6_rule_46 : decode cX6_rule 46 = .ok (.getfield 7, 3) := by decide +kernel
theorem dX6_rule_49 : decode cX6_rule 49 = .ok (.bipush 37, 2) := by decide +kernel
theorem dX6_rule_51 : decode cX6_rule 51 = .ok (.iaload, 1) := by decide +kernel
theorem dX6_rule_52 : decode cX6_rule 52 = .ok (.ireturn, 1) := by decide +kernel
theorem dX6_rule_53 : decode cX6_rule 53 = .ok (.aload_n 0, 1) := by decide +kernel
theorem dX6_rule_54 : decode cX6_rule 54 = .ok (.invokevirtual 154, 3) := by decide +kernel
theorem dX6_rule_57 : decode cX6_rule 57 = .ok (.ireturn, 1) := by decide +kernel
theorem dX6_rule_58 : decode cX6_rule 58 = .ok (.aload_n 0, 1) := by decide +kernel
theorem dX6_rule_59 : decode cX6_rule 59 = .ok (.getfield 7, 3) := by decide +kernel
theorem dX6_rule_62 : decode cX6_rule 62 = .ok (.bipush 52, 2) := by decide +kernel
theorem dX6_rule_64 : decode cX6_rule 64 = .ok (.iaload, 1) := by decide +kernel
theorem dX6_rule_65 : decode cX6_rule 65 = .ok (.ireturn, 1) := by decide +kernel
theorem dX6_rule_66 : decode cX6_rule 66 = .ok (.aload_n 0, 1) := by decide +kernel
theorem dX6_rule_67 : decode cX6_rule 67 = .ok (.getfield 7, 3) := by decide +kernel
theorem dX6_rule_70 : decode cX6_rule 70 = .ok (.bipush 51, 2) := by decide +kernel
theorem dX6_rule_72 : decode cX6_rule 72 = .ok (.iaload, 1) := by decide +kernel
theorem dX6_rule_73 : decode cX6_rule 73 = .ok (.ireturn, 1) := by decide +kernel
theorem dX6_rule_74 : decode cX6_rule 74 = .ok (.aload_n 0, 1) := by decide +kernel
theorem dX6_rule_75 : decode cX6_rule 75 = .ok (.iconst 0, 1) := by decide +kernel
theorem dX6_rule_76 : decode cX6_rule 76 = .ok (.invokevirtual 157, 3) := by decide +kernel
theorem dX6_rule_79 : decode cX6_rule 79 = .ok (.ireturn, 1) := by decide +kernel
theorem dX6_rule_80 : decode cX6_rule 80 = .ok (.iconst (-1), 1) := by decide +kernel
theorem dX6_rule_81 : decode cX6_rule 81 = .ok (.ireturn, 1) := by decide +kernel
theorem dX6_coversOf_0 : decode cX6_coversOf 0 = .ok (.iconst 0, 1) := by decide +kernel
theorem dX6_coversOf_1 : decode cX6_coversOf 1 = .ok (.istore_n 3, 1) := by decide +kernel
theorem dX6_coversOf_2 : decode cX6_coversOf 2 = .ok (.iconst 0, 1) := by decide +kernel
theorem dX6_coversOf_3 : decode cX6_coversOf 3 = .ok (.istore 4, 2) := by decide +kernel
theorem dX6_coversOf_5 : decode cX6_coversOf 5 = .ok (.iload 4, 2) := by decide +kernel
theorem dX6_coversOf_7 : decode cX6_coversOf 7 = .ok (.aload_n 0, 1) := by decide +kernel
theorem dX6_coversOf_8 : decode cX6_coversOf 8 = .ok (.getfield 7, 3) := by decide +kernel
theorem dX6_coversOf_11 : decode cX6_coversOf 11 = .ok (.bipush 37, 2) := by decide +kernel
theorem dX6_coversOf_13 : decode cX6_coversOf 13 = .ok (.iaload, 1) := by decide +kernel
theorem dX6_coversOf_14 : decode cX6_coversOf 14 = .ok (.if_icmp .ge 38, 3) := by decide +kernel
theorem dX6_coversOf_17 : decode cX6_coversOf 17 = .ok (.iload_n 3, 1) := by decide +kernel
theorem dX6_coversOf_18 : decode cX6_coversOf 18 = .ok (.aload_n 0, 1) := by decide +kernel
theorem dX6_coversOf_19 : decode cX6_coversOf 19 = .ok (.getfield 7, 3) := by decide +kernel
theorem dX6_coversOf_22 : decode cX6_coversOf 22 = .ok (.bipush 12, 2) := by decide +kernel
theorem dX6_coversOf_24 : decode cX6_coversOf 24 = .ok (.iconst 5, 1) := by decide +kernel
theorem dX6_coversOf_25 : decode cX6_coversOf 25 = .ok (.iload 4, 2) := by decide +kernel
theorem dX6_coversOf_27 : decode cX6_coversOf 27 = .ok (.imul, 1) := by decide +kernel
theorem dX6_coversOf_28 : decode cX6_coversOf 28 = .ok (.iadd, 1) := by decide +kernel
theorem dX6_coversOf_29 : decode cX6_coversOf 29 = .ok (.iload_n 2, 1) := by decide +kernel
theorem dX6_coversOf_30 : decode cX6_coversOf 30 = .ok (.iadd, 1) := by decide +kernel
theorem dX6_coversOf_31 : decode cX6_coversOf 31 = .ok (.iaload, 1) := by decide +kernel
theorem dX6_coversOf_32 : decode cX6_coversOf 32 = .ok (.iload_n 1, 1) := by decide +kernel
theorem dX6_coversOf_33 : decode cX6_coversOf 33 = .ok (.if_icmp .ne 10, 3) := by decide +kernel
theorem dX6_coversOf_36 : decode cX6_coversOf 36 = .ok (.iconst 1, 1) := by decide +kernel
theorem dX6_coversOf_37 : decode cX6_coversOf 37 = .ok (.iload 4, 2) := by decide +kernel
theorem dX6_coversOf_39 : decode cX6_coversOf 39 = .ok (.ishl, 1) := by decide +kernel
theorem dX6_coversOf_40 : decode cX6_coversOf 40 = .ok (.goto 4, 3) := by decide +kernel
theorem dX6_coversOf_43 : decode cX6_coversOf 43 = .ok (.iconst 0, 1) := by decide +kernel
theorem dX6_coversOf_44 : decode cX6_coversOf 44 = .ok (.ior, 1) := by decide +kernel
theorem dX6_coversOf_45 : decode cX6_coversOf 45 = .ok (.istore_n 3, 1) := by decide +kernel
theorem dX6_coversOf_46 : decode cX6_coversOf 46 = .ok (.iinc 4 1, 3) := by decide +kernel
theorem dX6_coversOf_49 : decode cX6_coversOf 49 = .ok (.goto (-44), 3) := by decide +kernel
theorem dX6_coversOf_52 : decode cX6_coversOf 52 = .ok (.iload_n 3, 1) := by decide +kernel
theorem dX6_coversOf_53 : decode cX6_coversOf 53 = .ok (.ireturn, 1) := by decide +kernel
theorem dX6_one_0 : decode cX6_one 0 = .ok (.aload_n 0, 1) := by decide +kernel
theorem dX6_one_1 : decode cX6_one 1 = .ok (.iload_n 1, 1) := by decide +kernel
theorem dX6_one_2 : decode cX6_one 2 = .ok (.invokevirtual 160, 3) := by decide +kernel
theorem dX6_one_5 : decode cX6_one 5 = .ok (.ifCond .eq 15, 3) := by decide +kernel
theorem dX6_one_8 : decode cX6_one 8 = .ok (.iload_n 2, 1) := by decide +kernel
theorem dX6_one_9 : decode cX6_one 9 = .ok (.i2l, 1) := by decide +kernel
theorem dX6_one_10 : decode cX6_one 10 = .ok (.lconst 0, 1) := by decide +kernel
theorem dX6_one_11 : decode cX6_one 11 = .ok (.ldc2_w 164, 3) := by decide +kernel
theorem dX6_one_14 : decode cX6_one 14 = .ok (.invokestatic 55, 3) := by decide +kernel
theorem dX6_one_17 : decode cX6_one 17 = .ok (.ifCond .ne 5, 3) := by decide +kernel
theorem dX6_one_20 : decode cX6_one 20 = .ok (.iconst (-1), 1) := by decide +kernel
theorem dX6_one_21 : decode cX6_one 21 = .ok (.ireturn, 1) := by decide +kernel
theorem dX6_one_22 : decode cX6_one 22 = .ok (.iload_n 2, 1) := by decide +kernel
theorem dX6_one_23 : decode cX6_one 23 = .ok (.iconst 3, 1) := by decide +kernel
theorem dX6_one_24 : decode cX6_one 24 = .ok (.if_icmp .ge 16, 3) := by decide +kernel
theorem dX6_one_27 : decode cX6_one 27 = .ok (.aload_n 0, 1) := by decide +kernel
theorem dX6_one_28 : decode cX6_one 28 = .ok (.getfield 7, 3) := by decide +kernel
theorem dX6_one_31 : decode cX6_one 31 = .ok (.iconst 4, 1) := by decide +kernel
theorem dX6_one_32 : decode cX6_one 32 = .ok (.iload_n 2, 1) := by decide +kernel
theorem dX6_one_33 : decode cX6_one 33 = .ok (.imul, 1) := by decide +kernel
theorem dX6_one_34 : decode cX6_one 34 = .ok (.iload_n 1, 1) := by decide +kernel
theorem dX6_one_35 : decode cX6_one 35 = .ok (.iadd, 1) := by decide +kernel
theorem dX6_one_36 : decode cX6_one 36 = .ok (.iaload, 1) := by decide +kernel
theorem dX6_one_37 : decode cX6_one 37 = .ok (.goto 11, 3) := by decide +kernel
theorem dX6_one_40 : decode cX6_one 40 = .ok (.aload_n 0, 1) := by decide +kernel
theorem dX6_one_41 : decode cX6_one 41 = .ok (.iload_n 1, 1) := by decide +kernel
theorem dX6_one_42 : decode cX6_one 42 = .ok (.iload_n 2, 1) := by decide +kernel
theorem dX6_one_43 : decode cX6_one 43 = .ok (.iconst 3, 1) := by decide +kernel
theorem dX6_one_44 : decode cX6_one 44 = .ok (.isub, 1) := by decide +kernel
theorem dX6_one_45 : decode cX6_one 45 = .ok (.invokevirtual 166, 3) := by decide +kernel
theorem dX6_one_48 : decode cX6_one 48 = .ok (.ireturn, 1) := by decide +kernel
theorem dX6_gainOf_0 : decode cX6_gainOf 0 = .ok (.aload_n 0, 1) := by decide +kernel
theorem dX6_gainOf_1 : decode cX6_gainOf 1 = .ok (.getfield 13, 3) := by decide +kernel
theorem dX6_gainOf_4 : decode cX6_gainOf 4 = .ok (.iconst 4, 1) := by decide +kernel
theorem dX6_gainOf_5 : decode cX6_gainOf 5 = .ok (.aload_n 0, 1) := by decide +kernel
theorem dX6_gainOf_6 : decode cX6_gainOf 6 = .ok (.getfield 7, 3) := by decide +kernel
theorem dX6_gainOf_9 : decode cX6_gainOf 9 = .ok (.iload_n 1, 1) := by decide +kernel
theorem dX6_gainOf_10 : decode cX6_gainOf 10 = .ok (.iaload, 1) := by decide +kernel
theorem dX6_gainOf_11 : decode cX6_gainOf 11 = .ok (.imul, 1) := by decide +kernel
theorem dX6_gainOf_12 : decode cX6_gainOf 12 = .ok (.iload_n 2, 1) := by decide +kernel
theorem dX6_gainOf_13 : decode cX6_gainOf 13 = .ok (.iadd, 1) := by decide +kernel
theorem dX6_gainOf_14 : decode cX6_gainOf 14 = .ok (.iaload, 1) := by decide +kernel
theorem dX6_gainOf_15 : decode cX6_gainOf 15 = .ok (.aload_n 0, 1) := by decide +kernel
theorem dX6_gainOf_16 : decode cX6_gainOf 16 = .ok (.getfield 7, 3) := by decide +kernel
theorem dX6_gainOf_19 : decode cX6_gainOf 19 = .ok (.iconst 4, 1) := by decide +kernel
theorem dX6_gainOf_20 : decode cX6_gainOf 20 = .ok (.iload_n 1, 1) := by decide +kernel
theorem dX6_gainOf_21 : decode cX6_gainOf 21 = .ok (.iadd, 1) := by decide +kernel
theorem dX6_gainOf_22 : decode cX6_gainOf 22 = .ok (.iaload, 1) := by decide +kernel
theorem dX6_gainOf_23 : decode cX6_gainOf 23 = .ok (.imul, 1) := by decide +kernel
theorem dX6_gainOf_24 : decode cX6_gainOf 24 = .ok (.ireturn, 1) := by decide +kernel
theorem dX6_gain_0 : decode cX6_gain 0 = .ok (.aload_n 0, 1) := by decide +kernel
theorem dX6_gain_1 : decode cX6_gain 1 = .ok (.iload_n 1, 1) := by decide +kernel
theorem dX6_gain_2 : decode cX6_gain 2 = .ok (.invokevirtual 160, 3) := by decide +kernel
theorem dX6_gain_5 : decode cX6_gain 5 = .ok (.ifCond .eq 22, 3) := by decide +kernel
theorem dX6_gain_8 : decode cX6_gain 8 = .ok (.iload_n 2, 1) := by decide +kernel
theorem dX6_gain_9 : decode cX6_gain 9 = .ok (.invokestatic 169, 3) := by decide +kernel
theorem dX6_gain_12 : decode cX6_gain 12 = .ok (.ifCond .eq 15, 3) := by decide +kernel
theorem dX6_gain_15 : decode cX6_gain 15 = .ok (.bipush 100, 2) := by decide +kernel
theorem dX6_gain_17 : decode cX6_gain 17 = .ok (.aload_n 0, 1) := by decide +kernel
theorem dX6_gain_18 : decode cX6_gain 18 = .ok (.iload_n 1, 1) := by decide +kernel
theorem dX6_gain_19 : decode cX6_gain 19 = .ok (.iload_n 2, 1) := by decide +kernel
theorem dX6_gain_20 : decode cX6_gain 20 = .ok (.invokevirtual 172, 3) := by decide +kernel
theorem dX6_gain_23 : decode cX6_gain 23 = .ok (.iadd, 1) := by decide +kernel
theorem dX6_gain_24 : decode cX6_gain 24 = .ok (.goto 4, 3) := by decide +kernel
theorem dX6_gain_27 : decode cX6_gain 27 = .ok (.iconst (-1), 1) := by decide +kernel
theorem dX6_gain_28 : decode cX6_gain 28 = .ok (.ireturn, 1) := by decide +kernel
theorem dX6_cover_0 : decode cX6_cover 0 = .ok (.aload_n 0, 1) := by decide +kernel
theorem dX6_cover_1 : decode cX6_cover 1 = .ok (.iload_n 1, 1) := by decide +kernel
theorem dX6_cover_2 : decode cX6_cover 2 = .ok (.invokevirtual 175, 3) := by decide +kernel
theorem dX6_cover_5 : decode cX6_cover 5 = .ok (.ifCond .eq 31, 3) := by decide +kernel
theorem dX6_cover_8 : decode cX6_cover 8 = .ok (.iload_n 2, 1) := by decide +kernel
theorem dX6_cover_9 : decode cX6_cover 9 = .ok (.i2l, 1) := by decide +kernel
theorem dX6_cover_10 : decode cX6_cover 10 = .ok (.lconst 0, 1) := by decide +kernel
theorem dX6_cover_11 : decode cX6_cover 11 = .ok (.ldc2_w 164, 3) := by decide +kernel
theorem dX6_cover_14 : decode cX6_cover 14 = .ok (.invokestatic 55, 3) := by decide +kernel
theorem dX6_cover_17 : decode cX6_cover 17 = .ok (.ifCond .eq 19, 3) := by decide +kernel
theorem dX6_cover_20 : decode cX6_cover 20 = .ok (.aload_n 0, 1) := by decide +kernel
theorem dX6_cover_21 : decode cX6_cover 21 = .ok (.getfield 7, 3) := by decide +kernel
theorem dX6_cover_24 : decode cX6_cover 24 = .ok (.bipush 12, 2) := by decide +kernel
theorem dX6_cover_26 : decode cX6_cover 26 = .ok (.iconst 5, 1) := by decide +kernel
theorem dX6_cover_27 : decode cX6_cover 27 = .ok (.iload_n 1, 1) := by decide +kernel
theorem dX6_cover_28 : decode cX6_cover 28 = .ok (.imul, 1) := by decide +kernel
theorem dX6_cover_29 : decode cX6_cover 29 = .ok (.iadd, 1) := by decide +kernel
theorem dX6_cover_30 : decode cX6_cover 30 = .ok (.iload_n 2, 1) := by decide +kernel
theorem dX6_cover_31 : decode cX6_cover 31 = .ok (.iadd, 1) := by decide +kernel
theorem dX6_cover_32 : decode cX6_cover 32 = .ok (.iaload, 1) := by decide +kernel
theorem dX6_cover_33 : decode cX6_cover 33 = .ok (.goto 4, 3) := by decide +kernel
theorem dX6_cover_36 : decode cX6_cover 36 = .ok (.iconst (-1), 1) := by decide +kernel
theorem dX6_cover_37 : decode cX6_cover 37 = .ok (.ireturn, 1) := by decide +kernel
theorem dX6_oddsOf_0 : decode cX6_oddsOf 0 = .ok (.aload_n 0, 1) := by decide +kernel
theorem dX6_oddsOf_1 : decode cX6_oddsOf 1 = .ok (.getfield 7, 3) := by decide +kernel
theorem dX6_oddsOf_4 : decode cX6_oddsOf 4 = .ok (.bipush 38, 2) := by decide +kernel
theorem dX6_oddsOf_6 : decode cX6_oddsOf 6 = .ok (.iload_n 1, 1) := by decide +kernel
theorem dX6_oddsOf_7 : decode cX6_oddsOf 7 = .ok (.iadd, 1) := by decide +kernel
theorem dX6_oddsOf_8 : decode cX6_oddsOf 8 = .ok (.iaload, 1) := by decide +kernel
theorem dX6_oddsOf_9 : decode cX6_oddsOf 9 = .ok (.iload_n 1, 1) := by decide +kernel
theorem dX6_oddsOf_10 : decode cX6_oddsOf 10 = .ok (.invokestatic 119, 3) := by decide +kernel
theorem dX6_oddsOf_13 : decode cX6_oddsOf 13 = .ok (.iadd, 1) := by decide +kernel
theorem dX6_oddsOf_14 : decode cX6_oddsOf 14 = .ok (.ireturn, 1) := by decide +kernel
theorem dX6_odds_0 : decode cX6_odds 0 = .ok (.iload_n 1, 1) := by decide +kernel
theorem dX6_odds_1 : decode cX6_odds 1 = .ok (.invokestatic 169, 3) := by decide +kernel
theorem dX6_odds_4 : decode cX6_odds 4 = .ok (.ifCond .eq 11, 3) := by decide +kernel
theorem dX6_odds_7 : decode cX6_odds 7 = .ok (.aload_n 0, 1) := by decide +kernel
theorem dX6_odds_8 : decode cX6_odds 8 = .ok (.iload_n 1, 1) := by decide +kernel
theorem dX6_odds_9 : decode cX6_odds 9 = .ok (.invokevirtual 178, 3) := by decide +kernel
theorem dX6_odds_12 : decode cX6_odds 12 = .ok (.goto 4, 3) := by decide +kernel
theorem dX6_odds_15 : decode cX6_odds 15 = .ok (.iconst (-1), 1) := by decide +kernel
theorem dX6_odds_16 : decode cX6_odds 16 = .ok (.ireturn, 1) := by decide +kernel
theorem dX6_sky_0 : decode cX6_sky 0 = .ok (.iload_n 1, 1) := by decide +kernel
theorem dX6_sky_1 : decode cX6_sky 1 = .ok (.i2l, 1) := by decide +kernel
theorem dX6_sky_2 : decode cX6_sky 2 = .ok (.lconst 0, 1) := by decide +kernel
theorem dX6_sky_3 : decode cX6_sky 3 = .ok (.aload_n 0, 1) := by decide +kernel
theorem dX6_sky_4 : decode cX6_sky 4 = .ok (.getfield 7, 3) := by decide +kernel
theorem dX6_sky_7 : decode cX6_sky 7 = .ok (.bipush 51, 2) := by decide +kernel
theorem dX6_sky_9 : decode cX6_sky 9 = .ok (.iaload, 1) := by decide +kernel
theorem dX6_sky_10 : decode cX6_sky 10 = .ok (.iconst 1, 1) := by decide +kernel
theorem dX6_sky_11 : decode cX6_sky 11 = .ok (.isub, 1) := by decide +kernel
theorem dX6_sky_12 : decode cX6_sky 12 = .ok (.i2l, 1) := by decide +kernel
theorem dX6_sky_13 : decode cX6_sky 13 = .ok (.invokestatic 55, 3) := by decide +kernel
theorem dX6_sky_16 : decode cX6_sky 16 = .ok (.ifCond .eq 15, 3) := by decide +kernel
theorem dX6_sky_19 : decode cX6_sky 19 = .ok (.aload_n 0, 1) := by decide +kernel
theorem dX6_sky_20 : decode cX6_sky 20 = .ok (.getfield 7, 3) := by decide +kernel
theorem dX6_sky_23 : decode cX6_sky 23 = .ok (.bipush 43, 2) := by decide +kernel
theorem dX6_sky_25 : decode cX6_sky 25 = .ok (.iload_n 1, 1) := by decide +kernel
theorem dX6_sky_26 : decode cX6_sky 26 = .ok (.iadd, 1) := by decide +kernel
theorem dX6_sky_27 : decode cX6_sky 27 = .ok (.iaload, 1) := by decide +kernel
theorem dX6_sky_28 : decode cX6_sky 28 = .ok (.goto 4, 3) := by decide +kernel
theorem dX6_sky_31 : decode cX6_sky 31 = .ok (.iconst (-1), 1) := by decide +kernel
theorem dX6_sky_32 : decode cX6_sky 32 = .ok (.ireturn, 1) := by decide +kernel
theorem dX6_owed_0 : decode cX6_owed 0 = .ok (.aload_n 0, 1) := by decide +kernel
theorem dX6_owed_1 : decode cX6_owed 1 = .ok (.iload_n 1, 1) := by decide +kernel
theorem dX6_owed_2 : decode cX6_owed 2 = .ok (.invokevirtual 160, 3) := by decide +kernel
theorem dX6_owed_5 : decode cX6_owed 5 = .ok (.ifCond .eq 32, 3) := by decide +kernel
theorem dX6_owed_8 : decode cX6_owed 8 = .ok (.aload_n 0, 1) := by decide +kernel
theorem dX6_owed_9 : decode cX6_owed 9 = .ok (.iload_n 2, 1) := by decide +kernel
theorem dX6_owed_10 : decode cX6_owed 10 = .ok (.invokevirtual 160, 3) := by decide +kernel
theorem dX6_owed_13 : decode cX6_owed 13 = .ok (.ifCond .eq 24, 3) := by decide +kernel
theorem dX6_owed_16 : decode cX6_owed 16 = .ok (.iload_n 1, 1) := by decide +kernel
theorem dX6_owed_17 : decode cX6_owed 17 = .ok (.iload_n 2, 1) := by decide +kernel
theorem dX6_owed_18 : decode cX6_owed 18 = .ok (.if_icmp .eq 19, 3) := by decide +kernel
theorem dX6_owed_21 : decode cX6_owed 21 = .ok (.aload_n 0, 1) := by decide +kernel
theorem dX6_owed_22 : decode cX6_owed 22 = .ok (.getfield 7, 3) := by decide +kernel
theorem dX6_owed_25 : decode cX6_owed 25 = .ok (.bipush 53, 2) := by decide +kernel
theorem dX6_owed_27 : decode cX6_owed 27 = .ok (.iconst 4, 1) := by decide +kernel
theorem dX6_owed_28 : decode cX6_owed 28 = .ok (.iload_n 1, 1) := by decide +kernel
theorem dX6_owed_29 : decode cX6_owed 29 = .ok (.imul, 1) := by decide +kernel
theorem dX6_owed_30 : decode cX6_owed 30 = .ok (.iadd, 1) := by decide +kernel
theorem dX6_owed_31 : decode cX6_owed 31 = .ok (.iload_n 2, 1) := by decide +kernel
theorem dX6_owed_32 : decode cX6_owed 32 = .ok (.iadd, 1) := by decide +kernel
theorem dX6_owed_33 : decode cX6_owed 33 = .ok (.iaload, 1) := by decide +kernel
theorem dX6_owed_34 : decode cX6_owed 34 = .ok (.goto 4, 3) := by decide +kernel
theorem dX6_owed_37 : decode cX6_owed 37 = .ok (.iconst (-1), 1) := by decide +kernel
theorem dX6_owed_38 : decode cX6_owed 38 = .ok (.ireturn, 1) := by decide +kernel
theorem dX6_puts_0 : decode cX6_puts 0 = .ok (.iload_n 1, 1) := by decide +kernel
theorem dX6_puts_1 : decode cX6_puts 1 = .ok (.ifCond .ne 5, 3) := by decide +kernel
theorem dX6_puts_4 : decode cX6_puts 4 = .ok (.iconst (-1), 1) := by decide +kernel
theorem dX6_puts_5 : decode cX6_puts 5 = .ok (.ireturn, 1) := by decide +kernel
theorem dX6_puts_6 : decode cX6_puts 6 = .ok (.aload_n 0, 1) := by decide +kernel
theorem dX6_puts_7 : decode cX6_puts 7 = .ok (.getfield 7, 3) := by decide +kernel
theorem dX6_puts_10 : decode cX6_puts 10 = .ok (.iload_n 2, 1) := by decide +kernel
theorem dX6_puts_11 : decode cX6_puts 11 = .ok (.iaload, 1) := by decide +kernel
theorem dX6_puts_12 : decode cX6_puts 12 = .ok (.iload 4, 2) := by decide +kernel
theorem dX6_puts_14 : decode cX6_puts 14 = .ok (.iadd, 1) := by decide +kernel
theorem dX6_puts_15 : decode cX6_puts 15 = .ok (.istore 5, 2) := by decide +kernel
theorem dX6_puts_17 : decode cX6_puts 17 = .ok (.aload_n 0, 1) := by decide +kernel
theorem dX6_puts_18 : decode cX6_puts 18 = .ok (.getfield 7, 3) := by decide +kernel
theorem dX6_puts_21 : decode cX6_puts 21 = .ok (.iload_n 2, 1) := by decide +kernel
theorem dX6_puts_22 : decode cX6_puts 22 = .ok (.iload_n 3, 1) := by decide +kernel
theorem dX6_puts_23 : decode cX6_puts 23 = .ok (.iload 4, 2) := by decide +kernel
theorem dX6_puts_25 : decode cX6_puts 25 = .ok (.isub, 1) := by decide +kernel
theorem dX6_puts_26 : decode cX6_puts 26 = .ok (.iastore, 1) := by decide +kernel
theorem dX6_puts_27 : decode cX6_puts 27 = .ok (.iload 5, 2) := by decide +kernel
theorem dX6_puts_29 : decode cX6_puts 29 = .ok (.ireturn, 1) := by decide +kernel
theorem dX6_alter_0 : decode cX6_alter 0 = .ok (.iload_n 2, 1) := by decide +kernel
theorem dX6_alter_1 : decode cX6_alter 1 = .ok (.ifCond .ne 15, 3) := by decide +kernel
theorem dX6_alter_4 : decode cX6_alter 4 = .ok (.iload_n 3, 1) := by decide +kernel
theorem dX6_alter_5 : decode cX6_alter 5 = .ok (.i2l, 1) := by decide +kernel
theorem dX6_alter_6 : decode cX6_alter 6 = .ok (.lconst 0, 1) := by decide +kernel
theorem dX6_alter_7 : decode cX6_alter 7 = .ok (.ldc2_w 111, 3) := by decide +kernel
theorem dX6_alter_10 : decode cX6_alter 10 = .ok (.invokestatic 55, 3) := by decide +kernel
theorem dX6_alter_13 : decode cX6_alter 13 = .ok (.goto 42, 3) := by decide +kernel
theorem dX6_alter_16 : decode cX6_alter 16 = .ok (.iload_n 2, 1) := by decide +kernel
theorem dX6_alter_17 : decode cX6_alter 17 = .ok (.iconst 1, 1) := by decide +kernel
theorem dX6_alter_18 : decode cX6_alter 18 = .ok (.if_icmp .ne 15, 3) := by decide +kernel
theorem dX6_alter_21 : decode cX6_alter 21 = .ok (.iload_n 3, 1) := by decide +kernel
theorem dX6_alter_22 : decode cX6_alter 22 = .ok (.i2l, 1) := by decide +kernel
theorem dX6_alter_23 : decode cX6_alter 23 = .ok (.lconst 1, 1) := by decide +kernel
theorem dX6_alter_24 : decode cX6_alter 24 = .ok (.ldc2_w 181, 3) := by decide +kernel
theorem dX6_alter_27 : decode cX6_alter 27 = .ok (.invokestatic 55, 3) := by decide +kernel
theorem dX6_alter_30 : decode cX6_alter 30 = .ok (.goto 25, 3) := by decide +kernel
theorem dX6_alter_33 : decode cX6_alter 33 = .ok (.iload_n 2, 1) := by decide +kernel
theorem dX6_alter_34 : decode cX6_alter 34 = .ok (.iconst 2, 1) := by decide +kernel
theorem dX6_alter_35 : decode cX6_alter 35 = .ok (.if_icmp .ne 19, 3) := by decide +kernel
theorem dX6_alter_38 : decode cX6_alter 38 = .ok (.iload_n 3, 1) := by decide +kernel
theorem dX6_alter_39 : decode cX6_alter 39 = .ok (.i2l, 1) := by decide +kernel
theorem dX6_alter_40 : decode cX6_alter 40 = .ok (.lconst 0, 1) := by decide +kernel
theorem dX6_alter_41 : decode cX6_alter 41 = .ok (.ldc2_w 183, 3) := by decide +kernel
theorem dX6_alter_44 : decode cX6_alter 44 = .ok (.invokestatic 55, 3) := by decide +kernel
theorem dX6_alter_47 : decode cX6_alter 47 = .ok (.ifCond .eq 7, 3) := by decide +kernel
theorem dX6_alter_50 : decode cX6_alter 50 = .ok (.iconst 1, 1) := by decide +kernel
theorem dX6_alter_51 : decode cX6_alter 51 = .ok (.goto 4, 3) := by decide +kernel
theorem dX6_alter_54 : decode cX6_alter 54 = .ok (.iconst 0, 1) := by decide +kernel
theorem dX6_alter_55 : decode cX6_alter 55 = .ok (.istore 4, 2) := by decide +kernel
theorem dX6_alter_57 : decode cX6_alter 57 = .ok (.aload_n 0, 1) := by decide +kernel
theorem dX6_alter_58 : decode cX6_alter 58 = .ok (.aload_n 0, 1) := by decide +kernel
theorem dX6_alter_59 : decode cX6_alter 59 = .ok (.iload_n 1, 1) := by decide +kernel
theorem dX6_alter_60 : decode cX6_alter 60 = .ok (.invokevirtual 160, 3) := by decide +kernel
theorem dX6_alter_63 : decode cX6_alter 63 = .ok (.ifCond .eq 12, 3) := by decide +kernel
theorem dX6_alter_66 : decode cX6_alter 66 = .ok (.iload 4, 2) := by decide +kernel
theorem dX6_alter_68 : decode cX6_alter 68 = .ok (.ifCond .eq 7, 3) := by decide +kernel
theorem dX6_alter_71 : decode cX6_alter 71 = .ok (.iconst 1, 1) := by decide +kernel
theorem dX6_alter_72 : decode cX6_alter 72 = .ok (.goto 4, 3) := by decide +kernel
theorem dX6_alter_75 : decode cX6_alter 75 = .ok (.iconst 0, 1) := by decide +kernel
theorem dX6_alter_76 : decode cX6_alter 76 = .ok (.iconst 4, 1) := by decide +kernel
theorem dX6_alter_77 : decode cX6_alter 77 = .ok (.iload_n 2, 1) := by decide +kernel
theorem dX6_alter_78 : decode cX6_alter 78 = .ok (.imul, 1) := by decide +kernel
theorem dX6_alter_79 : decode cX6_alter 79 = .ok (.iload_n 1, 1) := by decide +kernel
theorem dX6_alter_80 : decode cX6_alter 80 = .ok (.iadd, 1) := by decide +kernel
theorem dX6_alter_81 : decode cX6_alter 81 = .ok (.iload_n 3, 1) := by decide +kernel
theorem dX6_alter_82 : decode cX6_alter 82 = .ok (.iconst 0, 1) := by decide +kernel
theorem dX6_alter_83 : decode cX6_alter 83 = .ok (.invokevirtual 185, 3) := by decide +kernel
theorem dX6_alter_86 : decode cX6_alter 86 = .ok (.ireturn, 1) := by decide +kernel
theorem dX6_sign_0 : decode cX6_sign 0 = .ok (.iload_n 2, 1) := by decide +kernel
theorem dX6_sign_1 : decode cX6_sign 1 = .ok (.iconst 2, 1) := by decide +kernel
theorem dX6_sign_2 : decode cX6_sign 2 = .ok (.if_icmp .ne 10, 3) := by decide +kernel
theorem dX6_sign_5 : decode cX6_sign 5 = .ok (.iload_n 3, 1) := by decide +kernel
theorem dX6_sign_6 : decode cX6_sign 6 = .ok (.invokestatic 169, 3) := by decide +kernel
theorem dX6_sign_9 : decode cX6_sign 9 = .ok (.goto 42, 3) := by decide +kernel
theorem dX6_sign_12 : decode cX6_sign 12 = .ok (.iload_n 2, 1) := by decide +kernel
theorem dX6_sign_13 : decode cX6_sign 13 = .ok (.iconst 3, 1) := by decide +kernel
theorem dX6_sign_14 : decode cX6_sign 14 = .ok (.if_icmp .ne 15, 3) := by decide +kernel
theorem dX6_sign_17 : decode cX6_sign 17 = .ok (.iload_n 3, 1) := by decide +kernel
theorem dX6_sign_18 : decode cX6_sign 18 = .ok (.i2l, 1) := by decide +kernel
theorem dX6_sign_19 : decode cX6_sign 19 = .ok (.lconst 0, 1) := by decide +kernel
theorem dX6_sign_20 : decode cX6_sign 20 = .ok (.ldc2_w 189, 3) := by decide +kernel
theorem dX6_sign_23 : decode cX6_sign 23 = .ok (.invokestatic 55, 3) := by decide +kernel
theorem dX6_sign_26 : decode cX6_sign 26 = .ok (.goto 25, 3) := by decide +kernel
theorem dX6_sign_29 : decode cX6_sign 29 = .ok (.iload_n 2, 1) := by decide +kernel
theorem dX6_sign_30 : decode cX6_sign 30 = .ok (.iconst 4, 1) := by decide +kernel
theorem dX6_sign_31 : decode cX6_sign 31 = .ok (.if_icmp .ne 19, 3) := by decide +kernel
theorem dX6_sign_34 : decode cX6_sign 34 = .ok (.iload_n 3, 1) := by decide +kernel
theorem dX6_sign_35 : decode cX6_sign 35 = .ok (.i2l, 1) := by decide +kernel
theorem dX6_sign_36 : decode cX6_sign 36 = .ok (.lconst 0, 1) := by decide +kernel
theorem dX6_sign_37 : decode cX6_sign 37 = .ok (.ldc2_w 191, 3) := by decide +kernel
theorem dX6_sign_40 : decode cX6_sign 40 = .ok (.invokestatic 55, 3) := by decide +kernel
theorem dX6_sign_43 : decode cX6_sign 43 = .ok (.ifCond .eq 7, 3) := by decide +kernel
theorem dX6_sign_46 : decode cX6_sign 46 = .ok (.iconst 1, 1) := by decide +kernel
theorem dX6_sign_47 : decode cX6_sign 47 = .ok (.goto 4, 3) := by decide +kernel
theorem dX6_sign_50 : decode cX6_sign 50 = .ok (.iconst 0, 1) := by decide +kernel
theorem dX6_sign_51 : decode cX6_sign 51 = .ok (.istore 4, 2) := by decide +kernel
theorem dX6_sign_53 : decode cX6_sign 53 = .ok (.aload_n 0, 1) := by decide +kernel
theorem dX6_sign_54 : decode cX6_sign 54 = .ok (.aload_n 0, 1) := by decide +kernel
theorem dX6_sign_55 : decode cX6_sign 55 = .ok (.iload_n 1, 1) := by decide +kernel
theorem dX6_sign_56 : decode cX6_sign 56 = .ok (.invokevirtual 175, 3) := by decide +kernel
theorem dX6_sign_59 : decode cX6_sign 59 = .ok (.ifCond .eq 12, 3) := by decide +kernel
theorem dX6_sign_62 : decode cX6_sign 62 = .ok (.iload 4, 2) := by decide +kernel
theorem dX6_sign_64 : decode cX6_sign 64 = .ok (.ifCond .eq 7, 3) := by decide +kernel
theorem dX6_sign_67 : decode cX6_sign 67 = .ok (.iconst 1, 1) := by decide +kernel
theorem dX6_sign_68 : decode cX6_sign 68 = .ok (.goto 4, 3) := by decide +kernel
theorem dX6_sign_71 : decode cX6_sign 71 = .ok (.iconst 0, 1) := by decide +kernel
theorem dX6_sign_72 : decode cX6_sign 72 = .ok (.bipush 12, 2) := by decide +kernel
theorem dX6_sign_74 : decode cX6_sign 74 = .ok (.iconst 5, 1) := by decide +kernel
theorem dX6_sign_75 : decode cX6_sign 75 = .ok (.iload_n 1, 1) := by decide +kernel
theorem dX6_sign_76 : decode cX6_sign 76 = .ok (.imul, 1) := by decide +kernel
theorem dX6_sign_77 : decode cX6_sign 77 = .ok (.iadd, 1) := by decide +kernel
theorem dX6_sign_78 : decode cX6_sign 78 = .ok (.iload_n 2, 1) := by decide +kernel
theorem dX6_sign_79 : decode cX6_sign 79 = .ok (.iadd, 1) := by decide +kernel
theorem dX6_sign_80 : decode cX6_sign 80 = .ok (.iload_n 3, 1) := by decide +kernel
theorem dX6_sign_81 : decode cX6_sign 81 = .ok (.iconst 0, 1) := by decide +kernel
theorem dX6_sign_82 : decode cX6_sign 82 = .ok (.invokevirtual 185, 3) := by decide +kernel
theorem dX6_sign_85 : decode cX6_sign 85 = .ok (.ireturn, 1) := by decide +kernel
theorem dX6_adds_0 : decode cX6_adds 0 = .ok (.bipush 12, 2) := by decide +kernel
theorem dX6_adds_2 : decode cX6_adds 2 = .ok (.iconst 5, 1) := by decide +kernel
theorem dX6_adds_3 : decode cX6_adds 3 = .ok (.aload_n 0, 1) := by decide +kernel
theorem dX6_adds_4 : decode cX6_adds 4 = .ok (.getfield 7, 3) := by decide +kernel
theorem dX6_adds_7 : decode cX6_adds 7 = .ok (.bipush 37, 2) := by decide +kernel
theorem dX6_adds_9 : decode cX6_adds 9 = .ok (.iaload, 1) := by decide +kernel
theorem dX6_adds_10 : decode cX6_adds 10 = .ok (.imul, 1) := by decide +kernel
theorem dX6_adds_11 : decode cX6_adds 11 = .ok (.iadd, 1) := by decide +kernel
theorem dX6_adds_12 : decode cX6_adds 12 = .ok (.istore 6, 2) := by decide +kernel
theorem dX6_adds_14 : decode cX6_adds 14 = .ok (.aload_n 0, 1) := by decide +kernel
theorem dX6_adds_15 : decode cX6_adds 15 = .ok (.getfield 7, 3) := by decide +kernel
theorem dX6_adds_18 : decode cX6_adds 18 = .ok (.iload 6, 2) := by decide +kernel
theorem dX6_adds_20 : decode cX6_adds 20 = .ok (.iload_n 1, 1) := by decide +kernel
theorem dX6_adds_21 : decode cX6_adds 21 = .ok (.iastore, 1) := by decide +kernel
theorem dX6_adds_22 : decode cX6_adds 22 = .ok (.aload_n 0, 1) := by decide +kernel
theorem dX6_adds_23 : decode cX6_adds 23 = .ok (.getfield 7, 3) := by decide +kernel
theorem dX6_adds_26 : decode cX6_adds 26 = .ok (.iload 6, 2) := by decide +kernel
theorem dX6_adds_28 : decode cX6_adds 28 = .ok (.iconst 1, 1) := by decide +kernel
theorem dX6_adds_29 : decode cX6_adds 29 = .ok (.iadd, 1) := by decide +kernel
theorem dX6_adds_30 : decode cX6_adds 30 = .ok (.iload_n 2, 1) := by decide +kernel
theorem dX6_adds_31 : decode cX6_adds 31 = .ok (.iastore, 1) := by decide +kernel
theorem dX6_adds_32 : decode cX6_adds 32 = .ok (.aload_n 0, 1) := by decide +kernel
theorem dX6_adds_33 : decode cX6_adds 33 = .ok (.getfield 7, 3) := by decide +kernel
theorem dX6_adds_36 : decode cX6_adds 36 = .ok (.iload 6, 2) := by decide +kernel
theorem dX6_adds_38 : decode cX6_adds 38 = .ok (.iconst 2, 1) := by decide +kernel
theorem dX6_adds_39 : decode cX6_adds 39 = .ok (.iadd, 1) := by decide +kernel
theorem dX6_adds_40 : decode cX6_adds 40 = .ok (.iload_n 3, 1) := by decide +kernel
theorem dX6_adds_41 : decode cX6_adds 41 = .ok (.iastore, 1) := by decide +kernel
theorem dX6_adds_42 : decode cX6_adds 42 = .ok (.aload_n 0, 1) := by decide +kernel
theorem dX6_adds_43 : decode cX6_adds 43 = .ok (.getfield 7, 3) := by decide +kernel
theorem dX6_adds_46 : decode cX6_adds 46 = .ok (.iload 6, 2) := by decide +kernel
theorem dX6_adds_48 : decode cX6_adds 48 = .ok (.iconst 3, 1) := by decide +kernel
theorem dX6_adds_49 : decode cX6_adds 49 = .ok (.iadd, 1) := by decide +kernel
theorem dX6_adds_50 : decode cX6_adds 50 = .ok (.iload 4, 2) := by decide +kernel
theorem dX6_adds_52 : decode cX6_adds 52 = .ok (.iastore, 1) := by decide +kernel
theorem dX6_adds_53 : decode cX6_adds 53 = .ok (.aload_n 0, 1) := by decide +kernel
theorem dX6_adds_54 : decode cX6_adds 54 = .ok (.getfield 7, 3) := by decide +kernel
theorem dX6_adds_57 : decode cX6_adds 57 = .ok (.iload 6, 2) := by decide +kernel
theorem dX6_adds_59 : decode cX6_adds 59 = .ok (.iconst 4, 1) := by decide +kernel
theorem dX6_adds_60 : decode cX6_adds 60 = .ok (.iadd, 1) := by decide +kernel
theorem dX6_adds_61 : decode cX6_adds 61 = .ok (.iload 5, 2) := by decide +kernel
theorem dX6_adds_63 : decode cX6_adds 63 = .ok (.iastore, 1) := by decide +kernel
theorem dX6_adds_64 : decode cX6_adds 64 = .ok (.aload_n 0, 1) := by decide +kernel
theorem dX6_adds_65 : decode cX6_adds 65 = .ok (.getfield 7, 3) := by decide +kernel
theorem dX6_adds_68 : decode cX6_adds 68 = .ok (.bipush 37, 2) := by decide +kernel
theorem dX6_adds_70 : decode cX6_adds 70 = .ok (.dup2, 1) := by decide +kernel
theorem dX6_adds_71 : decode cX6_adds 71 = .ok (.iaload, 1) := by decide +kernel
theorem dX6_adds_72 : decode cX6_adds 72 = .ok (.iconst 1, 1) := by decide +kernel
theorem dX6_adds_73 : decode cX6_adds 73 = .ok (.iadd, 1) := by decide +kernel
theorem dX6_adds_74 : decode cX6_adds 74 = .ok (.iastore, 1) := by decide +kernel
theorem dX6_adds_75 : decode cX6_adds 75 = .ok (.return_, 1) := by decide +kernel
theorem dX6_insure_0 : decode cX6_insure 0 = .ok (.aload_n 0, 1) := by decide +kernel
theorem dX6_insure_1 : decode cX6_insure 1 = .ok (.iload_n 1, 1) := by decide +kernel
theorem dX6_insure_2 : decode cX6_insure 2 = .ok (.invokevirtual 160, 3) := by decide +kernel
theorem dX6_insure_5 : decode cX6_insure 5 = .ok (.ifCond .eq 49, 3) := by decide +kernel
theorem dX6_insure_8 : decode cX6_insure 8 = .ok (.aload_n 0, 1) := by decide +kernel
theorem dX6_insure_9 : decode cX6_insure 9 = .ok (.iload_n 2, 1) := by decide +kernel
theorem dX6_insure_10 : decode cX6_insure 10 = .ok (.invokevirtual 160, 3) := by decide +kernel
theorem dX6_insure_13 : decode cX6_insure 13 = .ok (.ifCond .eq 41, 3) := by decide +kernel
theorem dX6_insure_16 : decode cX6_insure 16 = .ok (.iload_n 1, 1) := by decide +kernel
theorem dX6_insure_17 : decode cX6_insure 17 = .ok (.iload_n 2, 1) := by decide +kernel
theorem dX6_insure_18 : decode cX6_insure 18 = .ok (.if_icmp .eq 36, 3) := by decide +kernel
theorem dX6_insure_21 : decode cX6_insure 21 = .ok (.iload_n 3, 1) := by decide +kernel
theorem dX6_insure_22 : decode cX6_insure 22 = .ok (.invokestatic 169, 3) := by decide +kernel
theorem dX6_insure_25 : decode cX6_insure 25 = .ok (.ifCond .eq 29, 3) := by decide +kernel
theorem dX6_insure_28 : decode cX6_insure 28 = .ok (.iload 4, 2) := by decide +kernel
theorem dX6_insure_30 : decode cX6_insure 30 = .ok (.i2l, 1) := by decide +kernel
theorem dX6_insure_31 : decode cX6_insure 31 = .ok (.lconst 0, 1) := by decide +kernel
theorem dX6_insure_32 : decode cX6_insure 32 = .ok (.ldc2_w 189, 3) := by decide +kernel
theorem dX6_insure_35 : decode cX6_insure 35 = .ok (.invokestatic 55, 3) := by decide +kernel
theorem dX6_insure_38 : decode cX6_insure 38 = .ok (.ifCond .eq 16, 3) := by decide +kernel
theorem dX6_insure_41 : decode cX6_insure 41 = .ok (.iload 5, 2) := by decide +kernel
theorem dX6_insure_43 : decode cX6_insure 43 = .ok (.i2l, 1) := by decide +kernel
theorem dX6_insure_44 : decode cX6_insure 44 = .ok (.lconst 0, 1) := by decide +kernel
theorem dX6_insure_45 : decode cX6_insure 45 = .ok (.ldc2_w 191, 3) := by decide +kernel
theorem dX6_insure_48 : decode cX6_insure 48 = .ok (.invokestatic 55, 3) := by decide +kernel
theorem dX6_insure_51 : decode cX6_insure 51 = .ok (.ifCond .ne 5, 3) := by decide +kernel
theorem dX6_insure_54 : decode cX6_insure 54 = .ok (.iconst (-1), 1) := by decide +kernel
theorem dX6_insure_55 : decode cX6_insure 55 = .ok (.ireturn, 1) := by decide +kernel
theorem dX6_insure_56 : decode cX6_insure 56 = .ok (.aload_n 0, 1) := by decide +kernel
theorem dX6_insure_57 : decode cX6_insure 57 = .ok (.getfield 7, 3) := by decide +kernel
theorem dX6_insure_60 : decode cX6_insure 60 = .ok (.bipush 37, 2) := by decide +kernel
theorem dX6_insure_62 : decode cX6_insure 62 = .ok (.iaload, 1) := by decide +kernel
theorem dX6_insure_63 : decode cX6_insure 63 = .ok (.iconst 5, 1) := by decide +kernel
theorem dX6_insure_64 : decode cX6_insure 64 = .ok (.if_icmp .ne 6, 3) := by decide +kernel
theorem dX6_insure_67 : decode cX6_insure 67 = .ok (.bipush (-3), 2) := by decide +kernel
theorem dX6_insure_69 : decode cX6_insure 69 = .ok (.ireturn, 1) := by decide +kernel
theorem dX6_insure_70 : decode cX6_insure 70 = .ok (.aload_n 0, 1) := by decide +kernel
theorem dX6_insure_71 : decode cX6_insure 71 = .ok (.iload_n 1, 1) := by decide +kernel
theorem dX6_insure_72 : decode cX6_insure 72 = .ok (.iload_n 2, 1) := by decide +kernel
theorem dX6_insure_73 : decode cX6_insure 73 = .ok (.iload_n 3, 1) := by decide +kernel
theorem dX6_insure_74 : decode cX6_insure 74 = .ok (.iload 4, 2) := by decide +kernel
theorem dX6_insure_76 : decode cX6_insure 76 = .ok (.iload 5, 2) := by decide +kernel
theorem dX6_insure_78 : decode cX6_insure 78 = .ok (.invokevirtual 193, 3) := by decide +kernel
theorem dX6_insure_81 : decode cX6_insure 81 = .ok (.aload_n 0, 1) := by decide +kernel
theorem dX6_insure_82 : decode cX6_insure 82 = .ok (.getfield 7, 3) := by decide +kernel
theorem dX6_insure_85 : decode cX6_insure 85 = .ok (.bipush 37, 2) := by decide +kernel
theorem dX6_insure_87 : decode cX6_insure 87 = .ok (.iaload, 1) := by decide +kernel
theorem dX6_insure_88 : decode cX6_insure 88 = .ok (.iconst 1, 1) := by decide +kernel
theorem dX6_insure_89 : decode cX6_insure 89 = .ok (.isub, 1) := by decide +kernel
theorem dX6_insure_90 : decode cX6_insure 90 = .ok (.ireturn, 1) := by decide +kernel
theorem dX6_drops_0 : decode cX6_drops 0 = .ok (.bipush 12, 2) := by decide +kernel
theorem dX6_drops_2 : decode cX6_drops 2 = .ok (.iconst 5, 1) := by decide +kernel
theorem dX6_drops_3 : decode cX6_drops 3 = .ok (.iload_n 1, 1) := by decide +kernel
theorem dX6_drops_4 : decode cX6_drops 4 = .ok (.imul, 1) := by decide +kernel
theorem dX6_drops_5 : decode cX6_drops 5 = .ok (.iadd, 1) := by decide +kernel
theorem dX6_drops_6 : decode cX6_drops 6 = .ok (.istore_n 2, 1) := by decide +kernel
theorem dX6_drops_7 : decode cX6_drops 7 = .ok (.iload_n 2, 1) := by decide +kernel
theorem dX6_drops_8 : decode cX6_drops 8 = .ok (.bipush 32, 2) := by decide +kernel
theorem dX6_drops_10 : decode cX6_drops 10 = .ok (.if_icmp .ge 23, 3) := by decide +kernel
theorem dX6_drops_13 : decode cX6_drops 13 = .ok (.aload_n 0, 1) := by decide +kernel
theorem dX6_drops_14 : decode cX6_drops 14 = .ok (.getfield 7, 3) := by decide +kernel
theorem dX6_drops_17 : decode cX6_drops 17 = .ok (.iload_n 2, 1) := by decide +kernel
theorem dX6_drops_18 : decode cX6_drops 18 = .ok (.aload_n 0, 1) := by decide +kernel
theorem dX6_drops_19 : decode cX6_drops 19 = .ok (.getfield 7, 3) := by decide +kernel
theorem dX6_drops_22 : decode cX6_drops 22 = .ok (.iload_n 2, 1) := by decide +kernel
theorem dX6_drops_23 : decode cX6_drops 23 = .ok (.iconst 5, 1) := by decide +kernel
theorem dX6_drops_24 : decode cX6_drops 24 = .ok (.iadd, 1) := by decide +kernel
theorem dX6_drops_25 : decode cX6_drops 25 = .ok (.iaload, 1) := by decide +kernel
theorem dX6_drops_26 : decode cX6_drops 26 = .ok (.iastore, 1) := by decide +kernel
theorem dX6_drops_27 : decode cX6_drops 27 = .ok (.iinc 2 1, 3) := by decide +kernel
theorem dX6_drops_30 : decode cX6_drops 30 = .ok (.goto (-23), 3) := by decide +kernel
theorem dX6_drops_33 : decode cX6_drops 33 = .ok (.aload_n 0, 1) := by decide +kernel
theorem dX6_drops_34 : decode cX6_drops 34 = .ok (.getfield 7, 3) := by decide +kernel
theorem dX6_drops_37 : decode cX6_drops 37 = .ok (.bipush 37, 2) := by decide +kernel
theorem dX6_drops_39 : decode cX6_drops 39 = .ok (.dup2, 1) := by decide +kernel
theorem dX6_drops_40 : decode cX6_drops 40 = .ok (.iaload, 1) := by decide +kernel
theorem dX6_drops_41 : decode cX6_drops 41 = .ok (.iconst 1, 1) := by decide +kernel
theorem dX6_drops_42 : decode cX6_drops 42 = .ok (.isub, 1) := by decide +kernel
theorem dX6_drops_43 : decode cX6_drops 43 = .ok (.iastore, 1) := by decide +kernel
theorem dX6_drops_44 : decode cX6_drops 44 = .ok (.return_, 1) := by decide +kernel
theorem dX6_drop_0 : decode cX6_drop 0 = .ok (.aload_n 0, 1) := by decide +kernel
theorem dX6_drop_1 : decode cX6_drop 1 = .ok (.iload_n 1, 1) := by decide +kernel
theorem dX6_drop_2 : decode cX6_drop 2 = .ok (.invokevirtual 175, 3) := by decide +kernel
theorem dX6_drop_5 : decode cX6_drop 5 = .ok (.ifCond .ne 5, 3) := by decide +kernel
theorem dX6_drop_8 : decode cX6_drop 8 = .ok (.iconst (-1), 1) := by decide +kernel
theorem dX6_drop_9 : decode cX6_drop 9 = .ok (.ireturn, 1) := by decide +kernel
theorem dX6_drop_10 : decode cX6_drop 10 = .ok (.aload_n 0, 1) := by decide +kernel
theorem dX6_drop_11 : decode cX6_drop 11 = .ok (.iload_n 1, 1) := by decide +kernel
theorem dX6_drop_12 : decode cX6_drop 12 = .ok (.invokevirtual 197, 3) := by decide +kernel
theorem dX6_drop_15 : decode cX6_drop 15 = .ok (.aload_n 0, 1) := by decide +kernel
theorem dX6_drop_16 : decode cX6_drop 16 = .ok (.getfield 7, 3) := by decide +kernel
theorem dX6_drop_19 : decode cX6_drop 19 = .ok (.bipush 37, 2) := by decide +kernel
theorem dX6_drop_21 : decode cX6_drop 21 = .ok (.iaload, 1) := by decide +kernel
theorem dX6_drop_22 : decode cX6_drop 22 = .ok (.ireturn, 1) := by decide +kernel
theorem dX6_shift_0 : decode cX6_shift 0 = .ok (.iload_n 1, 1) := by decide +kernel
theorem dX6_shift_1 : decode cX6_shift 1 = .ok (.invokestatic 169, 3) := by decide +kernel
theorem dX6_shift_4 : decode cX6_shift 4 = .ok (.ifCond .eq 15, 3) := by decide +kernel
theorem dX6_shift_7 : decode cX6_shift 7 = .ok (.iload_n 2, 1) := by decide +kernel
theorem dX6_shift_8 : decode cX6_shift 8 = .ok (.invokestatic 169, 3) := by decide +kernel
theorem dX6_shift_11 : decode cX6_shift 11 = .ok (.ifCond .eq 8, 3) := by decide +kernel
theorem dX6_shift_14 : decode cX6_shift 14 = .ok (.iload_n 1, 1) := by decide +kernel
theorem dX6_shift_15 : decode cX6_shift 15 = .ok (.iload_n 2, 1) := by decide +kernel
theorem dX6_shift_16 : decode cX6_shift 16 = .ok (.if_icmp .ne 5, 3) := by decide +kernel
theorem dX6_shift_19 : decode cX6_shift 19 = .ok (.iconst (-1), 1) := by decide +kernel
theorem dX6_shift_20 : decode cX6_shift 20 = .ok (.ireturn, 1) := by decide +kernel
theorem dX6_shift_21 : decode cX6_shift 21 = .ok (.aload_n 0, 1) := by decide +kernel
theorem dX6_shift_22 : decode cX6_shift 22 = .ok (.iload_n 1, 1) := by decide +kernel
theorem dX6_shift_23 : decode cX6_shift 23 = .ok (.invokevirtual 178, 3) := by decide +kernel
theorem dX6_shift_26 : decode cX6_shift 26 = .ok (.ifCond .ne 6, 3) := by decide +kernel
theorem dX6_shift_29 : decode cX6_shift 29 = .ok (.bipush (-2), 2) := by decide +kernel
theorem dX6_shift_31 : decode cX6_shift 31 = .ok (.ireturn, 1) := by decide +kernel
theorem dX6_shift_32 : decode cX6_shift 32 = .ok (.aload_n 0, 1) := by decide +kernel
theorem dX6_shift_33 : decode cX6_shift 33 = .ok (.getfield 7, 3) := by decide +kernel
theorem dX6_shift_36 : decode cX6_shift 36 = .ok (.bipush 38, 2) := by decide +kernel
theorem dX6_shift_38 : decode cX6_shift 38 = .ok (.iload_n 1, 1) := by decide +kernel
theorem dX6_shift_39 : decode cX6_shift 39 = .ok (.iadd, 1) := by decide +kernel
theorem dX6_shift_40 : decode cX6_shift 40 = .ok (.dup2, 1) := by decide +kernel
theorem dX6_shift_41 : decode cX6_shift 41 = .ok (.iaload, 1) := by decide +kernel
theorem dX6_shift_42 : decode cX6_shift 42 = .ok (.iconst 1, 1) := by decide +kernel
theorem dX6_shift_43 : decode cX6_shift 43 = .ok (.isub, 1) := by decide +kernel
theorem dX6_shift_44 : decode cX6_shift 44 = .ok (.iastore, 1) := by decide +kernel
theorem dX6_shift_45 : decode cX6_shift 45 = .ok (.aload_n 0, 1) := by decide +kernel
theorem dX6_shift_46 : decode cX6_shift 46 = .ok (.getfield 7, 3) := by decide +kernel
theorem dX6_shift_49 : decode cX6_shift 49 = .ok (.bipush 38, 2) := by decide +kernel
theorem dX6_shift_51 : decode cX6_shift 51 = .ok (.iload_n 2, 1) := by decide +kernel
theorem dX6_shift_52 : decode cX6_shift 52 = .ok (.iadd, 1) := by decide +kernel
theorem dX6_shift_53 : decode cX6_shift 53 = .ok (.dup2, 1) := by decide +kernel
theorem dX6_shift_54 : decode cX6_shift 54 = .ok (.iaload, 1) := by decide +kernel
theorem dX6_shift_55 : decode cX6_shift 55 = .ok (.iconst 1, 1) := by decide +kernel
theorem dX6_shift_56 : decode cX6_shift 56 = .ok (.iadd, 1) := by decide +kernel
theorem dX6_shift_57 : decode cX6_shift 57 = .ok (.iastore, 1) := by decide +kernel
theorem dX6_shift_58 : decode cX6_shift 58 = .ok (.aload_n 0, 1) := by decide +kernel
theorem dX6_shift_59 : decode cX6_shift 59 = .ok (.iload_n 2, 1) := by decide +kernel
theorem dX6_shift_60 : decode cX6_shift 60 = .ok (.invokevirtual 178, 3) := by decide +kernel
theorem dX6_shift_63 : decode cX6_shift 63 = .ok (.ireturn, 1) := by decide +kernel
theorem dX6_floor_0 : decode cX6_floor 0 = .ok (.aload_n 0, 1) := by decide +kernel
theorem dX6_floor_1 : decode cX6_floor 1 = .ok (.iload_n 1, 1) := by decide +kernel
theorem dX6_floor_2 : decode cX6_floor 2 = .ok (.i2l, 1) := by decide +kernel
theorem dX6_floor_3 : decode cX6_floor 3 = .ok (.lconst 0, 1) := by decide +kernel
theorem dX6_floor_4 : decode cX6_floor 4 = .ok (.ldc2_w 200, 3) := by decide +kernel
theorem dX6_floor_7 : decode cX6_floor 7 = .ok (.invokestatic 55, 3) := by decide +kernel
theorem dX6_floor_10 : decode cX6_floor 10 = .ok (.bipush 42, 2) := by decide +kernel
theorem dX6_floor_12 : decode cX6_floor 12 = .ok (.iload_n 1, 1) := by decide +kernel
theorem dX6_floor_13 : decode cX6_floor 13 = .ok (.iconst 5, 1) := by decide +kernel
theorem dX6_floor_14 : decode cX6_floor 14 = .ok (.invokevirtual 185, 3) := by decide +kernel
theorem dX6_floor_17 : decode cX6_floor 17 = .ok (.ireturn, 1) := by decide +kernel
theorem dX6_plan_0 : decode cX6_plan 0 = .ok (.iload_n 1, 1) := by decide +kernel
theorem dX6_plan_1 : decode cX6_plan 1 = .ok (.invokestatic 169, 3) := by decide +kernel
theorem dX6_plan_4 : decode cX6_plan 4 = .ok (.ifCond .ne 5, 3) := by decide +kernel
theorem dX6_plan_7 : decode cX6_plan 7 = .ok (.iconst (-1), 1) := by decide +kernel
theorem dX6_plan_8 : decode cX6_plan 8 = .ok (.ireturn, 1) := by decide +kernel
theorem dX6_plan_9 : decode cX6_plan 9 = .ok (.aload_n 0, 1) := by decide +kernel
theorem dX6_plan_10 : decode cX6_plan 10 = .ok (.getfield 7, 3) := by decide +kernel
theorem dX6_plan_13 : decode cX6_plan 13 = .ok (.bipush 51, 2) := by decide +kernel
theorem dX6_plan_15 : decode cX6_plan 15 = .ok (.iaload, 1) := by decide +kernel
theorem dX6_plan_16 : decode cX6_plan 16 = .ok (.bipush 8, 2) := by decide +kernel
theorem dX6_plan_18 : decode cX6_plan 18 = .ok (.if_icmp .ne 6, 3) := by decide +kernel
theorem dX6_plan_21 : decode cX6_plan 21 = .ok (.bipush (-3), 2) := by decide +kernel
theorem dX6_plan_23 : decode cX6_plan 23 = .ok (.ireturn, 1) := by decide +kernel
theorem dX6_plan_24 : decode cX6_plan 24 = .ok (.aload_n 0, 1) := by decide +kernel
theorem dX6_plan_25 : decode cX6_plan 25 = .ok (.getfield 7, 3) := by decide +kernel
theorem dX6_plan_28 : decode cX6_plan 28 = .ok (.bipush 43, 2) := by decide +kernel
theorem dX6_plan_30 : decode cX6_plan 30 = .ok (.aload_n 0, 1) := by decide +kernel
theorem dX6_plan_31 : decode cX6_plan 31 = .ok (.getfield 7, 3) := by decide +kernel
theorem dX6_plan_34 : decode cX6_plan 34 = .ok (.bipush 51, 2) := by decide +kernel
theorem dX6_plan_36 : decode cX6_plan 36 = .ok (.iaload, 1) := by decide +kernel
theorem dX6_plan_37 : decode cX6_plan 37 = .ok (.iadd, 1) := by decide +kernel
theorem dX6_plan_38 : decode cX6_plan 38 = .ok (.iload_n 1, 1) := by decide +kernel
theorem dX6_plan_39 : decode cX6_plan 39 = .ok (.iastore, 1) := by decide +kernel
theorem dX6_plan_40 : decode cX6_plan 40 = .ok (.aload_n 0, 1) := by decide +kernel
theorem dX6_plan_41 : decode cX6_plan 41 = .ok (.getfield 7, 3) := by decide +kernel
theorem dX6_plan_44 : decode cX6_plan 44 = .ok (.bipush 51, 2) := by decide +kernel
theorem dX6_plan_46 : decode cX6_plan 46 = .ok (.dup2, 1) := by decide +kernel
theorem dX6_plan_47 : decode cX6_plan 47 = .ok (.iaload, 1) := by decide +kernel
theorem dX6_plan_48 : decode cX6_plan 48 = .ok (.iconst 1, 1) := by decide +kernel
theorem dX6_plan_49 : decode cX6_plan 49 = .ok (.iadd, 1) := by decide +kernel
theorem dX6_plan_50 : decode cX6_plan 50 = .ok (.iastore, 1) := by decide +kernel
theorem dX6_plan_51 : decode cX6_plan 51 = .ok (.aload_n 0, 1) := by decide +kernel
theorem dX6_plan_52 : decode cX6_plan 52 = .ok (.getfield 7, 3) := by decide +kernel
theorem dX6_plan_55 : decode cX6_plan 55 = .ok (.bipush 51, 2) := by decide +kernel
theorem dX6_plan_57 : decode cX6_plan 57 = .ok (.iaload, 1) := by decide +kernel
theorem dX6_plan_58 : decode cX6_plan 58 = .ok (.ireturn, 1) := by decide +kernel
theorem dX6_cut_0 : decode cX6_cut 0 = .ok (.aload_n 0, 1) := by decide +kernel
theorem dX6_cut_1 : decode cX6_cut 1 = .ok (.iload_n 1, 1) := by decide +kernel
theorem dX6_cut_2 : decode cX6_cut 2 = .ok (.i2l, 1) := by decide +kernel
theorem dX6_cut_3 : decode cX6_cut 3 = .ok (.lconst 0, 1) := by decide +kernel
theorem dX6_cut_4 : decode cX6_cut 4 = .ok (.aload_n 0, 1) := by decide +kernel
theorem dX6_cut_5 : decode cX6_cut 5 = .ok (.getfield 7, 3) := by decide +kernel
theorem dX6_cut_8 : decode cX6_cut 8 = .ok (.bipush 51, 2) := by decide +kernel
theorem dX6_cut_10 : decode cX6_cut 10 = .ok (.iaload, 1) := by decide +kernel
theorem dX6_cut_11 : decode cX6_cut 11 = .ok (.i2l, 1) := by decide +kernel
theorem dX6_cut_12 : decode cX6_cut 12 = .ok (.invokestatic 55, 3) := by decide +kernel
theorem dX6_cut_15 : decode cX6_cut 15 = .ok (.bipush 51, 2) := by decide +kernel
theorem dX6_cut_17 : decode cX6_cut 17 = .ok (.iload_n 1, 1) := by decide +kernel
theorem dX6_cut_18 : decode cX6_cut 18 = .ok (.iconst 0, 1) := by decide +kernel
theorem dX6_cut_19 : decode cX6_cut 19 = .ok (.invokevirtual 185, 3) := by decide +kernel
theorem dX6_cut_22 : decode cX6_cut 22 = .ok (.ireturn, 1) := by decide +kernel
theorem dX6_paysOn_0 : decode cX6_paysOn 0 = .ok (.aload_n 0, 1) := by decide +kernel
theorem dX6_paysOn_1 : decode cX6_paysOn 1 = .ok (.getfield 7, 3) := by decide +kernel
theorem dX6_paysOn_4 : decode cX6_paysOn 4 = .ok (.iload_n 1, 1) := by decide +kernel
theorem dX6_paysOn_5 : decode cX6_paysOn 5 = .ok (.bipush 8, 2) := by decide +kernel
theorem dX6_paysOn_7 : decode cX6_paysOn 7 = .ok (.iadd, 1) := by decide +kernel
theorem dX6_paysOn_8 : decode cX6_paysOn 8 = .ok (.iload_n 2, 1) := by decide +kernel
theorem dX6_paysOn_9 : decode cX6_paysOn 9 = .ok (.iadd, 1) := by decide +kernel
theorem dX6_paysOn_10 : decode cX6_paysOn 10 = .ok (.iaload, 1) := by decide +kernel
theorem dX6_paysOn_11 : decode cX6_paysOn 11 = .ok (.istore 5, 2) := by decide +kernel
theorem dX6_paysOn_13 : decode cX6_paysOn 13 = .ok (.iload 5, 2) := by decide +kernel
theorem dX6_paysOn_15 : decode cX6_paysOn 15 = .ok (.iload 4, 2) := by decide +kernel
theorem dX6_paysOn_17 : decode cX6_paysOn 17 = .ok (.if_icmp .ge 8, 3) := by decide +kernel
theorem dX6_paysOn_20 : decode cX6_paysOn 20 = .ok (.iload 5, 2) := by decide +kernel
theorem dX6_paysOn_22 : decode cX6_paysOn 22 = .ok (.goto 5, 3) := by decide +kernel
theorem dX6_paysOn_25 : decode cX6_paysOn 25 = .ok (.iload 4, 2) := by decide +kernel
theorem dX6_paysOn_27 : decode cX6_paysOn 27 = .ok (.istore 6, 2) := by decide +kernel
theorem dX6_paysOn_29 : decode cX6_paysOn 29 = .ok (.aload_n 0, 1) := by decide +kernel
theorem dX6_paysOn_30 : decode cX6_paysOn 30 = .ok (.getfield 7, 3) := by decide +kernel
theorem dX6_paysOn_33 : decode cX6_paysOn 33 = .ok (.iload_n 1, 1) := by decide +kernel
theorem dX6_paysOn_34 : decode cX6_paysOn 34 = .ok (.bipush 8, 2) := by decide +kernel
theorem dX6_paysOn_36 : decode cX6_paysOn 36 = .ok (.iadd, 1) := by decide +kernel
theorem dX6_paysOn_37 : decode cX6_paysOn 37 = .ok (.iload_n 3, 1) := by decide +kernel
theorem dX6_paysOn_38 : decode cX6_paysOn 38 = .ok (.iadd, 1) := by decide +kernel
theorem dX6_paysOn_39 : decode cX6_paysOn 39 = .ok (.iaload, 1) := by decide +kernel
theorem dX6_paysOn_40 : decode cX6_paysOn 40 = .ok (.iload 6, 2) := by decide +kernel
theorem dX6_paysOn_42 : decode cX6_paysOn 42 = .ok (.iadd, 1) := by decide +kernel
theorem dX6_paysOn_43 : decode cX6_paysOn 43 = .ok (.istore 7, 2) := by decide +kernel
theorem dX6_paysOn_45 : decode cX6_paysOn 45 = .ok (.aload_n 0, 1) := by decide +kernel
theorem dX6_paysOn_46 : decode cX6_paysOn 46 = .ok (.getfield 7, 3) := by decide +kernel
theorem dX6_paysOn_49 : decode cX6_paysOn 49 = .ok (.iload_n 1, 1) := by decide +kernel
theorem dX6_paysOn_50 : decode cX6_paysOn 50 = .ok (.bipush 8, 2) := by decide +kernel
theorem dX6_paysOn_52 : decode cX6_paysOn 52 = .ok (.iadd, 1) := by decide +kernel
theorem dX6_paysOn_53 : decode cX6_paysOn 53 = .ok (.iload_n 2, 1) := by decide +kernel
theorem dX6_paysOn_54 : decode cX6_paysOn 54 = .ok (.iadd, 1) := by decide +kernel
theorem dX6_paysOn_55 : decode cX6_paysOn 55 = .ok (.iload 5, 2) := by decide +kernel
theorem dX6_paysOn_57 : decode cX6_paysOn 57 = .ok (.iload 6, 2) := by decide +kernel
theorem dX6_paysOn_59 : decode cX6_paysOn 59 = .ok (.isub, 1) := by decide +kernel
theorem dX6_paysOn_60 : decode cX6_paysOn 60 = .ok (.iastore, 1) := by decide +kernel
theorem dX6_paysOn_61 : decode cX6_paysOn 61 = .ok (.aload_n 0, 1) := by decide +kernel
theorem dX6_paysOn_62 : decode cX6_paysOn 62 = .ok (.getfield 7, 3) := by decide +kernel
theorem dX6_paysOn_65 : decode cX6_paysOn 65 = .ok (.iload_n 1, 1) := by decide +kernel
theorem dX6_paysOn_66 : decode cX6_paysOn 66 = .ok (.bipush 8, 2) := by decide +kernel
theorem dX6_paysOn_68 : decode cX6_paysOn 68 = .ok (.iadd, 1) := by decide +kernel
theorem dX6_paysOn_69 : decode cX6_paysOn 69 = .ok (.iload_n 3, 1) := by decide +kernel
theorem dX6_paysOn_70 : decode cX6_paysOn 70 = .ok (.iadd, 1) := by decide +kernel
theorem dX6_paysOn_71 : decode cX6_paysOn 71 = .ok (.iload 7, 2) := by decide +kernel
theorem dX6_paysOn_73 : decode cX6_paysOn 73 = .ok (.sipush 999, 3) := by decide +kernel
theorem dX6_paysOn_76 : decode cX6_paysOn 76 = .ok (.if_icmp .le 9, 3) := by decide +kernel
theorem dX6_paysOn_79 : decode cX6_paysOn 79 = .ok (.sipush 999, 3) := by decide +kernel
theorem dX6_paysOn_82 : decode cX6_paysOn 82 = .ok (.goto 5, 3) := by decide +kernel
theorem dX6_paysOn_85 : decode cX6_paysOn 85 = .ok (.iload 7, 2) := by decide +kernel
theorem dX6_paysOn_87 : decode cX6_paysOn 87 = .ok (.iastore, 1) := by decide +kernel
theorem dX6_paysOn_88 : decode cX6_paysOn 88 = .ok (.aload_n 0, 1) := by decide +kernel
theorem dX6_paysOn_89 : decode cX6_paysOn 89 = .ok (.getfield 7, 3) := by decide +kernel
theorem dX6_paysOn_92 : decode cX6_paysOn 92 = .ok (.iload_n 1, 1) := by decide +kernel
theorem dX6_paysOn_93 : decode cX6_paysOn 93 = .ok (.bipush 53, 2) := by decide +kernel
theorem dX6_paysOn_95 : decode cX6_paysOn 95 = .ok (.iadd, 1) := by decide +kernel
theorem dX6_paysOn_96 : decode cX6_paysOn 96 = .ok (.iconst 4, 1) := by decide +kernel
theorem dX6_paysOn_97 : decode cX6_paysOn 97 = .ok (.iload_n 2, 1) := by decide +kernel
theorem dX6_paysOn_98 : decode cX6_paysOn 98 = .ok (.imul, 1) := by decide +kernel
theorem dX6_paysOn_99 : decode cX6_paysOn 99 = .ok (.iadd, 1) := by decide +kernel
theorem dX6_paysOn_100 : decode cX6_paysOn 100 = .ok (.iload_n 3, 1) := by decide +kernel
theorem dX6_paysOn_101 : decode cX6_paysOn 101 = .ok (.iadd, 1) := by decide +kernel
theorem dX6_paysOn_102 : decode cX6_paysOn 102 = .ok (.dup2, 1) := by decide +kernel
theorem dX6_paysOn_103 : decode cX6_paysOn 103 = .ok (.iaload, 1) := by decide +kernel
theorem dX6_paysOn_104 : decode cX6_paysOn 104 = .ok (.iload 4, 2) := by decide +kernel
theorem dX6_paysOn_106 : decode cX6_paysOn 106 = .ok (.iload 6, 2) := by decide +kernel
theorem dX6_paysOn_108 : decode cX6_paysOn 108 = .ok (.isub, 1) := by decide +kernel
theorem dX6_paysOn_109 : decode cX6_paysOn 109 = .ok (.iadd, 1) := by decide +kernel
theorem dX6_paysOn_110 : decode cX6_paysOn 110 = .ok (.iastore, 1) := by decide +kernel
theorem dX6_paysOn_111 : decode cX6_paysOn 111 = .ok (.iload 6, 2) := by decide +kernel
theorem dX6_paysOn_113 : decode cX6_paysOn 113 = .ok (.iload 4, 2) := by decide +kernel
theorem dX6_paysOn_115 : decode cX6_paysOn 115 = .ok (.if_icmp .ge 7, 3) := by decide +kernel
theorem dX6_paysOn_118 : decode cX6_paysOn 118 = .ok (.iconst 1, 1) := by decide +kernel
theorem dX6_paysOn_119 : decode cX6_paysOn 119 = .ok (.goto 4, 3) := by decide +kernel
theorem dX6_paysOn_122 : decode cX6_paysOn 122 = .ok (.iconst 0, 1) := by decide +kernel
theorem dX6_paysOn_123 : decode cX6_paysOn 123 = .ok (.ireturn, 1) := by decide +kernel
theorem dX6_weekOn_0 : decode cX6_weekOn 0 = .ok (.iconst 0, 1) := by decide +kernel
theorem dX6_weekOn_1 : decode cX6_weekOn 1 = .ok (.istore_n 3, 1) := by decide +kernel
theorem dX6_weekOn_2 : decode cX6_weekOn 2 = .ok (.iconst 0, 1) := by decide +kernel
theorem dX6_weekOn_3 : decode cX6_weekOn 3 = .ok (.istore 4, 2) := by decide +kernel
theorem dX6_weekOn_5 : decode cX6_weekOn 5 = .ok (.iload 4, 2) := by decide +kernel
theorem dX6_weekOn_7 : decode cX6_weekOn 7 = .ok (.aload_n 0, 1) := by decide +kernel
theorem dX6_weekOn_8 : decode cX6_weekOn 8 = .ok (.getfield 148, 3) := by decide +kernel
theorem dX6_weekOn_11 : decode cX6_weekOn 11 = .ok (.if_icmp .ge 68, 3) := by decide +kernel
theorem dX6_weekOn_14 : decode cX6_weekOn 14 = .ok (.aload_n 0, 1) := by decide +kernel
theorem dX6_weekOn_15 : decode cX6_weekOn 15 = .ok (.getfield 7, 3) := by decide +kernel
theorem dX6_weekOn_18 : decode cX6_weekOn 18 = .ok (.iload_n 1, 1) := by decide +kernel
theorem dX6_weekOn_19 : decode cX6_weekOn 19 = .ok (.bipush 8, 2) := by decide +kernel
theorem dX6_weekOn_21 : decode cX6_weekOn 21 = .ok (.iadd, 1) := by decide +kernel
theorem dX6_weekOn_22 : decode cX6_weekOn 22 = .ok (.iload 4, 2) := by decide +kernel
theorem dX6_weekOn_24 : decode cX6_weekOn 24 = .ok (.iadd, 1) := by decide +kernel
theorem dX6_weekOn_25 : decode cX6_weekOn 25 = .ok (.iaload, 1) := by decide +kernel
theorem dX6_weekOn_26 : decode cX6_weekOn 26 = .ok (.aload_n 0, 1) := by decide +kernel
theorem dX6_weekOn_27 : decode cX6_weekOn 27 = .ok (.iload 4, 2) := by decide +kernel
theorem dX6_weekOn_29 : decode cX6_weekOn 29 = .ok (.iload_n 2, 1) := by decide +kernel
theorem dX6_weekOn_30 : decode cX6_weekOn 30 = .ok (.invokevirtual 172, 3) := by decide +kernel
theorem dX6_weekOn_33 : decode cX6_weekOn 33 = .ok (.iadd, 1) := by decide +kernel
theorem dX6_weekOn_34 : decode cX6_weekOn 34 = .ok (.istore 5, 2) := by decide +kernel
theorem dX6_weekOn_36 : decode cX6_weekOn 36 = .ok (.aload_n 0, 1) := by decide +kernel
theorem dX6_weekOn_37 : decode cX6_weekOn 37 = .ok (.getfield 7, 3) := by decide +kernel
theorem dX6_weekOn_40 : decode cX6_weekOn 40 = .ok (.iload_n 1, 1) := by decide +kernel
theorem dX6_weekOn_41 : decode cX6_weekOn 41 = .ok (.bipush 8, 2) := by decide +kernel
theorem dX6_weekOn_43 : decode cX6_weekOn 43 = .ok (.iadd, 1) := by decide +kernel
theorem dX6_weekOn_44 : decode cX6_weekOn 44 = .ok (.iload 4, 2) := by decide +kernel
theorem dX6_weekOn_46 : decode cX6_weekOn 46 = .ok (.iadd, 1) := by decide +kernel
theorem dX6_weekOn_47 : decode cX6_weekOn 47 = .ok (.iload 5, 2) := by decide +kernel
theorem dX6_weekOn_49 : decode cX6_weekOn 49 = .ok (.ifCond .ge 7, 3) := by decide +kernel
theorem dX6_weekOn_52 : decode cX6_weekOn 52 = .ok (.iconst 0, 1) := by decide +kernel
theorem dX6_weekOn_53 : decode cX6_weekOn 53 = .ok (.goto 19, 3) := by decide +kernel
theorem dX6_weekOn_56 : decode cX6_weekOn 56 = .ok (.iload 5, 2) := by decide +kernel
theorem dX6_weekOn_58 : decode cX6_weekOn 58 = .ok (.sipush 999, 3) := by decide +kernel
theorem dX6_weekOn_61 : decode cX6_weekOn 61 = .ok (.if_icmp .le 9, 3) := by decide +kernel
theorem dX6_weekOn_64 : decode cX6_weekOn 64 = .ok (.sipush 999, 3) := by decide +kernel
theorem dX6_weekOn_67 : decode cX6_weekOn 67 = .ok (.goto 5, 3) := by decide +kernel
theorem dX6_weekOn_70 : decode cX6_weekOn 70 = .ok (.iload 5, 2) := by decide +kernel
theorem dX6_weekOn_72 : decode cX6_weekOn 72 = .ok (.iastore, 1) := by decide +kernel
theorem dX6_weekOn_73 : decode cX6_weekOn 73 = .ok (.iinc 4 1, 3) := by decide +kernel
theorem dX6_weekOn_76 : decode cX6_weekOn 76 = .ok (.goto (-71), 3) := by decide +kernel
theorem dX6_weekOn_79 : decode cX6_weekOn 79 = .ok (.iconst 0, 1) := by decide +kernel
theorem dX6_weekOn_80 : decode cX6_weekOn 80 = .ok (.istore 4, 2) := by decide +kernel
theorem dX6_weekOn_82 : decode cX6_weekOn 82 = .ok (.iload 4, 2) := by decide +kernel
theorem dX6_weekOn_84 : decode cX6_weekOn 84 = .ok (.aload_n 0, 1) := by decide +kernel
theorem dX6_weekOn_85 : decode cX6_weekOn 85 = .ok (.getfield 7, 3) := by decide +kernel
theorem dX6_weekOn_88 : decode cX6_weekOn 88 = .ok (.iload_n 1, 1) := by decide +kernel
theorem dX6_weekOn_89 : decode cX6_weekOn 89 = .ok (.bipush 37, 2) := by decide +kernel
theorem dX6_weekOn_91 : decode cX6_weekOn 91 = .ok (.iadd, 1) := by decide +kernel
theorem dX6_weekOn_92 : decode cX6_weekOn 92 = .ok (.iaload, 1) := by decide +kernel
theorem dX6_weekOn_93 : decode cX6_weekOn 93 = .ok (.if_icmp .ge 115, 3) := by decide +kernel
theorem dX6_weekOn_96 : decode cX6_weekOn 96 = .ok (.iload_n 1, 1) := by decide +kernel
theorem dX6_weekOn_97 : decode cX6_weekOn 97 = .ok (.bipush 12, 2) := by decide +kernel
theorem dX6_weekOn_99 : decode cX6_weekOn 99 = .ok (.iadd, 1) := by decide +kernel
theorem dX6_weekOn_100 : decode cX6_weekOn 100 = .ok (.iconst 5, 1) := by decide +kernel
theorem dX6_weekOn_101 : decode cX6_weekOn 101 = .ok (.iload 4, 2) := by decide +kernel
theorem dX6_weekOn_103 : decode cX6_weekOn 103 = .ok (.imul, 1) := by decide +kernel
theorem dX6_weekOn_104 : decode cX6_weekOn 104 = .ok (.iadd, 1) := by decide +kernel
theorem dX6_weekOn_105 : decode cX6_weekOn 105 = .ok (.istore 5, 2) := by decide +kernel
theorem dX6_weekOn_107 : decode cX6_weekOn 107 = .ok (.iload_n 3, 1) := by decide +kernel
theorem dX6_weekOn_108 : decode cX6_weekOn 108 = .ok (.aload_n 0, 1) := by decide +kernel
theorem dX6_weekOn_109 : decode cX6_weekOn 109 = .ok (.getfield 7, 3) := by decide +kernel
theorem dX6_weekOn_112 : decode cX6_weekOn 112 = .ok (.iload 5, 2) := by decide +kernel
theorem dX6_weekOn_114 : decode cX6_weekOn 114 = .ok (.iconst 2, 1) := by decide +kernel
theorem dX6_weekOn_115 : decode cX6_weekOn 115 = .ok (.iadd, 1) := by decide +kernel
theorem dX6_weekOn_116 : decode cX6_weekOn 116 = .ok (.iaload, 1) := by decide +kernel
theorem dX6_weekOn_117 : decode cX6_weekOn 117 = .ok (.iload_n 2, 1) := by decide +kernel
theorem dX6_weekOn_118 : decode cX6_weekOn 118 = .ok (.if_icmp .ne 40, 3) := by decide +kernel
theorem dX6_weekOn_121 : decode cX6_weekOn 121 = .ok (.aload_n 0, 1) := by decide +kernel
theorem dX6_weekOn_122 : decode cX6_weekOn 122 = .ok (.iload_n 1, 1) := by decide +kernel
theorem dX6_weekOn_123 : decode cX6_weekOn 123 = .ok (.aload_n 0, 1) := by decide +kernel
theorem dX6_weekOn_124 : decode cX6_weekOn 124 = .ok (.getfield 7, 3) := by decide +kernel
theorem dX6_weekOn_127 : decode cX6_weekOn 127 = .ok (.iload 5, 2) := by decide +kernel
theorem dX6_weekOn_129 : decode cX6_weekOn 129 = .ok (.iaload, 1) := by decide +kernel
theorem dX6_weekOn_130 : decode cX6_weekOn 130 = .ok (.aload_n 0, 1) := by decide +kernel
theorem dX6_weekOn_131 : decode cX6_weekOn 131 = .ok (.getfield 7, 3) := by decide +kernel
theorem dX6_weekOn_134 : decode cX6_weekOn 134 = .ok (.iload 5, 2) := by decide +kernel
theorem dX6_weekOn_136 : decode cX6_weekOn 136 = .ok (.iconst 1, 1) := by decide +kernel
theorem dX6_weekOn_137 : decode cX6_weekOn 137 = .ok (.iadd, 1) := by decide +kernel
theorem dX6_weekOn_138 : decode cX6_weekOn 138 = .ok (.iaload, 1) := by decide +kernel
theorem dX6_weekOn_139 : decode cX6_weekOn 139 = .ok (.aload_n 0, 1) := by decide +kernel
theorem dX6_weekOn_140 : decode cX6_weekOn 140 = .ok (.getfield 7, 3) := by decide +kernel
theorem dX6_weekOn_143 : decode cX6_weekOn 143 = .ok (.iload 5, 2) := by decide +kernel
theorem dX6_weekOn_145 : decode cX6_weekOn 145 = .ok (.iconst 3, 1) := by decide +kernel
theorem dX6_weekOn_146 : decode cX6_weekOn 146 = .ok (.iadd, 1) := by decide +kernel
theorem dX6_weekOn_147 : decode cX6_weekOn 147 = .ok (.iaload, 1) := by decide +kernel
theorem dX6_weekOn_148 : decode cX6_weekOn 148 = .ok (.invokevirtual 202, 3) := by decide +kernel
theorem dX6_weekOn_151 : decode cX6_weekOn 151 = .ok (.ifCond .eq 7, 3) := by decide +kernel
