theorem dX6_weekOn_154 : decode cX6_weekOn 154 = .ok (.iconst 1, 1) := by decide +kernel
theorem dX6_weekOn_155 : decode cX6_weekOn 155 = .ok (.goto 4, 3) := by decide +kernel
theorem dX6_weekOn_158 : decode cX6_weekOn 158 = .ok (.iconst 0, 1) := by decide +kernel
theorem dX6_weekOn_159 : decode cX6_weekOn 159 = .ok (.iadd, 1) := by decide +kernel
theorem dX6_weekOn_160 : decode cX6_weekOn 160 = .ok (.istore_n 3, 1) := by decide +kernel
theorem dX6_weekOn_161 : decode cX6_weekOn 161 = .ok (.iload_n 3, 1) := by decide +kernel
theorem dX6_weekOn_162 : decode cX6_weekOn 162 = .ok (.aload_n 0, 1) := by decide +kernel
theorem dX6_weekOn_163 : decode cX6_weekOn 163 = .ok (.iload_n 1, 1) := by decide +kernel
theorem dX6_weekOn_164 : decode cX6_weekOn 164 = .ok (.aload_n 0, 1) := by decide +kernel
theorem dX6_weekOn_165 : decode cX6_weekOn 165 = .ok (.getfield 7, 3) := by decide +kernel
theorem dX6_weekOn_168 : decode cX6_weekOn 168 = .ok (.iload 5, 2) := by decide +kernel
theorem dX6_weekOn_170 : decode cX6_weekOn 170 = .ok (.iconst 1, 1) := by decide +kernel
theorem dX6_weekOn_171 : decode cX6_weekOn 171 = .ok (.iadd, 1) := by decide +kernel
theorem dX6_weekOn_172 : decode cX6_weekOn 172 = .ok (.iaload, 1) := by decide +kernel
theorem dX6_weekOn_173 : decode cX6_weekOn 173 = .ok (.aload_n 0, 1) := by decide +kernel
theorem dX6_weekOn_174 : decode cX6_weekOn 174 = .ok (.getfield 7, 3) := by decide +kernel
theorem dX6_weekOn_177 : decode cX6_weekOn 177 = .ok (.iload 5, 2) := by decide +kernel
theorem dX6_weekOn_179 : decode cX6_weekOn 179 = .ok (.iaload, 1) := by decide +kernel
theorem dX6_weekOn_180 : decode cX6_weekOn 180 = .ok (.aload_n 0, 1) := by decide +kernel
theorem dX6_weekOn_181 : decode cX6_weekOn 181 = .ok (.getfield 7, 3) := by decide +kernel
theorem dX6_weekOn_184 : decode cX6_weekOn 184 = .ok (.iload 5, 2) := by decide +kernel
theorem dX6_weekOn_186 : decode cX6_weekOn 186 = .ok (.iconst 4, 1) := by decide +kernel
theorem dX6_weekOn_187 : decode cX6_weekOn 187 = .ok (.iadd, 1) := by decide +kernel
theorem dX6_weekOn_188 : decode cX6_weekOn 188 = .ok (.iaload, 1) := by decide +kernel
theorem dX6_weekOn_189 : decode cX6_weekOn 189 = .ok (.invokevirtual 202, 3) := by decide +kernel
theorem dX6_weekOn_192 : decode cX6_weekOn 192 = .ok (.ifCond .eq 7, 3) := by decide +kernel
theorem dX6_weekOn_195 : decode cX6_weekOn 195 = .ok (.iconst 1, 1) := by decide +kernel
theorem dX6_weekOn_196 : decode cX6_weekOn 196 = .ok (.goto 4, 3) := by decide +kernel
theorem dX6_weekOn_199 : decode cX6_weekOn 199 = .ok (.iconst 0, 1) := by decide +kernel
theorem dX6_weekOn_200 : decode cX6_weekOn 200 = .ok (.iadd, 1) := by decide +kernel
theorem dX6_weekOn_201 : decode cX6_weekOn 201 = .ok (.istore_n 3, 1) := by decide +kernel
theorem dX6_weekOn_202 : decode cX6_weekOn 202 = .ok (.iinc 4 1, 3) := by decide +kernel
theorem dX6_weekOn_205 : decode cX6_weekOn 205 = .ok (.goto (-123), 3) := by decide +kernel
theorem dX6_weekOn_208 : decode cX6_weekOn 208 = .ok (.aload_n 0, 1) := by decide +kernel
theorem dX6_weekOn_209 : decode cX6_weekOn 209 = .ok (.getfield 7, 3) := by decide +kernel
theorem dX6_weekOn_212 : decode cX6_weekOn 212 = .ok (.iload_n 1, 1) := by decide +kernel
theorem dX6_weekOn_213 : decode cX6_weekOn 213 = .ok (.bipush 52, 2) := by decide +kernel
theorem dX6_weekOn_215 : decode cX6_weekOn 215 = .ok (.iadd, 1) := by decide +kernel
theorem dX6_weekOn_216 : decode cX6_weekOn 216 = .ok (.dup2, 1) := by decide +kernel
theorem dX6_weekOn_217 : decode cX6_weekOn 217 = .ok (.iaload, 1) := by decide +kernel
theorem dX6_weekOn_218 : decode cX6_weekOn 218 = .ok (.iconst 1, 1) := by decide +kernel
theorem dX6_weekOn_219 : decode cX6_weekOn 219 = .ok (.iadd, 1) := by decide +kernel
theorem dX6_weekOn_220 : decode cX6_weekOn 220 = .ok (.iastore, 1) := by decide +kernel
theorem dX6_weekOn_221 : decode cX6_weekOn 221 = .ok (.iload_n 3, 1) := by decide +kernel
theorem dX6_weekOn_222 : decode cX6_weekOn 222 = .ok (.ireturn, 1) := by decide +kernel
theorem dX6_weeks_0 : decode cX6_weeks 0 = .ok (.iload_n 1, 1) := by decide +kernel
theorem dX6_weeks_1 : decode cX6_weeks 1 = .ok (.invokestatic 169, 3) := by decide +kernel
theorem dX6_weeks_4 : decode cX6_weeks 4 = .ok (.ifCond .ne 5, 3) := by decide +kernel
theorem dX6_weeks_7 : decode cX6_weeks 7 = .ok (.iconst (-1), 1) := by decide +kernel
theorem dX6_weeks_8 : decode cX6_weeks 8 = .ok (.ireturn, 1) := by decide +kernel
theorem dX6_weeks_9 : decode cX6_weeks 9 = .ok (.aload_n 0, 1) := by decide +kernel
theorem dX6_weeks_10 : decode cX6_weeks 10 = .ok (.getfield 7, 3) := by decide +kernel
theorem dX6_weeks_13 : decode cX6_weeks 13 = .ok (.bipush 52, 2) := by decide +kernel
theorem dX6_weeks_15 : decode cX6_weeks 15 = .ok (.iaload, 1) := by decide +kernel
theorem dX6_weeks_16 : decode cX6_weeks 16 = .ok (.sipush 999, 3) := by decide +kernel
theorem dX6_weeks_19 : decode cX6_weeks 19 = .ok (.if_icmp .ne 8, 3) := by decide +kernel
theorem dX6_weeks_22 : decode cX6_weeks 22 = .ok (.bipush (-3), 2) := by decide +kernel
theorem dX6_weeks_24 : decode cX6_weeks 24 = .ok (.goto 9, 3) := by decide +kernel
theorem dX6_weeks_27 : decode cX6_weeks 27 = .ok (.aload_n 0, 1) := by decide +kernel
theorem dX6_weeks_28 : decode cX6_weeks 28 = .ok (.iconst 0, 1) := by decide +kernel
theorem dX6_weeks_29 : decode cX6_weeks 29 = .ok (.iload_n 1, 1) := by decide +kernel
theorem dX6_weeks_30 : decode cX6_weeks 30 = .ok (.invokevirtual 206, 3) := by decide +kernel
theorem dX6_weeks_33 : decode cX6_weeks 33 = .ok (.ireturn, 1) := by decide +kernel
theorem dX6_week_0 : decode cX6_week 0 = .ok (.aload_n 0, 1) := by decide +kernel
theorem dX6_week_1 : decode cX6_week 1 = .ok (.iload_n 1, 1) := by decide +kernel
theorem dX6_week_2 : decode cX6_week 2 = .ok (.invokevirtual 209, 3) := by decide +kernel
theorem dX6_week_5 : decode cX6_week 5 = .ok (.ireturn, 1) := by decide +kernel
theorem dX6_copies_0 : decode cX6_copies 0 = .ok (.iconst 0, 1) := by decide +kernel
theorem dX6_copies_1 : decode cX6_copies 1 = .ok (.istore_n 3, 1) := by decide +kernel
theorem dX6_copies_2 : decode cX6_copies 2 = .ok (.iload_n 3, 1) := by decide +kernel
theorem dX6_copies_3 : decode cX6_copies 3 = .ok (.bipush 69, 2) := by decide +kernel
theorem dX6_copies_5 : decode cX6_copies 5 = .ok (.if_icmp .ge 25, 3) := by decide +kernel
theorem dX6_copies_8 : decode cX6_copies 8 = .ok (.aload_n 0, 1) := by decide +kernel
theorem dX6_copies_9 : decode cX6_copies 9 = .ok (.getfield 7, 3) := by decide +kernel
theorem dX6_copies_12 : decode cX6_copies 12 = .ok (.iload_n 2, 1) := by decide +kernel
theorem dX6_copies_13 : decode cX6_copies 13 = .ok (.iload_n 3, 1) := by decide +kernel
theorem dX6_copies_14 : decode cX6_copies 14 = .ok (.iadd, 1) := by decide +kernel
theorem dX6_copies_15 : decode cX6_copies 15 = .ok (.aload_n 0, 1) := by decide +kernel
theorem dX6_copies_16 : decode cX6_copies 16 = .ok (.getfield 7, 3) := by decide +kernel
theorem dX6_copies_19 : decode cX6_copies 19 = .ok (.iload_n 1, 1) := by decide +kernel
theorem dX6_copies_20 : decode cX6_copies 20 = .ok (.iload_n 3, 1) := by decide +kernel
theorem dX6_copies_21 : decode cX6_copies 21 = .ok (.iadd, 1) := by decide +kernel
theorem dX6_copies_22 : decode cX6_copies 22 = .ok (.iaload, 1) := by decide +kernel
theorem dX6_copies_23 : decode cX6_copies 23 = .ok (.iastore, 1) := by decide +kernel
theorem dX6_copies_24 : decode cX6_copies 24 = .ok (.iinc 3 1, 3) := by decide +kernel
theorem dX6_copies_27 : decode cX6_copies 27 = .ok (.goto (-25), 3) := by decide +kernel
theorem dX6_copies_30 : decode cX6_copies 30 = .ok (.return_, 1) := by decide +kernel
theorem dX6_pursesOn_0 : decode cX6_pursesOn 0 = .ok (.iconst 0, 1) := by decide +kernel
theorem dX6_pursesOn_1 : decode cX6_pursesOn 1 = .ok (.istore_n 2, 1) := by decide +kernel
theorem dX6_pursesOn_2 : decode cX6_pursesOn 2 = .ok (.iconst 0, 1) := by decide +kernel
theorem dX6_pursesOn_3 : decode cX6_pursesOn 3 = .ok (.istore_n 3, 1) := by decide +kernel
theorem dX6_pursesOn_4 : decode cX6_pursesOn 4 = .ok (.iload_n 3, 1) := by decide +kernel
theorem dX6_pursesOn_5 : decode cX6_pursesOn 5 = .ok (.aload_n 0, 1) := by decide +kernel
theorem dX6_pursesOn_6 : decode cX6_pursesOn 6 = .ok (.getfield 148, 3) := by decide +kernel
theorem dX6_pursesOn_9 : decode cX6_pursesOn 9 = .ok (.if_icmp .ge 23, 3) := by decide +kernel
theorem dX6_pursesOn_12 : decode cX6_pursesOn 12 = .ok (.iload_n 2, 1) := by decide +kernel
theorem dX6_pursesOn_13 : decode cX6_pursesOn 13 = .ok (.aload_n 0, 1) := by decide +kernel
theorem dX6_pursesOn_14 : decode cX6_pursesOn 14 = .ok (.getfield 7, 3) := by decide +kernel
theorem dX6_pursesOn_17 : decode cX6_pursesOn 17 = .ok (.iload_n 1, 1) := by decide +kernel
theorem dX6_pursesOn_18 : decode cX6_pursesOn 18 = .ok (.bipush 8, 2) := by decide +kernel
theorem dX6_pursesOn_20 : decode cX6_pursesOn 20 = .ok (.iadd, 1) := by decide +kernel
theorem dX6_pursesOn_21 : decode cX6_pursesOn 21 = .ok (.iload_n 3, 1) := by decide +kernel
theorem dX6_pursesOn_22 : decode cX6_pursesOn 22 = .ok (.iadd, 1) := by decide +kernel
theorem dX6_pursesOn_23 : decode cX6_pursesOn 23 = .ok (.iaload, 1) := by decide +kernel
theorem dX6_pursesOn_24 : decode cX6_pursesOn 24 = .ok (.iadd, 1) := by decide +kernel
theorem dX6_pursesOn_25 : decode cX6_pursesOn 25 = .ok (.istore_n 2, 1) := by decide +kernel
theorem dX6_pursesOn_26 : decode cX6_pursesOn 26 = .ok (.iinc 3 1, 3) := by decide +kernel
theorem dX6_pursesOn_29 : decode cX6_pursesOn 29 = .ok (.goto (-25), 3) := by decide +kernel
theorem dX6_pursesOn_32 : decode cX6_pursesOn 32 = .ok (.iload_n 2, 1) := by decide +kernel
theorem dX6_pursesOn_33 : decode cX6_pursesOn 33 = .ok (.ireturn, 1) := by decide +kernel
theorem dX6_owedOn_0 : decode cX6_owedOn 0 = .ok (.iconst 0, 1) := by decide +kernel
theorem dX6_owedOn_1 : decode cX6_owedOn 1 = .ok (.istore_n 2, 1) := by decide +kernel
theorem dX6_owedOn_2 : decode cX6_owedOn 2 = .ok (.iconst 0, 1) := by decide +kernel
theorem dX6_owedOn_3 : decode cX6_owedOn 3 = .ok (.istore_n 3, 1) := by decide +kernel
theorem dX6_owedOn_4 : decode cX6_owedOn 4 = .ok (.iload_n 3, 1) := by decide +kernel
theorem dX6_owedOn_5 : decode cX6_owedOn 5 = .ok (.bipush 16, 2) := by decide +kernel
theorem dX6_owedOn_7 : decode cX6_owedOn 7 = .ok (.if_icmp .ge 23, 3) := by decide +kernel
theorem dX6_owedOn_10 : decode cX6_owedOn 10 = .ok (.iload_n 2, 1) := by decide +kernel
theorem dX6_owedOn_11 : decode cX6_owedOn 11 = .ok (.aload_n 0, 1) := by decide +kernel
theorem dX6_owedOn_12 : decode cX6_owedOn 12 = .ok (.getfield 7, 3) := by decide +kernel
theorem dX6_owedOn_15 : decode cX6_owedOn 15 = .ok (.iload_n 1, 1) := by decide +kernel
theorem dX6_owedOn_16 : decode cX6_owedOn 16 = .ok (.bipush 53, 2) := by decide +kernel
theorem dX6_owedOn_18 : decode cX6_owedOn 18 = .ok (.iadd, 1) := by decide +kernel
theorem dX6_owedOn_19 : decode cX6_owedOn 19 = .ok (.iload_n 3, 1) := by decide +kernel
theorem dX6_owedOn_20 : decode cX6_owedOn 20 = .ok (.iadd, 1) := by decide +kernel
theorem dX6_owedOn_21 : decode cX6_owedOn 21 = .ok (.iaload, 1) := by decide +kernel
theorem dX6_owedOn_22 : decode cX6_owedOn 22 = .ok (.iadd, 1) := by decide +kernel
theorem dX6_owedOn_23 : decode cX6_owedOn 23 = .ok (.istore_n 2, 1) := by decide +kernel
theorem dX6_owedOn_24 : decode cX6_owedOn 24 = .ok (.iinc 3 1, 3) := by decide +kernel
theorem dX6_owedOn_27 : decode cX6_owedOn 27 = .ok (.goto (-23), 3) := by decide +kernel
theorem dX6_owedOn_30 : decode cX6_owedOn 30 = .ok (.iload_n 2, 1) := by decide +kernel
theorem dX6_owedOn_31 : decode cX6_owedOn 31 = .ok (.ireturn, 1) := by decide +kernel
theorem dX6_planGoes_0 : decode cX6_planGoes 0 = .ok (.iconst 0, 1) := by decide +kernel
theorem dX6_planGoes_1 : decode cX6_planGoes 1 = .ok (.istore_n 1, 1) := by decide +kernel
theorem dX6_planGoes_2 : decode cX6_planGoes 2 = .ok (.aload_n 0, 1) := by decide +kernel
theorem dX6_planGoes_3 : decode cX6_planGoes 3 = .ok (.bipush (-4), 2) := by decide +kernel
theorem dX6_planGoes_5 : decode cX6_planGoes 5 = .ok (.putfield 212, 3) := by decide +kernel
theorem dX6_planGoes_8 : decode cX6_planGoes 8 = .ok (.aload_n 0, 1) := by decide +kernel
theorem dX6_planGoes_9 : decode cX6_planGoes 9 = .ok (.iconst 0, 1) := by decide +kernel
theorem dX6_planGoes_10 : decode cX6_planGoes 10 = .ok (.sipush 276, 3) := by decide +kernel
theorem dX6_planGoes_13 : decode cX6_planGoes 13 = .ok (.invokevirtual 215, 3) := by decide +kernel
theorem dX6_planGoes_16 : decode cX6_planGoes 16 = .ok (.iconst 0, 1) := by decide +kernel
theorem dX6_planGoes_17 : decode cX6_planGoes 17 = .ok (.istore_n 2, 1) := by decide +kernel
theorem dX6_planGoes_18 : decode cX6_planGoes 18 = .ok (.iload_n 2, 1) := by decide +kernel
theorem dX6_planGoes_19 : decode cX6_planGoes 19 = .ok (.aload_n 0, 1) := by decide +kernel
theorem dX6_planGoes_20 : decode cX6_planGoes 20 = .ok (.getfield 7, 3) := by decide +kernel
theorem dX6_planGoes_23 : decode cX6_planGoes 23 = .ok (.bipush 51, 2) := by decide +kernel
theorem dX6_planGoes_25 : decode cX6_planGoes 25 = .ok (.iaload, 1) := by decide +kernel
theorem dX6_planGoes_26 : decode cX6_planGoes 26 = .ok (.if_icmp .ge 55, 3) := by decide +kernel
theorem dX6_planGoes_29 : decode cX6_planGoes 29 = .ok (.aload_n 0, 1) := by decide +kernel
theorem dX6_planGoes_30 : decode cX6_planGoes 30 = .ok (.sipush 276, 3) := by decide +kernel
theorem dX6_planGoes_33 : decode cX6_planGoes 33 = .ok (.aload_n 0, 1) := by decide +kernel
theorem dX6_planGoes_34 : decode cX6_planGoes 34 = .ok (.getfield 7, 3) := by decide +kernel
theorem dX6_planGoes_37 : decode cX6_planGoes 37 = .ok (.bipush 43, 2) := by decide +kernel
theorem dX6_planGoes_39 : decode cX6_planGoes 39 = .ok (.iload_n 2, 1) := by decide +kernel
theorem dX6_planGoes_40 : decode cX6_planGoes 40 = .ok (.iadd, 1) := by decide +kernel
theorem dX6_planGoes_41 : decode cX6_planGoes 41 = .ok (.iaload, 1) := by decide +kernel
theorem dX6_planGoes_42 : decode cX6_planGoes 42 = .ok (.invokevirtual 206, 3) := by decide +kernel
theorem dX6_planGoes_45 : decode cX6_planGoes 45 = .ok (.istore_n 3, 1) := by decide +kernel
theorem dX6_planGoes_46 : decode cX6_planGoes 46 = .ok (.aload_n 0, 1) := by decide +kernel
theorem dX6_planGoes_47 : decode cX6_planGoes 47 = .ok (.iload_n 3, 1) := by decide +kernel
theorem dX6_planGoes_48 : decode cX6_planGoes 48 = .ok (.ifCond .le 16, 3) := by decide +kernel
theorem dX6_planGoes_51 : decode cX6_planGoes 51 = .ok (.aload_n 0, 1) := by decide +kernel
theorem dX6_planGoes_52 : decode cX6_planGoes 52 = .ok (.getfield 212, 3) := by decide +kernel
theorem dX6_planGoes_55 : decode cX6_planGoes 55 = .ok (.bipush (-4), 2) := by decide +kernel
theorem dX6_planGoes_57 : decode cX6_planGoes 57 = .ok (.if_icmp .ne 7, 3) := by decide +kernel
theorem dX6_planGoes_60 : decode cX6_planGoes 60 = .ok (.iload_n 2, 1) := by decide +kernel
theorem dX6_planGoes_61 : decode cX6_planGoes 61 = .ok (.goto 7, 3) := by decide +kernel
theorem dX6_planGoes_64 : decode cX6_planGoes 64 = .ok (.aload_n 0, 1) := by decide +kernel
theorem dX6_planGoes_65 : decode cX6_planGoes 65 = .ok (.getfield 212, 3) := by decide +kernel
theorem dX6_planGoes_68 : decode cX6_planGoes 68 = .ok (.putfield 212, 3) := by decide +kernel
theorem dX6_planGoes_71 : decode cX6_planGoes 71 = .ok (.iload_n 1, 1) := by decide +kernel
theorem dX6_planGoes_72 : decode cX6_planGoes 72 = .ok (.iload_n 3, 1) := by decide +kernel
theorem dX6_planGoes_73 : decode cX6_planGoes 73 = .ok (.iadd, 1) := by decide +kernel
theorem dX6_planGoes_74 : decode cX6_planGoes 74 = .ok (.istore_n 1, 1) := by decide +kernel
theorem dX6_planGoes_75 : decode cX6_planGoes 75 = .ok (.iinc 2 1, 3) := by decide +kernel
theorem dX6_planGoes_78 : decode cX6_planGoes 78 = .ok (.goto (-60), 3) := by decide +kernel
theorem dX6_planGoes_81 : decode cX6_planGoes 81 = .ok (.iload_n 1, 1) := by decide +kernel
theorem dX6_planGoes_82 : decode cX6_planGoes 82 = .ok (.ireturn, 1) := by decide +kernel
theorem dX6_runs_0 : decode cX6_runs 0 = .ok (.iload_n 1, 1) := by decide +kernel
theorem dX6_runs_1 : decode cX6_runs 1 = .ok (.i2l, 1) := by decide +kernel
theorem dX6_runs_2 : decode cX6_runs 2 = .ok (.lconst 0, 1) := by decide +kernel
theorem dX6_runs_3 : decode cX6_runs 3 = .ok (.ldc2_w 164, 3) := by decide +kernel
theorem dX6_runs_6 : decode cX6_runs 6 = .ok (.invokestatic 55, 3) := by decide +kernel
theorem dX6_runs_9 : decode cX6_runs 9 = .ok (.ifCond .ne 5, 3) := by decide +kernel
theorem dX6_runs_12 : decode cX6_runs 12 = .ok (.iconst (-1), 1) := by decide +kernel
theorem dX6_runs_13 : decode cX6_runs 13 = .ok (.ireturn, 1) := by decide +kernel
theorem dX6_runs_14 : decode cX6_runs 14 = .ok (.aload_n 0, 1) := by decide +kernel
theorem dX6_runs_15 : decode cX6_runs 15 = .ok (.invokevirtual 219, 3) := by decide +kernel
theorem dX6_runs_18 : decode cX6_runs 18 = .ok (.istore_n 2, 1) := by decide +kernel
theorem dX6_runs_19 : decode cX6_runs 19 = .ok (.iload_n 1, 1) := by decide +kernel
theorem dX6_runs_20 : decode cX6_runs 20 = .ok (.tableswitch 55 0 3 #[32, 34, 42, 47], 32) := by decide +kernel
theorem dX6_runs_52 : decode cX6_runs 52 = .ok (.iload_n 2, 1) := by decide +kernel
theorem dX6_runs_53 : decode cX6_runs 53 = .ok (.ireturn, 1) := by decide +kernel
theorem dX6_runs_54 : decode cX6_runs 54 = .ok (.aload_n 0, 1) := by decide +kernel
theorem dX6_runs_55 : decode cX6_runs 55 = .ok (.sipush 276, 3) := by decide +kernel
theorem dX6_runs_58 : decode cX6_runs 58 = .ok (.invokevirtual 157, 3) := by decide +kernel
theorem dX6_runs_61 : decode cX6_runs 61 = .ok (.ireturn, 1) := by decide +kernel
theorem dX6_runs_62 : decode cX6_runs 62 = .ok (.aload_n 0, 1) := by decide +kernel
theorem dX6_runs_63 : decode cX6_runs 63 = .ok (.getfield 212, 3) := by decide +kernel
theorem dX6_runs_66 : decode cX6_runs 66 = .ok (.ireturn, 1) := by decide +kernel
theorem dX6_runs_67 : decode cX6_runs 67 = .ok (.aload_n 0, 1) := by decide +kernel
theorem dX6_runs_68 : decode cX6_runs 68 = .ok (.sipush 276, 3) := by decide +kernel
theorem dX6_runs_71 : decode cX6_runs 71 = .ok (.invokevirtual 222, 3) := by decide +kernel
theorem dX6_runs_74 : decode cX6_runs 74 = .ok (.ireturn, 1) := by decide +kernel
theorem dX6_runs_75 : decode cX6_runs 75 = .ok (.aload_n 0, 1) := by decide +kernel
theorem dX6_runs_76 : decode cX6_runs 76 = .ok (.sipush 276, 3) := by decide +kernel
theorem dX6_runs_79 : decode cX6_runs 79 = .ok (.invokevirtual 225, 3) := by decide +kernel
theorem dX6_runs_82 : decode cX6_runs 82 = .ok (.ireturn, 1) := by decide +kernel
theorem dX6_ahead_0 : decode cX6_ahead 0 = .ok (.aload_n 0, 1) := by decide +kernel
theorem dX6_ahead_1 : decode cX6_ahead 1 = .ok (.iload_n 1, 1) := by decide +kernel
theorem dX6_ahead_2 : decode cX6_ahead 2 = .ok (.invokevirtual 160, 3) := by decide +kernel
theorem dX6_ahead_5 : decode cX6_ahead 5 = .ok (.ifCond .ne 5, 3) := by decide +kernel
theorem dX6_ahead_8 : decode cX6_ahead 8 = .ok (.iconst (-1), 1) := by decide +kernel
theorem dX6_ahead_9 : decode cX6_ahead 9 = .ok (.ireturn, 1) := by decide +kernel
theorem dX6_ahead_10 : decode cX6_ahead 10 = .ok (.aload_n 0, 1) := by decide +kernel
theorem dX6_ahead_11 : decode cX6_ahead 11 = .ok (.invokevirtual 219, 3) := by decide +kernel
theorem dX6_ahead_14 : decode cX6_ahead 14 = .ok (.pop, 1) := by decide +kernel
theorem dX6_ahead_15 : decode cX6_ahead 15 = .ok (.aload_n 0, 1) := by decide +kernel
theorem dX6_ahead_16 : decode cX6_ahead 16 = .ok (.getfield 7, 3) := by decide +kernel
theorem dX6_ahead_19 : decode cX6_ahead 19 = .ok (.sipush 284, 3) := by decide +kernel
theorem dX6_ahead_22 : decode cX6_ahead 22 = .ok (.iload_n 1, 1) := by decide +kernel
theorem dX6_ahead_23 : decode cX6_ahead 23 = .ok (.iadd, 1) := by decide +kernel
theorem dX6_ahead_24 : decode cX6_ahead 24 = .ok (.iaload, 1) := by decide +kernel
theorem dX6_ahead_25 : decode cX6_ahead 25 = .ok (.ireturn, 1) := by decide +kernel
theorem dX6_powerOf_0 : decode cX6_powerOf 0 = .ok (.iconst 1, 1) := by decide +kernel
theorem dX6_powerOf_1 : decode cX6_powerOf 1 = .ok (.iconst 2, 1) := by decide +kernel
theorem dX6_powerOf_2 : decode cX6_powerOf 2 = .ok (.iload_n 0, 1) := by decide +kernel
theorem dX6_powerOf_3 : decode cX6_powerOf 3 = .ok (.imul, 1) := by decide +kernel
theorem dX6_powerOf_4 : decode cX6_powerOf 4 = .ok (.ishl, 1) := by decide +kernel
theorem dX6_powerOf_5 : decode cX6_powerOf 5 = .ok (.ireturn, 1) := by decide +kernel
theorem dX6_skyFrom_0 : decode cX6_skyFrom 0 = .ok (.aload_n 0, 1) := by decide +kernel
theorem dX6_skyFrom_1 : decode cX6_skyFrom 1 = .ok (.iload_n 1, 1) := by decide +kernel
theorem dX6_skyFrom_2 : decode cX6_skyFrom 2 = .ok (.sipush 276, 3) := by decide +kernel
theorem dX6_skyFrom_5 : decode cX6_skyFrom 5 = .ok (.invokevirtual 215, 3) := by decide +kernel
theorem dX6_skyFrom_8 : decode cX6_skyFrom 8 = .ok (.iconst 0, 1) := by decide +kernel
theorem dX6_skyFrom_9 : decode cX6_skyFrom 9 = .ok (.istore 4, 2) := by decide +kernel
theorem dX6_skyFrom_11 : decode cX6_skyFrom 11 = .ok (.iload 4, 2) := by decide +kernel
theorem dX6_skyFrom_13 : decode cX6_skyFrom 13 = .ok (.iload_n 3, 1) := by decide +kernel
theorem dX6_skyFrom_14 : decode cX6_skyFrom 14 = .ok (.if_icmp .ge 29, 3) := by decide +kernel
theorem dX6_skyFrom_17 : decode cX6_skyFrom 17 = .ok (.aload_n 0, 1) := by decide +kernel
theorem dX6_skyFrom_18 : decode cX6_skyFrom 18 = .ok (.sipush 276, 3) := by decide +kernel
theorem dX6_skyFrom_21 : decode cX6_skyFrom 21 = .ok (.iload_n 2, 1) := by decide +kernel
theorem dX6_skyFrom_22 : decode cX6_skyFrom 22 = .ok (.iconst 2, 1) := by decide +kernel
theorem dX6_skyFrom_23 : decode cX6_skyFrom 23 = .ok (.iload_n 3, 1) := by decide +kernel
theorem dX6_skyFrom_24 : decode cX6_skyFrom 24 = .ok (.iconst 1, 1) := by decide +kernel
theorem dX6_skyFrom_25 : decode cX6_skyFrom 25 = .ok (.isub, 1) := by decide +kernel
theorem dX6_skyFrom_26 : decode cX6_skyFrom 26 = .ok (.iload 4, 2) := by decide +kernel
theorem dX6_skyFrom_28 : decode cX6_skyFrom 28 = .ok (.isub, 1) := by decide +kernel
theorem dX6_skyFrom_29 : decode cX6_skyFrom 29 = .ok (.imul, 1) := by decide +kernel
theorem dX6_skyFrom_30 : decode cX6_skyFrom 30 = .ok (.ishr, 1) := by decide +kernel
theorem dX6_skyFrom_31 : decode cX6_skyFrom 31 = .ok (.iconst 3, 1) := by decide +kernel
theorem dX6_skyFrom_32 : decode cX6_skyFrom 32 = .ok (.iand, 1) := by decide +kernel
theorem dX6_skyFrom_33 : decode cX6_skyFrom 33 = .ok (.invokevirtual 206, 3) := by decide +kernel
theorem dX6_skyFrom_36 : decode cX6_skyFrom 36 = .ok (.pop, 1) := by decide +kernel
theorem dX6_skyFrom_37 : decode cX6_skyFrom 37 = .ok (.iinc 4 1, 3) := by decide +kernel
theorem dX6_skyFrom_40 : decode cX6_skyFrom 40 = .ok (.goto (-29), 3) := by decide +kernel
theorem dX6_skyFrom_43 : decode cX6_skyFrom 43 = .ok (.return_, 1) := by decide +kernel
theorem dX6_least_0 : decode cX6_least 0 = .ok (.aload_n 0, 1) := by decide +kernel
theorem dX6_least_1 : decode cX6_least 1 = .ok (.iload_n 1, 1) := by decide +kernel
theorem dX6_least_2 : decode cX6_least 2 = .ok (.invokevirtual 160, 3) := by decide +kernel
theorem dX6_least_5 : decode cX6_least 5 = .ok (.ifCond .eq 27, 3) := by decide +kernel
theorem dX6_least_8 : decode cX6_least 8 = .ok (.iload_n 2, 1) := by decide +kernel
theorem dX6_least_9 : decode cX6_least 9 = .ok (.i2l, 1) := by decide +kernel
theorem dX6_least_10 : decode cX6_least 10 = .ok (.lconst 0, 1) := by decide +kernel
theorem dX6_least_11 : decode cX6_least 11 = .ok (.ldc2_w 164, 3) := by decide +kernel
theorem dX6_least_14 : decode cX6_least 14 = .ok (.invokestatic 55, 3) := by decide +kernel
theorem dX6_least_17 : decode cX6_least 17 = .ok (.ifCond .eq 15, 3) := by decide +kernel
theorem dX6_least_20 : decode cX6_least 20 = .ok (.iload_n 3, 1) := by decide +kernel
theorem dX6_least_21 : decode cX6_least 21 = .ok (.i2l, 1) := by decide +kernel
theorem dX6_least_22 : decode cX6_least 22 = .ok (.lconst 0, 1) := by decide +kernel
theorem dX6_least_23 : decode cX6_least 23 = .ok (.ldc2_w 228, 3) := by decide +kernel
theorem dX6_least_26 : decode cX6_least 26 = .ok (.invokestatic 55, 3) := by decide +kernel
theorem dX6_least_29 : decode cX6_least 29 = .ok (.ifCond .ne 5, 3) := by decide +kernel
theorem dX6_least_32 : decode cX6_least 32 = .ok (.iconst (-1), 1) := by decide +kernel
theorem dX6_least_33 : decode cX6_least 33 = .ok (.ireturn, 1) := by decide +kernel
theorem dX6_least_34 : decode cX6_least 34 = .ok (.ldc 230, 2) := by decide +kernel
theorem dX6_least_36 : decode cX6_least 36 = .ok (.istore 4, 2) := by decide +kernel
theorem dX6_least_38 : decode cX6_least 38 = .ok (.iconst 0, 1) := by decide +kernel
theorem dX6_least_39 : decode cX6_least 39 = .ok (.istore 5, 2) := by decide +kernel
theorem dX6_least_41 : decode cX6_least 41 = .ok (.iconst 0, 1) := by decide +kernel
theorem dX6_least_42 : decode cX6_least 42 = .ok (.istore 6, 2) := by decide +kernel
theorem dX6_least_44 : decode cX6_least 44 = .ok (.iconst 0, 1) := by decide +kernel
theorem dX6_least_45 : decode cX6_least 45 = .ok (.istore 7, 2) := by decide +kernel
theorem dX6_least_47 : decode cX6_least 47 = .ok (.iload 7, 2) := by decide +kernel
theorem dX6_least_49 : decode cX6_least 49 = .ok (.iload_n 2, 1) := by decide +kernel
theorem dX6_least_50 : decode cX6_least 50 = .ok (.invokestatic 231, 3) := by decide +kernel
theorem dX6_least_53 : decode cX6_least 53 = .ok (.if_icmp .ge 77, 3) := by decide +kernel
theorem dX6_least_56 : decode cX6_least 56 = .ok (.aload_n 0, 1) := by decide +kernel
theorem dX6_least_57 : decode cX6_least 57 = .ok (.iconst 0, 1) := by decide +kernel
theorem dX6_least_58 : decode cX6_least 58 = .ok (.iload 7, 2) := by decide +kernel
theorem dX6_least_60 : decode cX6_least 60 = .ok (.iload_n 2, 1) := by decide +kernel
theorem dX6_least_61 : decode cX6_least 61 = .ok (.invokevirtual 234, 3) := by decide +kernel
theorem dX6_least_64 : decode cX6_least 64 = .ok (.aload_n 0, 1) := by decide +kernel
theorem dX6_least_65 : decode cX6_least 65 = .ok (.getfield 7, 3) := by decide +kernel
theorem dX6_least_68 : decode cX6_least 68 = .ok (.sipush 284, 3) := by decide +kernel
theorem dX6_least_71 : decode cX6_least 71 = .ok (.iload_n 1, 1) := by decide +kernel
theorem dX6_least_72 : decode cX6_least 72 = .ok (.iadd, 1) := by decide +kernel
theorem dX6_least_73 : decode cX6_least 73 = .ok (.iaload, 1) := by decide +kernel
theorem dX6_least_74 : decode cX6_least 74 = .ok (.istore 8, 2) := by decide +kernel
theorem dX6_least_76 : decode cX6_least 76 = .ok (.iload 8, 2) := by decide +kernel
theorem dX6_least_78 : decode cX6_least 78 = .ok (.iload 4, 2) := by decide +kernel
theorem dX6_least_80 : decode cX6_least 80 = .ok (.if_icmp .ge 8, 3) := by decide +kernel
theorem dX6_least_83 : decode cX6_least 83 = .ok (.iload 7, 2) := by decide +kernel
theorem dX6_least_85 : decode cX6_least 85 = .ok (.goto 5, 3) := by decide +kernel
theorem dX6_least_88 : decode cX6_least 88 = .ok (.iload 5, 2) := by decide +kernel
theorem dX6_least_90 : decode cX6_least 90 = .ok (.istore 5, 2) := by decide +kernel
theorem dX6_least_92 : decode cX6_least 92 = .ok (.iload 8, 2) := by decide +kernel
theorem dX6_least_94 : decode cX6_least 94 = .ok (.iload 4, 2) := by decide +kernel
theorem dX6_least_96 : decode cX6_least 96 = .ok (.if_icmp .ge 8, 3) := by decide +kernel
theorem dX6_least_99 : decode cX6_least 99 = .ok (.iload 8, 2) := by decide +kernel
theorem dX6_least_101 : decode cX6_least 101 = .ok (.goto 5, 3) := by decide +kernel
theorem dX6_least_104 : decode cX6_least 104 = .ok (.iload 4, 2) := by decide +kernel
theorem dX6_least_106 : decode cX6_least 106 = .ok (.istore 4, 2) := by decide +kernel
theorem dX6_least_108 : decode cX6_least 108 = .ok (.iload 8, 2) := by decide +kernel
theorem dX6_least_110 : decode cX6_least 110 = .ok (.iload 6, 2) := by decide +kernel
theorem dX6_least_112 : decode cX6_least 112 = .ok (.if_icmp .le 8, 3) := by decide +kernel
theorem dX6_least_115 : decode cX6_least 115 = .ok (.iload 8, 2) := by decide +kernel
theorem dX6_least_117 : decode cX6_least 117 = .ok (.goto 5, 3) := by decide +kernel
theorem dX6_least_120 : decode cX6_least 120 = .ok (.iload 6, 2) := by decide +kernel
theorem dX6_least_122 : decode cX6_least 122 = .ok (.istore 6, 2) := by decide +kernel
theorem dX6_least_124 : decode cX6_least 124 = .ok (.iinc 7 1, 3) := by decide +kernel
theorem dX6_least_127 : decode cX6_least 127 = .ok (.goto (-80), 3) := by decide +kernel
theorem dX6_least_130 : decode cX6_least 130 = .ok (.iload_n 3, 1) := by decide +kernel
theorem dX6_least_131 : decode cX6_least 131 = .ok (.ifCond .ne 8, 3) := by decide +kernel
theorem dX6_least_134 : decode cX6_least 134 = .ok (.iload 4, 2) := by decide +kernel
theorem dX6_least_136 : decode cX6_least 136 = .ok (.goto 15, 3) := by decide +kernel
theorem dX6_least_139 : decode cX6_least 139 = .ok (.iload_n 3, 1) := by decide +kernel
theorem dX6_least_140 : decode cX6_least 140 = .ok (.iconst 1, 1) := by decide +kernel
theorem dX6_least_141 : decode cX6_least 141 = .ok (.if_icmp .ne 8, 3) := by decide +kernel
theorem dX6_least_144 : decode cX6_least 144 = .ok (.iload 5, 2) := by decide +kernel
theorem dX6_least_146 : decode cX6_least 146 = .ok (.goto 5, 3) := by decide +kernel
theorem dX6_least_149 : decode cX6_least 149 = .ok (.iload 6, 2) := by decide +kernel
theorem dX6_least_151 : decode cX6_least 151 = .ok (.ireturn, 1) := by decide +kernel
theorem dX6_safeFrom_0 : decode cX6_safeFrom 0 = .ok (.iconst 1, 1) := by decide +kernel
theorem dX6_safeFrom_1 : decode cX6_safeFrom 1 = .ok (.aload_n 0, 1) := by decide +kernel
theorem dX6_safeFrom_2 : decode cX6_safeFrom 2 = .ok (.getfield 148, 3) := by decide +kernel
theorem dX6_safeFrom_5 : decode cX6_safeFrom 5 = .ok (.ishl, 1) := by decide +kernel
theorem dX6_safeFrom_6 : decode cX6_safeFrom 6 = .ok (.iconst 1, 1) := by decide +kernel
theorem dX6_safeFrom_7 : decode cX6_safeFrom 7 = .ok (.isub, 1) := by decide +kernel
theorem dX6_safeFrom_8 : decode cX6_safeFrom 8 = .ok (.istore_n 3, 1) := by decide +kernel
theorem dX6_safeFrom_9 : decode cX6_safeFrom 9 = .ok (.iconst 0, 1) := by decide +kernel
theorem dX6_safeFrom_10 : decode cX6_safeFrom 10 = .ok (.istore 4, 2) := by decide +kernel
theorem dX6_safeFrom_12 : decode cX6_safeFrom 12 = .ok (.iload 4, 2) := by decide +kernel
theorem dX6_safeFrom_14 : decode cX6_safeFrom 14 = .ok (.iload_n 2, 1) := by decide +kernel
theorem dX6_safeFrom_15 : decode cX6_safeFrom 15 = .ok (.invokestatic 231, 3) := by decide +kernel
theorem dX6_safeFrom_18 : decode cX6_safeFrom 18 = .ok (.if_icmp .ge 29, 3) := by decide +kernel
theorem dX6_safeFrom_21 : decode cX6_safeFrom 21 = .ok (.aload_n 0, 1) := by decide +kernel
theorem dX6_safeFrom_22 : decode cX6_safeFrom 22 = .ok (.iload_n 1, 1) := by decide +kernel
theorem dX6_safeFrom_23 : decode cX6_safeFrom 23 = .ok (.iload 4, 2) := by decide +kernel
theorem dX6_safeFrom_25 : decode cX6_safeFrom 25 = .ok (.iload_n 2, 1) := by decide +kernel
theorem dX6_safeFrom_26 : decode cX6_safeFrom 26 = .ok (.invokevirtual 234, 3) := by decide +kernel
theorem dX6_safeFrom_29 : decode cX6_safeFrom 29 = .ok (.iload_n 3, 1) := by decide +kernel
theorem dX6_safeFrom_30 : decode cX6_safeFrom 30 = .ok (.aload_n 0, 1) := by decide +kernel
theorem dX6_safeFrom_31 : decode cX6_safeFrom 31 = .ok (.sipush 276, 3) := by decide +kernel
theorem dX6_safeFrom_34 : decode cX6_safeFrom 34 = .ok (.invokevirtual 157, 3) := by decide +kernel
theorem dX6_safeFrom_37 : decode cX6_safeFrom 37 = .ok (.iconst (-1), 1) := by decide +kernel
theorem dX6_safeFrom_38 : decode cX6_safeFrom 38 = .ok (.ixor, 1) := by decide +kernel
theorem dX6_safeFrom_39 : decode cX6_safeFrom 39 = .ok (.iand, 1) := by decide +kernel
theorem dX6_safeFrom_40 : decode cX6_safeFrom 40 = .ok (.istore_n 3, 1) := by decide +kernel
theorem dX6_safeFrom_41 : decode cX6_safeFrom 41 = .ok (.iinc 4 1, 3) := by decide +kernel
theorem dX6_safeFrom_44 : decode cX6_safeFrom 44 = .ok (.goto (-32), 3) := by decide +kernel
theorem dX6_safeFrom_47 : decode cX6_safeFrom 47 = .ok (.iload_n 3, 1) := by decide +kernel
theorem dX6_safeFrom_48 : decode cX6_safeFrom 48 = .ok (.ireturn, 1) := by decide +kernel
theorem dX6_safe_0 : decode cX6_safe 0 = .ok (.iload_n 1, 1) := by decide +kernel
theorem dX6_safe_1 : decode cX6_safe 1 = .ok (.i2l, 1) := by decide +kernel
theorem dX6_safe_2 : decode cX6_safe 2 = .ok (.lconst 0, 1) := by decide +kernel
theorem dX6_safe_3 : decode cX6_safe 3 = .ok (.ldc2_w 164, 3) := by decide +kernel
theorem dX6_safe_6 : decode cX6_safe 6 = .ok (.invokestatic 55, 3) := by decide +kernel
theorem dX6_safe_9 : decode cX6_safe 9 = .ok (.ifCond .eq 12, 3) := by decide +kernel
theorem dX6_safe_12 : decode cX6_safe 12 = .ok (.aload_n 0, 1) := by decide +kernel
theorem dX6_safe_13 : decode cX6_safe 13 = .ok (.iconst 0, 1) := by decide +kernel
theorem dX6_safe_14 : decode cX6_safe 14 = .ok (.iload_n 1, 1) := by decide +kernel
theorem dX6_safe_15 : decode cX6_safe 15 = .ok (.invokevirtual 238, 3) := by decide +kernel
theorem dX6_safe_18 : decode cX6_safe 18 = .ok (.goto 4, 3) := by decide +kernel
theorem dX6_safe_21 : decode cX6_safe 21 = .ok (.iconst (-1), 1) := by decide +kernel
theorem dX6_safe_22 : decode cX6_safe 22 = .ok (.ireturn, 1) := by decide +kernel
theorem dX6_fair_0 : decode cX6_fair 0 = .ok (.aload_n 0, 1) := by decide +kernel
theorem dX6_fair_1 : decode cX6_fair 1 = .ok (.iload_n 1, 1) := by decide +kernel
theorem dX6_fair_2 : decode cX6_fair 2 = .ok (.invokevirtual 175, 3) := by decide +kernel
theorem dX6_fair_5 : decode cX6_fair 5 = .ok (.ifCond .ne 5, 3) := by decide +kernel
theorem dX6_fair_8 : decode cX6_fair 8 = .ok (.iconst (-1), 1) := by decide +kernel
theorem dX6_fair_9 : decode cX6_fair 9 = .ok (.ireturn, 1) := by decide +kernel
theorem dX6_fair_10 : decode cX6_fair 10 = .ok (.aload_n 0, 1) := by decide +kernel
theorem dX6_fair_11 : decode cX6_fair 11 = .ok (.getfield 7, 3) := by decide +kernel
theorem dX6_fair_14 : decode cX6_fair 14 = .ok (.bipush 12, 2) := by decide +kernel
theorem dX6_fair_16 : decode cX6_fair 16 = .ok (.iconst 5, 1) := by decide +kernel
theorem dX6_fair_17 : decode cX6_fair 17 = .ok (.iload_n 1, 1) := by decide +kernel
theorem dX6_fair_18 : decode cX6_fair 18 = .ok (.imul, 1) := by decide +kernel
theorem dX6_fair_19 : decode cX6_fair 19 = .ok (.iadd, 1) := by decide +kernel
theorem dX6_fair_20 : decode cX6_fair 20 = .ok (.iconst 3, 1) := by decide +kernel
theorem dX6_fair_21 : decode cX6_fair 21 = .ok (.iadd, 1) := by decide +kernel
theorem dX6_fair_22 : decode cX6_fair 22 = .ok (.iaload, 1) := by decide +kernel
theorem dX6_fair_23 : decode cX6_fair 23 = .ok (.aload_n 0, 1) := by decide +kernel
theorem dX6_fair_24 : decode cX6_fair 24 = .ok (.aload_n 0, 1) := by decide +kernel
theorem dX6_fair_25 : decode cX6_fair 25 = .ok (.getfield 7, 3) := by decide +kernel
theorem dX6_fair_28 : decode cX6_fair 28 = .ok (.bipush 12, 2) := by decide +kernel
theorem dX6_fair_30 : decode cX6_fair 30 = .ok (.iconst 5, 1) := by decide +kernel
theorem dX6_fair_31 : decode cX6_fair 31 = .ok (.iload_n 1, 1) := by decide +kernel
theorem dX6_fair_32 : decode cX6_fair 32 = .ok (.imul, 1) := by decide +kernel
theorem dX6_fair_33 : decode cX6_fair 33 = .ok (.iadd, 1) := by decide +kernel
theorem dX6_fair_34 : decode cX6_fair 34 = .ok (.iconst 2, 1) := by decide +kernel
theorem dX6_fair_35 : decode cX6_fair 35 = .ok (.iadd, 1) := by decide +kernel
theorem dX6_fair_36 : decode cX6_fair 36 = .ok (.iaload, 1) := by decide +kernel
theorem dX6_fair_37 : decode cX6_fair 37 = .ok (.invokevirtual 178, 3) := by decide +kernel
theorem dX6_fair_40 : decode cX6_fair 40 = .ok (.imul, 1) := by decide +kernel
theorem dX6_fair_41 : decode cX6_fair 41 = .ok (.bipush 9, 2) := by decide +kernel
theorem dX6_fair_43 : decode cX6_fair 43 = .ok (.iadd, 1) := by decide +kernel
theorem dX6_fair_44 : decode cX6_fair 44 = .ok (.bipush 10, 2) := by decide +kernel
theorem dX6_fair_46 : decode cX6_fair 46 = .ok (.idiv, 1) := by decide +kernel
theorem dX6_fair_47 : decode cX6_fair 47 = .ok (.ireturn, 1) := by decide +kernel
theorem dX6_bitsOf_0 : decode cX6_bitsOf 0 = .ok (.iconst 0, 1) := by decide +kernel
theorem dX6_bitsOf_1 : decode cX6_bitsOf 1 = .ok (.istore_n 1, 1) := by decide +kernel
theorem dX6_bitsOf_2 : decode cX6_bitsOf 2 = .ok (.iconst 0, 1) := by decide +kernel
theorem dX6_bitsOf_3 : decode cX6_bitsOf 3 = .ok (.istore_n 2, 1) := by decide +kernel
theorem dX6_bitsOf_4 : decode cX6_bitsOf 4 = .ok (.iload_n 2, 1) := by decide +kernel
theorem dX6_bitsOf_5 : decode cX6_bitsOf 5 = .ok (.iconst 4, 1) := by decide +kernel
theorem dX6_bitsOf_6 : decode cX6_bitsOf 6 = .ok (.if_icmp .ge 17, 3) := by decide +kernel
theorem dX6_bitsOf_9 : decode cX6_bitsOf 9 = .ok (.iload_n 1, 1) := by decide +kernel
theorem dX6_bitsOf_10 : decode cX6_bitsOf 10 = .ok (.iload_n 0, 1) := by decide +kernel
theorem dX6_bitsOf_11 : decode cX6_bitsOf 11 = .ok (.iload_n 2, 1) := by decide +kernel
theorem dX6_bitsOf_12 : decode cX6_bitsOf 12 = .ok (.ishr, 1) := by decide +kernel
theorem dX6_bitsOf_13 : decode cX6_bitsOf 13 = .ok (.iconst 1, 1) := by decide +kernel
theorem dX6_bitsOf_14 : decode cX6_bitsOf 14 = .ok (.iand, 1) := by decide +kernel
theorem dX6_bitsOf_15 : decode cX6_bitsOf 15 = .ok (.iadd, 1) := by decide +kernel
theorem dX6_bitsOf_16 : decode cX6_bitsOf 16 = .ok (.istore_n 1, 1) := by decide +kernel
theorem dX6_bitsOf_17 : decode cX6_bitsOf 17 = .ok (.iinc 2 1, 3) := by decide +kernel
theorem dX6_bitsOf_20 : decode cX6_bitsOf 20 = .ok (.goto (-16), 3) := by decide +kernel
theorem dX6_bitsOf_23 : decode cX6_bitsOf 23 = .ok (.iload_n 1, 1) := by decide +kernel
theorem dX6_bitsOf_24 : decode cX6_bitsOf 24 = .ok (.ireturn, 1) := by decide +kernel
theorem dX6_help_0 : decode cX6_help 0 = .ok (.iload_n 1, 1) := by decide +kernel
theorem dX6_help_1 : decode cX6_help 1 = .ok (.i2l, 1) := by decide +kernel
theorem dX6_help_2 : decode cX6_help 2 = .ok (.lconst 1, 1) := by decide +kernel
theorem dX6_help_3 : decode cX6_help 3 = .ok (.ldc2_w 189, 3) := by decide +kernel
theorem dX6_help_6 : decode cX6_help 6 = .ok (.invokestatic 55, 3) := by decide +kernel
theorem dX6_help_9 : decode cX6_help 9 = .ok (.ifCond .eq 13, 3) := by decide +kernel
theorem dX6_help_12 : decode cX6_help 12 = .ok (.iload_n 2, 1) := by decide +kernel
theorem dX6_help_13 : decode cX6_help 13 = .ok (.i2l, 1) := by decide +kernel
theorem dX6_help_14 : decode cX6_help 14 = .ok (.lconst 0, 1) := by decide +kernel
theorem dX6_help_15 : decode cX6_help 15 = .ok (.lconst 1, 1) := by decide +kernel
theorem dX6_help_16 : decode cX6_help 16 = .ok (.invokestatic 55, 3) := by decide +kernel
theorem dX6_help_19 : decode cX6_help 19 = .ok (.ifCond .ne 5, 3) := by decide +kernel
theorem dX6_help_22 : decode cX6_help 22 = .ok (.iconst (-1), 1) := by decide +kernel
theorem dX6_help_23 : decode cX6_help 23 = .ok (.ireturn, 1) := by decide +kernel
theorem dX6_help_24 : decode cX6_help 24 = .ok (.aload_n 0, 1) := by decide +kernel
theorem dX6_help_25 : decode cX6_help 25 = .ok (.getfield 7, 3) := by decide +kernel
theorem dX6_help_28 : decode cX6_help 28 = .ok (.bipush 37, 2) := by decide +kernel
theorem dX6_help_30 : decode cX6_help 30 = .ok (.iaload, 1) := by decide +kernel
theorem dX6_help_31 : decode cX6_help 31 = .ok (.iconst 5, 1) := by decide +kernel
theorem dX6_help_32 : decode cX6_help 32 = .ok (.if_icmp .ne 6, 3) := by decide +kernel
theorem dX6_help_35 : decode cX6_help 35 = .ok (.bipush (-3), 2) := by decide +kernel
theorem dX6_help_37 : decode cX6_help 37 = .ok (.ireturn, 1) := by decide +kernel
theorem dX6_help_38 : decode cX6_help 38 = .ok (.aload_n 0, 1) := by decide +kernel
theorem dX6_help_39 : decode cX6_help 39 = .ok (.iconst 0, 1) := by decide +kernel
theorem dX6_help_40 : decode cX6_help 40 = .ok (.iconst 3, 1) := by decide +kernel
theorem dX6_help_41 : decode cX6_help 41 = .ok (.invokevirtual 238, 3) := by decide +kernel
theorem dX6_help_44 : decode cX6_help 44 = .ok (.invokestatic 241, 3) := by decide +kernel
theorem dX6_help_47 : decode cX6_help 47 = .ok (.istore_n 3, 1) := by decide +kernel
theorem dX6_help_48 : decode cX6_help 48 = .ok (.bipush (-4), 2) := by decide +kernel
theorem dX6_help_50 : decode cX6_help 50 = .ok (.istore 4, 2) := by decide +kernel
theorem dX6_help_52 : decode cX6_help 52 = .ok (.aload_n 0, 1) := by decide +kernel
theorem dX6_help_53 : decode cX6_help 53 = .ok (.iconst 0, 1) := by decide +kernel
theorem dX6_help_54 : decode cX6_help 54 = .ok (.sipush 345, 3) := by decide +kernel
theorem dX6_help_57 : decode cX6_help 57 = .ok (.invokevirtual 215, 3) := by decide +kernel
theorem dX6_help_60 : decode cX6_help 60 = .ok (.iconst 0, 1) := by decide +kernel
theorem dX6_help_61 : decode cX6_help 61 = .ok (.istore 5, 2) := by decide +kernel
theorem dX6_help_63 : decode cX6_help 63 = .ok (.iload 5, 2) := by decide +kernel
theorem dX6_help_65 : decode cX6_help 65 = .ok (.bipush 64, 2) := by decide +kernel
theorem dX6_help_67 : decode cX6_help 67 = .ok (.if_icmp .ge 124, 3) := by decide +kernel
theorem dX6_help_70 : decode cX6_help 70 = .ok (.iload 5, 2) := by decide +kernel
theorem dX6_help_72 : decode cX6_help 72 = .ok (.bipush 16, 2) := by decide +kernel
theorem dX6_help_74 : decode cX6_help 74 = .ok (.idiv, 1) := by decide +kernel
theorem dX6_help_75 : decode cX6_help 75 = .ok (.istore 6, 2) := by decide +kernel
theorem dX6_help_77 : decode cX6_help 77 = .ok (.iload 5, 2) := by decide +kernel
theorem dX6_help_79 : decode cX6_help 79 = .ok (.iconst 4, 1) := by decide +kernel
theorem dX6_help_80 : decode cX6_help 80 = .ok (.idiv, 1) := by decide +kernel
theorem dX6_help_81 : decode cX6_help 81 = .ok (.iconst 4, 1) := by decide +kernel
theorem dX6_help_82 : decode cX6_help 82 = .ok (.irem, 1) := by decide +kernel
theorem dX6_help_83 : decode cX6_help 83 = .ok (.istore 7, 2) := by decide +kernel
theorem dX6_help_85 : decode cX6_help 85 = .ok (.aload_n 0, 1) := by decide +kernel
theorem dX6_help_86 : decode cX6_help 86 = .ok (.iload 6, 2) := by decide +kernel
theorem dX6_help_88 : decode cX6_help 88 = .ok (.invokevirtual 160, 3) := by decide +kernel
theorem dX6_help_91 : decode cX6_help 91 = .ok (.ifCond .eq 94, 3) := by decide +kernel
theorem dX6_help_94 : decode cX6_help 94 = .ok (.aload_n 0, 1) := by decide +kernel
theorem dX6_help_95 : decode cX6_help 95 = .ok (.iload 7, 2) := by decide +kernel
theorem dX6_help_97 : decode cX6_help 97 = .ok (.invokevirtual 160, 3) := by decide +kernel
theorem dX6_help_100 : decode cX6_help 100 = .ok (.ifCond .eq 85, 3) := by decide +kernel
theorem dX6_help_103 : decode cX6_help 103 = .ok (.iload 6, 2) := by decide +kernel
theorem dX6_help_105 : decode cX6_help 105 = .ok (.iload 7, 2) := by decide +kernel
theorem dX6_help_107 : decode cX6_help 107 = .ok (.if_icmp .eq 78, 3) := by decide +kernel
theorem dX6_help_110 : decode cX6_help 110 = .ok (.aload_n 0, 1) := by decide +kernel
theorem dX6_help_111 : decode cX6_help 111 = .ok (.iload 6, 2) := by decide +kernel
theorem dX6_help_113 : decode cX6_help 113 = .ok (.iload 7, 2) := by decide +kernel
theorem dX6_help_115 : decode cX6_help 115 = .ok (.iload 5, 2) := by decide +kernel
theorem dX6_help_117 : decode cX6_help 117 = .ok (.iconst 4, 1) := by decide +kernel
theorem dX6_help_118 : decode cX6_help 118 = .ok (.irem, 1) := by decide +kernel
theorem dX6_help_119 : decode cX6_help 119 = .ok (.iload_n 1, 1) := by decide +kernel
theorem dX6_help_120 : decode cX6_help 120 = .ok (.iconst 0, 1) := by decide +kernel
theorem dX6_help_121 : decode cX6_help 121 = .ok (.invokevirtual 193, 3) := by decide +kernel
theorem dX6_help_124 : decode cX6_help 124 = .ok (.aload_n 0, 1) := by decide +kernel
theorem dX6_help_125 : decode cX6_help 125 = .ok (.iconst 0, 1) := by decide +kernel
theorem dX6_help_126 : decode cX6_help 126 = .ok (.iconst 3, 1) := by decide +kernel
theorem dX6_help_127 : decode cX6_help 127 = .ok (.invokevirtual 238, 3) := by decide +kernel
theorem dX6_help_130 : decode cX6_help 130 = .ok (.invokestatic 241, 3) := by decide +kernel
theorem dX6_help_133 : decode cX6_help 133 = .ok (.istore 8, 2) := by decide +kernel
theorem dX6_help_135 : decode cX6_help 135 = .ok (.iload 8, 2) := by decide +kernel
theorem dX6_help_137 : decode cX6_help 137 = .ok (.iload_n 3, 1) := by decide +kernel
theorem dX6_help_138 : decode cX6_help 138 = .ok (.if_icmp .le 22, 3) := by decide +kernel
theorem dX6_help_141 : decode cX6_help 141 = .ok (.bipush 100, 2) := by decide +kernel
theorem dX6_help_143 : decode cX6_help 143 = .ok (.iload 6, 2) := by decide +kernel
theorem dX6_help_145 : decode cX6_help 145 = .ok (.imul, 1) := by decide +kernel
theorem dX6_help_146 : decode cX6_help 146 = .ok (.bipush 10, 2) := by decide +kernel
theorem dX6_help_148 : decode cX6_help 148 = .ok (.iload 7, 2) := by decide +kernel
theorem dX6_help_150 : decode cX6_help 150 = .ok (.imul, 1) := by decide +kernel
theorem dX6_help_151 : decode cX6_help 151 = .ok (.iadd, 1) := by decide +kernel
theorem dX6_help_152 : decode cX6_help 152 = .ok (.iload 5, 2) := by decide +kernel
theorem dX6_help_154 : decode cX6_help 154 = .ok (.iconst 4, 1) := by decide +kernel
theorem dX6_help_155 : decode cX6_help 155 = .ok (.irem, 1) := by decide +kernel
theorem dX6_help_156 : decode cX6_help 156 = .ok (.iadd, 1) := by decide +kernel
theorem dX6_help_157 : decode cX6_help 157 = .ok (.goto 5, 3) := by decide +kernel
theorem dX6_help_160 : decode cX6_help 160 = .ok (.iload 4, 2) := by decide +kernel
theorem dX6_help_162 : decode cX6_help 162 = .ok (.istore 4, 2) := by decide +kernel
theorem dX6_help_164 : decode cX6_help 164 = .ok (.iload 8, 2) := by decide +kernel
theorem dX6_help_166 : decode cX6_help 166 = .ok (.iload_n 3, 1) := by decide +kernel
theorem dX6_help_167 : decode cX6_help 167 = .ok (.if_icmp .le 8, 3) := by decide +kernel
theorem dX6_help_170 : decode cX6_help 170 = .ok (.iload 8, 2) := by decide +kernel
theorem dX6_help_172 : decode cX6_help 172 = .ok (.goto 4, 3) := by decide +kernel
theorem dX6_help_175 : decode cX6_help 175 = .ok (.iload_n 3, 1) := by decide +kernel
theorem dX6_help_176 : decode cX6_help 176 = .ok (.istore_n 3, 1) := by decide +kernel
theorem dX6_help_177 : decode cX6_help 177 = .ok (.aload_n 0, 1) := by decide +kernel
theorem dX6_help_178 : decode cX6_help 178 = .ok (.sipush 345, 3) := by decide +kernel
theorem dX6_help_181 : decode cX6_help 181 = .ok (.iconst 0, 1) := by decide +kernel
theorem dX6_help_182 : decode cX6_help 182 = .ok (.invokevirtual 215, 3) := by decide +kernel
theorem dX6_help_185 : decode cX6_help 185 = .ok (.iinc 5 1, 3) := by decide +kernel
theorem dX6_help_188 : decode cX6_help 188 = .ok (.goto (-125), 3) := by decide +kernel
theorem dX6_help_191 : decode cX6_help 191 = .ok (.iload 4, 2) := by decide +kernel
theorem dX6_help_193 : decode cX6_help 193 = .ok (.bipush (-4), 2) := by decide +kernel
theorem dX6_help_195 : decode cX6_help 195 = .ok (.if_icmp .eq 7, 3) := by decide +kernel
theorem dX6_help_198 : decode cX6_help 198 = .ok (.iload_n 2, 1) := by decide +kernel
theorem dX6_help_199 : decode cX6_help 199 = .ok (.ifCond .ne 8, 3) := by decide +kernel
theorem dX6_help_202 : decode cX6_help 202 = .ok (.iload 4, 2) := by decide +kernel
theorem dX6_help_204 : decode cX6_help 204 = .ok (.goto 4, 3) := by decide +kernel
theorem dX6_help_207 : decode cX6_help 207 = .ok (.iload_n 3, 1) := by decide +kernel
theorem dX6_help_208 : decode cX6_help 208 = .ok (.ireturn, 1) := by decide +kernel
theorem dX6_spare_0 : decode cX6_spare 0 = .ok (.iload_n 1, 1) := by decide +kernel
theorem dX6_spare_1 : decode cX6_spare 1 = .ok (.i2l, 1) := by decide +kernel
theorem dX6_spare_2 : decode cX6_spare 2 = .ok (.lconst 0, 1) := by decide +kernel
theorem dX6_spare_3 : decode cX6_spare 3 = .ok (.lconst 1, 1) := by decide +kernel
theorem dX6_spare_4 : decode cX6_spare 4 = .ok (.invokestatic 55, 3) := by decide +kernel
theorem dX6_spare_7 : decode cX6_spare 7 = .ok (.ifCond .ne 5, 3) := by decide +kernel
theorem dX6_spare_10 : decode cX6_spare 10 = .ok (.iconst (-1), 1) := by decide +kernel
theorem dX6_spare_11 : decode cX6_spare 11 = .ok (.ireturn, 1) := by decide +kernel
theorem dX6_spare_12 : decode cX6_spare 12 = .ok (.aload_n 0, 1) := by decide +kernel
theorem dX6_spare_13 : decode cX6_spare 13 = .ok (.iconst 0, 1) := by decide +kernel
theorem dX6_spare_14 : decode cX6_spare 14 = .ok (.iconst 3, 1) := by decide +kernel
theorem dX6_spare_15 : decode cX6_spare 15 = .ok (.invokevirtual 238, 3) := by decide +kernel
theorem dX6_spare_18 : decode cX6_spare 18 = .ok (.invokestatic 241, 3) := by decide +kernel
theorem dX6_spare_21 : decode cX6_spare 21 = .ok (.istore_n 2, 1) := by decide +kernel
theorem dX6_spare_22 : decode cX6_spare 22 = .ok (.bipush (-4), 2) := by decide +kernel
theorem dX6_spare_24 : decode cX6_spare 24 = .ok (.istore_n 3, 1) := by decide +kernel
theorem dX6_spare_25 : decode cX6_spare 25 = .ok (.aload_n 0, 1) := by decide +kernel
theorem dX6_spare_26 : decode cX6_spare 26 = .ok (.iconst 0, 1) := by decide +kernel
theorem dX6_spare_27 : decode cX6_spare 27 = .ok (.sipush 345, 3) := by decide +kernel
theorem dX6_spare_30 : decode cX6_spare 30 = .ok (.invokevirtual 215, 3) := by decide +kernel
theorem dX6_spare_33 : decode cX6_spare 33 = .ok (.iconst 0, 1) := by decide +kernel
theorem dX6_spare_34 : decode cX6_spare 34 = .ok (.istore 4, 2) := by decide +kernel
theorem dX6_spare_36 : decode cX6_spare 36 = .ok (.iload 4, 2) := by decide +kernel
theorem dX6_spare_38 : decode cX6_spare 38 = .ok (.aload_n 0, 1) := by decide +kernel
theorem dX6_spare_39 : decode cX6_spare 39 = .ok (.getfield 7, 3) := by decide +kernel
theorem dX6_spare_42 : decode cX6_spare 42 = .ok (.sipush 382, 3) := by decide +kernel
theorem dX6_spare_45 : decode cX6_spare 45 = .ok (.iaload, 1) := by decide +kernel
theorem dX6_spare_46 : decode cX6_spare 46 = .ok (.if_icmp .ge 60, 3) := by decide +kernel
theorem dX6_spare_49 : decode cX6_spare 49 = .ok (.aload_n 0, 1) := by decide +kernel
theorem dX6_spare_50 : decode cX6_spare 50 = .ok (.iload 4, 2) := by decide +kernel
theorem dX6_spare_52 : decode cX6_spare 52 = .ok (.invokevirtual 197, 3) := by decide +kernel
theorem dX6_spare_55 : decode cX6_spare 55 = .ok (.aload_n 0, 1) := by decide +kernel
theorem dX6_spare_56 : decode cX6_spare 56 = .ok (.iconst 0, 1) := by decide +kernel
theorem dX6_spare_57 : decode cX6_spare 57 = .ok (.iconst 3, 1) := by decide +kernel
theorem dX6_spare_58 : decode cX6_spare 58 = .ok (.invokevirtual 238, 3) := by decide +kernel
theorem dX6_spare_61 : decode cX6_spare 61 = .ok (.invokestatic 241, 3) := by decide +kernel
theorem dX6_spare_64 : decode cX6_spare 64 = .ok (.istore 5, 2) := by decide +kernel
theorem dX6_spare_66 : decode cX6_spare 66 = .ok (.iload 5, 2) := by decide +kernel
theorem dX6_spare_68 : decode cX6_spare 68 = .ok (.iload_n 2, 1) := by decide +kernel
theorem dX6_spare_69 : decode cX6_spare 69 = .ok (.if_icmp .le 8, 3) := by decide +kernel
theorem dX6_spare_72 : decode cX6_spare 72 = .ok (.iload 4, 2) := by decide +kernel
theorem dX6_spare_74 : decode cX6_spare 74 = .ok (.goto 4, 3) := by decide +kernel
theorem dX6_spare_77 : decode cX6_spare 77 = .ok (.iload_n 3, 1) := by decide +kernel
theorem dX6_spare_78 : decode cX6_spare 78 = .ok (.istore_n 3, 1) := by decide +kernel
theorem dX6_spare_79 : decode cX6_spare 79 = .ok (.iload 5, 2) := by decide +kernel
theorem dX6_spare_81 : decode cX6_spare 81 = .ok (.iload_n 2, 1) := by decide +kernel
theorem dX6_spare_82 : decode cX6_spare 82 = .ok (.if_icmp .le 8, 3) := by decide +kernel
theorem dX6_spare_85 : decode cX6_spare 85 = .ok (.iload 5, 2) := by decide +kernel
theorem dX6_spare_87 : decode cX6_spare 87 = .ok (.goto 4, 3) := by decide +kernel
theorem dX6_spare_90 : decode cX6_spare 90 = .ok (.iload_n 2, 1) := by decide +kernel
theorem dX6_spare_91 : decode cX6_spare 91 = .ok (.istore_n 2, 1) := by decide +kernel
theorem dX6_spare_92 : decode cX6_spare 92 = .ok (.aload_n 0, 1) := by decide +kernel
theorem dX6_spare_93 : decode cX6_spare 93 = .ok (.sipush 345, 3) := by decide +kernel
theorem dX6_spare_96 : decode cX6_spare 96 = .ok (.iconst 0, 1) := by decide +kernel
theorem dX6_spare_97 : decode cX6_spare 97 = .ok (.invokevirtual 215, 3) := by decide +kernel
theorem dX6_spare_100 : decode cX6_spare 100 = .ok (.iinc 4 1, 3) := by decide +kernel
theorem dX6_spare_103 : decode cX6_spare 103 = .ok (.goto (-67), 3) := by decide +kernel
theorem dX6_spare_106 : decode cX6_spare 106 = .ok (.iload_n 3, 1) := by decide +kernel
theorem dX6_spare_107 : decode cX6_spare 107 = .ok (.bipush (-4), 2) := by decide +kernel
theorem dX6_spare_109 : decode cX6_spare 109 = .ok (.if_icmp .eq 7, 3) := by decide +kernel
theorem dX6_spare_112 : decode cX6_spare 112 = .ok (.iload_n 1, 1) := by decide +kernel
theorem dX6_spare_113 : decode cX6_spare 113 = .ok (.ifCond .ne 7, 3) := by decide +kernel
theorem dX6_spare_116 : decode cX6_spare 116 = .ok (.iload_n 3, 1) := by decide +kernel
theorem dX6_spare_117 : decode cX6_spare 117 = .ok (.goto 4, 3) := by decide +kernel
theorem dX6_spare_120 : decode cX6_spare 120 = .ok (.iload_n 2, 1) := by decide +kernel
theorem dX6_spare_121 : decode cX6_spare 121 = .ok (.ireturn, 1) := by decide +kernel
theorem dX6_dear_0 : decode cX6_dear 0 = .ok (.iload_n 1, 1) := by decide +kernel
theorem dX6_dear_1 : decode cX6_dear 1 = .ok (.i2l, 1) := by decide +kernel
theorem dX6_dear_2 : decode cX6_dear 2 = .ok (.lconst 0, 1) := by decide +kernel
theorem dX6_dear_3 : decode cX6_dear 3 = .ok (.lconst 1, 1) := by decide +kernel
theorem dX6_dear_4 : decode cX6_dear 4 = .ok (.invokestatic 55, 3) := by decide +kernel
theorem dX6_dear_7 : decode cX6_dear 7 = .ok (.ifCond .ne 5, 3) := by decide +kernel
theorem dX6_dear_10 : decode cX6_dear 10 = .ok (.iconst (-1), 1) := by decide +kernel
theorem dX6_dear_11 : decode cX6_dear 11 = .ok (.ireturn, 1) := by decide +kernel
theorem dX6_dear_12 : decode cX6_dear 12 = .ok (.iconst (-1), 1) := by decide +kernel
theorem dX6_dear_13 : decode cX6_dear 13 = .ok (.istore_n 2, 1) := by decide +kernel
theorem dX6_dear_14 : decode cX6_dear 14 = .ok (.iconst 0, 1) := by decide +kernel
theorem dX6_dear_15 : decode cX6_dear 15 = .ok (.istore_n 3, 1) := by decide +kernel
theorem dX6_dear_16 : decode cX6_dear 16 = .ok (.iconst 0, 1) := by decide +kernel
theorem dX6_dear_17 : decode cX6_dear 17 = .ok (.istore 4, 2) := by decide +kernel
theorem dX6_dear_19 : decode cX6_dear 19 = .ok (.iload 4, 2) := by decide +kernel
theorem dX6_dear_21 : decode cX6_dear 21 = .ok (.iconst 4, 1) := by decide +kernel
theorem dX6_dear_22 : decode cX6_dear 22 = .ok (.if_icmp .ge 110, 3) := by decide +kernel
theorem dX6_dear_25 : decode cX6_dear 25 = .ok (.iconst 0, 1) := by decide +kernel
theorem dX6_dear_26 : decode cX6_dear 26 = .ok (.istore 5, 2) := by decide +kernel
theorem dX6_dear_28 : decode cX6_dear 28 = .ok (.iconst 0, 1) := by decide +kernel
theorem dX6_dear_29 : decode cX6_dear 29 = .ok (.istore 6, 2) := by decide +kernel
theorem dX6_dear_31 : decode cX6_dear 31 = .ok (.iload 6, 2) := by decide +kernel
theorem dX6_dear_33 : decode cX6_dear 33 = .ok (.aload_n 0, 1) := by decide +kernel
theorem dX6_dear_34 : decode cX6_dear 34 = .ok (.getfield 7, 3) := by decide +kernel
theorem dX6_dear_37 : decode cX6_dear 37 = .ok (.bipush 37, 2) := by decide +kernel
theorem dX6_dear_39 : decode cX6_dear 39 = .ok (.iaload, 1) := by decide +kernel
theorem dX6_dear_40 : decode cX6_dear 40 = .ok (.if_icmp .ge 60, 3) := by decide +kernel
theorem dX6_dear_43 : decode cX6_dear 43 = .ok (.bipush 12, 2) := by decide +kernel
theorem dX6_dear_45 : decode cX6_dear 45 = .ok (.iconst 5, 1) := by decide +kernel
theorem dX6_dear_46 : decode cX6_dear 46 = .ok (.iload 6, 2) := by decide +kernel
theorem dX6_dear_48 : decode cX6_dear 48 = .ok (.imul, 1) := by decide +kernel
theorem dX6_dear_49 : decode cX6_dear 49 = .ok (.iadd, 1) := by decide +kernel
theorem dX6_dear_50 : decode cX6_dear 50 = .ok (.istore 7, 2) := by decide +kernel
theorem dX6_dear_52 : decode cX6_dear 52 = .ok (.iload 5, 2) := by decide +kernel
theorem dX6_dear_54 : decode cX6_dear 54 = .ok (.aload_n 0, 1) := by decide +kernel
theorem dX6_dear_55 : decode cX6_dear 55 = .ok (.getfield 7, 3) := by decide +kernel
theorem dX6_dear_58 : decode cX6_dear 58 = .ok (.iload 7, 2) := by decide +kernel
theorem dX6_dear_60 : decode cX6_dear 60 = .ok (.iconst 4, 1) := by decide +kernel
theorem dX6_dear_61 : decode cX6_dear 61 = .ok (.iadd, 1) := by decide +kernel
theorem dX6_dear_62 : decode cX6_dear 62 = .ok (.iaload, 1) := by decide +kernel
theorem dX6_dear_63 : decode cX6_dear 63 = .ok (.aload_n 0, 1) := by decide +kernel
theorem dX6_dear_64 : decode cX6_dear 64 = .ok (.getfield 7, 3) := by decide +kernel
theorem dX6_dear_67 : decode cX6_dear 67 = .ok (.iload 7, 2) := by decide +kernel
theorem dX6_dear_69 : decode cX6_dear 69 = .ok (.iconst 2, 1) := by decide +kernel
theorem dX6_dear_70 : decode cX6_dear 70 = .ok (.iadd, 1) := by decide +kernel
theorem dX6_dear_71 : decode cX6_dear 71 = .ok (.iaload, 1) := by decide +kernel
theorem dX6_dear_72 : decode cX6_dear 72 = .ok (.iload 4, 2) := by decide +kernel
theorem dX6_dear_74 : decode cX6_dear 74 = .ok (.if_icmp .ne 15, 3) := by decide +kernel
theorem dX6_dear_77 : decode cX6_dear 77 = .ok (.aload_n 0, 1) := by decide +kernel
theorem dX6_dear_78 : decode cX6_dear 78 = .ok (.getfield 7, 3) := by decide +kernel
theorem dX6_dear_81 : decode cX6_dear 81 = .ok (.iload 7, 2) := by decide +kernel
theorem dX6_dear_83 : decode cX6_dear 83 = .ok (.iconst 3, 1) := by decide +kernel
theorem dX6_dear_84 : decode cX6_dear 84 = .ok (.iadd, 1) := by decide +kernel
theorem dX6_dear_85 : decode cX6_dear 85 = .ok (.iaload, 1) := by decide +kernel
theorem dX6_dear_86 : decode cX6_dear 86 = .ok (.goto 4, 3) := by decide +kernel
theorem dX6_dear_89 : decode cX6_dear 89 = .ok (.iconst 0, 1) := by decide +kernel
theorem dX6_dear_90 : decode cX6_dear 90 = .ok (.iadd, 1) := by decide +kernel
theorem dX6_dear_91 : decode cX6_dear 91 = .ok (.iadd, 1) := by decide +kernel
theorem dX6_dear_92 : decode cX6_dear 92 = .ok (.istore 5, 2) := by decide +kernel
theorem dX6_dear_94 : decode cX6_dear 94 = .ok (.iinc 6 1, 3) := by decide +kernel
theorem dX6_dear_97 : decode cX6_dear 97 = .ok (.goto (-66), 3) := by decide +kernel
theorem dX6_dear_100 : decode cX6_dear 100 = .ok (.iload 5, 2) := by decide +kernel
theorem dX6_dear_102 : decode cX6_dear 102 = .ok (.iload_n 2, 1) := by decide +kernel
theorem dX6_dear_103 : decode cX6_dear 103 = .ok (.if_icmp .le 8, 3) := by decide +kernel
theorem dX6_dear_106 : decode cX6_dear 106 = .ok (.iload 4, 2) := by decide +kernel
theorem dX6_dear_108 : decode cX6_dear 108 = .ok (.goto 4, 3) := by decide +kernel
theorem dX6_dear_111 : decode cX6_dear 111 = .ok (.iload_n 3, 1) := by decide +kernel
theorem dX6_dear_112 : decode cX6_dear 112 = .ok (.istore_n 3, 1) := by decide +kernel
theorem dX6_dear_113 : decode cX6_dear 113 = .ok (.iload 5, 2) := by decide +kernel
theorem dX6_dear_115 : decode cX6_dear 115 = .ok (.iload_n 2, 1) := by decide +kernel
theorem dX6_dear_116 : decode cX6_dear 116 = .ok (.if_icmp .le 8, 3) := by decide +kernel
theorem dX6_dear_119 : decode cX6_dear 119 = .ok (.iload 5, 2) := by decide +kernel
theorem dX6_dear_121 : decode cX6_dear 121 = .ok (.goto 4, 3) := by decide +kernel
theorem dX6_dear_124 : decode cX6_dear 124 = .ok (.iload_n 2, 1) := by decide +kernel
theorem dX6_dear_125 : decode cX6_dear 125 = .ok (.istore_n 2, 1) := by decide +kernel
theorem dX6_dear_126 : decode cX6_dear 126 = .ok (.iinc 4 1, 3) := by decide +kernel
theorem dX6_dear_129 : decode cX6_dear 129 = .ok (.goto (-110), 3) := by decide +kernel
theorem dX6_dear_132 : decode cX6_dear 132 = .ok (.iload_n 1, 1) := by decide +kernel
theorem dX6_dear_133 : decode cX6_dear 133 = .ok (.ifCond .ne 7, 3) := by decide +kernel
theorem dX6_dear_136 : decode cX6_dear 136 = .ok (.iload_n 3, 1) := by decide +kernel
theorem dX6_dear_137 : decode cX6_dear 137 = .ok (.goto 4, 3) := by decide +kernel
theorem dX6_dear_140 : decode cX6_dear 140 = .ok (.iload_n 2, 1) := by decide +kernel
theorem dX6_dear_141 : decode cX6_dear 141 = .ok (.ireturn, 1) := by decide +kernel
theorem dX6_lowest_0 : decode cX6_lowest 0 = .ok (.lload_n 0, 1) := by decide +kernel
theorem dX6_lowest_1 : decode cX6_lowest 1 = .ok (.lconst 0, 1) := by decide +kernel
theorem dX6_lowest_2 : decode cX6_lowest 2 = .ok (.lcmp, 1) := by decide +kernel
theorem dX6_lowest_3 : decode cX6_lowest 3 = .ok (.ifCond .ge 8, 3) := by decide +kernel
theorem dX6_lowest_6 : decode cX6_lowest 6 = .ok (.lload_n 0, 1) := by decide +kernel
theorem dX6_lowest_7 : decode cX6_lowest 7 = .ok (.lneg, 1) := by decide +kernel
theorem dX6_lowest_8 : decode cX6_lowest 8 = .ok (.goto 4, 3) := by decide +kernel
theorem dX6_lowest_11 : decode cX6_lowest 11 = .ok (.lload_n 0, 1) := by decide +kernel
theorem dX6_lowest_12 : decode cX6_lowest 12 = .ok (.lstore 5, 2) := by decide +kernel
theorem dX6_lowest_14 : decode cX6_lowest 14 = .ok (.lload_n 2, 1) := by decide +kernel
theorem dX6_lowest_15 : decode cX6_lowest 15 = .ok (.lstore 7, 2) := by decide +kernel
theorem dX6_lowest_17 : decode cX6_lowest 17 = .ok (.lload 7, 2) := by decide +kernel
theorem dX6_lowest_19 : decode cX6_lowest 19 = .ok (.lconst 0, 1) := by decide +kernel
theorem dX6_lowest_20 : decode cX6_lowest 20 = .ok (.lcmp, 1) := by decide +kernel
theorem dX6_lowest_21 : decode cX6_lowest 21 = .ok (.ifCond .eq 21, 3) := by decide +kernel
theorem dX6_lowest_24 : decode cX6_lowest 24 = .ok (.lload 5, 2) := by decide +kernel
theorem dX6_lowest_26 : decode cX6_lowest 26 = .ok (.lload 7, 2) := by decide +kernel
theorem dX6_lowest_28 : decode cX6_lowest 28 = .ok (.lrem, 1) := by decide +kernel
theorem dX6_lowest_29 : decode cX6_lowest 29 = .ok (.lstore 9, 2) := by decide +kernel
theorem dX6_lowest_31 : decode cX6_lowest 31 = .ok (.lload 7, 2) := by decide +kernel
theorem dX6_lowest_33 : decode cX6_lowest 33 = .ok (.lstore 5, 2) := by decide +kernel
theorem dX6_lowest_35 : decode cX6_lowest 35 = .ok (.lload 9, 2) := by decide +kernel
theorem dX6_lowest_37 : decode cX6_lowest 37 = .ok (.lstore 7, 2) := by decide +kernel
theorem dX6_lowest_39 : decode cX6_lowest 39 = .ok (.goto (-22), 3) := by decide +kernel
theorem dX6_lowest_42 : decode cX6_lowest 42 = .ok (.iload 4, 2) := by decide +kernel
theorem dX6_lowest_44 : decode cX6_lowest 44 = .ok (.ifCond .ne 7, 3) := by decide +kernel
theorem dX6_lowest_47 : decode cX6_lowest 47 = .ok (.lload_n 0, 1) := by decide +kernel
theorem dX6_lowest_48 : decode cX6_lowest 48 = .ok (.goto 4, 3) := by decide +kernel
theorem dX6_lowest_51 : decode cX6_lowest 51 = .ok (.lload_n 2, 1) := by decide +kernel
theorem dX6_lowest_52 : decode cX6_lowest 52 = .ok (.lload 5, 2) := by decide +kernel
theorem dX6_lowest_54 : decode cX6_lowest 54 = .ok (.ldiv, 1) := by decide +kernel
theorem dX6_lowest_55 : decode cX6_lowest 55 = .ok (.lreturn, 1) := by decide +kernel
theorem dX6_byOdds_0 : decode cX6_byOdds 0 = .ok (.lconst 0, 1) := by decide +kernel
theorem dX6_byOdds_1 : decode cX6_byOdds 1 = .ok (.lstore 5, 2) := by decide +kernel
theorem dX6_byOdds_3 : decode cX6_byOdds 3 = .ok (.lconst 1, 1) := by decide +kernel
theorem dX6_byOdds_4 : decode cX6_byOdds 4 = .ok (.lstore 7, 2) := by decide +kernel
theorem dX6_byOdds_6 : decode cX6_byOdds 6 = .ok (.iconst 0, 1) := by decide +kernel
theorem dX6_byOdds_7 : decode cX6_byOdds 7 = .ok (.istore 9, 2) := by decide +kernel
theorem dX6_byOdds_9 : decode cX6_byOdds 9 = .ok (.iload 9, 2) := by decide +kernel
theorem dX6_byOdds_11 : decode cX6_byOdds 11 = .ok (.iload_n 2, 1) := by decide +kernel
theorem dX6_byOdds_12 : decode cX6_byOdds 12 = .ok (.if_icmp .ge 17, 3) := by decide +kernel
theorem dX6_byOdds_15 : decode cX6_byOdds 15 = .ok (.lload 7, 2) := by decide +kernel
theorem dX6_byOdds_17 : decode cX6_byOdds 17 = .ok (.ldc2_w 244, 3) := by decide +kernel
theorem dX6_byOdds_20 : decode cX6_byOdds 20 = .ok (.lmul, 1) := by decide +kernel
theorem dX6_byOdds_21 : decode cX6_byOdds 21 = .ok (.lstore 7, 2) := by decide +kernel
theorem dX6_byOdds_23 : decode cX6_byOdds 23 = .ok (.iinc 9 1, 3) := by decide +kernel
theorem dX6_byOdds_26 : decode cX6_byOdds 26 = .ok (.goto (-17), 3) := by decide +kernel
theorem dX6_byOdds_29 : decode cX6_byOdds 29 = .ok (.iconst 0, 1) := by decide +kernel
theorem dX6_byOdds_30 : decode cX6_byOdds 30 = .ok (.istore 9, 2) := by decide +kernel
theorem dX6_byOdds_32 : decode cX6_byOdds 32 = .ok (.iload 9, 2) := by decide +kernel
theorem dX6_byOdds_34 : decode cX6_byOdds 34 = .ok (.iload_n 2, 1) := by decide +kernel
theorem dX6_byOdds_35 : decode cX6_byOdds 35 = .ok (.invokestatic 231, 3) := by decide +kernel
theorem dX6_byOdds_38 : decode cX6_byOdds 38 = .ok (.if_icmp .ge 98, 3) := by decide +kernel
theorem dX6_byOdds_41 : decode cX6_byOdds 41 = .ok (.lconst 1, 1) := by decide +kernel
theorem dX6_byOdds_42 : decode cX6_byOdds 42 = .ok (.lstore 10, 2) := by decide +kernel
theorem dX6_byOdds_44 : decode cX6_byOdds 44 = .ok (.iconst 0, 1) := by decide +kernel
theorem dX6_byOdds_45 : decode cX6_byOdds 45 = .ok (.istore 12, 2) := by decide +kernel
theorem dX6_byOdds_47 : decode cX6_byOdds 47 = .ok (.iload 12, 2) := by decide +kernel
theorem dX6_byOdds_49 : decode cX6_byOdds 49 = .ok (.iload_n 2, 1) := by decide +kernel
theorem dX6_byOdds_50 : decode cX6_byOdds 50 = .ok (.if_icmp .ge 28, 3) := by decide +kernel
theorem dX6_byOdds_53 : decode cX6_byOdds 53 = .ok (.lload 10, 2) := by decide +kernel
theorem dX6_byOdds_55 : decode cX6_byOdds 55 = .ok (.aload_n 0, 1) := by decide +kernel
theorem dX6_byOdds_56 : decode cX6_byOdds 56 = .ok (.iload 9, 2) := by decide +kernel
theorem dX6_byOdds_58 : decode cX6_byOdds 58 = .ok (.iconst 2, 1) := by decide +kernel
theorem dX6_byOdds_59 : decode cX6_byOdds 59 = .ok (.iload 12, 2) := by decide +kernel
theorem dX6_byOdds_61 : decode cX6_byOdds 61 = .ok (.imul, 1) := by decide +kernel
theorem dX6_byOdds_62 : decode cX6_byOdds 62 = .ok (.ishr, 1) := by decide +kernel
theorem dX6_byOdds_63 : decode cX6_byOdds 63 = .ok (.iconst 3, 1) := by decide +kernel
theorem dX6_byOdds_64 : decode cX6_byOdds 64 = .ok (.iand, 1) := by decide +kernel
theorem dX6_byOdds_65 : decode cX6_byOdds 65 = .ok (.invokevirtual 178, 3) := by decide +kernel
theorem dX6_byOdds_68 : decode cX6_byOdds 68 = .ok (.i2l, 1) := by decide +kernel
theorem dX6_byOdds_69 : decode cX6_byOdds 69 = .ok (.lmul, 1) := by decide +kernel
theorem dX6_byOdds_70 : decode cX6_byOdds 70 = .ok (.lstore 10, 2) := by decide +kernel
theorem dX6_byOdds_72 : decode cX6_byOdds 72 = .ok (.iinc 12 1, 3) := by decide +kernel
theorem dX6_byOdds_75 : decode cX6_byOdds 75 = .ok (.goto (-28), 3) := by decide +kernel
theorem dX6_byOdds_78 : decode cX6_byOdds 78 = .ok (.aload_n 0, 1) := by decide +kernel
theorem dX6_byOdds_79 : decode cX6_byOdds 79 = .ok (.iconst 0, 1) := by decide +kernel
theorem dX6_byOdds_80 : decode cX6_byOdds 80 = .ok (.iload 9, 2) := by decide +kernel
theorem dX6_byOdds_82 : decode cX6_byOdds 82 = .ok (.iload_n 2, 1) := by decide +kernel
theorem dX6_byOdds_83 : decode cX6_byOdds 83 = .ok (.invokevirtual 234, 3) := by decide +kernel
theorem dX6_byOdds_86 : decode cX6_byOdds 86 = .ok (.aload_n 0, 1) := by decide +kernel
theorem dX6_byOdds_87 : decode cX6_byOdds 87 = .ok (.getfield 7, 3) := by decide +kernel
theorem dX6_byOdds_90 : decode cX6_byOdds 90 = .ok (.sipush 284, 3) := by decide +kernel
theorem dX6_byOdds_93 : decode cX6_byOdds 93 = .ok (.iload_n 1, 1) := by decide +kernel
theorem dX6_byOdds_94 : decode cX6_byOdds 94 = .ok (.iadd, 1) := by decide +kernel
theorem dX6_byOdds_95 : decode cX6_byOdds 95 = .ok (.iaload, 1) := by decide +kernel
theorem dX6_byOdds_96 : decode cX6_byOdds 96 = .ok (.istore 12, 2) := by decide +kernel
theorem dX6_byOdds_98 : decode cX6_byOdds 98 = .ok (.lload 5, 2) := by decide +kernel
theorem dX6_byOdds_100 : decode cX6_byOdds 100 = .ok (.lload 10, 2) := by decide +kernel
theorem dX6_byOdds_102 : decode cX6_byOdds 102 = .ok (.iload_n 3, 1) := by decide +kernel
theorem dX6_byOdds_103 : decode cX6_byOdds 103 = .ok (.ifCond .eq 8, 3) := by decide +kernel
theorem dX6_byOdds_106 : decode cX6_byOdds 106 = .ok (.iload 12, 2) := by decide +kernel
theorem dX6_byOdds_108 : decode cX6_byOdds 108 = .ok (.goto 17, 3) := by decide +kernel
theorem dX6_byOdds_111 : decode cX6_byOdds 111 = .ok (.iload 12, 2) := by decide +kernel
theorem dX6_byOdds_113 : decode cX6_byOdds 113 = .ok (.aload_n 0, 1) := by decide +kernel
theorem dX6_byOdds_114 : decode cX6_byOdds 114 = .ok (.invokevirtual 154, 3) := by decide +kernel
theorem dX6_byOdds_117 : decode cX6_byOdds 117 = .ok (.if_icmp .lt 7, 3) := by decide +kernel
theorem dX6_byOdds_120 : decode cX6_byOdds 120 = .ok (.iconst 1, 1) := by decide +kernel
theorem dX6_byOdds_121 : decode cX6_byOdds 121 = .ok (.goto 4, 3) := by decide +kernel
theorem dX6_byOdds_124 : decode cX6_byOdds 124 = .ok (.iconst 0, 1) := by decide +kernel
theorem dX6_byOdds_125 : decode cX6_byOdds 125 = .ok (.i2l, 1) := by decide +kernel
theorem dX6_byOdds_126 : decode cX6_byOdds 126 = .ok (.lmul, 1) := by decide +kernel
theorem dX6_byOdds_127 : decode cX6_byOdds 127 = .ok (.ladd, 1) := by decide +kernel
theorem dX6_byOdds_128 : decode cX6_byOdds 128 = .ok (.lstore 5, 2) := by decide +kernel
theorem dX6_byOdds_130 : decode cX6_byOdds 130 = .ok (.iinc 9 1, 3) := by decide +kernel
theorem dX6_byOdds_133 : decode cX6_byOdds 133 = .ok (.goto (-101), 3) := by decide +kernel
theorem dX6_byOdds_136 : decode cX6_byOdds 136 = .ok (.lload 5, 2) := by decide +kernel
theorem dX6_byOdds_138 : decode cX6_byOdds 138 = .ok (.lload 7, 2) := by decide +kernel
theorem dX6_byOdds_140 : decode cX6_byOdds 140 = .ok (.iload 4, 2) := by decide +kernel
theorem dX6_byOdds_142 : decode cX6_byOdds 142 = .ok (.invokestatic 246, 3) := by decide +kernel
theorem dX6_byOdds_145 : decode cX6_byOdds 145 = .ok (.lreturn, 1) := by decide +kernel
theorem dX6_mean_0 : decode cX6_mean 0 = .ok (.aload_n 0, 1) := by decide +kernel
theorem dX6_mean_1 : decode cX6_mean 1 = .ok (.iload_n 1, 1) := by decide +kernel
theorem dX6_mean_2 : decode cX6_mean 2 = .ok (.invokevirtual 160, 3) := by decide +kernel
theorem dX6_mean_5 : decode cX6_mean 5 = .ok (.ifCond .eq 36, 3) := by decide +kernel
theorem dX6_mean_8 : decode cX6_mean 8 = .ok (.iload_n 2, 1) := by decide +kernel
theorem dX6_mean_9 : decode cX6_mean 9 = .ok (.i2l, 1) := by decide +kernel
theorem dX6_mean_10 : decode cX6_mean 10 = .ok (.lconst 0, 1) := by decide +kernel
theorem dX6_mean_11 : decode cX6_mean 11 = .ok (.ldc2_w 164, 3) := by decide +kernel
theorem dX6_mean_14 : decode cX6_mean 14 = .ok (.invokestatic 55, 3) := by decide +kernel
theorem dX6_mean_17 : decode cX6_mean 17 = .ok (.ifCond .eq 24, 3) := by decide +kernel
theorem dX6_mean_20 : decode cX6_mean 20 = .ok (.iload_n 3, 1) := by decide +kernel
theorem dX6_mean_21 : decode cX6_mean 21 = .ok (.i2l, 1) := by decide +kernel
theorem dX6_mean_22 : decode cX6_mean 22 = .ok (.lconst 0, 1) := by decide +kernel
theorem dX6_mean_23 : decode cX6_mean 23 = .ok (.lconst 1, 1) := by decide +kernel
theorem dX6_mean_24 : decode cX6_mean 24 = .ok (.invokestatic 55, 3) := by decide +kernel
theorem dX6_mean_27 : decode cX6_mean 27 = .ok (.ifCond .eq 14, 3) := by decide +kernel
theorem dX6_mean_30 : decode cX6_mean 30 = .ok (.aload_n 0, 1) := by decide +kernel
theorem dX6_mean_31 : decode cX6_mean 31 = .ok (.iload_n 1, 1) := by decide +kernel
theorem dX6_mean_32 : decode cX6_mean 32 = .ok (.iload_n 2, 1) := by decide +kernel
theorem dX6_mean_33 : decode cX6_mean 33 = .ok (.iconst 1, 1) := by decide +kernel
theorem dX6_mean_34 : decode cX6_mean 34 = .ok (.iload_n 3, 1) := by decide +kernel
theorem dX6_mean_35 : decode cX6_mean 35 = .ok (.invokevirtual 250, 3) := by decide +kernel
theorem dX6_mean_38 : decode cX6_mean 38 = .ok (.goto 6, 3) := by decide +kernel
theorem dX6_mean_41 : decode cX6_mean 41 = .ok (.ldc2_w 254, 3) := by decide +kernel
theorem dX6_mean_44 : decode cX6_mean 44 = .ok (.lreturn, 1) := by decide +kernel
theorem dX6_luck_0 : decode cX6_luck 0 = .ok (.aload_n 0, 1) := by decide +kernel
theorem dX6_luck_1 : decode cX6_luck 1 = .ok (.iload_n 1, 1) := by decide +kernel
theorem dX6_luck_2 : decode cX6_luck 2 = .ok (.invokevirtual 160, 3) := by decide +kernel
theorem dX6_luck_5 : decode cX6_luck 5 = .ok (.ifCond .eq 36, 3) := by decide +kernel
theorem dX6_luck_8 : decode cX6_luck 8 = .ok (.iload_n 2, 1) := by decide +kernel
theorem dX6_luck_9 : decode cX6_luck 9 = .ok (.i2l, 1) := by decide +kernel
theorem dX6_luck_10 : decode cX6_luck 10 = .ok (.lconst 0, 1) := by decide +kernel
theorem dX6_luck_11 : decode cX6_luck 11 = .ok (.ldc2_w 164, 3) := by decide +kernel
theorem dX6_luck_14 : decode cX6_luck 14 = .ok (.invokestatic 55, 3) := by decide +kernel
theorem dX6_luck_17 : decode cX6_luck 17 = .ok (.ifCond .eq 24, 3) := by decide +kernel
theorem dX6_luck_20 : decode cX6_luck 20 = .ok (.iload_n 3, 1) := by decide +kernel
theorem dX6_luck_21 : decode cX6_luck 21 = .ok (.i2l, 1) := by decide +kernel
theorem dX6_luck_22 : decode cX6_luck 22 = .ok (.lconst 0, 1) := by decide +kernel
theorem dX6_luck_23 : decode cX6_luck 23 = .ok (.lconst 1, 1) := by decide +kernel
theorem dX6_luck_24 : decode cX6_luck 24 = .ok (.invokestatic 55, 3) := by decide +kernel
theorem dX6_luck_27 : decode cX6_luck 27 = .ok (.ifCond .eq 14, 3) := by decide +kernel
theorem dX6_luck_30 : decode cX6_luck 30 = .ok (.aload_n 0, 1) := by decide +kernel
theorem dX6_luck_31 : decode cX6_luck 31 = .ok (.iload_n 1, 1) := by decide +kernel
theorem dX6_luck_32 : decode cX6_luck 32 = .ok (.iload_n 2, 1) := by decide +kernel
theorem dX6_luck_33 : decode cX6_luck 33 = .ok (.iconst 0, 1) := by decide +kernel
theorem dX6_luck_34 : decode cX6_luck 34 = .ok (.iload_n 3, 1) := by decide +kernel
theorem dX6_luck_35 : decode cX6_luck 35 = .ok (.invokevirtual 250, 3) := by decide +kernel
theorem dX6_luck_38 : decode cX6_luck 38 = .ok (.goto 6, 3) := by decide +kernel
theorem dX6_luck_41 : decode cX6_luck 41 = .ok (.ldc2_w 254, 3) := by decide +kernel
theorem dX6_luck_44 : decode cX6_luck 44 = .ok (.lreturn, 1) := by decide +kernel
theorem dX6_forecast_0 : decode cX6_forecast 0 = .ok (.aload_n 0, 1) := by decide +kernel
theorem dX6_forecast_1 : decode cX6_forecast 1 = .ok (.iload_n 1, 1) := by decide +kernel
theorem dX6_forecast_2 : decode cX6_forecast 2 = .ok (.invokevirtual 160, 3) := by decide +kernel
theorem dX6_forecast_5 : decode cX6_forecast 5 = .ok (.ifCond .eq 13, 3) := by decide +kernel
theorem dX6_forecast_8 : decode cX6_forecast 8 = .ok (.iload_n 2, 1) := by decide +kernel
theorem dX6_forecast_9 : decode cX6_forecast 9 = .ok (.i2l, 1) := by decide +kernel
theorem dX6_forecast_10 : decode cX6_forecast 10 = .ok (.lconst 0, 1) := by decide +kernel
theorem dX6_forecast_11 : decode cX6_forecast 11 = .ok (.lconst 1, 1) := by decide +kernel
theorem dX6_forecast_12 : decode cX6_forecast 12 = .ok (.invokestatic 55, 3) := by decide +kernel
theorem dX6_forecast_15 : decode cX6_forecast 15 = .ok (.ifCond .ne 7, 3) := by decide +kernel
theorem dX6_forecast_18 : decode cX6_forecast 18 = .ok (.ldc2_w 254, 3) := by decide +kernel
theorem dX6_forecast_21 : decode cX6_forecast 21 = .ok (.lreturn, 1) := by decide +kernel
theorem dX6_forecast_22 : decode cX6_forecast 22 = .ok (.lconst 0, 1) := by decide +kernel
theorem dX6_forecast_23 : decode cX6_forecast 23 = .ok (.lstore_n 3, 1) := by decide +kernel
theorem dX6_forecast_24 : decode cX6_forecast 24 = .ok (.lconst 0, 1) := by decide +kernel
theorem dX6_forecast_25 : decode cX6_forecast 25 = .ok (.lstore 5, 2) := by decide +kernel
theorem dX6_forecast_27 : decode cX6_forecast 27 = .ok (.iconst 0, 1) := by decide +kernel
theorem dX6_forecast_28 : decode cX6_forecast 28 = .ok (.istore 7, 2) := by decide +kernel
theorem dX6_forecast_30 : decode cX6_forecast 30 = .ok (.iload 7, 2) := by decide +kernel
theorem dX6_forecast_32 : decode cX6_forecast 32 = .ok (.iconst 4, 1) := by decide +kernel
theorem dX6_forecast_33 : decode cX6_forecast 33 = .ok (.if_icmp .ge 57, 3) := by decide +kernel
theorem dX6_forecast_36 : decode cX6_forecast 36 = .ok (.aload_n 0, 1) := by decide +kernel
theorem dX6_forecast_37 : decode cX6_forecast 37 = .ok (.iload_n 1, 1) := by decide +kernel
theorem dX6_forecast_38 : decode cX6_forecast 38 = .ok (.iload 7, 2) := by decide +kernel
theorem dX6_forecast_40 : decode cX6_forecast 40 = .ok (.invokevirtual 172, 3) := by decide +kernel
theorem dX6_forecast_43 : decode cX6_forecast 43 = .ok (.istore 8, 2) := by decide +kernel
theorem dX6_forecast_45 : decode cX6_forecast 45 = .ok (.lload_n 3, 1) := by decide +kernel
theorem dX6_forecast_46 : decode cX6_forecast 46 = .ok (.aload_n 0, 1) := by decide +kernel
theorem dX6_forecast_47 : decode cX6_forecast 47 = .ok (.iload 7, 2) := by decide +kernel
theorem dX6_forecast_49 : decode cX6_forecast 49 = .ok (.invokevirtual 178, 3) := by decide +kernel
theorem dX6_forecast_52 : decode cX6_forecast 52 = .ok (.i2l, 1) := by decide +kernel
theorem dX6_forecast_53 : decode cX6_forecast 53 = .ok (.iload 8, 2) := by decide +kernel
theorem dX6_forecast_55 : decode cX6_forecast 55 = .ok (.ifCond .le 8, 3) := by decide +kernel
theorem dX6_forecast_58 : decode cX6_forecast 58 = .ok (.iload 8, 2) := by decide +kernel
theorem dX6_forecast_60 : decode cX6_forecast 60 = .ok (.goto 4, 3) := by decide +kernel
theorem dX6_forecast_63 : decode cX6_forecast 63 = .ok (.iconst 0, 1) := by decide +kernel
theorem dX6_forecast_64 : decode cX6_forecast 64 = .ok (.i2l, 1) := by decide +kernel
theorem dX6_forecast_65 : decode cX6_forecast 65 = .ok (.lmul, 1) := by decide +kernel
theorem dX6_forecast_66 : decode cX6_forecast 66 = .ok (.ladd, 1) := by decide +kernel
theorem dX6_forecast_67 : decode cX6_forecast 67 = .ok (.lstore_n 3, 1) := by decide +kernel
theorem dX6_forecast_68 : decode cX6_forecast 68 = .ok (.lload 5, 2) := by decide +kernel
theorem dX6_forecast_70 : decode cX6_forecast 70 = .ok (.aload_n 0, 1) := by decide +kernel
theorem dX6_forecast_71 : decode cX6_forecast 71 = .ok (.iload 7, 2) := by decide +kernel
theorem dX6_forecast_73 : decode cX6_forecast 73 = .ok (.invokevirtual 178, 3) := by decide +kernel
theorem dX6_forecast_76 : decode cX6_forecast 76 = .ok (.i2l, 1) := by decide +kernel
theorem dX6_forecast_77 : decode cX6_forecast 77 = .ok (.iload 8, 2) := by decide +kernel
theorem dX6_forecast_79 : decode cX6_forecast 79 = .ok (.i2l, 1) := by decide +kernel
theorem dX6_forecast_80 : decode cX6_forecast 80 = .ok (.lmul, 1) := by decide +kernel
theorem dX6_forecast_81 : decode cX6_forecast 81 = .ok (.ladd, 1) := by decide +kernel
theorem dX6_forecast_82 : decode cX6_forecast 82 = .ok (.lstore 5, 2) := by decide +kernel
theorem dX6_forecast_84 : decode cX6_forecast 84 = .ok (.iinc 7 1, 3) := by decide +kernel
theorem dX6_forecast_87 : decode cX6_forecast 87 = .ok (.goto (-57), 3) := by decide +kernel
theorem dX6_forecast_90 : decode cX6_forecast 90 = .ok (.lload_n 3, 1) := by decide +kernel
theorem dX6_forecast_91 : decode cX6_forecast 91 = .ok (.lload 5, 2) := by decide +kernel
theorem dX6_forecast_93 : decode cX6_forecast 93 = .ok (.lconst 0, 1) := by decide +kernel
theorem dX6_forecast_94 : decode cX6_forecast 94 = .ok (.lcmp, 1) := by decide +kernel
theorem dX6_forecast_95 : decode cX6_forecast 95 = .ok (.ifCond .le 8, 3) := by decide +kernel
theorem dX6_forecast_98 : decode cX6_forecast 98 = .ok (.lload 5, 2) := by decide +kernel
theorem dX6_forecast_100 : decode cX6_forecast 100 = .ok (.goto 4, 3) := by decide +kernel
theorem dX6_forecast_103 : decode cX6_forecast 103 = .ok (.lconst 0, 1) := by decide +kernel
theorem dX6_forecast_104 : decode cX6_forecast 104 = .ok (.lsub, 1) := by decide +kernel
theorem dX6_forecast_105 : decode cX6_forecast 105 = .ok (.ldc2_w 244, 3) := by decide +kernel
theorem dX6_forecast_108 : decode cX6_forecast 108 = .ok (.iload_n 2, 1) := by decide +kernel
theorem dX6_forecast_109 : decode cX6_forecast 109 = .ok (.invokestatic 246, 3) := by decide +kernel
theorem dX6_forecast_112 : decode cX6_forecast 112 = .ok (.lreturn, 1) := by decide +kernel
theorem dX6_netOf_0 : decode cX6_netOf 0 = .ok (.iconst 0, 1) := by decide +kernel
theorem dX6_netOf_1 : decode cX6_netOf 1 = .ok (.istore_n 2, 1) := by decide +kernel
theorem dX6_netOf_2 : decode cX6_netOf 2 = .ok (.iconst 0, 1) := by decide +kernel
theorem dX6_netOf_3 : decode cX6_netOf 3 = .ok (.istore_n 3, 1) := by decide +kernel
theorem dX6_netOf_4 : decode cX6_netOf 4 = .ok (.iload_n 3, 1) := by decide +kernel
theorem dX6_netOf_5 : decode cX6_netOf 5 = .ok (.aload_n 0, 1) := by decide +kernel
theorem dX6_netOf_6 : decode cX6_netOf 6 = .ok (.getfield 148, 3) := by decide +kernel
theorem dX6_netOf_9 : decode cX6_netOf 9 = .ok (.if_icmp .ge 39, 3) := by decide +kernel
theorem dX6_netOf_12 : decode cX6_netOf 12 = .ok (.iload_n 2, 1) := by decide +kernel
theorem dX6_netOf_13 : decode cX6_netOf 13 = .ok (.aload_n 0, 1) := by decide +kernel
theorem dX6_netOf_14 : decode cX6_netOf 14 = .ok (.getfield 7, 3) := by decide +kernel
theorem dX6_netOf_17 : decode cX6_netOf 17 = .ok (.bipush 53, 2) := by decide +kernel
theorem dX6_netOf_19 : decode cX6_netOf 19 = .ok (.iconst 4, 1) := by decide +kernel
theorem dX6_netOf_20 : decode cX6_netOf 20 = .ok (.iload_n 3, 1) := by decide +kernel
theorem dX6_netOf_21 : decode cX6_netOf 21 = .ok (.imul, 1) := by decide +kernel
theorem dX6_netOf_22 : decode cX6_netOf 22 = .ok (.iadd, 1) := by decide +kernel
theorem dX6_netOf_23 : decode cX6_netOf 23 = .ok (.iload_n 1, 1) := by decide +kernel
theorem dX6_netOf_24 : decode cX6_netOf 24 = .ok (.iadd, 1) := by decide +kernel
theorem dX6_netOf_25 : decode cX6_netOf 25 = .ok (.iaload, 1) := by decide +kernel
theorem dX6_netOf_26 : decode cX6_netOf 26 = .ok (.aload_n 0, 1) := by decide +kernel
theorem dX6_netOf_27 : decode cX6_netOf 27 = .ok (.getfield 7, 3) := by decide +kernel
theorem dX6_netOf_30 : decode cX6_netOf 30 = .ok (.bipush 53, 2) := by decide +kernel
theorem dX6_netOf_32 : decode cX6_netOf 32 = .ok (.iconst 4, 1) := by decide +kernel
theorem dX6_netOf_33 : decode cX6_netOf 33 = .ok (.iload_n 1, 1) := by decide +kernel
theorem dX6_netOf_34 : decode cX6_netOf 34 = .ok (.imul, 1) := by decide +kernel
theorem dX6_netOf_35 : decode cX6_netOf 35 = .ok (.iadd, 1) := by decide +kernel
theorem dX6_netOf_36 : decode cX6_netOf 36 = .ok (.iload_n 3, 1) := by decide +kernel
theorem dX6_netOf_37 : decode cX6_netOf 37 = .ok (.iadd, 1) := by decide +kernel
theorem dX6_netOf_38 : decode cX6_netOf 38 = .ok (.iaload, 1) := by decide +kernel
theorem dX6_netOf_39 : decode cX6_netOf 39 = .ok (.isub, 1) := by decide +kernel
theorem dX6_netOf_40 : decode cX6_netOf 40 = .ok (.iadd, 1) := by decide +kernel
theorem dX6_netOf_41 : decode cX6_netOf 41 = .ok (.istore_n 2, 1) := by decide +kernel
theorem dX6_netOf_42 : decode cX6_netOf 42 = .ok (.iinc 3 1, 3) := by decide +kernel
theorem dX6_netOf_45 : decode cX6_netOf 45 = .ok (.goto (-41), 3) := by decide +kernel
theorem dX6_netOf_48 : decode cX6_netOf 48 = .ok (.iload_n 2, 1) := by decide +kernel
theorem dX6_netOf_49 : decode cX6_netOf 49 = .ok (.ireturn, 1) := by decide +kernel
theorem dX6_netOfSome_0 : decode cX6_netOfSome 0 = .ok (.iconst 0, 1) := by decide +kernel
theorem dX6_netOfSome_1 : decode cX6_netOfSome 1 = .ok (.istore_n 2, 1) := by decide +kernel
theorem dX6_netOfSome_2 : decode cX6_netOfSome 2 = .ok (.iconst 0, 1) := by decide +kernel
theorem dX6_netOfSome_3 : decode cX6_netOfSome 3 = .ok (.istore_n 3, 1) := by decide +kernel
theorem dX6_netOfSome_4 : decode cX6_netOfSome 4 = .ok (.iload_n 3, 1) := by decide +kernel
theorem dX6_netOfSome_5 : decode cX6_netOfSome 5 = .ok (.aload_n 0, 1) := by decide +kernel
theorem dX6_netOfSome_6 : decode cX6_netOfSome 6 = .ok (.getfield 148, 3) := by decide +kernel
theorem dX6_netOfSome_9 : decode cX6_netOfSome 9 = .ok (.if_icmp .ge 30, 3) := by decide +kernel
theorem dX6_netOfSome_12 : decode cX6_netOfSome 12 = .ok (.iload_n 2, 1) := by decide +kernel
theorem dX6_netOfSome_13 : decode cX6_netOfSome 13 = .ok (.iload_n 1, 1) := by decide +kernel
theorem dX6_netOfSome_14 : decode cX6_netOfSome 14 = .ok (.iload_n 3, 1) := by decide +kernel
theorem dX6_netOfSome_15 : decode cX6_netOfSome 15 = .ok (.ishr, 1) := by decide +kernel
theorem dX6_netOfSome_16 : decode cX6_netOfSome 16 = .ok (.iconst 1, 1) := by decide +kernel
theorem dX6_netOfSome_17 : decode cX6_netOfSome 17 = .ok (.iand, 1) := by decide +kernel
theorem dX6_netOfSome_18 : decode cX6_netOfSome 18 = .ok (.iconst 1, 1) := by decide +kernel
theorem dX6_netOfSome_19 : decode cX6_netOfSome 19 = .ok (.if_icmp .ne 11, 3) := by decide +kernel
theorem dX6_netOfSome_22 : decode cX6_netOfSome 22 = .ok (.aload_n 0, 1) := by decide +kernel
theorem dX6_netOfSome_23 : decode cX6_netOfSome 23 = .ok (.iload_n 3, 1) := by decide +kernel
theorem dX6_netOfSome_24 : decode cX6_netOfSome 24 = .ok (.invokevirtual 256, 3) := by decide +kernel
theorem dX6_netOfSome_27 : decode cX6_netOfSome 27 = .ok (.goto 4, 3) := by decide +kernel
theorem dX6_netOfSome_30 : decode cX6_netOfSome 30 = .ok (.iconst 0, 1) := by decide +kernel
theorem dX6_netOfSome_31 : decode cX6_netOfSome 31 = .ok (.iadd, 1) := by decide +kernel
theorem dX6_netOfSome_32 : decode cX6_netOfSome 32 = .ok (.istore_n 2, 1) := by decide +kernel
theorem dX6_netOfSome_33 : decode cX6_netOfSome 33 = .ok (.iinc 3 1, 3) := by decide +kernel
theorem dX6_netOfSome_36 : decode cX6_netOfSome 36 = .ok (.goto (-32), 3) := by decide +kernel
theorem dX6_netOfSome_39 : decode cX6_netOfSome 39 = .ok (.iload_n 2, 1) := by decide +kernel
theorem dX6_netOfSome_40 : decode cX6_netOfSome 40 = .ok (.ireturn, 1) := by decide +kernel
theorem dX6_pays_0 : decode cX6_pays 0 = .ok (.iconst 0, 1) := by decide +kernel
theorem dX6_pays_1 : decode cX6_pays 1 = .ok (.istore_n 1, 1) := by decide +kernel
theorem dX6_pays_2 : decode cX6_pays 2 = .ok (.iconst 0, 1) := by decide +kernel
theorem dX6_pays_3 : decode cX6_pays 3 = .ok (.istore_n 2, 1) := by decide +kernel
theorem dX6_pays_4 : decode cX6_pays 4 = .ok (.iload_n 2, 1) := by decide +kernel
theorem dX6_pays_5 : decode cX6_pays 5 = .ok (.aload_n 0, 1) := by decide +kernel
theorem dX6_pays_6 : decode cX6_pays 6 = .ok (.getfield 148, 3) := by decide +kernel
theorem dX6_pays_9 : decode cX6_pays 9 = .ok (.if_icmp .ge 27, 3) := by decide +kernel
theorem dX6_pays_12 : decode cX6_pays 12 = .ok (.iload_n 1, 1) := by decide +kernel
theorem dX6_pays_13 : decode cX6_pays 13 = .ok (.aload_n 0, 1) := by decide +kernel
theorem dX6_pays_14 : decode cX6_pays 14 = .ok (.iload_n 2, 1) := by decide +kernel
theorem dX6_pays_15 : decode cX6_pays 15 = .ok (.invokevirtual 256, 3) := by decide +kernel
theorem dX6_pays_18 : decode cX6_pays 18 = .ok (.ifCond .eq 9, 3) := by decide +kernel
theorem dX6_pays_21 : decode cX6_pays 21 = .ok (.iconst 1, 1) := by decide +kernel
theorem dX6_pays_22 : decode cX6_pays 22 = .ok (.iload_n 2, 1) := by decide +kernel
theorem dX6_pays_23 : decode cX6_pays 23 = .ok (.ishl, 1) := by decide +kernel
theorem dX6_pays_24 : decode cX6_pays 24 = .ok (.goto 4, 3) := by decide +kernel
theorem dX6_pays_27 : decode cX6_pays 27 = .ok (.iconst 0, 1) := by decide +kernel
