def mT : List jD := ([.inr (.inr (6, [some (some (132)), some (some (133)), none, some (some (134)), none, none, none, some (some (135)), none, none, none, none, none, none, none, none, some (some (136)), some (some (137)), none, some (some (138)), some (some (139)), none, some (some (140)), some (some (141)), some (some (142)), some (some (143)), some (some (144)), some (some (145)), none])), .inl (0, 414), .inl (0, 16), .inl (0, 69), .inl (0, 160), .inl (0, 13), .inl (0, 56), .inl (0, 16), .inl (0, 18), .inl (0, 4096), .inl (1, 256), .inl (1, 2), .inl (0, 4), .inl (0, 4), .inl (0, 160)] : List jD)
set_option maxHeartbeats 4000000 in
theorem c6_init {g : jG} {d : Nat} {σ : List jD} {h : jH} (hv : σ.length = 131) : M g (d + 1) YX6_init (14, 5284) (σ ++ [oX6]) h [.ref 131] (fun r σ' h' => r = none ∧ σ' = σ ++ mT ∧ ((((∀ k, h' 132 k = 0) ∧ (∀ i, i < 16 → h' 133 i = j_bri.getD i 0) ∧ low 132 h h') ∧ (∀ i, i < 13 → h' 136 i = j_cut.getD i 0) ∧ ∀ i, i < 56 → h' 137 i = j_let.getD i 0) ∧ (∀ k, h' 142 k = 0) ∧ ∀ i, i < 4 → h' 143 i = -4) ∧ (∀ k, h' 144 k = 0) ∧ ∀ k, h' 145 k = 0) := by
  refine M.of (by decide) rfl (Nat.le_of_ble_eq_true rfl) ?_
  refine J_aload_n (pc := 0) dX6_init_0 rfl ?_
  refine J_objInit (pc := 1) dX6_init_1 qX6_1 w_oi_i w_oi_c (Nat.le_of_ble_eq_true rfl) ?_
  refine J_aload_n (pc := 4) dX6_init_4 rfl ?_
  refine J_sipush (pc := 5) (v := nI 414) dX6_init_5 (by decide) ?_
  refine R_newa (pc := 8) (b1 := 13) (b2 := 4870) (k := 1) (T' := ([.inr (.inr (6, [some none, some none, none, some none, none, none, none, some none, none, none, none, none, none, none, none, none, some none, some none, none, some none, some none, none, some none, some none, some none, some none, some none, some none, none])), .inl (0, 414)] : List jD)) dX6_init_8 rfl (Or.inl ⟨rfl, rfl⟩) (j_bm (j_m1 96 rfl) rfl) (N := 414) rfl (by decide) hv rfl rfl (by omega) ?_
  refine R_putF (pc := 10) (i := 0) (T' := ([.inr (.inr (6, [some (some (132)), some none, none, some none, none, none, none, some none, none, none, none, none, none, none, none, none, some none, some none, none, some none, some none, none, some none, some none, some none, some none, some none, some none, none])), .inl (0, 414)] : List jD)) dX6_init_10 fX6_7 ⟨_, _, rfl⟩ rfl rfl hv rfl rfl (Nat.le_of_ble_eq_true rfl) rfl ?_
  refine J_aload_n (pc := 13) dX6_init_13 rfl ?_
  refine J_bipush (pc := 14) (v := nI 16) dX6_init_14 (by decide) ?_
  refine R_newa (pc := 16) (b1 := 12) (b2 := 4854) (k := 2) (T' := ([.inr (.inr (6, [some (some (132)), some none, none, some none, none, none, none, some none, none, none, none, none, none, none, none, none, some none, some none, none, some none, some none, none, some none, some none, some none, some none, some none, some none, none])), .inl (0, 414), .inl (0, 16)] : List jD)) dX6_init_16 rfl (Or.inl ⟨rfl, rfl⟩) (j_bm (j_m1 96 rfl) rfl) (N := 16) rfl (by decide) hv rfl rfl (by omega) ?_
  refine J_dup (pc := 18) dX6_init_18 rfl ?_
  refine J_iconst (pc := 19) (v := nI 0) dX6_init_19 (by decide) ?_
  refine J_iconst (pc := 20) (v := nI 3) dX6_init_20 (by decide) ?_
  refine J_iast (pc := 21) dX6_init_21 (R_at (i := 2) hv rfl rfl) (k := 0) rfl (by decide) (by decide) ?_
  refine J_dup (pc := 22) dX6_init_22 rfl ?_
  refine J_iconst (pc := 23) (v := nI 1) dX6_init_23 (by decide) ?_
  refine J_iconst (pc := 24) (v := nI 1) dX6_init_24 (by decide) ?_
  refine J_iast (pc := 25) dX6_init_25 (R_at (i := 2) hv rfl rfl) (k := 1) rfl (by decide) (by decide) ?_
  refine J_dup (pc := 26) dX6_init_26 rfl ?_
  refine J_iconst (pc := 27) (v := nI 2) dX6_init_27 (by decide) ?_
  refine J_bipush (pc := 28) (v := -2) dX6_init_28 (by decide) ?_
  refine J_iast (pc := 30) dX6_init_30 (R_at (i := 2) hv rfl rfl) (k := 2) rfl (by decide) (by decide) ?_
  refine J_dup (pc := 31) dX6_init_31 rfl ?_
  refine J_iconst (pc := 32) (v := nI 3) dX6_init_32 (by decide) ?_
  refine J_bipush (pc := 33) (v := -3) dX6_init_33 (by decide) ?_
  refine J_iast (pc := 35) dX6_init_35 (R_at (i := 2) hv rfl rfl) (k := 3) rfl (by decide) (by decide) ?_
  refine J_dup (pc := 36) dX6_init_36 rfl ?_
  refine J_iconst (pc := 37) (v := nI 4) dX6_init_37 (by decide) ?_
  refine J_bipush (pc := 38) (v := -2) dX6_init_38 (by decide) ?_
  refine J_iast (pc := 40) dX6_init_40 (R_at (i := 2) hv rfl rfl) (k := 4) rfl (by decide) (by decide) ?_
  refine J_dup (pc := 41) dX6_init_41 rfl ?_
  refine J_iconst (pc := 42) (v := nI 5) dX6_init_42 (by decide) ?_
  refine J_iconst (pc := 43) (v := nI 1) dX6_init_43 (by decide) ?_
  refine J_iast (pc := 44) dX6_init_44 (R_at (i := 2) hv rfl rfl) (k := 5) rfl (by decide) (by decide) ?_
  refine J_dup (pc := 45) dX6_init_45 rfl ?_
  refine J_bipush (pc := 46) (v := nI 6) dX6_init_46 (by decide) ?_
  refine J_iconst (pc := 48) (v := nI 3) dX6_init_48 (by decide) ?_
  refine J_iast (pc := 49) dX6_init_49 (R_at (i := 2) hv rfl rfl) (k := 6) rfl (by decide) (by decide) ?_
  refine J_dup (pc := 50) dX6_init_50 rfl ?_
  refine J_bipush (pc := 51) (v := nI 7) dX6_init_51 (by decide) ?_
  refine J_bipush (pc := 53) (v := -3) dX6_init_53 (by decide) ?_
  refine J_iast (pc := 55) dX6_init_55 (R_at (i := 2) hv rfl rfl) (k := 7) rfl (by decide) (by decide) ?_
  refine J_dup (pc := 56) dX6_init_56 rfl ?_
  refine J_bipush (pc := 57) (v := nI 8) dX6_init_57 (by decide) ?_
  refine J_iconst (pc := 59) (v := -1) dX6_init_59 (by decide) ?_
  refine J_iast (pc := 60) dX6_init_60 (R_at (i := 2) hv rfl rfl) (k := 8) rfl (by decide) (by decide) ?_
  refine J_dup (pc := 61) dX6_init_61 rfl ?_
  refine J_bipush (pc := 62) (v := nI 9) dX6_init_62 (by decide) ?_
  refine J_iconst (pc := 64) (v := nI 3) dX6_init_64 (by decide) ?_
  refine J_iast (pc := 65) dX6_init_65 (R_at (i := 2) hv rfl rfl) (k := 9) rfl (by decide) (by decide) ?_
  refine J_dup (pc := 66) dX6_init_66 rfl ?_
  refine J_bipush (pc := 67) (v := nI 10) dX6_init_67 (by decide) ?_
  refine J_iconst (pc := 69) (v := -1) dX6_init_69 (by decide) ?_
  refine J_iast (pc := 70) dX6_init_70 (R_at (i := 2) hv rfl rfl) (k := 10) rfl (by decide) (by decide) ?_
  refine J_dup (pc := 71) dX6_init_71 rfl ?_
  refine J_bipush (pc := 72) (v := nI 11) dX6_init_72 (by decide) ?_
  refine J_iconst (pc := 74) (v := -1) dX6_init_74 (by decide) ?_
  refine J_iast (pc := 75) dX6_init_75 (R_at (i := 2) hv rfl rfl) (k := 11) rfl (by decide) (by decide) ?_
  refine J_dup (pc := 76) dX6_init_76 rfl ?_
  refine J_bipush (pc := 77) (v := nI 12) dX6_init_77 (by decide) ?_
  refine J_bipush (pc := 79) (v := -3) dX6_init_79 (by decide) ?_
  refine J_iast (pc := 81) dX6_init_81 (R_at (i := 2) hv rfl rfl) (k := 12) rfl (by decide) (by decide) ?_
  refine J_dup (pc := 82) dX6_init_82 rfl ?_
  refine J_bipush (pc := 83) (v := nI 13) dX6_init_83 (by decide) ?_
  refine J_iconst (pc := 85) (v := nI 0) dX6_init_85 (by decide) ?_
  refine J_iast (pc := 86) dX6_init_86 (R_at (i := 2) hv rfl rfl) (k := 13) rfl (by decide) (by decide) ?_
  refine J_dup (pc := 87) dX6_init_87 rfl ?_
  refine J_bipush (pc := 88) (v := nI 14) dX6_init_88 (by decide) ?_
  refine J_iconst (pc := 90) (v := nI 4) dX6_init_90 (by decide) ?_
  refine J_iast (pc := 91) dX6_init_91 (R_at (i := 2) hv rfl rfl) (k := 14) rfl (by decide) (by decide) ?_
  refine J_dup (pc := 92) dX6_init_92 rfl ?_
  refine J_bipush (pc := 93) (v := nI 15) dX6_init_93 (by decide) ?_
  refine J_bipush (pc := 95) (v := -4) dX6_init_95 (by decide) ?_
  refine J_iast (pc := 97) dX6_init_97 (R_at (i := 2) hv rfl rfl) (k := 15) rfl (by decide) (by decide) ?_
  refine J_abs (fun h' => (∀ k, h' 132 k = 0) ∧ (∀ i, i < 16 → h' 133 i = j_bri.getD i 0) ∧ low 132 h h') ⟨?_, ?_, ?_⟩ (fun h1 p1 => ?_)
  · exact fun k => rfl
  · intro i hi
    match i, hi with
    | 0, _ => rfl
    | 1, _ => rfl
    | 2, _ => rfl
    | 3, _ => rfl
    | 4, _ => rfl
    | 5, _ => rfl
    | 6, _ => rfl
    | 7, _ => rfl
    | 8, _ => rfl
    | 9, _ => rfl
    | 10, _ => rfl
    | 11, _ => rfl
    | 12, _ => rfl
    | 13, _ => rfl
    | 14, _ => rfl
    | 15, _ => rfl
    | i + 16, hi => exact absurd hi (by omega)
  · exact ((((((((((((((((((low_row (by omega))).tr (low_row (by omega))).tr (low_up (by omega))).tr (low_up (by omega))).tr (low_up (by omega))).tr (low_up (by omega))).tr (low_up (by omega))).tr (low_up (by omega))).tr (low_up (by omega))).tr (low_up (by omega))).tr (low_up (by omega))).tr (low_up (by omega))).tr (low_up (by omega))).tr (low_up (by omega))).tr (low_up (by omega))).tr (low_up (by omega))).tr (low_up (by omega))).tr (low_up (by omega))
  refine R_putF (pc := 98) (i := 0) (T' := ([.inr (.inr (6, [some (some (132)), some (some (133)), none, some none, none, none, none, some none, none, none, none, none, none, none, none, none, some none, some none, none, some none, some none, none, some none, some none, some none, some none, some none, some none, none])), .inl (0, 414), .inl (0, 16)] : List jD)) dX6_init_98 fX6_13 ⟨_, _, rfl⟩ rfl rfl hv rfl rfl (Nat.le_of_ble_eq_true rfl) rfl ?_
  refine J_aload_n (pc := 101) dX6_init_101 rfl ?_
  refine J_bipush (pc := 102) (v := nI 69) dX6_init_102 (by decide) ?_
  refine R_newa (pc := 104) (b1 := 11) (b2 := 4785) (k := 3) (T' := ([.inr (.inr (6, [some (some (132)), some (some (133)), none, some none, none, none, none, some none, none, none, none, none, none, none, none, none, some none, some none, none, some none, some none, none, some none, some none, some none, some none, some none, some none, none])), .inl (0, 414), .inl (0, 16), .inl (0, 69)] : List jD)) dX6_init_104 rfl (Or.inl ⟨rfl, rfl⟩) (j_bm (j_m1 96 rfl) rfl) (N := 69) rfl (by decide) hv rfl rfl (by omega) ?_
  refine R_putF (pc := 106) (i := 0) (T' := ([.inr (.inr (6, [some (some (132)), some (some (133)), none, some (some (134)), none, none, none, some none, none, none, none, none, none, none, none, none, some none, some none, none, some none, some none, none, some none, some none, some none, some none, some none, some none, none])), .inl (0, 414), .inl (0, 16), .inl (0, 69)] : List jD)) dX6_init_106 fX6_16 ⟨_, _, rfl⟩ rfl rfl hv rfl rfl (Nat.le_of_ble_eq_true rfl) rfl ?_
  refine J_aload_n (pc := 109) dX6_init_109 rfl ?_
  refine J_sipush (pc := 110) (v := nI 160) dX6_init_110 (by decide) ?_
  refine R_newa (pc := 113) (b1 := 10) (b2 := 4625) (k := 4) (T' := ([.inr (.inr (6, [some (some (132)), some (some (133)), none, some (some (134)), none, none, none, some none, none, none, none, none, none, none, none, none, some none, some none, none, some none, some none, none, some none, some none, some none, some none, some none, some none, none])), .inl (0, 414), .inl (0, 16), .inl (0, 69), .inl (0, 160)] : List jD)) dX6_init_113 rfl (Or.inl ⟨rfl, rfl⟩) (j_bm (j_m1 96 rfl) rfl) (N := 160) rfl (by decide) hv rfl rfl (by omega) ?_
  refine R_putF (pc := 115) (i := 0) (T' := ([.inr (.inr (6, [some (some (132)), some (some (133)), none, some (some (134)), none, none, none, some (some (135)), none, none, none, none, none, none, none, none, some none, some none, none, some none, some none, none, some none, some none, some none, some none, some none, some none, none])), .inl (0, 414), .inl (0, 16), .inl (0, 69), .inl (0, 160)] : List jD)) dX6_init_115 fX6_19 ⟨_, _, rfl⟩ rfl rfl hv rfl rfl (Nat.le_of_ble_eq_true rfl) rfl ?_
  refine J_aload_n (pc := 118) dX6_init_118 rfl ?_
  refine J_bipush (pc := 119) (v := nI 13) dX6_init_119 (by decide) ?_
  refine R_newa (pc := 121) (b1 := 9) (b2 := 4612) (k := 5) (T' := ([.inr (.inr (6, [some (some (132)), some (some (133)), none, some (some (134)), none, none, none, some (some (135)), none, none, none, none, none, none, none, none, some none, some none, none, some none, some none, none, some none, some none, some none, some none, some none, some none, none])), .inl (0, 414), .inl (0, 16), .inl (0, 69), .inl (0, 160), .inl (0, 13)] : List jD)) dX6_init_121 rfl (Or.inl ⟨rfl, rfl⟩) (j_bm (j_m1 96 rfl) rfl) (N := 13) rfl (by decide) hv rfl rfl (by omega) ?_
  refine J_dup (pc := 123) dX6_init_123 rfl ?_
  refine J_iconst (pc := 124) (v := nI 0) dX6_init_124 (by decide) ?_
  refine J_iconst (pc := 125) (v := nI 0) dX6_init_125 (by decide) ?_
  refine J_iast (pc := 126) dX6_init_126 (R_at (i := 5) hv rfl rfl) (k := 0) rfl (by decide) (by decide) ?_
  refine J_dup (pc := 127) dX6_init_127 rfl ?_
  refine J_iconst (pc := 128) (v := nI 1) dX6_init_128 (by decide) ?_
  refine J_bipush (pc := 129) (v := nI 6) dX6_init_129 (by decide) ?_
  refine J_iast (pc := 131) dX6_init_131 (R_at (i := 5) hv rfl rfl) (k := 1) rfl (by decide) (by decide) ?_
  refine J_dup (pc := 132) dX6_init_132 rfl ?_
  refine J_iconst (pc := 133) (v := nI 2) dX6_init_133 (by decide) ?_
  refine J_bipush (pc := 134) (v := nI 13) dX6_init_134 (by decide) ?_
  refine J_iast (pc := 136) dX6_init_136 (R_at (i := 5) hv rfl rfl) (k := 2) rfl (by decide) (by decide) ?_
  refine J_dup (pc := 137) dX6_init_137 rfl ?_
  refine J_iconst (pc := 138) (v := nI 3) dX6_init_138 (by decide) ?_
  refine J_bipush (pc := 139) (v := nI 19) dX6_init_139 (by decide) ?_
  refine J_iast (pc := 141) dX6_init_141 (R_at (i := 5) hv rfl rfl) (k := 3) rfl (by decide) (by decide) ?_
  refine J_dup (pc := 142) dX6_init_142 rfl ?_
  refine J_iconst (pc := 143) (v := nI 4) dX6_init_143 (by decide) ?_
  refine J_bipush (pc := 144) (v := nI 24) dX6_init_144 (by decide) ?_
  refine J_iast (pc := 146) dX6_init_146 (R_at (i := 5) hv rfl rfl) (k := 4) rfl (by decide) (by decide) ?_
  refine J_dup (pc := 147) dX6_init_147 rfl ?_
  refine J_iconst (pc := 148) (v := nI 5) dX6_init_148 (by decide) ?_
  refine J_bipush (pc := 149) (v := nI 29) dX6_init_149 (by decide) ?_
  refine J_iast (pc := 151) dX6_init_151 (R_at (i := 5) hv rfl rfl) (k := 5) rfl (by decide) (by decide) ?_
  refine J_dup (pc := 152) dX6_init_152 rfl ?_
  refine J_bipush (pc := 153) (v := nI 6) dX6_init_153 (by decide) ?_
  refine J_bipush (pc := 155) (v := nI 33) dX6_init_155 (by decide) ?_
  refine J_iast (pc := 157) dX6_init_157 (R_at (i := 5) hv rfl rfl) (k := 6) rfl (by decide) (by decide) ?_
  refine J_dup (pc := 158) dX6_init_158 rfl ?_
  refine J_bipush (pc := 159) (v := nI 7) dX6_init_159 (by decide) ?_
  refine J_bipush (pc := 161) (v := nI 38) dX6_init_161 (by decide) ?_
  refine J_iast (pc := 163) dX6_init_163 (R_at (i := 5) hv rfl rfl) (k := 7) rfl (by decide) (by decide) ?_
  refine J_dup (pc := 164) dX6_init_164 rfl ?_
  refine J_bipush (pc := 165) (v := nI 8) dX6_init_165 (by decide) ?_
  refine J_bipush (pc := 167) (v := nI 41) dX6_init_167 (by decide) ?_
  refine J_iast (pc := 169) dX6_init_169 (R_at (i := 5) hv rfl rfl) (k := 8) rfl (by decide) (by decide) ?_
  refine J_dup (pc := 170) dX6_init_170 rfl ?_
  refine J_bipush (pc := 171) (v := nI 9) dX6_init_171 (by decide) ?_
  refine J_bipush (pc := 173) (v := nI 44) dX6_init_173 (by decide) ?_
  refine J_iast (pc := 175) dX6_init_175 (R_at (i := 5) hv rfl rfl) (k := 9) rfl (by decide) (by decide) ?_
  refine J_dup (pc := 176) dX6_init_176 rfl ?_
  refine J_bipush (pc := 177) (v := nI 10) dX6_init_177 (by decide) ?_
  refine J_bipush (pc := 179) (v := nI 48) dX6_init_179 (by decide) ?_
  refine J_iast (pc := 181) dX6_init_181 (R_at (i := 5) hv rfl rfl) (k := 10) rfl (by decide) (by decide) ?_
  refine J_dup (pc := 182) dX6_init_182 rfl ?_
  refine J_bipush (pc := 183) (v := nI 11) dX6_init_183 (by decide) ?_
  refine J_bipush (pc := 185) (v := nI 51) dX6_init_185 (by decide) ?_
  refine J_iast (pc := 187) dX6_init_187 (R_at (i := 5) hv rfl rfl) (k := 11) rfl (by decide) (by decide) ?_
  refine J_dup (pc := 188) dX6_init_188 rfl ?_
  refine J_bipush (pc := 189) (v := nI 12) dX6_init_189 (by decide) ?_
  refine J_bipush (pc := 191) (v := nI 56) dX6_init_191 (by decide) ?_
  refine J_iast (pc := 193) dX6_init_193 (R_at (i := 5) hv rfl rfl) (k := 12) rfl (by decide) (by decide) ?_
  refine J_abs (fun h' => ((∀ k, h' 132 k = 0) ∧ (∀ i, i < 16 → h' 133 i = j_bri.getD i 0) ∧ low 132 h h') ∧ ∀ i, i < 13 → h' 136 i = j_cut.getD i 0) ⟨⟨?_, ?_, ?_⟩, ?_⟩ (fun h2 p2 => ?_)
  · exact fun k => p1.1 k
  · exact fun i hi => p1.2.1 i hi
  · exact (p1.2.2).tr (((((((((((((((((low_row (by omega))).tr (low_row (by omega))).tr (low_row (by omega))).tr (low_up (by omega))).tr (low_up (by omega))).tr (low_up (by omega))).tr (low_up (by omega))).tr (low_up (by omega))).tr (low_up (by omega))).tr (low_up (by omega))).tr (low_up (by omega))).tr (low_up (by omega))).tr (low_up (by omega))).tr (low_up (by omega))).tr (low_up (by omega))).tr (low_up (by omega)))
  · intro i hi
    match i, hi with
    | 0, _ => rfl
    | 1, _ => rfl
    | 2, _ => rfl
    | 3, _ => rfl
    | 4, _ => rfl
    | 5, _ => rfl
    | 6, _ => rfl
    | 7, _ => rfl
    | 8, _ => rfl
    | 9, _ => rfl
    | 10, _ => rfl
    | 11, _ => rfl
    | 12, _ => rfl
    | i + 13, hi => exact absurd hi (by omega)
  refine R_putF (pc := 194) (i := 0) (T' := ([.inr (.inr (6, [some (some (132)), some (some (133)), none, some (some (134)), none, none, none, some (some (135)), none, none, none, none, none, none, none, none, some (some (136)), some none, none, some none, some none, none, some none, some none, some none, some none, some none, some none, none])), .inl (0, 414), .inl (0, 16), .inl (0, 69), .inl (0, 160), .inl (0, 13)] : List jD)) dX6_init_194 fX6_22 ⟨_, _, rfl⟩ rfl rfl hv rfl rfl (Nat.le_of_ble_eq_true rfl) rfl ?_
  refine J_aload_n (pc := 197) dX6_init_197 rfl ?_
  refine J_bipush (pc := 198) (v := nI 56) dX6_init_198 (by decide) ?_
  refine R_newa (pc := 200) (b1 := 8) (b2 := 4556) (k := 6) (T' := ([.inr (.inr (6, [some (some (132)), some (some (133)), none, some (some (134)), none, none, none, some (some (135)), none, none, none, none, none, none, none, none, some (some (136)), some none, none, some none, some none, none, some none, some none, some none, some none, some none, some none, none])), .inl (0, 414), .inl (0, 16), .inl (0, 69), .inl (0, 160), .inl (0, 13), .inl (0, 56)] : List jD)) dX6_init_200 rfl (Or.inl ⟨rfl, rfl⟩) (j_bm (j_m1 96 rfl) rfl) (N := 56) rfl (by decide) hv rfl rfl (by omega) ?_
  refine J_dup (pc := 202) dX6_init_202 rfl ?_
  refine J_iconst (pc := 203) (v := nI 0) dX6_init_203 (by decide) ?_
  refine J_bipush (pc := 204) (v := nI 102) dX6_init_204 (by decide) ?_
  refine J_iast (pc := 206) dX6_init_206 (R_at (i := 6) hv rfl rfl) (k := 0) rfl (by decide) (by decide) ?_
  refine J_dup (pc := 207) dX6_init_207 rfl ?_
  refine J_iconst (pc := 208) (v := nI 1) dX6_init_208 (by decide) ?_
  refine J_bipush (pc := 209) (v := nI 97) dX6_init_209 (by decide) ?_
  refine J_iast (pc := 211) dX6_init_211 (R_at (i := 6) hv rfl rfl) (k := 1) rfl (by decide) (by decide) ?_
  refine J_dup (pc := 212) dX6_init_212 rfl ?_
  refine J_iconst (pc := 213) (v := nI 2) dX6_init_213 (by decide) ?_
  refine J_bipush (pc := 214) (v := nI 114) dX6_init_214 (by decide) ?_
  refine J_iast (pc := 216) dX6_init_216 (R_at (i := 6) hv rfl rfl) (k := 2) rfl (by decide) (by decide) ?_
  refine J_dup (pc := 217) dX6_init_217 rfl ?_
  refine J_iconst (pc := 218) (v := nI 3) dX6_init_218 (by decide) ?_
  refine J_bipush (pc := 219) (v := nI 109) dX6_init_219 (by decide) ?_
  refine J_iast (pc := 221) dX6_init_221 (R_at (i := 6) hv rfl rfl) (k := 3) rfl (by decide) (by decide) ?_
  refine J_dup (pc := 222) dX6_init_222 rfl ?_
  refine J_iconst (pc := 223) (v := nI 4) dX6_init_223 (by decide) ?_
  refine J_bipush (pc := 224) (v := nI 101) dX6_init_224 (by decide) ?_
  refine J_iast (pc := 226) dX6_init_226 (R_at (i := 6) hv rfl rfl) (k := 4) rfl (by decide) (by decide) ?_
  refine J_dup (pc := 227) dX6_init_227 rfl ?_
  refine J_iconst (pc := 228) (v := nI 5) dX6_init_228 (by decide) ?_
  refine J_bipush (pc := 229) (v := nI 114) dX6_init_229 (by decide) ?_
  refine J_iast (pc := 231) dX6_init_231 (R_at (i := 6) hv rfl rfl) (k := 5) rfl (by decide) (by decide) ?_
  refine J_dup (pc := 232) dX6_init_232 rfl ?_
  refine J_bipush (pc := 233) (v := nI 6) dX6_init_233 (by decide) ?_
  refine J_bipush (pc := 235) (v := nI 98) dX6_init_235 (by decide) ?_
  refine J_iast (pc := 237) dX6_init_237 (R_at (i := 6) hv rfl rfl) (k := 6) rfl (by decide) (by decide) ?_
  refine J_dup (pc := 238) dX6_init_238 rfl ?_
  refine J_bipush (pc := 239) (v := nI 7) dX6_init_239 (by decide) ?_
  refine J_bipush (pc := 241) (v := nI 111) dX6_init_241 (by decide) ?_
  refine J_iast (pc := 243) dX6_init_243 (R_at (i := 6) hv rfl rfl) (k := 7) rfl (by decide) (by decide) ?_
  refine J_dup (pc := 244) dX6_init_244 rfl ?_
  refine J_bipush (pc := 245) (v := nI 8) dX6_init_245 (by decide) ?_
  refine J_bipush (pc := 247) (v := nI 97) dX6_init_247 (by decide) ?_
  refine J_iast (pc := 249) dX6_init_249 (R_at (i := 6) hv rfl rfl) (k := 8) rfl (by decide) (by decide) ?_
  refine J_dup (pc := 250) dX6_init_250 rfl ?_
  refine J_bipush (pc := 251) (v := nI 9) dX6_init_251 (by decide) ?_
  refine J_bipush (pc := 253) (v := nI 116) dX6_init_253 (by decide) ?_
  refine J_iast (pc := 255) dX6_init_255 (R_at (i := 6) hv rfl rfl) (k := 9) rfl (by decide) (by decide) ?_
  refine J_dup (pc := 256) dX6_init_256 rfl ?_
  refine J_bipush (pc := 257) (v := nI 10) dX6_init_257 (by decide) ?_
  refine J_bipush (pc := 259) (v := nI 109) dX6_init_259 (by decide) ?_
  refine J_iast (pc := 261) dX6_init_261 (R_at (i := 6) hv rfl rfl) (k := 10) rfl (by decide) (by decide) ?_
  refine J_dup (pc := 262) dX6_init_262 rfl ?_
  refine J_bipush (pc := 263) (v := nI 11) dX6_init_263 (by decide) ?_
  refine J_bipush (pc := 265) (v := nI 97) dX6_init_265 (by decide) ?_
  refine J_iast (pc := 267) dX6_init_267 (R_at (i := 6) hv rfl rfl) (k := 11) rfl (by decide) (by decide) ?_
  refine J_dup (pc := 268) dX6_init_268 rfl ?_
  refine J_bipush (pc := 269) (v := nI 12) dX6_init_269 (by decide) ?_
  refine J_bipush (pc := 271) (v := nI 110) dX6_init_271 (by decide) ?_
  refine J_iast (pc := 273) dX6_init_273 (R_at (i := 6) hv rfl rfl) (k := 12) rfl (by decide) (by decide) ?_
  refine J_dup (pc := 274) dX6_init_274 rfl ?_
  refine J_bipush (pc := 275) (v := nI 13) dX6_init_275 (by decide) ?_
  refine J_bipush (pc := 277) (v := nI 109) dX6_init_277 (by decide) ?_
  refine J_iast (pc := 279) dX6_init_279 (R_at (i := 6) hv rfl rfl) (k := 13) rfl (by decide) (by decide) ?_
  refine J_dup (pc := 280) dX6_init_280 rfl ?_
  refine J_bipush (pc := 281) (v := nI 14) dX6_init_281 (by decide) ?_
  refine J_bipush (pc := 283) (v := nI 105) dX6_init_283 (by decide) ?_
  refine J_iast (pc := 285) dX6_init_285 (R_at (i := 6) hv rfl rfl) (k := 14) rfl (by decide) (by decide) ?_
  refine J_dup (pc := 286) dX6_init_286 rfl ?_
  refine J_bipush (pc := 287) (v := nI 15) dX6_init_287 (by decide) ?_
  refine J_bipush (pc := 289) (v := nI 108) dX6_init_289 (by decide) ?_
  refine J_iast (pc := 291) dX6_init_291 (R_at (i := 6) hv rfl rfl) (k := 15) rfl (by decide) (by decide) ?_
  refine J_dup (pc := 292) dX6_init_292 rfl ?_
  refine J_bipush (pc := 293) (v := nI 16) dX6_init_293 (by decide) ?_
  refine J_bipush (pc := 295) (v := nI 108) dX6_init_295 (by decide) ?_
  refine J_iast (pc := 297) dX6_init_297 (R_at (i := 6) hv rfl rfl) (k := 16) rfl (by decide) (by decide) ?_
  refine J_dup (pc := 298) dX6_init_298 rfl ?_
  refine J_bipush (pc := 299) (v := nI 17) dX6_init_299 (by decide) ?_
  refine J_bipush (pc := 301) (v := nI 101) dX6_init_301 (by decide) ?_
  refine J_iast (pc := 303) dX6_init_303 (R_at (i := 6) hv rfl rfl) (k := 17) rfl (by decide) (by decide) ?_
  refine J_dup (pc := 304) dX6_init_304 rfl ?_
  refine J_bipush (pc := 305) (v := nI 18) dX6_init_305 (by decide) ?_
  refine J_bipush (pc := 307) (v := nI 114) dX6_init_307 (by decide) ?_
  refine J_iast (pc := 309) dX6_init_309 (R_at (i := 6) hv rfl rfl) (k := 18) rfl (by decide) (by decide) ?_
  refine J_dup (pc := 310) dX6_init_310 rfl ?_
  refine J_bipush (pc := 311) (v := nI 19) dX6_init_311 (by decide) ?_
  refine J_bipush (pc := 313) (v := nI 101) dX6_init_313 (by decide) ?_
  refine J_iast (pc := 315) dX6_init_315 (R_at (i := 6) hv rfl rfl) (k := 19) rfl (by decide) (by decide) ?_
  refine J_dup (pc := 316) dX6_init_316 rfl ?_
  refine J_bipush (pc := 317) (v := nI 20) dX6_init_317 (by decide) ?_
  refine J_bipush (pc := 319) (v := nI 101) dX6_init_319 (by decide) ?_
  refine J_iast (pc := 321) dX6_init_321 (R_at (i := 6) hv rfl rfl) (k := 20) rfl (by decide) (by decide) ?_
  refine J_dup (pc := 322) dX6_init_322 rfl ?_
  refine J_bipush (pc := 323) (v := nI 21) dX6_init_323 (by decide) ?_
  refine J_bipush (pc := 325) (v := nI 108) dX6_init_325 (by decide) ?_
  refine J_iast (pc := 327) dX6_init_327 (R_at (i := 6) hv rfl rfl) (k := 21) rfl (by decide) (by decide) ?_
  refine J_dup (pc := 328) dX6_init_328 rfl ?_
  refine J_bipush (pc := 329) (v := nI 22) dX6_init_329 (by decide) ?_
  refine J_bipush (pc := 331) (v := nI 101) dX6_init_331 (by decide) ?_
  refine J_iast (pc := 333) dX6_init_333 (R_at (i := 6) hv rfl rfl) (k := 22) rfl (by decide) (by decide) ?_
  refine J_dup (pc := 334) dX6_init_334 rfl ?_
  refine J_bipush (pc := 335) (v := nI 23) dX6_init_335 (by decide) ?_
  refine J_bipush (pc := 337) (v := nI 114) dX6_init_337 (by decide) ?_
  refine J_iast (pc := 339) dX6_init_339 (R_at (i := 6) hv rfl rfl) (k := 23) rfl (by decide) (by decide) ?_
  refine J_dup (pc := 340) dX6_init_340 rfl ?_
  refine J_bipush (pc := 341) (v := nI 24) dX6_init_341 (by decide) ?_
  refine J_bipush (pc := 343) (v := nI 99) dX6_init_343 (by decide) ?_
  refine J_iast (pc := 345) dX6_init_345 (R_at (i := 6) hv rfl rfl) (k := 24) rfl (by decide) (by decide) ?_
  refine J_dup (pc := 346) dX6_init_346 rfl ?_
  refine J_bipush (pc := 347) (v := nI 25) dX6_init_347 (by decide) ?_
  refine J_bipush (pc := 349) (v := nI 111) dX6_init_349 (by decide) ?_
  refine J_iast (pc := 351) dX6_init_351 (R_at (i := 6) hv rfl rfl) (k := 25) rfl (by decide) (by decide) ?_
  refine J_dup (pc := 352) dX6_init_352 rfl ?_
  refine J_bipush (pc := 353) (v := nI 26) dX6_init_353 (by decide) ?_
  refine J_bipush (pc := 355) (v := nI 118) dX6_init_355 (by decide) ?_
  refine J_iast (pc := 357) dX6_init_357 (R_at (i := 6) hv rfl rfl) (k := 26) rfl (by decide) (by decide) ?_
  refine J_dup (pc := 358) dX6_init_358 rfl ?_
  refine J_bipush (pc := 359) (v := nI 27) dX6_init_359 (by decide) ?_
  refine J_bipush (pc := 361) (v := nI 101) dX6_init_361 (by decide) ?_
  refine J_iast (pc := 363) dX6_init_363 (R_at (i := 6) hv rfl rfl) (k := 27) rfl (by decide) (by decide) ?_
  refine J_dup (pc := 364) dX6_init_364 rfl ?_
  refine J_bipush (pc := 365) (v := nI 28) dX6_init_365 (by decide) ?_
  refine J_bipush (pc := 367) (v := nI 114) dX6_init_367 (by decide) ?_
  refine J_iast (pc := 369) dX6_init_369 (R_at (i := 6) hv rfl rfl) (k := 28) rfl (by decide) (by decide) ?_
  refine J_dup (pc := 370) dX6_init_370 rfl ?_
  refine J_bipush (pc := 371) (v := nI 29) dX6_init_371 (by decide) ?_
  refine J_bipush (pc := 373) (v := nI 111) dX6_init_373 (by decide) ?_
  refine J_iast (pc := 375) dX6_init_375 (R_at (i := 6) hv rfl rfl) (k := 29) rfl (by decide) (by decide) ?_
  refine J_dup (pc := 376) dX6_init_376 rfl ?_
  refine J_bipush (pc := 377) (v := nI 30) dX6_init_377 (by decide) ?_
  refine J_bipush (pc := 379) (v := nI 100) dX6_init_379 (by decide) ?_
  refine J_iast (pc := 381) dX6_init_381 (R_at (i := 6) hv rfl rfl) (k := 30) rfl (by decide) (by decide) ?_
  refine J_dup (pc := 382) dX6_init_382 rfl ?_
  refine J_bipush (pc := 383) (v := nI 31) dX6_init_383 (by decide) ?_
  refine J_bipush (pc := 385) (v := nI 100) dX6_init_385 (by decide) ?_
  refine J_iast (pc := 387) dX6_init_387 (R_at (i := 6) hv rfl rfl) (k := 31) rfl (by decide) (by decide) ?_
  refine J_dup (pc := 388) dX6_init_388 rfl ?_
  refine J_bipush (pc := 389) (v := nI 32) dX6_init_389 (by decide) ?_
  refine J_bipush (pc := 391) (v := nI 115) dX6_init_391 (by decide) ?_
  refine J_iast (pc := 393) dX6_init_393 (R_at (i := 6) hv rfl rfl) (k := 32) rfl (by decide) (by decide) ?_
  refine J_dup (pc := 394) dX6_init_394 rfl ?_
  refine J_bipush (pc := 395) (v := nI 33) dX6_init_395 (by decide) ?_
  refine J_bipush (pc := 397) (v := nI 102) dX6_init_397 (by decide) ?_
  refine J_iast (pc := 399) dX6_init_399 (R_at (i := 6) hv rfl rfl) (k := 33) rfl (by decide) (by decide) ?_
  refine J_dup (pc := 400) dX6_init_400 rfl ?_
  refine J_bipush (pc := 401) (v := nI 34) dX6_init_401 (by decide) ?_
  refine J_bipush (pc := 403) (v := nI 108) dX6_init_403 (by decide) ?_
  refine J_iast (pc := 405) dX6_init_405 (R_at (i := 6) hv rfl rfl) (k := 34) rfl (by decide) (by decide) ?_
  refine J_dup (pc := 406) dX6_init_406 rfl ?_
  refine J_bipush (pc := 407) (v := nI 35) dX6_init_407 (by decide) ?_
  refine J_bipush (pc := 409) (v := nI 111) dX6_init_409 (by decide) ?_
  refine J_iast (pc := 411) dX6_init_411 (R_at (i := 6) hv rfl rfl) (k := 35) rfl (by decide) (by decide) ?_
  refine J_dup (pc := 412) dX6_init_412 rfl ?_
  refine J_bipush (pc := 413) (v := nI 36) dX6_init_413 (by decide) ?_
  refine J_bipush (pc := 415) (v := nI 111) dX6_init_415 (by decide) ?_
  refine J_iast (pc := 417) dX6_init_417 (R_at (i := 6) hv rfl rfl) (k := 36) rfl (by decide) (by decide) ?_
  refine J_dup (pc := 418) dX6_init_418 rfl ?_
  refine J_bipush (pc := 419) (v := nI 37) dX6_init_419 (by decide) ?_
  refine J_bipush (pc := 421) (v := nI 114) dX6_init_421 (by decide) ?_
  refine J_iast (pc := 423) dX6_init_423 (R_at (i := 6) hv rfl rfl) (k := 37) rfl (by decide) (by decide) ?_
  refine J_dup (pc := 424) dX6_init_424 rfl ?_
  refine J_bipush (pc := 425) (v := nI 38) dX6_init_425 (by decide) ?_
  refine J_bipush (pc := 427) (v := nI 115) dX6_init_427 (by decide) ?_
  refine J_iast (pc := 429) dX6_init_429 (R_at (i := 6) hv rfl rfl) (k := 38) rfl (by decide) (by decide) ?_
  refine J_dup (pc := 430) dX6_init_430 rfl ?_
  refine J_bipush (pc := 431) (v := nI 39) dX6_init_431 (by decide) ?_
  refine J_bipush (pc := 433) (v := nI 107) dX6_init_433 (by decide) ?_
  refine J_iast (pc := 435) dX6_init_435 (R_at (i := 6) hv rfl rfl) (k := 39) rfl (by decide) (by decide) ?_
  refine J_dup (pc := 436) dX6_init_436 rfl ?_
  refine J_bipush (pc := 437) (v := nI 40) dX6_init_437 (by decide) ?_
  refine J_bipush (pc := 439) (v := nI 121) dX6_init_439 (by decide) ?_
  refine J_iast (pc := 441) dX6_init_441 (R_at (i := 6) hv rfl rfl) (k := 40) rfl (by decide) (by decide) ?_
  refine J_dup (pc := 442) dX6_init_442 rfl ?_
  refine J_bipush (pc := 443) (v := nI 41) dX6_init_443 (by decide) ?_
  refine J_bipush (pc := 445) (v := nI 115) dX6_init_445 (by decide) ?_
  refine J_iast (pc := 447) dX6_init_447 (R_at (i := 6) hv rfl rfl) (k := 41) rfl (by decide) (by decide) ?_
  refine J_dup (pc := 448) dX6_init_448 rfl ?_
  refine J_bipush (pc := 449) (v := nI 42) dX6_init_449 (by decide) ?_
  refine J_bipush (pc := 451) (v := nI 117) dX6_init_451 (by decide) ?_
  refine J_iast (pc := 453) dX6_init_453 (R_at (i := 6) hv rfl rfl) (k := 42) rfl (by decide) (by decide) ?_
  refine J_dup (pc := 454) dX6_init_454 rfl ?_
  refine J_bipush (pc := 455) (v := nI 43) dX6_init_455 (by decide) ?_
  refine J_bipush (pc := 457) (v := nI 110) dX6_init_457 (by decide) ?_
  refine J_iast (pc := 459) dX6_init_459 (R_at (i := 6) hv rfl rfl) (k := 43) rfl (by decide) (by decide) ?_
  refine J_dup (pc := 460) dX6_init_460 rfl ?_
  refine J_bipush (pc := 461) (v := nI 44) dX6_init_461 (by decide) ?_
  refine J_bipush (pc := 463) (v := nI 103) dX6_init_463 (by decide) ?_
  refine J_iast (pc := 465) dX6_init_465 (R_at (i := 6) hv rfl rfl) (k := 44) rfl (by decide) (by decide) ?_
  refine J_dup (pc := 466) dX6_init_466 rfl ?_
  refine J_bipush (pc := 467) (v := nI 45) dX6_init_467 (by decide) ?_
  refine J_bipush (pc := 469) (v := nI 114) dX6_init_469 (by decide) ?_
  refine J_iast (pc := 471) dX6_init_471 (R_at (i := 6) hv rfl rfl) (k := 45) rfl (by decide) (by decide) ?_
  refine J_dup (pc := 472) dX6_init_472 rfl ?_
  refine J_bipush (pc := 473) (v := nI 46) dX6_init_473 (by decide) ?_
  refine J_bipush (pc := 475) (v := nI 101) dX6_init_475 (by decide) ?_
  refine J_iast (pc := 477) dX6_init_477 (R_at (i := 6) hv rfl rfl) (k := 46) rfl (by decide) (by decide) ?_
  refine J_dup (pc := 478) dX6_init_478 rfl ?_
  refine J_bipush (pc := 479) (v := nI 47) dX6_init_479 (by decide) ?_
  refine J_bipush (pc := 481) (v := nI 121) dX6_init_481 (by decide) ?_
  refine J_iast (pc := 483) dX6_init_483 (R_at (i := 6) hv rfl rfl) (k := 47) rfl (by decide) (by decide) ?_
  refine J_dup (pc := 484) dX6_init_484 rfl ?_
  refine J_bipush (pc := 485) (v := nI 48) dX6_init_485 (by decide) ?_
  refine J_bipush (pc := 487) (v := nI 119) dX6_init_487 (by decide) ?_
  refine J_iast (pc := 489) dX6_init_489 (R_at (i := 6) hv rfl rfl) (k := 48) rfl (by decide) (by decide) ?_
  refine J_dup (pc := 490) dX6_init_490 rfl ?_
  refine J_bipush (pc := 491) (v := nI 49) dX6_init_491 (by decide) ?_
  refine J_bipush (pc := 493) (v := nI 101) dX6_init_493 (by decide) ?_
  refine J_iast (pc := 495) dX6_init_495 (R_at (i := 6) hv rfl rfl) (k := 49) rfl (by decide) (by decide) ?_
  refine J_dup (pc := 496) dX6_init_496 rfl ?_
  refine J_bipush (pc := 497) (v := nI 50) dX6_init_497 (by decide) ?_
  refine J_bipush (pc := 499) (v := nI 116) dX6_init_499 (by decide) ?_
  refine J_iast (pc := 501) dX6_init_501 (R_at (i := 6) hv rfl rfl) (k := 50) rfl (by decide) (by decide) ?_
  refine J_dup (pc := 502) dX6_init_502 rfl ?_
  refine J_bipush (pc := 503) (v := nI 51) dX6_init_503 (by decide) ?_
  refine J_bipush (pc := 505) (v := nI 102) dX6_init_505 (by decide) ?_
  refine J_iast (pc := 507) dX6_init_507 (R_at (i := 6) hv rfl rfl) (k := 51) rfl (by decide) (by decide) ?_
  refine J_dup (pc := 508) dX6_init_508 rfl ?_
  refine J_bipush (pc := 509) (v := nI 52) dX6_init_509 (by decide) ?_
  refine J_bipush (pc := 511) (v := nI 114) dX6_init_511 (by decide) ?_
  refine J_iast (pc := 513) dX6_init_513 (R_at (i := 6) hv rfl rfl) (k := 52) rfl (by decide) (by decide) ?_
  refine J_dup (pc := 514) dX6_init_514 rfl ?_
  refine J_bipush (pc := 515) (v := nI 53) dX6_init_515 (by decide) ?_
  refine J_bipush (pc := 517) (v := nI 111) dX6_init_517 (by decide) ?_
  refine J_iast (pc := 519) dX6_init_519 (R_at (i := 6) hv rfl rfl) (k := 53) rfl (by decide) (by decide) ?_
  refine J_dup (pc := 520) dX6_init_520 rfl ?_
  refine J_bipush (pc := 521) (v := nI 54) dX6_init_521 (by decide) ?_
  refine J_bipush (pc := 523) (v := nI 115) dX6_init_523 (by decide) ?_
  refine J_iast (pc := 525) dX6_init_525 (R_at (i := 6) hv rfl rfl) (k := 54) rfl (by decide) (by decide) ?_
  refine J_dup (pc := 526) dX6_init_526 rfl ?_
  refine J_bipush (pc := 527) (v := nI 55) dX6_init_527 (by decide) ?_
  refine J_bipush (pc := 529) (v := nI 116) dX6_init_529 (by decide) ?_
  refine J_iast (pc := 531) dX6_init_531 (R_at (i := 6) hv rfl rfl) (k := 55) rfl (by decide) (by decide) ?_
  refine J_abs (fun h' => ((∀ k, h' 132 k = 0) ∧ (∀ i, i < 16 → h' 133 i = j_bri.getD i 0) ∧ low 132 h h') ∧ (∀ i, i < 13 → h' 136 i = j_cut.getD i 0) ∧ ∀ i, i < 56 → h' 137 i = j_let.getD i 0) ⟨⟨?_, ?_, ?_⟩, ?_, ?_⟩ (fun h3 p3 => ?_)
  · exact fun k => p2.1.1 k
  · exact fun i hi => p2.1.2.1 i hi
  · exact (p2.1.2.2).tr ((((((((((((((((((((((((((((((((((((((((((((((((((((((((((low_row (by omega))).tr (low_up (by omega))).tr (low_up (by omega))).tr (low_up (by omega))).tr (low_up (by omega))).tr (low_up (by omega))).tr (low_up (by omega))).tr (low_up (by omega))).tr (low_up (by omega))).tr (low_up (by omega))).tr (low_up (by omega))).tr (low_up (by omega))).tr (low_up (by omega))).tr (low_up (by omega))).tr (low_up (by omega))).tr (low_up (by omega))).tr (low_up (by omega))).tr (low_up (by omega))).tr (low_up (by omega))).tr (low_up (by omega))).tr (low_up (by omega))).tr (low_up (by omega))).tr (low_up (by omega))).tr (low_up (by omega))).tr (low_up (by omega))).tr (low_up (by omega))).tr (low_up (by omega))).tr (low_up (by omega))).tr (low_up (by omega))).tr (low_up (by omega))).tr (low_up (by omega))).tr (low_up (by omega))).tr (low_up (by omega))).tr (low_up (by omega))).tr (low_up (by omega))).tr (low_up (by omega))).tr (low_up (by omega))).tr (low_up (by omega))).tr (low_up (by omega))).tr (low_up (by omega))).tr (low_up (by omega))).tr (low_up (by omega))).tr (low_up (by omega))).tr (low_up (by omega))).tr (low_up (by omega))).tr (low_up (by omega))).tr (low_up (by omega))).tr (low_up (by omega))).tr (low_up (by omega))).tr (low_up (by omega))).tr (low_up (by omega))).tr (low_up (by omega))).tr (low_up (by omega))).tr (low_up (by omega))).tr (low_up (by omega))).tr (low_up (by omega))).tr (low_up (by omega)))
  · exact fun i hi => p2.2 i hi
  · intro i hi
    match i, hi with
    | 0, _ => rfl
    | 1, _ => rfl
    | 2, _ => rfl
    | 3, _ => rfl
    | 4, _ => rfl
    | 5, _ => rfl
    | 6, _ => rfl
    | 7, _ => rfl
    | 8, _ => rfl
    | 9, _ => rfl
    | 10, _ => rfl
    | 11, _ => rfl
    | 12, _ => rfl
    | 13, _ => rfl
    | 14, _ => rfl
    | 15, _ => rfl
    | 16, _ => rfl
    | 17, _ => rfl
    | 18, _ => rfl
    | 19, _ => rfl
    | 20, _ => rfl
    | 21, _ => rfl
    | 22, _ => rfl
    | 23, _ => rfl
    | 24, _ => rfl
    | 25, _ => rfl
    | 26, _ => rfl
    | 27, _ => rfl
    | 28, _ => rfl
    | 29, _ => rfl
    | 30, _ => rfl
    | 31, _ => rfl
    | 32, _ => rfl
    | 33, _ => rfl
    | 34, _ => rfl
    | 35, _ => rfl
    | 36, _ => rfl
    | 37, _ => rfl
    | 38, _ => rfl
    | 39, _ => rfl
    | 40, _ => rfl
    | 41, _ => rfl
    | 42, _ => rfl
    | 43, _ => rfl
    | 44, _ => rfl
    | 45, _ => rfl
    | 46, _ => rfl
    | 47, _ => rfl
    | 48, _ => rfl
    | 49, _ => rfl
    | 50, _ => rfl
    | 51, _ => rfl
    | 52, _ => rfl
    | 53, _ => rfl
    | 54, _ => rfl
    | 55, _ => rfl
    | i + 56, hi => exact absurd hi (by omega)
  refine R_putF (pc := 532) (i := 0) (T' := ([.inr (.inr (6, [some (some (132)), some (some (133)), none, some (some (134)), none, none, none, some (some (135)), none, none, none, none, none, none, none, none, some (some (136)), some (some (137)), none, some none, some none, none, some none, some none, some none, some none, some none, some none, none])), .inl (0, 414), .inl (0, 16), .inl (0, 69), .inl (0, 160), .inl (0, 13), .inl (0, 56)] : List jD)) dX6_init_532 fX6_25 ⟨_, _, rfl⟩ rfl rfl hv rfl rfl (Nat.le_of_ble_eq_true rfl) rfl ?_
  refine J_aload_n (pc := 535) dX6_init_535 rfl ?_
  refine J_bipush (pc := 536) (v := nI 16) dX6_init_536 (by decide) ?_
  refine R_newa (pc := 538) (b1 := 7) (b2 := 4540) (k := 7) (T' := ([.inr (.inr (6, [some (some (132)), some (some (133)), none, some (some (134)), none, none, none, some (some (135)), none, none, none, none, none, none, none, none, some (some (136)), some (some (137)), none, some none, some none, none, some none, some none, some none, some none, some none, some none, none])), .inl (0, 414), .inl (0, 16), .inl (0, 69), .inl (0, 160), .inl (0, 13), .inl (0, 56), .inl (0, 16)] : List jD)) dX6_init_538 rfl (Or.inl ⟨rfl, rfl⟩) (j_bm (j_m1 96 rfl) rfl) (N := 16) rfl (by decide) hv rfl rfl (by omega) ?_
  refine R_putF (pc := 540) (i := 0) (T' := ([.inr (.inr (6, [some (some (132)), some (some (133)), none, some (some (134)), none, none, none, some (some (135)), none, none, none, none, none, none, none, none, some (some (136)), some (some (137)), none, some (some (138)), some none, none, some none, some none, some none, some none, some none, some none, none])), .inl (0, 414), .inl (0, 16), .inl (0, 69), .inl (0, 160), .inl (0, 13), .inl (0, 56), .inl (0, 16)] : List jD)) dX6_init_540 fX6_28 ⟨_, _, rfl⟩ rfl rfl hv rfl rfl (Nat.le_of_ble_eq_true rfl) rfl ?_
  refine J_aload_n (pc := 543) dX6_init_543 rfl ?_
  refine J_bipush (pc := 544) (v := nI 18) dX6_init_544 (by decide) ?_
  refine R_newa (pc := 546) (b1 := 6) (b2 := 4522) (k := 8) (T' := ([.inr (.inr (6, [some (some (132)), some (some (133)), none, some (some (134)), none, none, none, some (some (135)), none, none, none, none, none, none, none, none, some (some (136)), some (some (137)), none, some (some (138)), some none, none, some none, some none, some none, some none, some none, some none, none])), .inl (0, 414), .inl (0, 16), .inl (0, 69), .inl (0, 160), .inl (0, 13), .inl (0, 56), .inl (0, 16), .inl (0, 18)] : List jD)) dX6_init_546 rfl (Or.inl ⟨rfl, rfl⟩) (j_bm (j_m1 96 rfl) rfl) (N := 18) rfl (by decide) hv rfl rfl (by omega) ?_
  refine R_putF (pc := 548) (i := 0) (T' := ([.inr (.inr (6, [some (some (132)), some (some (133)), none, some (some (134)), none, none, none, some (some (135)), none, none, none, none, none, none, none, none, some (some (136)), some (some (137)), none, some (some (138)), some (some (139)), none, some none, some none, some none, some none, some none, some none, none])), .inl (0, 414), .inl (0, 16), .inl (0, 69), .inl (0, 160), .inl (0, 13), .inl (0, 56), .inl (0, 16), .inl (0, 18)] : List jD)) dX6_init_548 fX6_31 ⟨_, _, rfl⟩ rfl rfl hv rfl rfl (Nat.le_of_ble_eq_true rfl) rfl ?_
  refine J_aload_n (pc := 551) dX6_init_551 rfl ?_
  refine J_sipush (pc := 552) (v := nI 4096) dX6_init_552 (by decide) ?_
  refine R_newa (pc := 555) (b1 := 5) (b2 := 426) (k := 9) (T' := ([.inr (.inr (6, [some (some (132)), some (some (133)), none, some (some (134)), none, none, none, some (some (135)), none, none, none, none, none, none, none, none, some (some (136)), some (some (137)), none, some (some (138)), some (some (139)), none, some none, some none, some none, some none, some none, some none, none])), .inl (0, 414), .inl (0, 16), .inl (0, 69), .inl (0, 160), .inl (0, 13), .inl (0, 56), .inl (0, 16), .inl (0, 18), .inl (0, 4096)] : List jD)) dX6_init_555 rfl (Or.inl ⟨rfl, rfl⟩) (j_bm (j_m1 96 rfl) rfl) (N := 4096) rfl (by decide) hv rfl rfl (by omega) ?_
  refine R_putF (pc := 557) (i := 0) (T' := ([.inr (.inr (6, [some (some (132)), some (some (133)), none, some (some (134)), none, none, none, some (some (135)), none, none, none, none, none, none, none, none, some (some (136)), some (some (137)), none, some (some (138)), some (some (139)), none, some (some (140)), some none, some none, some none, some none, some none, none])), .inl (0, 414), .inl (0, 16), .inl (0, 69), .inl (0, 160), .inl (0, 13), .inl (0, 56), .inl (0, 16), .inl (0, 18), .inl (0, 4096)] : List jD)) dX6_init_557 fX6_34 ⟨_, _, rfl⟩ rfl rfl hv rfl rfl (Nat.le_of_ble_eq_true rfl) rfl ?_
  refine J_aload_n (pc := 560) dX6_init_560 rfl ?_
  refine J_sipush (pc := 561) (v := nI 256) dX6_init_561 (by decide) ?_
  refine R_newa (pc := 564) (b1 := 4) (b2 := 170) (k := 10) (T' := ([.inr (.inr (6, [some (some (132)), some (some (133)), none, some (some (134)), none, none, none, some (some (135)), none, none, none, none, none, none, none, none, some (some (136)), some (some (137)), none, some (some (138)), some (some (139)), none, some (some (140)), some none, some none, some none, some none, some none, none])), .inl (0, 414), .inl (0, 16), .inl (0, 69), .inl (0, 160), .inl (0, 13), .inl (0, 56), .inl (0, 16), .inl (0, 18), .inl (0, 4096), .inl (1, 256)] : List jD)) dX6_init_564 rfl (Or.inr ⟨rfl, rfl⟩) (j_bm (j_m1 143 rfl) rfl) (N := 256) rfl (by decide) hv rfl rfl (by omega) ?_
  refine R_putF (pc := 566) (i := 0) (T' := ([.inr (.inr (6, [some (some (132)), some (some (133)), none, some (some (134)), none, none, none, some (some (135)), none, none, none, none, none, none, none, none, some (some (136)), some (some (137)), none, some (some (138)), some (some (139)), none, some (some (140)), some (some (141)), some none, some none, some none, some none, none])), .inl (0, 414), .inl (0, 16), .inl (0, 69), .inl (0, 160), .inl (0, 13), .inl (0, 56), .inl (0, 16), .inl (0, 18), .inl (0, 4096), .inl (1, 256)] : List jD)) dX6_init_566 fX6_37 ⟨_, _, rfl⟩ rfl rfl hv rfl rfl (Nat.le_of_ble_eq_true rfl) rfl ?_
  refine J_aload_n (pc := 569) dX6_init_569 rfl ?_
  refine J_iconst (pc := 570) (v := nI 2) dX6_init_570 (by decide) ?_
  refine R_newa (pc := 571) (b1 := 3) (b2 := 168) (k := 11) (T' := ([.inr (.inr (6, [some (some (132)), some (some (133)), none, some (some (134)), none, none, none, some (some (135)), none, none, none, none, none, none, none, none, some (some (136)), some (some (137)), none, some (some (138)), some (some (139)), none, some (some (140)), some (some (141)), some none, some none, some none, some none, none])), .inl (0, 414), .inl (0, 16), .inl (0, 69), .inl (0, 160), .inl (0, 13), .inl (0, 56), .inl (0, 16), .inl (0, 18), .inl (0, 4096), .inl (1, 256), .inl (1, 2)] : List jD)) dX6_init_571 rfl (Or.inr ⟨rfl, rfl⟩) (j_bm (j_m1 143 rfl) rfl) (N := 2) rfl (by decide) hv rfl rfl (by omega) ?_
  refine R_putF (pc := 573) (i := 0) (T' := ([.inr (.inr (6, [some (some (132)), some (some (133)), none, some (some (134)), none, none, none, some (some (135)), none, none, none, none, none, none, none, none, some (some (136)), some (some (137)), none, some (some (138)), some (some (139)), none, some (some (140)), some (some (141)), some (some (142)), some none, some none, some none, none])), .inl (0, 414), .inl (0, 16), .inl (0, 69), .inl (0, 160), .inl (0, 13), .inl (0, 56), .inl (0, 16), .inl (0, 18), .inl (0, 4096), .inl (1, 256), .inl (1, 2)] : List jD)) dX6_init_573 fX6_41 ⟨_, _, rfl⟩ rfl rfl hv rfl rfl (Nat.le_of_ble_eq_true rfl) rfl ?_
  refine J_aload_n (pc := 576) dX6_init_576 rfl ?_
  refine J_iconst (pc := 577) (v := nI 4) dX6_init_577 (by decide) ?_
  refine R_newa (pc := 578) (b1 := 2) (b2 := 164) (k := 12) (T' := ([.inr (.inr (6, [some (some (132)), some (some (133)), none, some (some (134)), none, none, none, some (some (135)), none, none, none, none, none, none, none, none, some (some (136)), some (some (137)), none, some (some (138)), some (some (139)), none, some (some (140)), some (some (141)), some (some (142)), some none, some none, some none, none])), .inl (0, 414), .inl (0, 16), .inl (0, 69), .inl (0, 160), .inl (0, 13), .inl (0, 56), .inl (0, 16), .inl (0, 18), .inl (0, 4096), .inl (1, 256), .inl (1, 2), .inl (0, 4)] : List jD)) dX6_init_578 rfl (Or.inl ⟨rfl, rfl⟩) (j_bm (j_m1 96 rfl) rfl) (N := 4) rfl (by decide) hv rfl rfl (by omega) ?_
  refine J_dup (pc := 580) dX6_init_580 rfl ?_
  refine J_iconst (pc := 581) (v := nI 0) dX6_init_581 (by decide) ?_
  refine J_bipush (pc := 582) (v := -4) dX6_init_582 (by decide) ?_
  refine J_iast (pc := 584) dX6_init_584 (R_at (i := 12) hv rfl rfl) (k := 0) rfl (by decide) (by decide) ?_
  refine J_dup (pc := 585) dX6_init_585 rfl ?_
  refine J_iconst (pc := 586) (v := nI 1) dX6_init_586 (by decide) ?_
  refine J_bipush (pc := 587) (v := -4) dX6_init_587 (by decide) ?_
  refine J_iast (pc := 589) dX6_init_589 (R_at (i := 12) hv rfl rfl) (k := 1) rfl (by decide) (by decide) ?_
  refine J_dup (pc := 590) dX6_init_590 rfl ?_
  refine J_iconst (pc := 591) (v := nI 2) dX6_init_591 (by decide) ?_
  refine J_bipush (pc := 592) (v := -4) dX6_init_592 (by decide) ?_
  refine J_iast (pc := 594) dX6_init_594 (R_at (i := 12) hv rfl rfl) (k := 2) rfl (by decide) (by decide) ?_
  refine J_dup (pc := 595) dX6_init_595 rfl ?_
  refine J_iconst (pc := 596) (v := nI 3) dX6_init_596 (by decide) ?_
  refine J_bipush (pc := 597) (v := -4) dX6_init_597 (by decide) ?_
  refine J_iast (pc := 599) dX6_init_599 (R_at (i := 12) hv rfl rfl) (k := 3) rfl (by decide) (by decide) ?_
  refine J_abs (fun h' => (((∀ k, h' 132 k = 0) ∧ (∀ i, i < 16 → h' 133 i = j_bri.getD i 0) ∧ low 132 h h') ∧ (∀ i, i < 13 → h' 136 i = j_cut.getD i 0) ∧ ∀ i, i < 56 → h' 137 i = j_let.getD i 0) ∧ (∀ k, h' 142 k = 0) ∧ ∀ i, i < 4 → h' 143 i = -4) ⟨⟨⟨?_, ?_, ?_⟩, ?_, ?_⟩, ?_, ?_⟩ (fun h4 p4 => ?_)
  · exact fun k => p3.1.1 k
  · exact fun i hi => p3.1.2.1 i hi
  · exact (p3.1.2.2).tr (((((((((((low_row (by omega))).tr (low_row (by omega))).tr (low_row (by omega))).tr (low_row (by omega))).tr (low_row (by omega))).tr (low_row (by omega))).tr (low_up (by omega))).tr (low_up (by omega))).tr (low_up (by omega))).tr (low_up (by omega)))
  · exact fun i hi => p3.2.1 i hi
  · exact fun i hi => p3.2.2 i hi
  · exact fun k => rfl
  · intro i hi
    match i, hi with
    | 0, _ => rfl
    | 1, _ => rfl
    | 2, _ => rfl
    | 3, _ => rfl
    | i + 4, hi => exact absurd hi (by omega)
  refine R_putF (pc := 600) (i := 0) (T' := ([.inr (.inr (6, [some (some (132)), some (some (133)), none, some (some (134)), none, none, none, some (some (135)), none, none, none, none, none, none, none, none, some (some (136)), some (some (137)), none, some (some (138)), some (some (139)), none, some (some (140)), some (some (141)), some (some (142)), some (some (143)), some none, some none, none])), .inl (0, 414), .inl (0, 16), .inl (0, 69), .inl (0, 160), .inl (0, 13), .inl (0, 56), .inl (0, 16), .inl (0, 18), .inl (0, 4096), .inl (1, 256), .inl (1, 2), .inl (0, 4)] : List jD)) dX6_init_600 fX6_44 ⟨_, _, rfl⟩ rfl rfl hv rfl rfl (Nat.le_of_ble_eq_true rfl) rfl ?_
  refine J_aload_n (pc := 603) dX6_init_603 rfl ?_
  refine J_iconst (pc := 604) (v := nI 4) dX6_init_604 (by decide) ?_
  refine R_newa (pc := 605) (b1 := 1) (b2 := 160) (k := 13) (T' := ([.inr (.inr (6, [some (some (132)), some (some (133)), none, some (some (134)), none, none, none, some (some (135)), none, none, none, none, none, none, none, none, some (some (136)), some (some (137)), none, some (some (138)), some (some (139)), none, some (some (140)), some (some (141)), some (some (142)), some (some (143)), some none, some none, none])), .inl (0, 414), .inl (0, 16), .inl (0, 69), .inl (0, 160), .inl (0, 13), .inl (0, 56), .inl (0, 16), .inl (0, 18), .inl (0, 4096), .inl (1, 256), .inl (1, 2), .inl (0, 4), .inl (0, 4)] : List jD)) dX6_init_605 rfl (Or.inl ⟨rfl, rfl⟩) (j_bm (j_m1 96 rfl) rfl) (N := 4) rfl (by decide) hv rfl rfl (by omega) ?_
  refine R_putF (pc := 607) (i := 0) (T' := ([.inr (.inr (6, [some (some (132)), some (some (133)), none, some (some (134)), none, none, none, some (some (135)), none, none, none, none, none, none, none, none, some (some (136)), some (some (137)), none, some (some (138)), some (some (139)), none, some (some (140)), some (some (141)), some (some (142)), some (some (143)), some (some (144)), some none, none])), .inl (0, 414), .inl (0, 16), .inl (0, 69), .inl (0, 160), .inl (0, 13), .inl (0, 56), .inl (0, 16), .inl (0, 18), .inl (0, 4096), .inl (1, 256), .inl (1, 2), .inl (0, 4), .inl (0, 4)] : List jD)) dX6_init_607 fX6_47 ⟨_, _, rfl⟩ rfl rfl hv rfl rfl (Nat.le_of_ble_eq_true rfl) rfl ?_
  refine J_aload_n (pc := 610) dX6_init_610 rfl ?_
  refine J_sipush (pc := 611) (v := nI 160) dX6_init_611 (by decide) ?_
  refine R_newa (pc := 614) (b1 := 0) (b2 := 0) (k := 14) (T' := ([.inr (.inr (6, [some (some (132)), some (some (133)), none, some (some (134)), none, none, none, some (some (135)), none, none, none, none, none, none, none, none, some (some (136)), some (some (137)), none, some (some (138)), some (some (139)), none, some (some (140)), some (some (141)), some (some (142)), some (some (143)), some (some (144)), some none, none])), .inl (0, 414), .inl (0, 16), .inl (0, 69), .inl (0, 160), .inl (0, 13), .inl (0, 56), .inl (0, 16), .inl (0, 18), .inl (0, 4096), .inl (1, 256), .inl (1, 2), .inl (0, 4), .inl (0, 4), .inl (0, 160)] : List jD)) dX6_init_614 rfl (Or.inl ⟨rfl, rfl⟩) (j_bm (j_m1 96 rfl) rfl) (N := 160) rfl (by decide) hv rfl rfl (by omega) ?_
  refine R_putF (pc := 616) (i := 0) (T' := ([.inr (.inr (6, [some (some (132)), some (some (133)), none, some (some (134)), none, none, none, some (some (135)), none, none, none, none, none, none, none, none, some (some (136)), some (some (137)), none, some (some (138)), some (some (139)), none, some (some (140)), some (some (141)), some (some (142)), some (some (143)), some (some (144)), some (some (145)), none])), .inl (0, 414), .inl (0, 16), .inl (0, 69), .inl (0, 160), .inl (0, 13), .inl (0, 56), .inl (0, 16), .inl (0, 18), .inl (0, 4096), .inl (1, 256), .inl (1, 2), .inl (0, 4), .inl (0, 4), .inl (0, 160)] : List jD)) dX6_init_616 fX6_50 ⟨_, _, rfl⟩ rfl rfl hv rfl rfl (Nat.le_of_ble_eq_true rfl) rfl ?_
  refine J_ret (pc := 619) dX6_init_619 rfl ?_
  exact ⟨rfl, rfl, ⟨⟨⟨fun k => p4.1.1.1 k, fun i hi => p4.1.1.2.1 i hi, (p4.1.1.2.2).tr ((low_row (by omega)).tr (low_row (by omega)))⟩, fun i hi => p4.1.2.1 i hi, fun i hi => p4.1.2.2 i hi⟩, fun k => p4.2.1 k, fun i hi => p4.2.2 i hi⟩, fun k => rfl, fun k => rfl⟩
def cT : List jD := ([.inr (.inr (5, [some (some (1)), some (some (19)), some (some (37)), some (some (38)), some (some (39)), some (some (59)), some (some (81)), some (some (85)), some (some (86)), none]))] ++ (vD (1) ++ (vD (19) ++ ([.inr (.inl (3, [some (87), some (105)])), .inl (1, 2), .inr (.inr (1, [some (some (40)), none, none, none, none, none, none, some (some (41)), none, none, none])), .inl (0, 160)] ++ (vD (41) ++ ([.inr (.inr (0, [some (some (60)), some (some (78)), some (some (79)), none, some (some (80)), none, none]))] ++ (vD (60) ++ ([.inl (0, 1364), .inl (0, 256), .inl (0, 1000), .inr (.inr (3, [none, some (some (82)), some (some (83)), some (some (84))])), .inl (0, 6), .inl (0, 6), .inl (0, 6), .inr (.inl (4, [some (123), some (125), some (127), some (129)])), .inl (0, 16)] ++ (vD (87) ++ (vD (105) ++ ([.inr (.inr (2, [none, none, some (some (124))])), .inl (0, 40), .inr (.inr (2, [none, none, some (some (126))])), .inl (0, 40), .inr (.inr (2, [none, none, some (some (128))])), .inl (0, 40), .inr (.inr (2, [none, none, some (some (130))])), .inl (0, 40)])))))))))) : List jD)
set_option maxRecDepth 100000 in
set_option maxHeartbeats 4000000 in
theorem c5_init {g : jG} {d : Nat} {h : jH} : M g (d + 4) YX5_init (130, 3544) ([] ++ [oX5]) h [.ref 0] (fun r σ' h' => r = none ∧ σ' = [] ++ cT ∧ (XV 0 (fun _ => 0) h' 1 ∧ h' 1 9 = 0) ∧ (∀ k, h' 38 k = 0) ∧ (h' 39 1 = 0 ∧ h' 39 6 = 0) ∧ (∀ i, h' 80 i = 0) ∧ h' 81 0 = 0 ∧ h' 0 9 = 0 ∧ ∀ s, s < 4 → h' (123 + 2 * s) 0 = -1 ∧ h' (123 + 2 * s) 1 = 0 ∧ ∀ i, h' (124 + 2 * s) i = 0) := by
  have hv : ([] : List jD).length = 0 := rfl
  refine M.of (by decide) rfl (Nat.le_of_ble_eq_true rfl) ?_
  refine J_aload_n (pc := 0) dX5_init_0 rfl ?_
  refine J_objInit (pc := 1) dX5_init_1 qX5_1 w_oi_i w_oi_c (Nat.le_of_ble_eq_true rfl) ?_
  refine J_aload_n (pc := 4) dX5_init_4 rfl ?_
  refine R_new (pc := 5) (b1 := 129) (b2 := 3533) (k := 1) (T' := ([.inr (.inr (5, [some none, some none, some none, some none, some none, some none, some none, some none, some none, none]))] : List jD) ++ [oX4]) dX5_init_5 rfl cf4 tyX4_ok (j_bm (j_m1 23 rfl) rfl) (j_bm (j_m1 24 rfl) rfl) (j_bm (j_m1 2 rfl) rfl) fsX4 hv rfl rfl (by omega) ?_
  refine J_dup (pc := 8) dX5_init_8 rfl ?_
  refine J_callI (pc := 9) (Y' := YX4_init) (b' := (17, 77)) (b2 := (112, 3456)) (As := []) dX5_init_9 lX5_9 mX4_init rfl iX4_init rfl rfl (Nat.le_of_ble_eq_true rfl) ⟨by decide, by decide⟩ (c4_initR (T := ([.inr (.inr (5, [some none, some none, some none, some none, some none, some none, some none, some none, some none, none]))] : List jD)) (k := 1) hv rfl (by omega)) ?_
  rintro r σ' h1 ⟨rfl, rfl, p1, w1⟩
  refine R_putF (pc := 12) (i := 0) (T' := ([.inr (.inr (5, [some (some (1)), some none, some none, some none, some none, some none, some none, some none, some none, none]))] ++ (vD (1)) : List jD)) dX5_init_12 fX5_10 ⟨_, _, rfl⟩ rfl rfl hv rfl rfl (Nat.le_of_ble_eq_true rfl) rfl ?_
  refine J_aload_n (pc := 15) dX5_init_15 rfl ?_
  refine R_new (pc := 16) (b1 := 111) (b2 := 3445) (k := 19) (T' := ([.inr (.inr (5, [some (some (1)), some none, some none, some none, some none, some none, some none, some none, some none, none]))] ++ (vD (1)) : List jD) ++ [oX4]) dX5_init_16 rfl cf4 tyX4_ok (j_bm (j_m1 23 rfl) rfl) (j_bm (j_m1 24 rfl) rfl) (j_bm (j_m1 2 rfl) rfl) fsX4 hv rfl rfl (by omega) ?_
  refine J_dup (pc := 19) dX5_init_19 rfl ?_
  refine J_callI (pc := 20) (Y' := YX4_init) (b' := (17, 77)) (b2 := (94, 3368)) (As := []) dX5_init_20 lX5_9 mX4_init rfl iX4_init rfl rfl (Nat.le_of_ble_eq_true rfl) ⟨by decide, by decide⟩ (c4_initR (T := ([.inr (.inr (5, [some (some (1)), some none, some none, some none, some none, some none, some none, some none, some none, none]))] ++ (vD (1)) : List jD)) (k := 19) hv rfl (by omega)) ?_
  rintro r σ' h19 ⟨rfl, rfl, p19, w19⟩
  refine R_putF (pc := 23) (i := 0) (T' := ([.inr (.inr (5, [some (some (1)), some (some (19)), some none, some none, some none, some none, some none, some none, some none, none]))] ++ (vD (1) ++ (vD (19))) : List jD)) dX5_init_23 fX5_16 ⟨_, _, rfl⟩ rfl rfl hv rfl rfl (Nat.le_of_ble_eq_true rfl) rfl ?_
  refine J_aload_n (pc := 26) dX5_init_26 rfl ?_
  refine J_iconst (pc := 27) (v := nI 2) dX5_init_27 (by decide) ?_
  refine R_anew (pc := 28) (b1 := 93) (b2 := 3366) (k := 37) (T' := ([.inr (.inr (5, [some (some (1)), some (some (19)), some none, some none, some none, some none, some none, some none, some none, none]))] ++ (vD (1) ++ (vD (19) ++ ([.inr (.inl (3, [none, none]))]))) : List jD)) dX5_init_28 (Or.inl ⟨rfl, rfl⟩) (j_bm (j_m1 23 rfl) rfl) (N := 2) rfl (by decide) hv rfl rfl (by omega) ?_
  refine R_putF (pc := 31) (i := 0) (T' := ([.inr (.inr (5, [some (some (1)), some (some (19)), some (some (37)), some none, some none, some none, some none, some none, some none, none]))] ++ (vD (1) ++ (vD (19) ++ ([.inr (.inl (3, [none, none]))]))) : List jD)) dX5_init_31 fX5_19 ⟨_, _, rfl⟩ rfl rfl hv rfl rfl (Nat.le_of_ble_eq_true rfl) rfl ?_
  refine J_aload_n (pc := 34) dX5_init_34 rfl ?_
  refine J_iconst (pc := 35) (v := nI 2) dX5_init_35 (by decide) ?_
  refine R_newa (pc := 36) (b1 := 92) (b2 := 3364) (k := 38) (T' := ([.inr (.inr (5, [some (some (1)), some (some (19)), some (some (37)), some none, some none, some none, some none, some none, some none, none]))] ++ (vD (1) ++ (vD (19) ++ ([.inr (.inl (3, [none, none])), .inl (1, 2)]))) : List jD)) dX5_init_36 rfl (Or.inr ⟨rfl, rfl⟩) (j_bm (j_m1 143 rfl) rfl) (N := 2) rfl (by decide) hv rfl rfl (by omega) ?_
  refine R_putF (pc := 38) (i := 0) (T' := ([.inr (.inr (5, [some (some (1)), some (some (19)), some (some (37)), some (some (38)), some none, some none, some none, some none, some none, none]))] ++ (vD (1) ++ (vD (19) ++ ([.inr (.inl (3, [none, none])), .inl (1, 2)]))) : List jD)) dX5_init_38 fX5_23 ⟨_, _, rfl⟩ rfl rfl hv rfl rfl (Nat.le_of_ble_eq_true rfl) rfl ?_
  refine J_aload_n (pc := 41) dX5_init_41 rfl ?_
  refine R_new (pc := 42) (b1 := 91) (b2 := 3353) (k := 39) (T' := ([.inr (.inr (5, [some (some (1)), some (some (19)), some (some (37)), some (some (38)), some none, some none, some none, some none, some none, none]))] ++ (vD (1) ++ (vD (19) ++ ([.inr (.inl (3, [none, none])), .inl (1, 2)]))) : List jD) ++ [oX1]) dX5_init_42 rfl cf1 tyX1_ok (j_bm (j_m1 98 rfl) rfl) (j_bm (j_m1 99 rfl) rfl) (j_bm (j_m1 3 rfl) rfl) fsX1 hv rfl rfl (by omega) ?_
  refine J_dup (pc := 45) dX5_init_45 rfl ?_
  refine J_callI (pc := 46) (Y' := YX1_init) (b' := (19, 248)) (b2 := (72, 3105)) (As := []) dX5_init_46 lX5_29 mX1_init rfl iX1_init rfl rfl (Nat.le_of_ble_eq_true rfl) ⟨by decide, by decide⟩ (c1_initR (T := ([.inr (.inr (5, [some (some (1)), some (some (19)), some (some (37)), some (some (38)), some none, some none, some none, some none, some none, none]))] ++ (vD (1) ++ (vD (19) ++ ([.inr (.inl (3, [none, none])), .inl (1, 2)]))) : List jD)) (k := 39) hv rfl (by omega)) ?_
  rintro r σ' h39 ⟨rfl, rfl, p39, w39⟩
  refine R_putF (pc := 49) (i := 0) (T' := ([.inr (.inr (5, [some (some (1)), some (some (19)), some (some (37)), some (some (38)), some (some (39)), some none, some none, some none, some none, none]))] ++ (vD (1) ++ (vD (19) ++ ([.inr (.inl (3, [none, none])), .inl (1, 2), .inr (.inr (1, [some (some (40)), none, none, none, none, none, none, some (some (41)), none, none, none])), .inl (0, 160)] ++ (vD (41))))) : List jD)) dX5_init_49 fX5_30 ⟨_, _, rfl⟩ rfl rfl hv rfl rfl (Nat.le_of_ble_eq_true rfl) rfl ?_
  refine J_aload_n (pc := 52) dX5_init_52 rfl ?_
  refine R_new (pc := 53) (b1 := 71) (b2 := 3098) (k := 59) (T' := ([.inr (.inr (5, [some (some (1)), some (some (19)), some (some (37)), some (some (38)), some (some (39)), some none, some none, some none, some none, none]))] ++ (vD (1) ++ (vD (19) ++ ([.inr (.inl (3, [none, none])), .inl (1, 2), .inr (.inr (1, [some (some (40)), none, none, none, none, none, none, some (some (41)), none, none, none])), .inl (0, 160)] ++ (vD (41))))) : List jD) ++ [oX0]) dX5_init_53 rfl cf0 tyX0_ok (j_bm (j_m1 144 rfl) rfl) (j_bm (j_m1 145 rfl) rfl) (j_bm (j_m1 4 rfl) rfl) fsX0 hv rfl rfl (by omega) ?_
  refine J_dup (pc := 56) dX5_init_56 rfl ?_
  refine J_callI (pc := 57) (Y' := YX0_init) (b' := (21, 2708)) (b2 := (50, 390)) (As := []) dX5_init_57 lX5_36 mX0_init rfl iX0_init rfl rfl (Nat.le_of_ble_eq_true rfl) ⟨by decide, by decide⟩ (c0_initR (T := ([.inr (.inr (5, [some (some (1)), some (some (19)), some (some (37)), some (some (38)), some (some (39)), some none, some none, some none, some none, none]))] ++ (vD (1) ++ (vD (19) ++ ([.inr (.inl (3, [none, none])), .inl (1, 2), .inr (.inr (1, [some (some (40)), none, none, none, none, none, none, some (some (41)), none, none, none])), .inl (0, 160)] ++ (vD (41))))) : List jD)) (k := 59) hv rfl (by omega)) ?_
  rintro r σ' h59 ⟨rfl, rfl, p59, w59⟩
  refine R_putF (pc := 60) (i := 0) (T' := ([.inr (.inr (5, [some (some (1)), some (some (19)), some (some (37)), some (some (38)), some (some (39)), some (some (59)), some none, some none, some none, none]))] ++ (vD (1) ++ (vD (19) ++ ([.inr (.inl (3, [none, none])), .inl (1, 2), .inr (.inr (1, [some (some (40)), none, none, none, none, none, none, some (some (41)), none, none, none])), .inl (0, 160)] ++ (vD (41) ++ ([.inr (.inr (0, [some (some (60)), some (some (78)), some (some (79)), none, some (some (80)), none, none]))] ++ (vD (60) ++ ([.inl (0, 1364), .inl (0, 256), .inl (0, 1000)]))))))) : List jD)) dX5_init_60 fX5_37 ⟨_, _, rfl⟩ rfl rfl hv rfl rfl (Nat.le_of_ble_eq_true rfl) rfl ?_
  refine J_aload_n (pc := 63) dX5_init_63 rfl ?_
  refine R_new (pc := 64) (b1 := 49) (b2 := 386) (k := 81) (T' := ([.inr (.inr (5, [some (some (1)), some (some (19)), some (some (37)), some (some (38)), some (some (39)), some (some (59)), some none, some none, some none, none]))] ++ (vD (1) ++ (vD (19) ++ ([.inr (.inl (3, [none, none])), .inl (1, 2), .inr (.inr (1, [some (some (40)), none, none, none, none, none, none, some (some (41)), none, none, none])), .inl (0, 160)] ++ (vD (41) ++ ([.inr (.inr (0, [some (some (60)), some (some (78)), some (some (79)), none, some (some (80)), none, none]))] ++ (vD (60) ++ ([.inl (0, 1364), .inl (0, 256), .inl (0, 1000)]))))))) : List jD) ++ [oX3]) dX5_init_64 rfl cf3 tyX3_ok (j_bm (j_m1 176 rfl) rfl) (j_bm (j_m1 177 rfl) rfl) (j_bm (j_m1 5 rfl) rfl) fsX3 hv rfl rfl (by omega) ?_
  refine J_dup (pc := 67) dX5_init_67 rfl ?_
  refine J_callI (pc := 68) (Y' := YX3_init) (b' := (3, 18)) (b2 := (46, 368)) (As := []) dX5_init_68 lX5_43 mX3_init rfl iX3_init rfl rfl (Nat.le_of_ble_eq_true rfl) ⟨by decide, by decide⟩ (c3_initR (T := ([.inr (.inr (5, [some (some (1)), some (some (19)), some (some (37)), some (some (38)), some (some (39)), some (some (59)), some none, some none, some none, none]))] ++ (vD (1) ++ (vD (19) ++ ([.inr (.inl (3, [none, none])), .inl (1, 2), .inr (.inr (1, [some (some (40)), none, none, none, none, none, none, some (some (41)), none, none, none])), .inl (0, 160)] ++ (vD (41) ++ ([.inr (.inr (0, [some (some (60)), some (some (78)), some (some (79)), none, some (some (80)), none, none]))] ++ (vD (60) ++ ([.inl (0, 1364), .inl (0, 256), .inl (0, 1000)]))))))) : List jD)) (k := 81) hv rfl (by omega)) ?_
  rintro r σ' h81 ⟨rfl, rfl, p81, w81⟩
  refine R_putF (pc := 71) (i := 0) (T' := ([.inr (.inr (5, [some (some (1)), some (some (19)), some (some (37)), some (some (38)), some (some (39)), some (some (59)), some (some (81)), some none, some none, none]))] ++ (vD (1) ++ (vD (19) ++ ([.inr (.inl (3, [none, none])), .inl (1, 2), .inr (.inr (1, [some (some (40)), none, none, none, none, none, none, some (some (41)), none, none, none])), .inl (0, 160)] ++ (vD (41) ++ ([.inr (.inr (0, [some (some (60)), some (some (78)), some (some (79)), none, some (some (80)), none, none]))] ++ (vD (60) ++ ([.inl (0, 1364), .inl (0, 256), .inl (0, 1000), .inr (.inr (3, [none, some (some (82)), some (some (83)), some (some (84))])), .inl (0, 6), .inl (0, 6), .inl (0, 6)]))))))) : List jD)) dX5_init_71 fX5_44 ⟨_, _, rfl⟩ rfl rfl hv rfl rfl (Nat.le_of_ble_eq_true rfl) rfl ?_
  refine J_aload_n (pc := 74) dX5_init_74 rfl ?_
  refine J_iconst (pc := 75) (v := nI 4) dX5_init_75 (by decide) ?_
  refine R_anew (pc := 76) (b1 := 45) (b2 := 364) (k := 85) (T' := ([.inr (.inr (5, [some (some (1)), some (some (19)), some (some (37)), some (some (38)), some (some (39)), some (some (59)), some (some (81)), some none, some none, none]))] ++ (vD (1) ++ (vD (19) ++ ([.inr (.inl (3, [none, none])), .inl (1, 2), .inr (.inr (1, [some (some (40)), none, none, none, none, none, none, some (some (41)), none, none, none])), .inl (0, 160)] ++ (vD (41) ++ ([.inr (.inr (0, [some (some (60)), some (some (78)), some (some (79)), none, some (some (80)), none, none]))] ++ (vD (60) ++ ([.inl (0, 1364), .inl (0, 256), .inl (0, 1000), .inr (.inr (3, [none, some (some (82)), some (some (83)), some (some (84))])), .inl (0, 6), .inl (0, 6), .inl (0, 6), .inr (.inl (4, [none, none, none, none]))]))))))) : List jD)) dX5_init_76 (Or.inr ⟨rfl, rfl⟩) (j_bm (j_m1 200 rfl) rfl) (N := 4) rfl (by decide) hv rfl rfl (by omega) ?_
  refine R_putF (pc := 79) (i := 0) (T' := ([.inr (.inr (5, [some (some (1)), some (some (19)), some (some (37)), some (some (38)), some (some (39)), some (some (59)), some (some (81)), some (some (85)), some none, none]))] ++ (vD (1) ++ (vD (19) ++ ([.inr (.inl (3, [none, none])), .inl (1, 2), .inr (.inr (1, [some (some (40)), none, none, none, none, none, none, some (some (41)), none, none, none])), .inl (0, 160)] ++ (vD (41) ++ ([.inr (.inr (0, [some (some (60)), some (some (78)), some (some (79)), none, some (some (80)), none, none]))] ++ (vD (60) ++ ([.inl (0, 1364), .inl (0, 256), .inl (0, 1000), .inr (.inr (3, [none, some (some (82)), some (some (83)), some (some (84))])), .inl (0, 6), .inl (0, 6), .inl (0, 6), .inr (.inl (4, [none, none, none, none]))]))))))) : List jD)) dX5_init_79 fX5_50 ⟨_, _, rfl⟩ rfl rfl hv rfl rfl (Nat.le_of_ble_eq_true rfl) rfl ?_
  refine J_aload_n (pc := 82) dX5_init_82 rfl ?_
  refine J_bipush (pc := 83) (v := nI 16) dX5_init_83 (by decide) ?_
  refine R_newa (pc := 85) (b1 := 44) (b2 := 348) (k := 86) (T' := ([.inr (.inr (5, [some (some (1)), some (some (19)), some (some (37)), some (some (38)), some (some (39)), some (some (59)), some (some (81)), some (some (85)), some none, none]))] ++ (vD (1) ++ (vD (19) ++ ([.inr (.inl (3, [none, none])), .inl (1, 2), .inr (.inr (1, [some (some (40)), none, none, none, none, none, none, some (some (41)), none, none, none])), .inl (0, 160)] ++ (vD (41) ++ ([.inr (.inr (0, [some (some (60)), some (some (78)), some (some (79)), none, some (some (80)), none, none]))] ++ (vD (60) ++ ([.inl (0, 1364), .inl (0, 256), .inl (0, 1000), .inr (.inr (3, [none, some (some (82)), some (some (83)), some (some (84))])), .inl (0, 6), .inl (0, 6), .inl (0, 6), .inr (.inl (4, [none, none, none, none])), .inl (0, 16)]))))))) : List jD)) dX5_init_85 rfl (Or.inl ⟨rfl, rfl⟩) (j_bm (j_m1 96 rfl) rfl) (N := 16) rfl (by decide) hv rfl rfl (by omega) ?_
  refine R_putF (pc := 87) (i := 0) (T' := ([.inr (.inr (5, [some (some (1)), some (some (19)), some (some (37)), some (some (38)), some (some (39)), some (some (59)), some (some (81)), some (some (85)), some (some (86)), none]))] ++ (vD (1) ++ (vD (19) ++ ([.inr (.inl (3, [none, none])), .inl (1, 2), .inr (.inr (1, [some (some (40)), none, none, none, none, none, none, some (some (41)), none, none, none])), .inl (0, 160)] ++ (vD (41) ++ ([.inr (.inr (0, [some (some (60)), some (some (78)), some (some (79)), none, some (some (80)), none, none]))] ++ (vD (60) ++ ([.inl (0, 1364), .inl (0, 256), .inl (0, 1000), .inr (.inr (3, [none, some (some (82)), some (some (83)), some (some (84))])), .inl (0, 6), .inl (0, 6), .inl (0, 6), .inr (.inl (4, [none, none, none, none])), .inl (0, 16)]))))))) : List jD)) dX5_init_87 fX5_54 ⟨_, _, rfl⟩ rfl rfl hv rfl rfl (Nat.le_of_ble_eq_true rfl) rfl ?_
  refine J_aload_n (pc := 90) dX5_init_90 rfl ?_
  refine J_iconst (pc := 91) (v := nI 0) dX5_init_91 (by decide) ?_
  refine J_putI (pc := 92) dX5_init_92 fX5_58 (R_at (i := 0) hv rfl rfl) rfl ?_
  refine J_iconst (pc := 95) (v := nI 0) dX5_init_95 (by decide) ?_
  refine J_istore_n (pc := 96) dX5_init_96 (by decide) ?_
  refine J_iload_n (pc := 97) dX5_init_97 rfl ?_
  refine J_iconst (pc := 98) (v := nI 2) dX5_init_98 (by decide) ?_
  refine J_icmp_ge (pc := 99) (tgt := 121) dX5_init_99 (by decide) (fun c => absurd c (by decide)) (fun _ => ?_)
  refine J_aload_n (pc := 102) dX5_init_102 rfl ?_
  refine J_getR (pc := 103) dX5_init_103 fX5_19 (R_at (i := 0) hv rfl rfl) rfl ?_
  refine J_iload_n (pc := 106) dX5_init_106 rfl ?_
  refine R_new (pc := 107) (b1 := 43) (b2 := 337) (k := 87) (T' := ([.inr (.inr (5, [some (some (1)), some (some (19)), some (some (37)), some (some (38)), some (some (39)), some (some (59)), some (some (81)), some (some (85)), some (some (86)), none]))] ++ (vD (1) ++ (vD (19) ++ ([.inr (.inl (3, [none, none])), .inl (1, 2), .inr (.inr (1, [some (some (40)), none, none, none, none, none, none, some (some (41)), none, none, none])), .inl (0, 160)] ++ (vD (41) ++ ([.inr (.inr (0, [some (some (60)), some (some (78)), some (some (79)), none, some (some (80)), none, none]))] ++ (vD (60) ++ ([.inl (0, 1364), .inl (0, 256), .inl (0, 1000), .inr (.inr (3, [none, some (some (82)), some (some (83)), some (some (84))])), .inl (0, 6), .inl (0, 6), .inl (0, 6), .inr (.inl (4, [none, none, none, none])), .inl (0, 16)]))))))) : List jD) ++ [oX4]) dX5_init_107 rfl cf4 tyX4_ok (j_bm (j_m1 23 rfl) rfl) (j_bm (j_m1 24 rfl) rfl) (j_bm (j_m1 2 rfl) rfl) fsX4 hv rfl rfl (by omega) ?_
  refine J_dup (pc := 110) dX5_init_110 rfl ?_
  refine J_callI (pc := 111) (Y' := YX4_init) (b' := (17, 77)) (b2 := (26, 260)) (As := []) dX5_init_111 lX5_9 mX4_init rfl iX4_init rfl rfl (Nat.le_of_ble_eq_true rfl) ⟨by decide, by decide⟩ (c4_initR (T := ([.inr (.inr (5, [some (some (1)), some (some (19)), some (some (37)), some (some (38)), some (some (39)), some (some (59)), some (some (81)), some (some (85)), some (some (86)), none]))] ++ (vD (1) ++ (vD (19) ++ ([.inr (.inl (3, [none, none])), .inl (1, 2), .inr (.inr (1, [some (some (40)), none, none, none, none, none, none, some (some (41)), none, none, none])), .inl (0, 160)] ++ (vD (41) ++ ([.inr (.inr (0, [some (some (60)), some (some (78)), some (some (79)), none, some (some (80)), none, none]))] ++ (vD (60) ++ ([.inl (0, 1364), .inl (0, 256), .inl (0, 1000), .inr (.inr (3, [none, some (some (82)), some (some (83)), some (some (84))])), .inl (0, 6), .inl (0, 6), .inl (0, 6), .inr (.inl (4, [none, none, none, none])), .inl (0, 16)]))))))) : List jD)) (k := 87) hv rfl (by omega)) ?_
  rintro r σ' h87 ⟨rfl, rfl, p87, w87⟩
  refine R_aast (pc := 114) (i := 37) (ir := 87) (j := 0) (T' := ([.inr (.inr (5, [some (some (1)), some (some (19)), some (some (37)), some (some (38)), some (some (39)), some (some (59)), some (some (81)), some (some (85)), some (some (86)), none]))] ++ (vD (1) ++ (vD (19) ++ ([.inr (.inl (3, [some (87), none])), .inl (1, 2), .inr (.inr (1, [some (some (40)), none, none, none, none, none, none, some (some (41)), none, none, none])), .inl (0, 160)] ++ (vD (41) ++ ([.inr (.inr (0, [some (some (60)), some (some (78)), some (some (79)), none, some (some (80)), none, none]))] ++ (vD (60) ++ ([.inl (0, 1364), .inl (0, 256), .inl (0, 1000), .inr (.inr (3, [none, some (some (82)), some (some (83)), some (some (84))])), .inl (0, 6), .inl (0, 6), .inl (0, 6), .inr (.inl (4, [none, none, none, none])), .inl (0, 16)] ++ (vD (87))))))))) : List jD)) dX5_init_114 hv rfl rfl rfl rfl rfl rfl rfl (Nat.le_of_ble_eq_true rfl) (Nat.le_of_ble_eq_true rfl) rfl ?_
  refine J_iinc (pc := 115) dX5_init_115 rfl (v := nI 1) (by decide) (by decide) ?_
  refine J_goto (pc := 118) (tgt := 97) dX5_init_118 (by decide) ?_
  refine J_iload_n (pc := 97) dX5_init_97 rfl ?_
  refine J_iconst (pc := 98) (v := nI 2) dX5_init_98 (by decide) ?_
  refine J_icmp_ge (pc := 99) (tgt := 121) dX5_init_99 (by decide) (fun c => absurd c (by decide)) (fun _ => ?_)
  refine J_aload_n (pc := 102) dX5_init_102 rfl ?_
  refine J_getR (pc := 103) dX5_init_103 fX5_19 (R_at (i := 0) hv rfl rfl) rfl ?_
  refine J_iload_n (pc := 106) dX5_init_106 rfl ?_
  refine R_new (pc := 107) (b1 := 25) (b2 := 249) (k := 105) (T' := ([.inr (.inr (5, [some (some (1)), some (some (19)), some (some (37)), some (some (38)), some (some (39)), some (some (59)), some (some (81)), some (some (85)), some (some (86)), none]))] ++ (vD (1) ++ (vD (19) ++ ([.inr (.inl (3, [some (87), none])), .inl (1, 2), .inr (.inr (1, [some (some (40)), none, none, none, none, none, none, some (some (41)), none, none, none])), .inl (0, 160)] ++ (vD (41) ++ ([.inr (.inr (0, [some (some (60)), some (some (78)), some (some (79)), none, some (some (80)), none, none]))] ++ (vD (60) ++ ([.inl (0, 1364), .inl (0, 256), .inl (0, 1000), .inr (.inr (3, [none, some (some (82)), some (some (83)), some (some (84))])), .inl (0, 6), .inl (0, 6), .inl (0, 6), .inr (.inl (4, [none, none, none, none])), .inl (0, 16)] ++ (vD (87))))))))) : List jD) ++ [oX4]) dX5_init_107 rfl cf4 tyX4_ok (j_bm (j_m1 23 rfl) rfl) (j_bm (j_m1 24 rfl) rfl) (j_bm (j_m1 2 rfl) rfl) fsX4 hv rfl rfl (by omega) ?_
  refine J_dup (pc := 110) dX5_init_110 rfl ?_
  refine J_callI (pc := 111) (Y' := YX4_init) (b' := (17, 77)) (b2 := (8, 172)) (As := []) dX5_init_111 lX5_9 mX4_init rfl iX4_init rfl rfl (Nat.le_of_ble_eq_true rfl) ⟨by decide, by decide⟩ (c4_initR (T := ([.inr (.inr (5, [some (some (1)), some (some (19)), some (some (37)), some (some (38)), some (some (39)), some (some (59)), some (some (81)), some (some (85)), some (some (86)), none]))] ++ (vD (1) ++ (vD (19) ++ ([.inr (.inl (3, [some (87), none])), .inl (1, 2), .inr (.inr (1, [some (some (40)), none, none, none, none, none, none, some (some (41)), none, none, none])), .inl (0, 160)] ++ (vD (41) ++ ([.inr (.inr (0, [some (some (60)), some (some (78)), some (some (79)), none, some (some (80)), none, none]))] ++ (vD (60) ++ ([.inl (0, 1364), .inl (0, 256), .inl (0, 1000), .inr (.inr (3, [none, some (some (82)), some (some (83)), some (some (84))])), .inl (0, 6), .inl (0, 6), .inl (0, 6), .inr (.inl (4, [none, none, none, none])), .inl (0, 16)] ++ (vD (87))))))))) : List jD)) (k := 105) hv rfl (by omega)) ?_
  rintro r σ' h105 ⟨rfl, rfl, p105, w105⟩
  refine R_aast (pc := 114) (i := 37) (ir := 105) (j := 1) (T' := ([.inr (.inr (5, [some (some (1)), some (some (19)), some (some (37)), some (some (38)), some (some (39)), some (some (59)), some (some (81)), some (some (85)), some (some (86)), none]))] ++ (vD (1) ++ (vD (19) ++ ([.inr (.inl (3, [some (87), some (105)])), .inl (1, 2), .inr (.inr (1, [some (some (40)), none, none, none, none, none, none, some (some (41)), none, none, none])), .inl (0, 160)] ++ (vD (41) ++ ([.inr (.inr (0, [some (some (60)), some (some (78)), some (some (79)), none, some (some (80)), none, none]))] ++ (vD (60) ++ ([.inl (0, 1364), .inl (0, 256), .inl (0, 1000), .inr (.inr (3, [none, some (some (82)), some (some (83)), some (some (84))])), .inl (0, 6), .inl (0, 6), .inl (0, 6), .inr (.inl (4, [none, none, none, none])), .inl (0, 16)] ++ (vD (87) ++ (vD (105)))))))))) : List jD)) dX5_init_114 hv rfl rfl rfl rfl rfl rfl rfl (Nat.le_of_ble_eq_true rfl) (Nat.le_of_ble_eq_true rfl) rfl ?_
  refine J_iinc (pc := 115) dX5_init_115 rfl (v := nI 2) (by decide) (by decide) ?_
  refine J_goto (pc := 118) (tgt := 97) dX5_init_118 (by decide) ?_
  refine J_iload_n (pc := 97) dX5_init_97 rfl ?_
  refine J_iconst (pc := 98) (v := nI 2) dX5_init_98 (by decide) ?_
  refine J_icmp_ge (pc := 99) (tgt := 121) dX5_init_99 (by decide) (fun _ => ?_) (fun c => absurd c (by decide))
  refine J_iconst (pc := 121) (v := nI 0) dX5_init_121 (by decide) ?_
  refine J_istore_n (pc := 122) dX5_init_122 (by decide) ?_
  refine J_iload_n (pc := 123) dX5_init_123 rfl ?_
  refine J_iconst (pc := 124) (v := nI 4) dX5_init_124 (by decide) ?_
  refine J_icmp_ge (pc := 125) (tgt := 147) dX5_init_125 (by decide) (fun c => absurd c (by decide)) (fun _ => ?_)
  refine J_aload_n (pc := 128) dX5_init_128 rfl ?_
  refine J_getR (pc := 129) dX5_init_129 fX5_50 (R_at (i := 0) hv rfl rfl) rfl ?_
  refine J_iload_n (pc := 132) dX5_init_132 rfl ?_
  refine R_new (pc := 133) (b1 := 7) (b2 := 169) (k := 123) (T' := ([.inr (.inr (5, [some (some (1)), some (some (19)), some (some (37)), some (some (38)), some (some (39)), some (some (59)), some (some (81)), some (some (85)), some (some (86)), none]))] ++ (vD (1) ++ (vD (19) ++ ([.inr (.inl (3, [some (87), some (105)])), .inl (1, 2), .inr (.inr (1, [some (some (40)), none, none, none, none, none, none, some (some (41)), none, none, none])), .inl (0, 160)] ++ (vD (41) ++ ([.inr (.inr (0, [some (some (60)), some (some (78)), some (some (79)), none, some (some (80)), none, none]))] ++ (vD (60) ++ ([.inl (0, 1364), .inl (0, 256), .inl (0, 1000), .inr (.inr (3, [none, some (some (82)), some (some (83)), some (some (84))])), .inl (0, 6), .inl (0, 6), .inl (0, 6), .inr (.inl (4, [none, none, none, none])), .inl (0, 16)] ++ (vD (87) ++ (vD (105)))))))))) : List jD) ++ [oX2]) dX5_init_133 rfl cf2 tyX2_ok (j_bm (j_m1 200 rfl) rfl) (j_bm (j_m1 202 rfl) rfl) (j_bm (j_m1 6 rfl) rfl) fsX2 hv rfl rfl (by omega) ?_
  refine J_dup (pc := 136) dX5_init_136 rfl ?_
  refine J_callI (pc := 137) (Y' := YX2_init) (b' := (1, 40)) (b2 := (6, 129)) (As := []) dX5_init_137 lX5_62 mX2_init rfl iX2_init rfl rfl (Nat.le_of_ble_eq_true rfl) ⟨by decide, by decide⟩ (c2_initR (T := ([.inr (.inr (5, [some (some (1)), some (some (19)), some (some (37)), some (some (38)), some (some (39)), some (some (59)), some (some (81)), some (some (85)), some (some (86)), none]))] ++ (vD (1) ++ (vD (19) ++ ([.inr (.inl (3, [some (87), some (105)])), .inl (1, 2), .inr (.inr (1, [some (some (40)), none, none, none, none, none, none, some (some (41)), none, none, none])), .inl (0, 160)] ++ (vD (41) ++ ([.inr (.inr (0, [some (some (60)), some (some (78)), some (some (79)), none, some (some (80)), none, none]))] ++ (vD (60) ++ ([.inl (0, 1364), .inl (0, 256), .inl (0, 1000), .inr (.inr (3, [none, some (some (82)), some (some (83)), some (some (84))])), .inl (0, 6), .inl (0, 6), .inl (0, 6), .inr (.inl (4, [none, none, none, none])), .inl (0, 16)] ++ (vD (87) ++ (vD (105)))))))))) : List jD)) (k := 123) hv rfl (by omega)) ?_
  rintro r σ' h123 ⟨rfl, rfl, p123, w123⟩
  refine R_aast (pc := 140) (i := 85) (ir := 123) (j := 0) (T' := ([.inr (.inr (5, [some (some (1)), some (some (19)), some (some (37)), some (some (38)), some (some (39)), some (some (59)), some (some (81)), some (some (85)), some (some (86)), none]))] ++ (vD (1) ++ (vD (19) ++ ([.inr (.inl (3, [some (87), some (105)])), .inl (1, 2), .inr (.inr (1, [some (some (40)), none, none, none, none, none, none, some (some (41)), none, none, none])), .inl (0, 160)] ++ (vD (41) ++ ([.inr (.inr (0, [some (some (60)), some (some (78)), some (some (79)), none, some (some (80)), none, none]))] ++ (vD (60) ++ ([.inl (0, 1364), .inl (0, 256), .inl (0, 1000), .inr (.inr (3, [none, some (some (82)), some (some (83)), some (some (84))])), .inl (0, 6), .inl (0, 6), .inl (0, 6), .inr (.inl (4, [some (123), none, none, none])), .inl (0, 16)] ++ (vD (87) ++ (vD (105) ++ ([.inr (.inr (2, [none, none, some (some (124))])), .inl (0, 40)])))))))))) : List jD)) dX5_init_140 hv rfl rfl rfl rfl rfl rfl rfl (Nat.le_of_ble_eq_true rfl) (Nat.le_of_ble_eq_true rfl) rfl ?_
  refine J_iinc (pc := 141) dX5_init_141 rfl (v := nI 1) (by decide) (by decide) ?_
  refine J_goto (pc := 144) (tgt := 123) dX5_init_144 (by decide) ?_
  refine J_iload_n (pc := 123) dX5_init_123 rfl ?_
  refine J_iconst (pc := 124) (v := nI 4) dX5_init_124 (by decide) ?_
  refine J_icmp_ge (pc := 125) (tgt := 147) dX5_init_125 (by decide) (fun c => absurd c (by decide)) (fun _ => ?_)
  refine J_aload_n (pc := 128) dX5_init_128 rfl ?_
  refine J_getR (pc := 129) dX5_init_129 fX5_50 (R_at (i := 0) hv rfl rfl) rfl ?_
  refine J_iload_n (pc := 132) dX5_init_132 rfl ?_
  refine R_new (pc := 133) (b1 := 5) (b2 := 126) (k := 125) (T' := ([.inr (.inr (5, [some (some (1)), some (some (19)), some (some (37)), some (some (38)), some (some (39)), some (some (59)), some (some (81)), some (some (85)), some (some (86)), none]))] ++ (vD (1) ++ (vD (19) ++ ([.inr (.inl (3, [some (87), some (105)])), .inl (1, 2), .inr (.inr (1, [some (some (40)), none, none, none, none, none, none, some (some (41)), none, none, none])), .inl (0, 160)] ++ (vD (41) ++ ([.inr (.inr (0, [some (some (60)), some (some (78)), some (some (79)), none, some (some (80)), none, none]))] ++ (vD (60) ++ ([.inl (0, 1364), .inl (0, 256), .inl (0, 1000), .inr (.inr (3, [none, some (some (82)), some (some (83)), some (some (84))])), .inl (0, 6), .inl (0, 6), .inl (0, 6), .inr (.inl (4, [some (123), none, none, none])), .inl (0, 16)] ++ (vD (87) ++ (vD (105) ++ ([.inr (.inr (2, [none, none, some (some (124))])), .inl (0, 40)])))))))))) : List jD) ++ [oX2]) dX5_init_133 rfl cf2 tyX2_ok (j_bm (j_m1 200 rfl) rfl) (j_bm (j_m1 202 rfl) rfl) (j_bm (j_m1 6 rfl) rfl) fsX2 hv rfl rfl (by omega) ?_
  refine J_dup (pc := 136) dX5_init_136 rfl ?_
  refine J_callI (pc := 137) (Y' := YX2_init) (b' := (1, 40)) (b2 := (4, 86)) (As := []) dX5_init_137 lX5_62 mX2_init rfl iX2_init rfl rfl (Nat.le_of_ble_eq_true rfl) ⟨by decide, by decide⟩ (c2_initR (T := ([.inr (.inr (5, [some (some (1)), some (some (19)), some (some (37)), some (some (38)), some (some (39)), some (some (59)), some (some (81)), some (some (85)), some (some (86)), none]))] ++ (vD (1) ++ (vD (19) ++ ([.inr (.inl (3, [some (87), some (105)])), .inl (1, 2), .inr (.inr (1, [some (some (40)), none, none, none, none, none, none, some (some (41)), none, none, none])), .inl (0, 160)] ++ (vD (41) ++ ([.inr (.inr (0, [some (some (60)), some (some (78)), some (some (79)), none, some (some (80)), none, none]))] ++ (vD (60) ++ ([.inl (0, 1364), .inl (0, 256), .inl (0, 1000), .inr (.inr (3, [none, some (some (82)), some (some (83)), some (some (84))])), .inl (0, 6), .inl (0, 6), .inl (0, 6), .inr (.inl (4, [some (123), none, none, none])), .inl (0, 16)] ++ (vD (87) ++ (vD (105) ++ ([.inr (.inr (2, [none, none, some (some (124))])), .inl (0, 40)])))))))))) : List jD)) (k := 125) hv rfl (by omega)) ?_
  rintro r σ' h125 ⟨rfl, rfl, p125, w125⟩
  refine R_aast (pc := 140) (i := 85) (ir := 125) (j := 1) (T' := ([.inr (.inr (5, [some (some (1)), some (some (19)), some (some (37)), some (some (38)), some (some (39)), some (some (59)), some (some (81)), some (some (85)), some (some (86)), none]))] ++ (vD (1) ++ (vD (19) ++ ([.inr (.inl (3, [some (87), some (105)])), .inl (1, 2), .inr (.inr (1, [some (some (40)), none, none, none, none, none, none, some (some (41)), none, none, none])), .inl (0, 160)] ++ (vD (41) ++ ([.inr (.inr (0, [some (some (60)), some (some (78)), some (some (79)), none, some (some (80)), none, none]))] ++ (vD (60) ++ ([.inl (0, 1364), .inl (0, 256), .inl (0, 1000), .inr (.inr (3, [none, some (some (82)), some (some (83)), some (some (84))])), .inl (0, 6), .inl (0, 6), .inl (0, 6), .inr (.inl (4, [some (123), some (125), none, none])), .inl (0, 16)] ++ (vD (87) ++ (vD (105) ++ ([.inr (.inr (2, [none, none, some (some (124))])), .inl (0, 40), .inr (.inr (2, [none, none, some (some (126))])), .inl (0, 40)])))))))))) : List jD)) dX5_init_140 hv rfl rfl rfl rfl rfl rfl rfl (Nat.le_of_ble_eq_true rfl) (Nat.le_of_ble_eq_true rfl) rfl ?_
  refine J_iinc (pc := 141) dX5_init_141 rfl (v := nI 2) (by decide) (by decide) ?_
  refine J_goto (pc := 144) (tgt := 123) dX5_init_144 (by decide) ?_
  refine J_iload_n (pc := 123) dX5_init_123 rfl ?_
  refine J_iconst (pc := 124) (v := nI 4) dX5_init_124 (by decide) ?_
  refine J_icmp_ge (pc := 125) (tgt := 147) dX5_init_125 (by decide) (fun c => absurd c (by decide)) (fun _ => ?_)
  refine J_aload_n (pc := 128) dX5_init_128 rfl ?_
  refine J_getR (pc := 129) dX5_init_129 fX5_50 (R_at (i := 0) hv rfl rfl) rfl ?_
  refine J_iload_n (pc := 132) dX5_init_132 rfl ?_
  refine R_new (pc := 133) (b1 := 3) (b2 := 83) (k := 127) (T' := ([.inr (.inr (5, [some (some (1)), some (some (19)), some (some (37)), some (some (38)), some (some (39)), some (some (59)), some (some (81)), some (some (85)), some (some (86)), none]))] ++ (vD (1) ++ (vD (19) ++ ([.inr (.inl (3, [some (87), some (105)])), .inl (1, 2), .inr (.inr (1, [some (some (40)), none, none, none, none, none, none, some (some (41)), none, none, none])), .inl (0, 160)] ++ (vD (41) ++ ([.inr (.inr (0, [some (some (60)), some (some (78)), some (some (79)), none, some (some (80)), none, none]))] ++ (vD (60) ++ ([.inl (0, 1364), .inl (0, 256), .inl (0, 1000), .inr (.inr (3, [none, some (some (82)), some (some (83)), some (some (84))])), .inl (0, 6), .inl (0, 6), .inl (0, 6), .inr (.inl (4, [some (123), some (125), none, none])), .inl (0, 16)] ++ (vD (87) ++ (vD (105) ++ ([.inr (.inr (2, [none, none, some (some (124))])), .inl (0, 40), .inr (.inr (2, [none, none, some (some (126))])), .inl (0, 40)])))))))))) : List jD) ++ [oX2]) dX5_init_133 rfl cf2 tyX2_ok (j_bm (j_m1 200 rfl) rfl) (j_bm (j_m1 202 rfl) rfl) (j_bm (j_m1 6 rfl) rfl) fsX2 hv rfl rfl (by omega) ?_
  refine J_dup (pc := 136) dX5_init_136 rfl ?_
  refine J_callI (pc := 137) (Y' := YX2_init) (b' := (1, 40)) (b2 := (2, 43)) (As := []) dX5_init_137 lX5_62 mX2_init rfl iX2_init rfl rfl (Nat.le_of_ble_eq_true rfl) ⟨by decide, by decide⟩ (c2_initR (T := ([.inr (.inr (5, [some (some (1)), some (some (19)), some (some (37)), some (some (38)), some (some (39)), some (some (59)), some (some (81)), some (some (85)), some (some (86)), none]))] ++ (vD (1) ++ (vD (19) ++ ([.inr (.inl (3, [some (87), some (105)])), .inl (1, 2), .inr (.inr (1, [some (some (40)), none, none, none, none, none, none, some (some (41)), none, none, none])), .inl (0, 160)] ++ (vD (41) ++ ([.inr (.inr (0, [some (some (60)), some (some (78)), some (some (79)), none, some (some (80)), none, none]))] ++ (vD (60) ++ ([.inl (0, 1364), .inl (0, 256), .inl (0, 1000), .inr (.inr (3, [none, some (some (82)), some (some (83)), some (some (84))])), .inl (0, 6), .inl (0, 6), .inl (0, 6), .inr (.inl (4, [some (123), some (125), none, none])), .inl (0, 16)] ++ (vD (87) ++ (vD (105) ++ ([.inr (.inr (2, [none, none, some (some (124))])), .inl (0, 40), .inr (.inr (2, [none, none, some (some (126))])), .inl (0, 40)])))))))))) : List jD)) (k := 127) hv rfl (by omega)) ?_
  rintro r σ' h127 ⟨rfl, rfl, p127, w127⟩
  refine R_aast (pc := 140) (i := 85) (ir := 127) (j := 2) (T' := ([.inr (.inr (5, [some (some (1)), some (some (19)), some (some (37)), some (some (38)), some (some (39)), some (some (59)), some (some (81)), some (some (85)), some (some (86)), none]))] ++ (vD (1) ++ (vD (19) ++ ([.inr (.inl (3, [some (87), some (105)])), .inl (1, 2), .inr (.inr (1, [some (some (40)), none, none, none, none, none, none, some (some (41)), none, none, none])), .inl (0, 160)] ++ (vD (41) ++ ([.inr (.inr (0, [some (some (60)), some (some (78)), some (some (79)), none, some (some (80)), none, none]))] ++ (vD (60) ++ ([.inl (0, 1364), .inl (0, 256), .inl (0, 1000), .inr (.inr (3, [none, some (some (82)), some (some (83)), some (some (84))])), .inl (0, 6), .inl (0, 6), .inl (0, 6), .inr (.inl (4, [some (123), some (125), some (127), none])), .inl (0, 16)] ++ (vD (87) ++ (vD (105) ++ ([.inr (.inr (2, [none, none, some (some (124))])), .inl (0, 40), .inr (.inr (2, [none, none, some (some (126))])), .inl (0, 40), .inr (.inr (2, [none, none, some (some (128))])), .inl (0, 40)])))))))))) : List jD)) dX5_init_140 hv rfl rfl rfl rfl rfl rfl rfl (Nat.le_of_ble_eq_true rfl) (Nat.le_of_ble_eq_true rfl) rfl ?_
  refine J_iinc (pc := 141) dX5_init_141 rfl (v := nI 3) (by decide) (by decide) ?_
  refine J_goto (pc := 144) (tgt := 123) dX5_init_144 (by decide) ?_
  refine J_iload_n (pc := 123) dX5_init_123 rfl ?_
  refine J_iconst (pc := 124) (v := nI 4) dX5_init_124 (by decide) ?_
  refine J_icmp_ge (pc := 125) (tgt := 147) dX5_init_125 (by decide) (fun c => absurd c (by decide)) (fun _ => ?_)
  refine J_aload_n (pc := 128) dX5_init_128 rfl ?_
  refine J_getR (pc := 129) dX5_init_129 fX5_50 (R_at (i := 0) hv rfl rfl) rfl ?_
  refine J_iload_n (pc := 132) dX5_init_132 rfl ?_
  refine R_new (pc := 133) (b1 := 1) (b2 := 40) (k := 129) (T' := ([.inr (.inr (5, [some (some (1)), some (some (19)), some (some (37)), some (some (38)), some (some (39)), some (some (59)), some (some (81)), some (some (85)), some (some (86)), none]))] ++ (vD (1) ++ (vD (19) ++ ([.inr (.inl (3, [some (87), some (105)])), .inl (1, 2), .inr (.inr (1, [some (some (40)), none, none, none, none, none, none, some (some (41)), none, none, none])), .inl (0, 160)] ++ (vD (41) ++ ([.inr (.inr (0, [some (some (60)), some (some (78)), some (some (79)), none, some (some (80)), none, none]))] ++ (vD (60) ++ ([.inl (0, 1364), .inl (0, 256), .inl (0, 1000), .inr (.inr (3, [none, some (some (82)), some (some (83)), some (some (84))])), .inl (0, 6), .inl (0, 6), .inl (0, 6), .inr (.inl (4, [some (123), some (125), some (127), none])), .inl (0, 16)] ++ (vD (87) ++ (vD (105) ++ ([.inr (.inr (2, [none, none, some (some (124))])), .inl (0, 40), .inr (.inr (2, [none, none, some (some (126))])), .inl (0, 40), .inr (.inr (2, [none, none, some (some (128))])), .inl (0, 40)])))))))))) : List jD) ++ [oX2]) dX5_init_133 rfl cf2 tyX2_ok (j_bm (j_m1 200 rfl) rfl) (j_bm (j_m1 202 rfl) rfl) (j_bm (j_m1 6 rfl) rfl) fsX2 hv rfl rfl (by omega) ?_
  refine J_dup (pc := 136) dX5_init_136 rfl ?_
  refine J_callI (pc := 137) (Y' := YX2_init) (b' := (1, 40)) (b2 := (0, 0)) (As := []) dX5_init_137 lX5_62 mX2_init rfl iX2_init rfl rfl (Nat.le_of_ble_eq_true rfl) ⟨by decide, by decide⟩ (c2_initR (T := ([.inr (.inr (5, [some (some (1)), some (some (19)), some (some (37)), some (some (38)), some (some (39)), some (some (59)), some (some (81)), some (some (85)), some (some (86)), none]))] ++ (vD (1) ++ (vD (19) ++ ([.inr (.inl (3, [some (87), some (105)])), .inl (1, 2), .inr (.inr (1, [some (some (40)), none, none, none, none, none, none, some (some (41)), none, none, none])), .inl (0, 160)] ++ (vD (41) ++ ([.inr (.inr (0, [some (some (60)), some (some (78)), some (some (79)), none, some (some (80)), none, none]))] ++ (vD (60) ++ ([.inl (0, 1364), .inl (0, 256), .inl (0, 1000), .inr (.inr (3, [none, some (some (82)), some (some (83)), some (some (84))])), .inl (0, 6), .inl (0, 6), .inl (0, 6), .inr (.inl (4, [some (123), some (125), some (127), none])), .inl (0, 16)] ++ (vD (87) ++ (vD (105) ++ ([.inr (.inr (2, [none, none, some (some (124))])), .inl (0, 40), .inr (.inr (2, [none, none, some (some (126))])), .inl (0, 40), .inr (.inr (2, [none, none, some (some (128))])), .inl (0, 40)])))))))))) : List jD)) (k := 129) hv rfl (by omega)) ?_
  rintro r σ' h129 ⟨rfl, rfl, p129, w129⟩
  refine R_aast (pc := 140) (i := 85) (ir := 129) (j := 3) (T' := ([.inr (.inr (5, [some (some (1)), some (some (19)), some (some (37)), some (some (38)), some (some (39)), some (some (59)), some (some (81)), some (some (85)), some (some (86)), none]))] ++ (vD (1) ++ (vD (19) ++ ([.inr (.inl (3, [some (87), some (105)])), .inl (1, 2), .inr (.inr (1, [some (some (40)), none, none, none, none, none, none, some (some (41)), none, none, none])), .inl (0, 160)] ++ (vD (41) ++ ([.inr (.inr (0, [some (some (60)), some (some (78)), some (some (79)), none, some (some (80)), none, none]))] ++ (vD (60) ++ ([.inl (0, 1364), .inl (0, 256), .inl (0, 1000), .inr (.inr (3, [none, some (some (82)), some (some (83)), some (some (84))])), .inl (0, 6), .inl (0, 6), .inl (0, 6), .inr (.inl (4, [some (123), some (125), some (127), some (129)])), .inl (0, 16)] ++ (vD (87) ++ (vD (105) ++ ([.inr (.inr (2, [none, none, some (some (124))])), .inl (0, 40), .inr (.inr (2, [none, none, some (some (126))])), .inl (0, 40), .inr (.inr (2, [none, none, some (some (128))])), .inl (0, 40), .inr (.inr (2, [none, none, some (some (130))])), .inl (0, 40)])))))))))) : List jD)) dX5_init_140 hv rfl rfl rfl rfl rfl rfl rfl (Nat.le_of_ble_eq_true rfl) (Nat.le_of_ble_eq_true rfl) rfl ?_
  refine J_iinc (pc := 141) dX5_init_141 rfl (v := nI 4) (by decide) (by decide) ?_
  refine J_goto (pc := 144) (tgt := 123) dX5_init_144 (by decide) ?_
  refine J_iload_n (pc := 123) dX5_init_123 rfl ?_
  refine J_iconst (pc := 124) (v := nI 4) dX5_init_124 (by decide) ?_
  refine J_icmp_ge (pc := 125) (tgt := 147) dX5_init_125 (by decide) (fun _ => ?_) (fun c => absurd c (by decide))
  refine J_ret (pc := 147) dX5_init_147 rfl ?_
  have A129 : ∀ b, b < 129 → h129 b = h127 b := fun b hb => (w129 b (by omega)).trans (j_row_ne b (by omega))
  have A127 : ∀ b, b < 127 → h127 b = h125 b := fun b hb => (w127 b (by omega)).trans (j_row_ne b (by omega))
  have A125 : ∀ b, b < 125 → h125 b = h123 b := fun b hb => (w125 b (by omega)).trans (j_row_ne b (by omega))
  have A123 : ∀ b, b < 123 → h123 b = h105 b := fun b hb => (w123 b (by omega)).trans (j_row_ne b (by omega))
  have A105 : ∀ b, b < 105 → h105 b = h87 b := fun b hb => (w105 b (by omega)).trans (j_row_ne b (by omega))
  have A87 : ∀ b, 1 ≤ b → b < 86 → h87 b = h81 b := fun b q hb => (w87 b (by omega)).trans ((j_row_ne b (by omega)).trans ((j_up_ne b (by omega)).trans (j_row_ne b (by omega))))
  have A81 : ∀ b, b < 81 → h81 b = h59 b := fun b hb => (w81 b (by omega)).trans (j_row_ne b (by omega))
  have A59 : ∀ b, b < 59 → h59 b = h39 b := fun b hb => (w59 b (by omega)).trans (j_row_ne b (by omega))
  have A39 : ∀ b, b < 38 → h39 b = h19 b := fun b hb => (w39 b (by omega)).trans ((j_row_ne b (by omega)).trans (j_row_ne b (by omega)))
  have A19 : ∀ b, b < 19 → h19 b = h1 b := fun b hb => (w19 b (by omega)).trans (j_row_ne b (by omega))
  have B : ∀ b, 1 ≤ b → b < 86 → h129 b = h81 b := fun b q hb => (A129 b (by omega)).trans ((A127 b (by omega)).trans ((A125 b (by omega)).trans ((A123 b (by omega)).trans ((A105 b (by omega)).trans (A87 b q hb)))))
  have C1 : ∀ b, 1 ≤ b → b < 19 → h129 b = h1 b := fun b q hb => (B b q (by omega)).trans ((A81 b (by omega)).trans ((A59 b (by omega)).trans ((A39 b (by omega)).trans (A19 b hb))))
  have C39 : ∀ b, 1 ≤ b → b < 59 → h129 b = h39 b := fun b q hb => (B b q (by omega)).trans ((A81 b (by omega)).trans (A59 b hb))
  refine ⟨rfl, rfl, ⟨XV_congr p1.1 (fun _ _ => rfl) (by decide) (by decide) (by decide) (fun b q1 q2 => C1 b (by omega) (by omega)), ?_⟩, fun k => ?_, ⟨?_, ?_⟩, fun i => ?_, ?_, ?_, fun s hs => ?_⟩
  · rw [C1 1 (by omega) (by omega)]; exact p1.2
  · rw [C39 38 (by omega) (by omega), w39 38 (by omega), j_row_ne 38 (by omega), j_row_at]
  · rw [C39 39 (by omega) (by omega)]; exact p39.1.trans (by rw [j_row_at])
  · rw [C39 39 (by omega) (by omega)]; exact p39.2
  · rw [B 80 (by omega) (by omega), A81 80 (by omega)]; exact p59 i
  · rw [B 81 (by omega) (by omega)]; exact p81.trans (by rw [j_row_at])
  · rw [A129 0 (by omega), A127 0 (by omega), A125 0 (by omega), A123 0 (by omega), A105 0 (by omega), w87 0 (by omega), j_row_ne 0 (by omega), j_up_s]; rfl
  · match s, hs with
    | 0, _ =>
      have q : ∀ b, b < 125 → h129 b = h123 b := fun b hb => (A129 b (by omega)).trans ((A127 b (by omega)).trans (A125 b hb))
      exact ⟨by rw [q _ (by omega)]; exact p123.1, by rw [q _ (by omega)]; exact p123.2.1.trans (by rw [j_row_at]), fun i => by rw [q _ (by omega)]; exact p123.2.2 i⟩
    | 1, _ =>
      have q : ∀ b, b < 127 → h129 b = h125 b := fun b hb => (A129 b (by omega)).trans (A127 b hb)
      exact ⟨by rw [q _ (by omega)]; exact p125.1, by rw [q _ (by omega)]; exact p125.2.1.trans (by rw [j_row_at]), fun i => by rw [q _ (by omega)]; exact p125.2.2 i⟩
    | 2, _ =>
      exact ⟨by rw [A129 _ (by omega)]; exact p127.1, by rw [A129 _ (by omega)]; exact p127.2.1.trans (by rw [j_row_at]), fun i => by rw [A129 _ (by omega)]; exact p127.2.2 i⟩
    | 3, _ => exact ⟨p129.1, p129.2.1.trans (by rw [j_row_at]), fun i => p129.2.2 i⟩
set_option maxRecDepth 100000 in
theorem cT_len : cT.length = 131 := rfl
set_option maxRecDepth 100000 in
theorem SH_eq : cT ++ mT = SH := rfl
