set_option maxHeartbeats 4000000 in
theorem l6_as3 {g : jG} {d : Nat} {h : jH} {Q : kQ} {c t : Nat} (hR : MR h) (hc : c < 256) (ht : t < 4) (kx : ∀ (hh : jH), (FK h hh ∧ DN (ix (h 131 2)) (pg h 0) (fitA h) hh c ∧ PB (ix (h 131 2)) (pg h 0) hh c t ∧ (∀ p, p < 4 → hh 140 (16 * c + 4 * t + p) = pw (ix (h 131 2)) (pg h 0) c p (t + 1)) ∧ hh 141 c = nI 1 ∧ pgR hh (skP (ix (h 131 2)) (pg h 0) (t + 1) (c / 4 ^ (4 - (t + 1))))) → K g (d + 2) YX6_allSkies (hh) 86 [(0, .ref 131), (1, .int (nI c)), (2, .int (nI t)), (3, .int (nI 4))] [] Q) : ∀ (mm k : Nat) (hh : jH), k ≤ 4 → 4 < k + mm → (FK h hh ∧ DN (ix (h 131 2)) (pg h 0) (fitA h) hh c ∧ PB (ix (h 131 2)) (pg h 0) hh c t ∧ (∀ p, p < k → hh 140 (16 * c + 4 * t + p) = pw (ix (h 131 2)) (pg h 0) c p (t + 1)) ∧ hh 141 c = nI 1 ∧ pgR hh (skP (ix (h 131 2)) (pg h 0) (t + 1) (c / 4 ^ (4 - (t + 1))))) → K g (d + 2) YX6_allSkies (hh) 50 [(0, .ref 131), (1, .int (nI c)), (2, .int (nI t)), (3, .int (nI k))] [] Q := by
  intro mm
  induction mm with
  | zero => intro k hh hk1 hk2 hI; omega
  | succ mm ih =>
    intro k hh hk1 hk2 hI
    refine J_iload_n (pc := 50) dX6_allSkies_50 rfl ?_
    refine J_iconst (pc := 51) (v := nI 4) dX6_allSkies_51 (by decide) ?_
    refine J_icmp_ge (pc := 52) (tgt := 86) dX6_allSkies_52 (by decide) (fun c52 => ?_) (fun c52 => ?_)
    · skip
      have q52 : 4 ≤ k := (nI_leI (by omega) (by omega)).mp c52
      have e_k : k = 4 := by omega
      refine J_ls (ls' := [(0, .ref 131), (1, .int (nI c)), (2, .int (nI t)), (3, .int (nI k))]) ⟨rfl, rfl, rfl, rfl, trivial⟩ ?_
      rw [e_k] at hI ⊢
      exact kx hh hI
    · skip
      have q52 : k < 4 := Nat.lt_of_not_le (fun z => c52 ((nI_leI (by omega) (by omega)).mpr z))
      refine J_aload_n (pc := 55) dX6_allSkies_55 rfl ?_
      refine J_getR (pc := 56) dX6_allSkies_56 fX6_34 sh131 rfl ?_
      refine J_bipush (pc := 59) (v := nI 16) dX6_allSkies_59 (by decide) ?_
      refine J_iload_n (pc := 61) dX6_allSkies_61 rfl ?_
      refine J_imul (pc := 62) dX6_allSkies_62 (pk_mul _ _) ?_
      refine J_iconst (pc := 63) (v := nI 4) dX6_allSkies_63 (by decide) ?_
      refine J_iload_n (pc := 64) dX6_allSkies_64 rfl ?_
      refine J_imul (pc := 65) dX6_allSkies_65 (pk_mul _ _) ?_
      refine J_iadd (pc := 66) dX6_allSkies_66 (nI_add _ _) ?_
      refine J_iload_n (pc := 67) dX6_allSkies_67 rfl ?_
      refine J_iadd (pc := 68) dX6_allSkies_68 (nI_add _ _) ?_
      refine J_aload_n (pc := 69) dX6_allSkies_69 rfl ?_
      refine J_getR (pc := 70) dX6_allSkies_70 fX6_7 sh131 rfl ?_
      refine J_sipush (pc := 73) (v := nI 284) dX6_allSkies_73 (by decide) ?_
      refine J_iload_n (pc := 76) dX6_allSkies_76 rfl ?_
      refine J_iadd (pc := 77) dX6_allSkies_77 (nI_add _ _) ?_
      refine J_iald (pc := 78) dX6_allSkies_78 sh132 (rfl) (by omega) ((congrArg _ (show 284 + k = 276 + (8 + k) by omega)).trans (hI.2.2.2.2.2 (8 + k) (by omega) (by omega))) (by decide) ?_
      refine J_iast (pc := 79) dX6_allSkies_79 sh140 (rfl) (by omega) (by decide) ?_
      refine J_iinc (pc := 80) dX6_allSkies_80 rfl (v := nI (k + 1)) (by exact nI_add _ _) (by decide) ?_
      refine J_goto (pc := 83) (tgt := 50) dX6_allSkies_83 (by decide) ?_
      obtain ⟨i1, i2, i3, i4, i5, i6⟩ := hI
      refine J_ls ?_ (ih (k + 1) _ (by omega) (by omega) ⟨FK_0 i1, DN_c i2 (fun j hj => j_up_o (by omega)) (fun j hj => j_up_o (by omega)), PB_c i3 (fun j h1 h2 => j_up_o (by omega)), fun p hp => ?_, by rw [j_up_o (by omega)]; exact i5, fun j hj h2 => (j_up_o (by omega)).trans (i6 j hj h2)⟩)
      · exact ⟨rfl, rfl, rfl, rfl, trivial⟩
      · by_cases z : p = k
        · subst z; rw [j_up_s]; rfl
        · rw [j_up_o (by omega)]; exact i4 p (by omega)
set_option maxHeartbeats 4000000 in
theorem l6_as2 {g : jG} {d : Nat} {h : jH} {Q : kQ} {c : Nat} (hR : MR h) (hc : c < 256) (kx : ∀ (hh : jH), (FK h hh ∧ DN (ix (h 131 2)) (pg h 0) (fitA h) hh c ∧ PB (ix (h 131 2)) (pg h 0) hh c 4 ∧ hh 141 c = nI 1 ∧ pgR hh (skP (ix (h 131 2)) (pg h 0) 4 (c / 4 ^ (4 - 4)))) → K g (d + 2) YX6_allSkies (hh) 92 [(0, .ref 131), (1, .int (nI c)), (2, .int (nI 4))] [] Q) : ∀ (mm k : Nat) (hh : jH), k ≤ 4 → 4 < k + mm → (FK h hh ∧ DN (ix (h 131 2)) (pg h 0) (fitA h) hh c ∧ PB (ix (h 131 2)) (pg h 0) hh c k ∧ hh 141 c = nI 1 ∧ pgR hh (skP (ix (h 131 2)) (pg h 0) k (c / 4 ^ (4 - k)))) → K g (d + 2) YX6_allSkies (hh) 26 [(0, .ref 131), (1, .int (nI c)), (2, .int (nI k))] [] Q := by
  intro mm
  induction mm with
  | zero => intro k hh hk1 hk2 hI; omega
  | succ mm ih =>
    intro k hh hk1 hk2 hI
    have hR0 := hR
    have hG : GD (ix (h 131 2)) (pg h 0) := hR.2.1
    obtain ⟨r1, ⟨⟨v1, v2, v3, v4⟩, v5, v6, v7, v8, v9, va, vb, vc, vd⟩, r3, r4, ⟨r5, r6⟩, r7, r8, r9, ra⟩ := hR
    have hn := r1.1
    have hn4 := v1
    have n5 := r1.2
    have c6 : ix (h 132 37) < 6 := v3.2
    have p9 : ix (h 132 51) < 9 := v5.2
    have p9' : ix (pg h 0 51) < 9 := v5.2
    have cd : ∀ j, c / 4 ^ j < 2 ^ 31 := fun j => by have := Nat.div_le_self c (4 ^ j); omega
    obtain ⟨i1, i2, i3, i4, i5⟩ := id hI
    have gk := sk_ok hG k (c / 4 ^ (4 - k))
    have o132 : ∀ j, j < 207 → hh 132 j = h 132 j := fun j hj => i1 132 j (by omega) (by omega) (by omega)
    refine J_iload_n (pc := 26) dX6_allSkies_26 rfl ?_
    refine J_iconst (pc := 27) (v := nI 4) dX6_allSkies_27 (by decide) ?_
    refine J_icmp_ge (pc := 28) (tgt := 92) dX6_allSkies_28 (by decide) (fun c28 => ?_) (fun c28 => ?_)
    · skip
      have q28 : 4 ≤ k := (nI_leI (by omega) (by omega)).mp c28
      have e_k : k = 4 := by omega
      refine J_ls (ls' := [(0, .ref 131), (1, .int (nI c)), (2, .int (nI k))]) ⟨rfl, rfl, rfl, trivial⟩ ?_
      rw [e_k] at hI ⊢
      exact kx hh hI
    · skip
      have q28 : k < 4 := Nat.lt_of_not_le (fun z => c28 ((nI_leI (by omega) (by omega)).mpr z))
      refine J_aload_n (pc := 31) dX6_allSkies_31 rfl ?_
      refine J_sipush (pc := 32) (v := nI 276) dX6_allSkies_32 (by decide) ?_
      refine J_iload_n (pc := 35) dX6_allSkies_35 rfl ?_
      refine J_iconst (pc := 36) (v := nI 2) dX6_allSkies_36 (by decide) ?_
      refine J_iconst (pc := 37) (v := nI 3) dX6_allSkies_37 (by decide) ?_
      refine J_iload_n (pc := 38) dX6_allSkies_38 rfl ?_
      refine J_isub (pc := 39) dX6_allSkies_39 (pk_sub (by omega)) ?_
      refine J_imul (pc := 40) dX6_allSkies_40 (pk_mul _ _) ?_
      refine J_ishr (pc := 41) dX6_allSkies_41 (shr4 (by omega) (by omega)) ?_
      refine J_iconst (pc := 42) (v := nI 3) dX6_allSkies_42 (by decide) ?_
      refine J_iand (pc := 43) dX6_allSkies_43 (and3 (cd _)) ?_
      refine K_Vi2 (pc := 44) (Y' := YX6_weekOn) dX6_allSkies_44 lX6_206 mX6_weekOn vX6_weekOn ⟨_, _, rfl⟩ sh131 (Nat.le_of_ble_eq_true rfl) (c6_weekT (n := (ix (h 131 2))) (R := skP (ix (h 131 2)) (pg h 0) k (c / 4 ^ (4 - k))) ((i1 131 2 (by omega) (by omega) (by omega)).trans hn) (Nat.mod_lt _ (by omega)) (fun j hj => (gk.2 j (by omega)).trans (pg0.trans (o132 j (by omega)).symm)) (fun i hi => (i1 133 i (by omega) (by omega) (by omega)).trans (r8 i hi)) gk.1.1 i5) ?_
      rintro r h0 ⟨e0, -⟩
      rw [e0]
      clear e0
      have we := (week_e (w := c / 4 ^ (3 - k) % 4) gk.1.1 (TX_e i5)).1
      rw [← sk_step (m := 4) (c := c) q28] at we
      refine J_pop (pc := 47) dX6_allSkies_47 rfl ?_
      refine J_iconst (pc := 48) (v := nI 0) dX6_allSkies_48 (by decide) ?_
      refine J_istore_n (pc := 49) dX6_allSkies_49 (by decide) ?_
      refine J_ls (ls' := [(0, .ref 131), (1, .int (nI c)), (2, .int (nI k)), (3, .int (nI 0))]) ⟨rfl, rfl, rfl, rfl, trivial⟩ ?_
      refine l6_as3 (h := h) hR0 hc q28 ?_ 5 0 _ (Nat.zero_le _) (by omega) ⟨FK_m i1, DN_c i2 (fun j hj => mset_b (by decide) rfl) (fun j hj => mset_b (by decide) rfl), PB_c i3 (fun j h1 h2 => mset_b (by decide) rfl), fun p hp => absurd hp (by omega), mset_b (by decide) i4, pgR_m we⟩
      intro hx hJ
      obtain ⟨j1, j2, j3, j4, j5, j6⟩ := hJ
      refine J_iinc (pc := 86) dX6_allSkies_86 rfl (v := nI (k + 1)) (by exact nI_add _ _) (by decide) ?_
      refine J_goto (pc := 89) (tgt := 26) dX6_allSkies_89 (by decide) ?_
      refine J_ls (ls' := [(0, .ref 131), (1, .int (nI c)), (2, .int (nI (k + 1)))]) ⟨rfl, rfl, rfl, trivial⟩ (ih (k + 1) hx (by omega) (by omega) ⟨j1, j2, fun u p hu hp => ?_, j5, j6⟩)
      by_cases z : u = k
      · subst z; exact j4 p hp
      · exact j3 u p (by omega) hp
set_option maxHeartbeats 4000000 in
theorem l6_as4 {g : jG} {d : Nat} {h : jH} {Q : kQ} {c : Nat} (hR : MR h) (hc : c < 256) (kx : ∀ (hh : jH), (FK h hh ∧ DN (ix (h 131 2)) (pg h 0) (fitA h) hh c ∧ PB (ix (h 131 2)) (pg h 0) hh c 4 ∧ hh 141 c = bI (asF (ix (h 131 2)) (pg h 0) (h 139) c (ix (h 131 21)))) → K g (d + 2) YX6_allSkies (hh) 176 [(0, .ref 131), (1, .int (nI c)), (2, .int (nI (ix (h 131 21))))] [] Q) : ∀ (mm k : Nat) (hh : jH), k ≤ (ix (h 131 21)) → (ix (h 131 21)) < k + mm → (FK h hh ∧ DN (ix (h 131 2)) (pg h 0) (fitA h) hh c ∧ PB (ix (h 131 2)) (pg h 0) hh c 4 ∧ hh 141 c = bI (asF (ix (h 131 2)) (pg h 0) (h 139) c k)) → K g (d + 2) YX6_allSkies (hh) 94 [(0, .ref 131), (1, .int (nI c)), (2, .int (nI k))] [] Q := by
  intro mm
  induction mm with
  | zero => intro k hh hk1 hk2 hI; omega
  | succ mm ih =>
    intro k hh hk1 hk2 hI
    have hR0 := hR
    have hG : GD (ix (h 131 2)) (pg h 0) := hR.2.1
    obtain ⟨r1, ⟨⟨v1, v2, v3, v4⟩, v5, v6, v7, v8, v9, va, vb, vc, vd⟩, r3, r4, ⟨r5, r6⟩, r7, r8, r9, ra⟩ := hR
    have hn := r1.1
    have hn4 := v1
    have n5 := r1.2
    have c6 : ix (h 132 37) < 6 := v3.2
    have p9 : ix (h 132 51) < 9 := v5.2
    have p9' : ix (pg h 0 51) < 9 := v5.2
    obtain ⟨i1, i2, i3, i4⟩ := id hI
    have e141 := i4
    have s7 := r5.2
    have o : ∀ b j, b ≠ 132 → b ≠ 140 → b ≠ 141 → hh b j = h b j := fun b j h1 h2 h3 => i1 b j h2 h3 (by omega)
    refine J_iload_n (pc := 94) dX6_allSkies_94 rfl ?_
    refine J_aload_n (pc := 95) dX6_allSkies_95 rfl ?_
    refine J_getI (pc := 96) dX6_allSkies_96 fX6_151 sh131 rfl ((o 131 21 (by omega) (by omega) (by omega)).trans r5.1) ?_
    refine J_icmp_ge (pc := 99) (tgt := 176) dX6_allSkies_99 (by decide) (fun c99 => ?_) (fun c99 => ?_)
    · skip
      have q99 : (ix (h 131 21)) ≤ k := (nI_leI (by omega) (by omega)).mp c99
      have e_k : k = (ix (h 131 21)) := by omega
      refine J_ls (ls' := [(0, .ref 131), (1, .int (nI c)), (2, .int (nI k))]) ⟨rfl, rfl, rfl, trivial⟩ ?_
      rw [e_k] at hI ⊢
      exact kx hh hI
    · skip
      have q99 : k < (ix (h 131 21)) := Nat.lt_of_not_le (fun z => c99 ((nI_leI (by omega) (by omega)).mpr z))
      obtain ⟨p1, w1, w2⟩ := r6 k q99
      have p2 := p1.2
      have w3 := w1.2
      have ew : ix (h 139 (3 * k + 1)) - 1 + 1 = ix (h 139 (3 * k + 1)) := by omega
      refine J_bipush (pc := 102) (v := nI 16) dX6_allSkies_102 (by decide) ?_
      refine J_iload_n (pc := 104) dX6_allSkies_104 rfl ?_
      refine J_imul (pc := 105) dX6_allSkies_105 (pk_mul _ _) ?_
      refine J_iconst (pc := 106) (v := nI 4) dX6_allSkies_106 (by decide) ?_
      refine J_aload_n (pc := 107) dX6_allSkies_107 rfl ?_
      refine J_getR (pc := 108) dX6_allSkies_108 fX6_31 sh131 rfl ?_
      refine J_iconst (pc := 111) (v := nI 3) dX6_allSkies_111 (by decide) ?_
      refine J_iload_n (pc := 112) dX6_allSkies_112 rfl ?_
      refine J_imul (pc := 113) dX6_allSkies_113 (pk_mul _ _) ?_
      refine J_iconst (pc := 114) (v := nI 1) dX6_allSkies_114 (by decide) ?_
      refine J_iadd (pc := 115) dX6_allSkies_115 (nI_add _ _) ?_
      refine J_iald (pc := 116) dX6_allSkies_116 sh139 (rfl) (by omega) ((o 139 _ (by omega) (by omega) (by omega)).trans w1.1) (by decide) ?_
      refine J_iconst (pc := 117) (v := nI 1) dX6_allSkies_117 (by decide) ?_
      refine J_isub (pc := 118) dX6_allSkies_118 (pk_sub w2) ?_
      refine J_imul (pc := 119) dX6_allSkies_119 (pk_mul _ _) ?_
      refine J_iadd (pc := 120) dX6_allSkies_120 (nI_add _ _) ?_
      refine J_aload_n (pc := 121) dX6_allSkies_121 rfl ?_
      refine J_getR (pc := 122) dX6_allSkies_122 fX6_31 sh131 rfl ?_
      refine J_iconst (pc := 125) (v := nI 3) dX6_allSkies_125 (by decide) ?_
      refine J_iload_n (pc := 126) dX6_allSkies_126 rfl ?_
      refine J_imul (pc := 127) dX6_allSkies_127 (pk_mul _ _) ?_
      refine J_iald (pc := 128) dX6_allSkies_128 sh139 (rfl) (by omega) ((o 139 _ (by omega) (by omega) (by omega)).trans p1.1) (by decide) ?_
      refine J_iadd (pc := 129) dX6_allSkies_129 (nI_add _ _) ?_
      refine J_istore_n (pc := 130) dX6_allSkies_130 (by decide) ?_
      refine J_aload_n (pc := 131) dX6_allSkies_131 rfl ?_
      refine J_getR (pc := 132) dX6_allSkies_132 fX6_37 sh131 rfl ?_
      refine J_iload_n (pc := 135) dX6_allSkies_135 rfl ?_
      refine J_aload_n (pc := 136) dX6_allSkies_136 rfl ?_
      refine J_getR (pc := 137) dX6_allSkies_137 fX6_37 sh131 rfl ?_
      refine J_iload_n (pc := 140) dX6_allSkies_140 rfl ?_
      refine J_zald (pc := 141) dX6_allSkies_141 sh141 (rfl) (by omega) (rfl) (by decide) ?_
      refine J_if_eq (pc := 142) (tgt := 168) dX6_allSkies_142 (by decide) (fun c142 => ?_) (fun c142 => ?_)
      · skip
        refine J_iconst (pc := 168) (v := nI 0) dX6_allSkies_168 (by decide) ?_
        refine J_zast (pc := 169) dX6_allSkies_169 sh141 (rfl) (by omega) (by decide) (by decide) ?_
        refine J_iinc (pc := 170) dX6_allSkies_170 rfl (v := nI (k + 1)) (by exact nI_add _ _) (by decide) ?_
        refine J_goto (pc := 173) (tgt := 94) dX6_allSkies_173 (by decide) ?_
        refine J_ls ?_ (ih (k + 1) _ (by omega) (by omega) ⟨FK_1 i1, DN_c i2 (fun j hj => j_up_o (by omega)) (fun j hj => j_up_o (by omega)), PB_c i3 (fun j h1 h2 => j_up_o (by omega)), ?_⟩)
        · exact ⟨rfl, rfl, rfl, trivial⟩
        · rw [j_up_s]; exact (bI_f (fun z => (by have := (asF_s.mp z).1; rw [bI_t this] at e141; exact absurd (e141.symm.trans c142) (by decide)))).symm
      · skip
        refine J_aload_n (pc := 145) dX6_allSkies_145 rfl ?_
        refine J_getR (pc := 146) dX6_allSkies_146 fX6_34 sh131 rfl ?_
        refine J_iload_n (pc := 149) dX6_allSkies_149 rfl ?_
        refine J_iald (pc := 150) dX6_allSkies_150 sh140 (rfl) (by omega) ((congrArg _ (by omega)).trans (i3 (ix (h 139 (3 * k + 1)) - 1) (ix (h 139 (3 * k))) (by omega) (by omega))) (by decide) ?_
        refine J_aload_n (pc := 151) dX6_allSkies_151 rfl ?_
        refine J_getR (pc := 152) dX6_allSkies_152 fX6_31 sh131 rfl ?_
        refine J_iconst (pc := 155) (v := nI 3) dX6_allSkies_155 (by decide) ?_
        refine J_iload_n (pc := 156) dX6_allSkies_156 rfl ?_
        refine J_imul (pc := 157) dX6_allSkies_157 (pk_mul _ _) ?_
        refine J_iconst (pc := 158) (v := nI 2) dX6_allSkies_158 (by decide) ?_
        refine J_iadd (pc := 159) dX6_allSkies_159 (nI_add _ _) ?_
        refine J_iald (pc := 160) dX6_allSkies_160 sh139 (rfl) (by omega) (o 139 _ (by omega) (by omega) (by omega)) (by decide) ?_
        refine J_icmp_ne (pc := 161) (tgt := 168) dX6_allSkies_161 (by decide) (fun c161 => ?_) (fun c161 => ?_)
        · skip
          rw [ew] at c161
          refine J_iconst (pc := 168) (v := nI 0) dX6_allSkies_168 (by decide) ?_
          refine J_zast (pc := 169) dX6_allSkies_169 sh141 (rfl) (by omega) (by decide) (by decide) ?_
          refine J_iinc (pc := 170) dX6_allSkies_170 rfl (v := nI (k + 1)) (by exact nI_add _ _) (by decide) ?_
          refine J_goto (pc := 173) (tgt := 94) dX6_allSkies_173 (by decide) ?_
          have bt : (asF (ix (h 131 2)) (pg h 0) (h 139) c k) = true := by
            by_cases z : (asF (ix (h 131 2)) (pg h 0) (h 139) c k) = true
            · exact z
            · rw [bI_f z] at e141; exact absurd e141 c142
          refine J_ls ?_ (ih (k + 1) _ (by omega) (by omega) ⟨FK_1 i1, DN_c i2 (fun j hj => j_up_o (by omega)) (fun j hj => j_up_o (by omega)), PB_c i3 (fun j h1 h2 => j_up_o (by omega)), ?_⟩)
          · exact ⟨rfl, rfl, rfl, trivial⟩
          · rw [j_up_s]; exact (bI_f (fun z => c161 (asF_s.mp z).2)).symm
        · skip
          rw [ew] at c161
          refine J_iconst (pc := 164) (v := nI 1) dX6_allSkies_164 (by decide) ?_
          refine J_goto (pc := 165) (tgt := 169) dX6_allSkies_165 (by decide) ?_
          refine J_zast (pc := 169) dX6_allSkies_169 sh141 (rfl) (by omega) (by decide) (by decide) ?_
          refine J_iinc (pc := 170) dX6_allSkies_170 rfl (v := nI (k + 1)) (by exact nI_add _ _) (by decide) ?_
          refine J_goto (pc := 173) (tgt := 94) dX6_allSkies_173 (by decide) ?_
          have bt : (asF (ix (h 131 2)) (pg h 0) (h 139) c k) = true := by
            by_cases z : (asF (ix (h 131 2)) (pg h 0) (h 139) c k) = true
            · exact z
            · rw [bI_f z] at e141; exact absurd e141 c142
          refine J_ls ?_ (ih (k + 1) _ (by omega) (by omega) ⟨FK_1 i1, DN_c i2 (fun j hj => j_up_o (by omega)) (fun j hj => j_up_o (by omega)), PB_c i3 (fun j h1 h2 => j_up_o (by omega)), ?_⟩)
          · exact ⟨rfl, rfl, rfl, trivial⟩
          · rw [j_up_s]; exact (bI_t (asF_s.mpr ⟨bt, c161⟩)).symm
set_option maxHeartbeats 4000000 in
theorem l6_as1 {g : jG} {d : Nat} {h : jH} {Q : kQ} (hR : MR h) (kx : ∀ (hh : jH), (FK h hh ∧ DN (ix (h 131 2)) (pg h 0) (fitA h) hh 256) → K g (d + 2) YX6_allSkies (hh) 182 [(0, .ref 131), (1, .int (nI 256))] [] Q) : ∀ (mm k : Nat) (hh : jH), k ≤ 256 → 256 < k + mm → (FK h hh ∧ DN (ix (h 131 2)) (pg h 0) (fitA h) hh k) → K g (d + 2) YX6_allSkies (hh) 2 [(0, .ref 131), (1, .int (nI k))] [] Q := by
  intro mm
  induction mm with
  | zero => intro k hh hk1 hk2 hI; omega
  | succ mm ih =>
    intro k hh hk1 hk2 hI
    have hR0 := hR
    have hG : GD (ix (h 131 2)) (pg h 0) := hR.2.1
    obtain ⟨r1, ⟨⟨v1, v2, v3, v4⟩, v5, v6, v7, v8, v9, va, vb, vc, vd⟩, r3, r4, ⟨r5, r6⟩, r7, r8, r9, ra⟩ := hR
    have hn := r1.1
    have hn4 := v1
    have n5 := r1.2
    have c6 : ix (h 132 37) < 6 := v3.2
    have p9 : ix (h 132 51) < 9 := v5.2
    have p9' : ix (pg h 0 51) < 9 := v5.2
    refine J_iload_n (pc := 2) dX6_allSkies_2 rfl ?_
    refine J_sipush (pc := 3) (v := nI 256) dX6_allSkies_3 (by decide) ?_
    refine J_icmp_ge (pc := 6) (tgt := 182) dX6_allSkies_6 (by decide) (fun c6 => ?_) (fun c6 => ?_)
    · skip
      have q6 : 256 ≤ k := (nI_leI (by omega) (by omega)).mp c6
      have e_k : k = 256 := by omega
      refine J_ls (ls' := [(0, .ref 131), (1, .int (nI k))]) ⟨rfl, rfl, trivial⟩ ?_
      rw [e_k] at hI ⊢
      exact kx hh hI
    · skip
      have q6 : k < 256 := Nat.lt_of_not_le (fun z => c6 ((nI_leI (by omega) (by omega)).mpr z))
      refine J_aload_n (pc := 9) dX6_allSkies_9 rfl ?_
      refine J_iconst (pc := 10) (v := nI 0) dX6_allSkies_10 (by decide) ?_
      refine J_sipush (pc := 11) (v := nI 276) dX6_allSkies_11 (by decide) ?_
      refine K_Vv2 (pc := 14) (Y' := YX6_copies) dX6_allSkies_14 lX6_215 mX6_copies vX6_copies ⟨_, _, rfl⟩ sh131 (Nat.le_of_ble_eq_true rfl) (c6_copies (a := 0) (o := 276) (by omega) (by omega) (by omega)) ?_
      rintro h0 e0
      rw [e0]
      clear e0 h0
      refine J_aload_n (pc := 17) dX6_allSkies_17 rfl ?_
      refine J_getR (pc := 18) dX6_allSkies_18 fX6_37 sh131 rfl ?_
      refine J_iload_n (pc := 21) dX6_allSkies_21 rfl ?_
      refine J_iconst (pc := 22) (v := nI 1) dX6_allSkies_22 (by decide) ?_
      refine J_zast (pc := 23) dX6_allSkies_23 sh141 (rfl) (by omega) (by decide) (by decide) ?_
      refine J_iconst (pc := 24) (v := nI 0) dX6_allSkies_24 (by decide) ?_
      refine J_istore_n (pc := 25) dX6_allSkies_25 (by decide) ?_
      obtain ⟨i1, i2⟩ := hI
      refine J_ls (ls' := [(0, .ref 131), (1, .int (nI k)), (2, .int (nI 0))]) ⟨rfl, rfl, rfl, trivial⟩ ?_
      refine l6_as2 (h := h) hR0 q6 ?_ 5 0 _ (Nat.zero_le _) (by omega) ⟨FK_1 (FK_m i1), DN_c i2 (fun j hj => (j_up_o (by omega)).trans (mset_b (by decide) rfl)) (fun j hj => (j_up_o (by omega)).trans (mset_b (by decide) rfl)), fun u p hu hp => absurd hu (by omega), j_up_s, fun j hj h2 => ?_⟩
      · intro hx hJ
        obtain ⟨j1, j2, j3, j4, j5⟩ := hJ
        refine J_iconst (pc := 92) (v := nI 0) dX6_allSkies_92 (by decide) ?_
        refine J_istore_n (pc := 93) dX6_allSkies_93 (by decide) ?_
        refine J_ls (ls' := [(0, .ref 131), (1, .int (nI k)), (2, .int (nI 0))]) ⟨rfl, rfl, rfl, trivial⟩ ?_
        refine l6_as4 (h := h) hR0 q6 ?_ (ix (h 131 21) + 1) 0 hx (Nat.zero_le _) (by omega) ⟨j1, j2, j3, j4.trans (bI_t rfl).symm⟩
        intro hy hK
        obtain ⟨k1, k2, k3, k4⟩ := hK
        refine J_iinc (pc := 176) dX6_allSkies_176 rfl (v := nI (k + 1)) (by exact nI_add _ _) (by decide) ?_
        refine J_goto (pc := 179) (tgt := 2) dX6_allSkies_179 (by decide) ?_
        refine J_ls (ls' := [(0, .ref 131), (1, .int (nI (k + 1)))]) ⟨rfl, rfl, trivial⟩ (ih (k + 1) hy (by omega) (by omega) ⟨k1, fun c hc => ?_, fun c hc => ?_⟩)
        · by_cases z : c = k
          · subst z; exact k3
          · exact k2.1 c (by omega)
        · by_cases z : c = k
          · subst z; exact k4
          · exact k2.2 c (by omega)
      · rw [j_up_o (by omega), mset_at j hj rfl]
        show hh 132 (0 + j) = pg h 0 j
        rw [Nat.zero_add, pg0]
        exact i1 132 j (by omega) (by omega) (by omega)
set_option maxHeartbeats 4000000 in
theorem c6_allSkies {g : jG} {d : Nat} {h : jH} (hR : MR h) : Mv g (d + 2) YX6_allSkies h [.ref 131] (fun h' => FK h h' ∧ DN (ix (h 131 2)) (pg h 0) (fitA h) h' 256) := by
  refine M.of (by decide) rfl (Nat.le_of_ble_eq_true rfl) ?_
  refine J_iconst (pc := 0) (v := nI 0) dX6_allSkies_0 (by decide) ?_
  refine J_istore_n (pc := 1) dX6_allSkies_1 (by decide) ?_
  refine J_ls (ls' := [(0, .ref 131), (1, .int (nI 0))]) ⟨rfl, rfl, trivial⟩ ?_
  refine l6_as1 (h := h) hR ?_ 257 0 h (Nat.zero_le _) (by omega) ⟨FK.rf, fun c hc => absurd hc (by omega), fun c hc => absurd hc (by omega)⟩
  intro hh hI
  refine K_ret (pc := 182) dX6_allSkies_182 rfl ?_
  exact hI
set_option maxHeartbeats 4000000 in
theorem l6_fitsa {g : jG} {d : Nat} {h : jH} {Q : kQ} {a : jH} {x : Int32} (hx : x ≤ nI 1) (dn : ∀ c, c < 256 → h 141 c = bI ((fitA a) c)) (kx : K g (d + 3) YX6_fits (h) 131 [(0, .ref 131), (1, .int x), (2, .int (nI (cnF (fitA a) 256))), (3, .int (firF (fitA a) 256)), (4, .int (nI 0)), (5, .int (nI 256))] [] Q) : ∀ (mm k : Nat) , k ≤ 256 → 256 < k + mm → K g (d + 3) YX6_fits (h) 41 [(0, .ref 131), (1, .int x), (2, .int (nI (cnF (fitA a) k))), (3, .int (firF (fitA a) k)), (4, .int (nI 0)), (5, .int (nI k))] [] Q := by
  intro mm
  induction mm with
  | zero => intro k  hk1 hk2 ; omega
  | succ mm ih =>
    intro k  hk1 hk2 
    have cl := cnF_le (f := fitA a) k
    have cd : ∀ j, k / 4 ^ j < 2 ^ 31 := fun j => by have := Nat.div_le_self k (4 ^ j); omega
    refine J_iload (pc := 41) dX6_fits_41 rfl ?_
    refine J_sipush (pc := 43) (v := nI 256) dX6_fits_43 (by decide) ?_
    refine J_icmp_ge (pc := 46) (tgt := 131) dX6_fits_46 (by decide) (fun c46 => ?_) (fun c46 => ?_)
    · skip
      have q46 : 256 ≤ k := (nI_leI (by omega) (by omega)).mp c46
      have e_k : k = 256 := by omega
      refine J_ls (ls' := [(0, .ref 131), (1, .int x), (2, .int (nI (cnF (fitA a) k))), (3, .int (firF (fitA a) k)), (4, .int (nI 0)), (5, .int (nI k))]) ⟨rfl, rfl, rfl, rfl, rfl, rfl, trivial⟩ ?_
      rw [e_k]
      exact kx
    · skip
      have q46 : k < 256 := Nat.lt_of_not_le (fun z => c46 ((nI_leI (by omega) (by omega)).mpr z))
      refine J_aload_n (pc := 49) dX6_fits_49 rfl ?_
      refine J_getR (pc := 50) dX6_fits_50 fX6_37 sh131 rfl ?_
      refine J_iload (pc := 53) dX6_fits_53 rfl ?_
      refine J_zald (pc := 55) dX6_fits_55 sh141 (rfl) (by omega) (rfl) (by decide) ?_
      refine J_if_eq (pc := 56) (tgt := 68) dX6_fits_56 (by decide) (fun c56 => ?_) (fun c56 => ?_)
      · skip
        refine J_iload_n (pc := 68) dX6_fits_68 rfl ?_
        refine J_istore_n (pc := 69) dX6_fits_69 (by decide) ?_
        refine J_iload_n (pc := 70) dX6_fits_70 rfl ?_
        refine J_aload_n (pc := 71) dX6_fits_71 rfl ?_
        refine J_getR (pc := 72) dX6_fits_72 fX6_37 sh131 rfl ?_
        refine J_iload (pc := 75) dX6_fits_75 rfl ?_
        refine J_zald (pc := 77) dX6_fits_77 sh141 (rfl) (by omega) (rfl) (by decide) ?_
        refine J_if_eq (pc := 78) (tgt := 85) dX6_fits_78 (by decide) (fun c78 => ?_) (fun c78 => ?_)
        · skip
          refine J_iconst (pc := 85) (v := nI 0) dX6_fits_85 (by decide) ?_
          refine J_iadd (pc := 86) dX6_fits_86 (nI_add _ _) ?_
          refine J_istore_n (pc := 87) dX6_fits_87 (by decide) ?_
          refine J_iload (pc := 88) dX6_fits_88 rfl ?_
          refine J_aload_n (pc := 90) dX6_fits_90 rfl ?_
          refine J_getR (pc := 91) dX6_fits_91 fX6_37 sh131 rfl ?_
          refine J_iload (pc := 94) dX6_fits_94 rfl ?_
          refine J_zald (pc := 96) dX6_fits_96 sh141 (rfl) (by omega) (rfl) (by decide) ?_
          refine J_if_eq (pc := 97) (tgt := 121) dX6_fits_97 (by decide) (fun c97 => ?_) (fun c97 => ?_)
          · skip
            refine J_iconst (pc := 121) (v := nI 0) dX6_fits_121 (by decide) ?_
            refine J_ior (pc := 122) dX6_fits_122 (rfl) ?_
            refine J_istore (pc := 123) dX6_fits_123 (by decide) ?_
            refine J_iinc (pc := 125) dX6_fits_125 rfl (v := nI (k + 1)) (by exact nI_add _ _) (by decide) ?_
            refine J_goto (pc := 128) (tgt := 41) dX6_fits_128 (by decide) ?_
            have i := ih (k + 1) (by omega) (by omega)
            have bf : ¬ (fitA a) k = true := fun z => by rw [dn k q46, bI_t z] at c56; exact absurd c56 (by decide)
            rw [show cnF (fitA a) (k + 1) = cnF (fitA a) k from if_neg bf, show (firF (fitA a) (k + 1)) = (firF (fitA a) k) from if_neg (fun z => bf z.1)] at i
            refine J_ls ?_ i
            exact ⟨rfl, rfl, rfl, rfl, congrArg (fun z => some (Value.int z)) (or0 _), rfl, trivial⟩
          · skip
            exact absurd c56 c97
        · skip
          exact absurd c56 c78
      · skip
        refine J_iload_n (pc := 59) dX6_fits_59 rfl ?_
        refine J_if_ne (pc := 60) (tgt := 68) dX6_fits_60 (by decide) (fun c60 => ?_) (fun c60 => ?_)
        · skip
          refine J_iload_n (pc := 68) dX6_fits_68 rfl ?_
          refine J_istore_n (pc := 69) dX6_fits_69 (by decide) ?_
          refine J_iload_n (pc := 70) dX6_fits_70 rfl ?_
          refine J_aload_n (pc := 71) dX6_fits_71 rfl ?_
          refine J_getR (pc := 72) dX6_fits_72 fX6_37 sh131 rfl ?_
          refine J_iload (pc := 75) dX6_fits_75 rfl ?_
          refine J_zald (pc := 77) dX6_fits_77 sh141 (rfl) (by omega) (rfl) (by decide) ?_
          refine J_if_eq (pc := 78) (tgt := 85) dX6_fits_78 (by decide) (fun c78 => ?_) (fun c78 => ?_)
          · skip
            exact absurd c78 c56
          · skip
            refine J_iconst (pc := 81) (v := nI 1) dX6_fits_81 (by decide) ?_
            refine J_goto (pc := 82) (tgt := 86) dX6_fits_82 (by decide) ?_
            refine J_iadd (pc := 86) dX6_fits_86 (nI_add _ _) ?_
            refine J_istore_n (pc := 87) dX6_fits_87 (by decide) ?_
            refine J_iload (pc := 88) dX6_fits_88 rfl ?_
            refine J_aload_n (pc := 90) dX6_fits_90 rfl ?_
            refine J_getR (pc := 91) dX6_fits_91 fX6_37 sh131 rfl ?_
            refine J_iload (pc := 94) dX6_fits_94 rfl ?_
            refine J_zald (pc := 96) dX6_fits_96 sh141 (rfl) (by omega) (rfl) (by decide) ?_
            refine J_if_eq (pc := 97) (tgt := 121) dX6_fits_97 (by decide) (fun c97 => ?_) (fun c97 => ?_)
            · skip
              exact absurd c97 c56
            · skip
              refine J_iload_n (pc := 100) dX6_fits_100 rfl ?_
              refine J_iconst (pc := 101) (v := nI 1) dX6_fits_101 (by decide) ?_
              refine J_icmp_le (pc := 102) (tgt := 121) dX6_fits_102 (by decide) (fun c102 => ?_) (fun c102 => ?_)
              · skip
                refine J_iconst (pc := 121) (v := nI 0) dX6_fits_121 (by decide) ?_
                refine J_ior (pc := 122) dX6_fits_122 (rfl) ?_
                refine J_istore (pc := 123) dX6_fits_123 (by decide) ?_
                refine J_iinc (pc := 125) dX6_fits_125 rfl (v := nI (k + 1)) (by exact nI_add _ _) (by decide) ?_
                refine J_goto (pc := 128) (tgt := 41) dX6_fits_128 (by decide) ?_
                have i := ih (k + 1) (by omega) (by omega)
                have bt : (fitA a) k = true := by
                  by_cases z : (fitA a) k = true
                  · exact z
                  · rw [dn k q46, bI_f z] at c56; exact absurd rfl c56
                rw [show cnF (fitA a) (k + 1) = cnF (fitA a) k + 1 from if_pos bt, show (firF (fitA a) (k + 1)) = (firF (fitA a) k) from if_neg (fun z => c60 (congrArg nI z.2))] at i
                refine J_ls ?_ i
                exact ⟨rfl, rfl, rfl, rfl, congrArg (fun z => some (Value.int z)) (or0 _), rfl, trivial⟩
              · skip
                exact absurd hx c102
        · skip
          refine J_iload (pc := 63) dX6_fits_63 rfl ?_
          refine J_goto (pc := 65) (tgt := 69) dX6_fits_65 (by decide) ?_
          refine J_istore_n (pc := 69) dX6_fits_69 (by decide) ?_
          refine J_iload_n (pc := 70) dX6_fits_70 rfl ?_
          refine J_aload_n (pc := 71) dX6_fits_71 rfl ?_
          refine J_getR (pc := 72) dX6_fits_72 fX6_37 sh131 rfl ?_
          refine J_iload (pc := 75) dX6_fits_75 rfl ?_
          refine J_zald (pc := 77) dX6_fits_77 sh141 (rfl) (by omega) (rfl) (by decide) ?_
          refine J_if_eq (pc := 78) (tgt := 85) dX6_fits_78 (by decide) (fun c78 => ?_) (fun c78 => ?_)
          · skip
            exact absurd c78 c56
          · skip
            refine J_iconst (pc := 81) (v := nI 1) dX6_fits_81 (by decide) ?_
            refine J_goto (pc := 82) (tgt := 86) dX6_fits_82 (by decide) ?_
            refine J_iadd (pc := 86) dX6_fits_86 (nI_add _ _) ?_
            refine J_istore_n (pc := 87) dX6_fits_87 (by decide) ?_
            refine J_iload (pc := 88) dX6_fits_88 rfl ?_
            refine J_aload_n (pc := 90) dX6_fits_90 rfl ?_
            refine J_getR (pc := 91) dX6_fits_91 fX6_37 sh131 rfl ?_
            refine J_iload (pc := 94) dX6_fits_94 rfl ?_
            refine J_zald (pc := 96) dX6_fits_96 sh141 (rfl) (by omega) (rfl) (by decide) ?_
            refine J_if_eq (pc := 97) (tgt := 121) dX6_fits_97 (by decide) (fun c97 => ?_) (fun c97 => ?_)
            · skip
              exact absurd c97 c56
            · skip
              refine J_iload_n (pc := 100) dX6_fits_100 rfl ?_
              refine J_iconst (pc := 101) (v := nI 1) dX6_fits_101 (by decide) ?_
              refine J_icmp_le (pc := 102) (tgt := 121) dX6_fits_102 (by decide) (fun c102 => ?_) (fun c102 => ?_)
              · skip
                refine J_iconst (pc := 121) (v := nI 0) dX6_fits_121 (by decide) ?_
                refine J_ior (pc := 122) dX6_fits_122 (rfl) ?_
                refine J_istore (pc := 123) dX6_fits_123 (by decide) ?_
                refine J_iinc (pc := 125) dX6_fits_125 rfl (v := nI (k + 1)) (by exact nI_add _ _) (by decide) ?_
                refine J_goto (pc := 128) (tgt := 41) dX6_fits_128 (by decide) ?_
                have i := ih (k + 1) (by omega) (by omega)
                have bt : (fitA a) k = true := by
                  by_cases z : (fitA a) k = true
                  · exact z
                  · rw [dn k q46, bI_f z] at c56; exact absurd rfl c56
                rw [show cnF (fitA a) (k + 1) = cnF (fitA a) k + 1 from if_pos bt, show (firF (fitA a) (k + 1)) = nI k from if_pos ⟨bt, (nI_eq (b := 0) (by omega) (by omega)).mp c60⟩] at i
                refine J_ls ?_ i
                exact ⟨rfl, rfl, rfl, rfl, congrArg (fun z => some (Value.int z)) (or0 _), rfl, trivial⟩
              · skip
                exact absurd hx c102
set_option maxHeartbeats 4000000 in
theorem l6_fitsb {g : jG} {d : Nat} {h : jH} {Q : kQ} {a : jH} {x : Int32} {i0 : Nat} (hi0 : i0 < 4) (hx : ¬ x ≤ nI 1) (hxe : nI 13 - x = nI (3 - i0)) (dn : ∀ c, c < 256 → h 141 c = bI ((fitA a) c)) (kx : K g (d + 3) YX6_fits (h) 131 [(0, .ref 131), (1, .int x), (2, .int (nI (cnF (fitA a) 256))), (3, .int (firF (fitA a) 256)), (4, .int (goC (wbS i0) (nI 0) (fitA a) 256)), (5, .int (nI 256))] [] Q) : ∀ (mm k : Nat) , k ≤ 256 → 256 < k + mm → K g (d + 3) YX6_fits (h) 41 [(0, .ref 131), (1, .int x), (2, .int (nI (cnF (fitA a) k))), (3, .int (firF (fitA a) k)), (4, .int (goC (wbS i0) (nI 0) (fitA a) k)), (5, .int (nI k))] [] Q := by
  intro mm
  induction mm with
  | zero => intro k  hk1 hk2 ; omega
  | succ mm ih =>
    intro k  hk1 hk2 
    have cl := cnF_le (f := fitA a) k
    have cd : ∀ j, k / 4 ^ j < 2 ^ 31 := fun j => by have := Nat.div_le_self k (4 ^ j); omega
    refine J_iload (pc := 41) dX6_fits_41 rfl ?_
    refine J_sipush (pc := 43) (v := nI 256) dX6_fits_43 (by decide) ?_
    refine J_icmp_ge (pc := 46) (tgt := 131) dX6_fits_46 (by decide) (fun c46 => ?_) (fun c46 => ?_)
    · skip
      have q46 : 256 ≤ k := (nI_leI (by omega) (by omega)).mp c46
      have e_k : k = 256 := by omega
      refine J_ls (ls' := [(0, .ref 131), (1, .int x), (2, .int (nI (cnF (fitA a) k))), (3, .int (firF (fitA a) k)), (4, .int (goC (wbS i0) (nI 0) (fitA a) k)), (5, .int (nI k))]) ⟨rfl, rfl, rfl, rfl, rfl, rfl, trivial⟩ ?_
      rw [e_k]
      exact kx
    · skip
      have q46 : k < 256 := Nat.lt_of_not_le (fun z => c46 ((nI_leI (by omega) (by omega)).mpr z))
      refine J_aload_n (pc := 49) dX6_fits_49 rfl ?_
      refine J_getR (pc := 50) dX6_fits_50 fX6_37 sh131 rfl ?_
      refine J_iload (pc := 53) dX6_fits_53 rfl ?_
      refine J_zald (pc := 55) dX6_fits_55 sh141 (rfl) (by omega) (rfl) (by decide) ?_
      refine J_if_eq (pc := 56) (tgt := 68) dX6_fits_56 (by decide) (fun c56 => ?_) (fun c56 => ?_)
      · skip
        refine J_iload_n (pc := 68) dX6_fits_68 rfl ?_
        refine J_istore_n (pc := 69) dX6_fits_69 (by decide) ?_
        refine J_iload_n (pc := 70) dX6_fits_70 rfl ?_
        refine J_aload_n (pc := 71) dX6_fits_71 rfl ?_
        refine J_getR (pc := 72) dX6_fits_72 fX6_37 sh131 rfl ?_
        refine J_iload (pc := 75) dX6_fits_75 rfl ?_
        refine J_zald (pc := 77) dX6_fits_77 sh141 (rfl) (by omega) (rfl) (by decide) ?_
        refine J_if_eq (pc := 78) (tgt := 85) dX6_fits_78 (by decide) (fun c78 => ?_) (fun c78 => ?_)
        · skip
          refine J_iconst (pc := 85) (v := nI 0) dX6_fits_85 (by decide) ?_
          refine J_iadd (pc := 86) dX6_fits_86 (nI_add _ _) ?_
          refine J_istore_n (pc := 87) dX6_fits_87 (by decide) ?_
          refine J_iload (pc := 88) dX6_fits_88 rfl ?_
          refine J_aload_n (pc := 90) dX6_fits_90 rfl ?_
          refine J_getR (pc := 91) dX6_fits_91 fX6_37 sh131 rfl ?_
          refine J_iload (pc := 94) dX6_fits_94 rfl ?_
          refine J_zald (pc := 96) dX6_fits_96 sh141 (rfl) (by omega) (rfl) (by decide) ?_
          refine J_if_eq (pc := 97) (tgt := 121) dX6_fits_97 (by decide) (fun c97 => ?_) (fun c97 => ?_)
          · skip
            refine J_iconst (pc := 121) (v := nI 0) dX6_fits_121 (by decide) ?_
            refine J_ior (pc := 122) dX6_fits_122 (rfl) ?_
            refine J_istore (pc := 123) dX6_fits_123 (by decide) ?_
            refine J_iinc (pc := 125) dX6_fits_125 rfl (v := nI (k + 1)) (by exact nI_add _ _) (by decide) ?_
            refine J_goto (pc := 128) (tgt := 41) dX6_fits_128 (by decide) ?_
            have i := ih (k + 1) (by omega) (by omega)
            have bf : ¬ (fitA a) k = true := fun z => by rw [dn k q46, bI_t z] at c56; exact absurd c56 (by decide)
            rw [show cnF (fitA a) (k + 1) = cnF (fitA a) k from if_neg bf, show (firF (fitA a) (k + 1)) = (firF (fitA a) k) from if_neg (fun z => bf z.1)] at i
            rw [show (goC (wbS i0) (nI 0) (fitA a) (k + 1)) = (goC (wbS i0) (nI 0) (fitA a) k) from if_neg bf] at i
            refine J_ls ?_ i
            exact ⟨rfl, rfl, rfl, rfl, congrArg (fun z => some (Value.int z)) (or0 _), rfl, trivial⟩
          · skip
            exact absurd c56 c97
        · skip
          exact absurd c56 c78
      · skip
        refine J_iload_n (pc := 59) dX6_fits_59 rfl ?_
        refine J_if_ne (pc := 60) (tgt := 68) dX6_fits_60 (by decide) (fun c60 => ?_) (fun c60 => ?_)
        · skip
          refine J_iload_n (pc := 68) dX6_fits_68 rfl ?_
          refine J_istore_n (pc := 69) dX6_fits_69 (by decide) ?_
          refine J_iload_n (pc := 70) dX6_fits_70 rfl ?_
          refine J_aload_n (pc := 71) dX6_fits_71 rfl ?_
          refine J_getR (pc := 72) dX6_fits_72 fX6_37 sh131 rfl ?_
          refine J_iload (pc := 75) dX6_fits_75 rfl ?_
          refine J_zald (pc := 77) dX6_fits_77 sh141 (rfl) (by omega) (rfl) (by decide) ?_
          refine J_if_eq (pc := 78) (tgt := 85) dX6_fits_78 (by decide) (fun c78 => ?_) (fun c78 => ?_)
          · skip
            exact absurd c78 c56
          · skip
            refine J_iconst (pc := 81) (v := nI 1) dX6_fits_81 (by decide) ?_
            refine J_goto (pc := 82) (tgt := 86) dX6_fits_82 (by decide) ?_
            refine J_iadd (pc := 86) dX6_fits_86 (nI_add _ _) ?_
            refine J_istore_n (pc := 87) dX6_fits_87 (by decide) ?_
            refine J_iload (pc := 88) dX6_fits_88 rfl ?_
            refine J_aload_n (pc := 90) dX6_fits_90 rfl ?_
            refine J_getR (pc := 91) dX6_fits_91 fX6_37 sh131 rfl ?_
            refine J_iload (pc := 94) dX6_fits_94 rfl ?_
            refine J_zald (pc := 96) dX6_fits_96 sh141 (rfl) (by omega) (rfl) (by decide) ?_
            refine J_if_eq (pc := 97) (tgt := 121) dX6_fits_97 (by decide) (fun c97 => ?_) (fun c97 => ?_)
            · skip
              exact absurd c97 c56
            · skip
              refine J_iload_n (pc := 100) dX6_fits_100 rfl ?_
              refine J_iconst (pc := 101) (v := nI 1) dX6_fits_101 (by decide) ?_
              refine J_icmp_le (pc := 102) (tgt := 121) dX6_fits_102 (by decide) (fun c102 => ?_) (fun c102 => ?_)
              · skip
                exact absurd c102 hx
              · skip
                refine J_iconst (pc := 105) (v := nI 1) dX6_fits_105 (by decide) ?_
                refine J_iload (pc := 106) dX6_fits_106 rfl ?_
                refine J_iconst (pc := 108) (v := nI 2) dX6_fits_108 (by decide) ?_
                refine J_bipush (pc := 109) (v := nI 13) dX6_fits_109 (by decide) ?_
                refine J_iload_n (pc := 111) dX6_fits_111 rfl ?_
                refine J_isub (pc := 112) dX6_fits_112 (hxe) ?_
                refine J_imul (pc := 113) dX6_fits_113 (pk_mul _ _) ?_
                refine J_ishr (pc := 114) dX6_fits_114 (shr4 (by omega) (by omega)) ?_
                refine J_iconst (pc := 115) (v := nI 3) dX6_fits_115 (by decide) ?_
                refine J_iand (pc := 116) dX6_fits_116 (and3 (cd _)) ?_
                refine J_ishl (pc := 117) dX6_fits_117 (rfl) ?_
                refine J_goto (pc := 118) (tgt := 122) dX6_fits_118 (by decide) ?_
                refine J_ior (pc := 122) dX6_fits_122 (rfl) ?_
                refine J_istore (pc := 123) dX6_fits_123 (by decide) ?_
                refine J_iinc (pc := 125) dX6_fits_125 rfl (v := nI (k + 1)) (by exact nI_add _ _) (by decide) ?_
                refine J_goto (pc := 128) (tgt := 41) dX6_fits_128 (by decide) ?_
                have i := ih (k + 1) (by omega) (by omega)
                have bt : (fitA a) k = true := by
                  by_cases z : (fitA a) k = true
                  · exact z
                  · rw [dn k q46, bI_f z] at c56; exact absurd rfl c56
                rw [show cnF (fitA a) (k + 1) = cnF (fitA a) k + 1 from if_pos bt, show (firF (fitA a) (k + 1)) = (firF (fitA a) k) from if_neg (fun z => c60 (congrArg nI z.2))] at i
                rw [show (goC (wbS i0) (nI 0) (fitA a) (k + 1)) = wbS i0 (goC (wbS i0) (nI 0) (fitA a) k) k from if_pos bt] at i
                refine J_ls ?_ i
                exact ⟨rfl, rfl, rfl, rfl, rfl, rfl, trivial⟩
        · skip
          refine J_iload (pc := 63) dX6_fits_63 rfl ?_
          refine J_goto (pc := 65) (tgt := 69) dX6_fits_65 (by decide) ?_
          refine J_istore_n (pc := 69) dX6_fits_69 (by decide) ?_
          refine J_iload_n (pc := 70) dX6_fits_70 rfl ?_
          refine J_aload_n (pc := 71) dX6_fits_71 rfl ?_
          refine J_getR (pc := 72) dX6_fits_72 fX6_37 sh131 rfl ?_
          refine J_iload (pc := 75) dX6_fits_75 rfl ?_
          refine J_zald (pc := 77) dX6_fits_77 sh141 (rfl) (by omega) (rfl) (by decide) ?_
          refine J_if_eq (pc := 78) (tgt := 85) dX6_fits_78 (by decide) (fun c78 => ?_) (fun c78 => ?_)
          · skip
            exact absurd c78 c56
          · skip
            refine J_iconst (pc := 81) (v := nI 1) dX6_fits_81 (by decide) ?_
            refine J_goto (pc := 82) (tgt := 86) dX6_fits_82 (by decide) ?_
            refine J_iadd (pc := 86) dX6_fits_86 (nI_add _ _) ?_
            refine J_istore_n (pc := 87) dX6_fits_87 (by decide) ?_
            refine J_iload (pc := 88) dX6_fits_88 rfl ?_
            refine J_aload_n (pc := 90) dX6_fits_90 rfl ?_
            refine J_getR (pc := 91) dX6_fits_91 fX6_37 sh131 rfl ?_
            refine J_iload (pc := 94) dX6_fits_94 rfl ?_
            refine J_zald (pc := 96) dX6_fits_96 sh141 (rfl) (by omega) (rfl) (by decide) ?_
            refine J_if_eq (pc := 97) (tgt := 121) dX6_fits_97 (by decide) (fun c97 => ?_) (fun c97 => ?_)
            · skip
              exact absurd c97 c56
            · skip
              refine J_iload_n (pc := 100) dX6_fits_100 rfl ?_
              refine J_iconst (pc := 101) (v := nI 1) dX6_fits_101 (by decide) ?_
              refine J_icmp_le (pc := 102) (tgt := 121) dX6_fits_102 (by decide) (fun c102 => ?_) (fun c102 => ?_)
              · skip
                exact absurd c102 hx
              · skip
                refine J_iconst (pc := 105) (v := nI 1) dX6_fits_105 (by decide) ?_
                refine J_iload (pc := 106) dX6_fits_106 rfl ?_
                refine J_iconst (pc := 108) (v := nI 2) dX6_fits_108 (by decide) ?_
                refine J_bipush (pc := 109) (v := nI 13) dX6_fits_109 (by decide) ?_
                refine J_iload_n (pc := 111) dX6_fits_111 rfl ?_
                refine J_isub (pc := 112) dX6_fits_112 (hxe) ?_
                refine J_imul (pc := 113) dX6_fits_113 (pk_mul _ _) ?_
                refine J_ishr (pc := 114) dX6_fits_114 (shr4 (by omega) (by omega)) ?_
                refine J_iconst (pc := 115) (v := nI 3) dX6_fits_115 (by decide) ?_
                refine J_iand (pc := 116) dX6_fits_116 (and3 (cd _)) ?_
                refine J_ishl (pc := 117) dX6_fits_117 (rfl) ?_
                refine J_goto (pc := 118) (tgt := 122) dX6_fits_118 (by decide) ?_
                refine J_ior (pc := 122) dX6_fits_122 (rfl) ?_
                refine J_istore (pc := 123) dX6_fits_123 (by decide) ?_
                refine J_iinc (pc := 125) dX6_fits_125 rfl (v := nI (k + 1)) (by exact nI_add _ _) (by decide) ?_
                refine J_goto (pc := 128) (tgt := 41) dX6_fits_128 (by decide) ?_
                have i := ih (k + 1) (by omega) (by omega)
                have bt : (fitA a) k = true := by
                  by_cases z : (fitA a) k = true
                  · exact z
                  · rw [dn k q46, bI_f z] at c56; exact absurd rfl c56
                rw [show cnF (fitA a) (k + 1) = cnF (fitA a) k + 1 from if_pos bt, show (firF (fitA a) (k + 1)) = nI k from if_pos ⟨bt, (nI_eq (b := 0) (by omega) (by omega)).mp c60⟩] at i
                rw [show (goC (wbS i0) (nI 0) (fitA a) (k + 1)) = wbS i0 (goC (wbS i0) (nI 0) (fitA a) k) k from if_pos bt] at i
                refine J_ls ?_ i
                exact ⟨rfl, rfl, rfl, rfl, rfl, rfl, trivial⟩
set_option maxHeartbeats 4000000 in
theorem c6_fits {g : jG} {d : Nat} {h : jH} {x : Int32} (hR : MR h) : Mi g (d + 4) YX6_fits h [.ref 131, .int x] (fun r h' => r = (oFits h x).1 ∧ sameP (oFits h x).2 h' ∧ lo h h') := by
  refine M.of (by decide) rfl (Nat.le_of_ble_eq_true rfl) ?_
  have hR0 := hR
  have hG : GD (ix (h 131 2)) (pg h 0) := hR.2.1
  obtain ⟨r1, ⟨⟨v1, v2, v3, v4⟩, v5, v6, v7, v8, v9, va, vb, vc, vd⟩, r3, r4, ⟨r5, r6⟩, r7, r8, r9, ra⟩ := hR
  have hn := r1.1
  have hn4 := v1
  have n5 := r1.2
  have c6 : ix (h 132 37) < 6 := v3.2
  have p9 : ix (h 132 51) < 9 := v5.2
  have p9' : ix (pg h 0 51) < 9 := v5.2
  refine J_iload_n (pc := 0) dX6_fits_0 rfl ?_
  refine J_i2l (pc := 1) dX6_fits_1 (rfl) ?_
  refine J_lconst (pc := 2) (v := 0) dX6_fits_2 (by decide) ?_
  refine J_lconst (pc := 3) (v := 1) dX6_fits_3 (by decide) ?_
  refine K_Si3 (pc := 4) (Y' := YX6_in) dX6_fits_4 lX6_55 mX6_in sX6_in (Nat.le_of_ble_eq_true rfl) (c6_inI x (nI 0) (nI 1) rfl (by decide) (by decide)) ?_
  rintro x h0 ⟨e0, ⟨rfl, b4⟩ | ⟨rfl, b4⟩⟩ <;> rw [e0] <;> clear e0 h0
  · skip
    refine J_if_ne (pc := 7) (tgt := 26) dX6_fits_7 (by decide) (fun _ => ?_) (fun c => absurd c (by decide))
    refine J_aload_n (pc := 26) dX6_fits_26 rfl ?_
    refine K_Vv0 (pc := 27) (Y' := YX6_allSkies) dX6_fits_27 lX6_266 mX6_allSkies vX6_allSkies ⟨_, _, rfl⟩ sh131 (Nat.le_of_ble_eq_true rfl) (c6_allSkies hR0) ?_
    rintro h1 ⟨f1, f2⟩
    obtain ⟨fs, fl⟩ := f1.same
    refine J_iconst (pc := 30) (v := nI 0) dX6_fits_30 (by decide) ?_
    refine J_istore_n (pc := 31) dX6_fits_31 (by decide) ?_
    refine J_bipush (pc := 32) (v := -4) dX6_fits_32 (by decide) ?_
    refine J_istore_n (pc := 34) dX6_fits_34 (by decide) ?_
    refine J_iconst (pc := 35) (v := nI 0) dX6_fits_35 (by decide) ?_
    refine J_istore (pc := 36) dX6_fits_36 (by decide) ?_
    refine J_iconst (pc := 38) (v := nI 0) dX6_fits_38 (by decide) ?_
    refine J_istore (pc := 39) dX6_fits_39 (by decide) ?_
    rcases two_of b4 with rfl | rfl
    · skip
      refine J_ls (ls' := [(0, .ref 131), (1, .int (nI 0)), (2, .int (nI (cnF (fitA h) 0))), (3, .int (firF (fitA h) 0)), (4, .int (nI 0)), (5, .int (nI 0))]) ⟨rfl, rfl, rfl, rfl, rfl, rfl, trivial⟩ ?_
      refine l6_fitsa (a := h) (by decide) f2.2 ?_ 257 0 (Nat.zero_le _) (by omega)
      refine J_iload_n (pc := 131) dX6_fits_131 rfl ?_
      refine J_if_ne (pc := 132) (tgt := 139) dX6_fits_132 (by decide) (fun c => absurd c (by decide)) (fun _ => ?_)
      refine J_iload_n (pc := 135) dX6_fits_135 rfl ?_
      refine J_goto (pc := 136) (tgt := 150) dX6_fits_136 (by decide) ?_
      refine K_iret (pc := 150) dX6_fits_150 rfl ?_
      exact by rw [oFits, iteR_t (Or.inl rfl)]; exact ⟨(iteP_t rfl).symm, fs, fl⟩
    · skip
      refine J_ls (ls' := [(0, .ref 131), (1, .int (nI 1)), (2, .int (nI (cnF (fitA h) 0))), (3, .int (firF (fitA h) 0)), (4, .int (nI 0)), (5, .int (nI 0))]) ⟨rfl, rfl, rfl, rfl, rfl, rfl, trivial⟩ ?_
      refine l6_fitsa (a := h) (by decide) f2.2 ?_ 257 0 (Nat.zero_le _) (by omega)
      refine J_iload_n (pc := 131) dX6_fits_131 rfl ?_
      refine J_if_ne (pc := 132) (tgt := 139) dX6_fits_132 (by decide) (fun _ => ?_) (fun c => absurd c (by decide))
      refine J_iload_n (pc := 139) dX6_fits_139 rfl ?_
      refine J_iconst (pc := 140) (v := nI 1) dX6_fits_140 (by decide) ?_
      refine J_icmp_ne (pc := 141) (tgt := 148) dX6_fits_141 (by decide) (fun c => absurd c (by decide)) (fun _ => ?_)
      refine J_iload_n (pc := 144) dX6_fits_144 rfl ?_
      refine J_goto (pc := 145) (tgt := 150) dX6_fits_145 (by decide) ?_
      refine K_iret (pc := 150) dX6_fits_150 rfl ?_
      exact by rw [oFits, iteR_t (Or.inr (Or.inl rfl))]; exact ⟨((iteP_f (by decide)).trans (iteP_t rfl)).symm, fs, fl⟩
  · skip
    refine J_if_ne (pc := 7) (tgt := 26) dX6_fits_7 (by decide) (fun c => absurd c (by decide)) (fun _ => ?_)
    refine J_iload_n (pc := 10) dX6_fits_10 rfl ?_
    refine J_i2l (pc := 11) dX6_fits_11 (rfl) ?_
    refine J_ldc2 (pc := 12) dX6_fits_12 kX6_244 ?_
    refine J_ldc2 (pc := 15) dX6_fits_15 kX6_264 ?_
    refine K_Si3 (pc := 18) (Y' := YX6_in) dX6_fits_18 lX6_55 mX6_in sX6_in (Nat.le_of_ble_eq_true rfl) (c6_inI x (nI 10) (nI 13) rfl (by decide) (by decide)) ?_
    rintro x h0 ⟨e0, ⟨rfl, b18⟩ | ⟨rfl, b18⟩⟩ <;> rw [e0] <;> clear e0 h0
    · skip
      refine J_if_ne (pc := 21) (tgt := 26) dX6_fits_21 (by decide) (fun _ => ?_) (fun c => absurd c (by decide))
      refine J_aload_n (pc := 26) dX6_fits_26 rfl ?_
      refine K_Vv0 (pc := 27) (Y' := YX6_allSkies) dX6_fits_27 lX6_266 mX6_allSkies vX6_allSkies ⟨_, _, rfl⟩ sh131 (Nat.le_of_ble_eq_true rfl) (c6_allSkies hR0) ?_
      rintro h1 ⟨f1, f2⟩
      obtain ⟨fs, fl⟩ := f1.same
      refine J_iconst (pc := 30) (v := nI 0) dX6_fits_30 (by decide) ?_
      refine J_istore_n (pc := 31) dX6_fits_31 (by decide) ?_
      refine J_bipush (pc := 32) (v := -4) dX6_fits_32 (by decide) ?_
      refine J_istore_n (pc := 34) dX6_fits_34 (by decide) ?_
      refine J_iconst (pc := 35) (v := nI 0) dX6_fits_35 (by decide) ?_
      refine J_istore (pc := 36) dX6_fits_36 (by decide) ?_
      refine J_iconst (pc := 38) (v := nI 0) dX6_fits_38 (by decide) ?_
      refine J_istore (pc := 39) dX6_fits_39 (by decide) ?_
      have e0 : ¬ x = nI 0 := fun z => b4 (by rw [z]; decide)
      have e1 : ¬ x = nI 1 := fun z => b4 (by rw [z]; decide)
      have bi : nb 4 (x - nI 10) := (in_nbc (n := 3) rfl (by omega)).mp (in1013.mpr b18)
      have bi2 := bi.2
      have ex : x = nI (10 + ix (x - nI 10)) := by
        rw [← nI_add, ← bi.1, Int32.sub_eq_add_neg, Int32.add_comm x, ← Int32.add_assoc, Int32.add_neg_eq_sub, Int32.sub_self, Int32.zero_add]
      have hx1 : ¬ x ≤ nI 1 := fun z => by
        have z1 := i_le.mp z
        have z2 := i_le.mp b18.1
        have z3 : (nI 1).toInt = 1 := rfl
        have z4 : (nI 10).toInt = 10 := rfl
        omega
      have hxe : nI 13 - x = nI (3 - ix (x - nI 10)) := by
        rw [show nI 13 - x = nI 13 - nI (10 + ix (x - nI 10)) from congrArg (nI 13 - ·) ex, pk_sub (by omega)]
        congr 1
        omega
      refine J_ls (ls' := [(0, .ref 131), (1, .int x), (2, .int (nI (cnF (fitA h) 0))), (3, .int (firF (fitA h) 0)), (4, .int (goC (wbS (ix (x - nI 10))) (nI 0) (fitA h) 0)), (5, .int (nI 0))]) ⟨rfl, rfl, rfl, rfl, rfl, rfl, trivial⟩ ?_
      refine l6_fitsb (a := h) (i0 := ix (x - nI 10)) bi2 hx1 hxe f2.2 ?_ 257 0 (Nat.zero_le _) (by omega)
      refine J_iload_n (pc := 131) dX6_fits_131 rfl ?_
      refine J_if_ne (pc := 132) (tgt := 139) dX6_fits_132 (by decide) (fun c132 => ?_) (fun c132 => ?_)
      · skip
        refine J_iload_n (pc := 139) dX6_fits_139 rfl ?_
        refine J_iconst (pc := 140) (v := nI 1) dX6_fits_140 (by decide) ?_
        refine J_icmp_ne (pc := 141) (tgt := 148) dX6_fits_141 (by decide) (fun c141 => ?_) (fun c141 => ?_)
        · skip
          refine J_iload (pc := 148) dX6_fits_148 rfl ?_
          refine K_iret (pc := 150) dX6_fits_150 rfl ?_
          exact by rw [oFits, iteR_t (Or.inr (Or.inr b18))]; exact ⟨((iteP_f e0).trans (iteP_f e1)).symm, fs, fl⟩
        · skip
          exact absurd c141 e1
      · skip
        exact absurd c132 e0
    · skip
      refine J_if_ne (pc := 21) (tgt := 26) dX6_fits_21 (by decide) (fun c => absurd c (by decide)) (fun _ => ?_)
      refine J_iconst (pc := 24) (v := -1) dX6_fits_24 (by decide) ?_
      refine K_iret (pc := 25) dX6_fits_25 rfl ?_
      exact by rw [oFits, iteR_f (fun z => z.elim (fun z => b4 (by rw [z]; decide)) (fun z => z.elim (fun z => b4 (by rw [z]; decide)) b18))]; exact ⟨rfl, sameP.rf, lo.rf⟩
set_option maxHeartbeats 4000000 in
theorem l6_wa2 {g : jG} {d : Nat} {h : jH} {Q : kQ} {f : Nat → Bool} {V : Nat → Nat → Nat → Int32} {p t : Nat} (hp : p < 4) (ht : t < 4) (dn : ∀ c, c < 256 → h 141 c = bI (f c)) (pb : ∀ c, c < 256 → h 140 (16 * c + (4 * t + p)) = V c p (t + 1)) {c x : Nat} (hc : c < 256) (hf : f c = true) (kx : K g d YX6_worstAt (h) 86 [(0, .ref 131), (1, .int (nI (4 * t + p))), (2, .int (nI x)), (3, .int (nI c)), (4, .int (nI (cntF f (fun c => V c p (t + 1)) (V c p (t + 1)) 256))), (5, .int (nI 256))] [] Q) : ∀ (mm k : Nat) , k ≤ 256 → 256 < k + mm → K g d YX6_worstAt (h) 17 [(0, .ref 131), (1, .int (nI (4 * t + p))), (2, .int (nI x)), (3, .int (nI c)), (4, .int (nI (cntF f (fun c => V c p (t + 1)) (V c p (t + 1)) k))), (5, .int (nI k))] [] Q := by
  intro mm
  induction mm with
  | zero => intro k  hk1 hk2 ; omega
  | succ mm ih =>
    intro k  hk1 hk2 
    refine J_iload (pc := 17) dX6_worstAt_17 rfl ?_
    refine J_sipush (pc := 19) (v := nI 256) dX6_worstAt_19 (by decide) ?_
    refine J_icmp_ge (pc := 22) (tgt := 86) dX6_worstAt_22 (by decide) (fun c22 => ?_) (fun c22 => ?_)
    · skip
      have q22 : 256 ≤ k := (nI_leI (by omega) (by omega)).mp c22
      have e_k : k = 256 := by omega
      refine J_ls (ls' := [(0, .ref 131), (1, .int (nI (4 * t + p))), (2, .int (nI x)), (3, .int (nI c)), (4, .int (nI (cntF f (fun c => V c p (t + 1)) (V c p (t + 1)) k))), (5, .int (nI k))]) ⟨rfl, rfl, rfl, rfl, rfl, rfl, trivial⟩ ?_
      rw [e_k]
      exact kx
    · skip
      have q22 : k < 256 := Nat.lt_of_not_le (fun z => c22 ((nI_leI (by omega) (by omega)).mpr z))
      refine J_aload_n (pc := 25) dX6_worstAt_25 rfl ?_
      refine J_getR (pc := 26) dX6_worstAt_26 fX6_37 sh131 rfl ?_
      refine J_iload_n (pc := 29) dX6_worstAt_29 rfl ?_
      refine J_zald (pc := 30) dX6_worstAt_30 sh141 (rfl) (by omega) ((dn c hc).trans (bI_t hf)) (by decide) ?_
      refine J_if_eq (pc := 31) (tgt := 86) dX6_worstAt_31 (by decide) (fun c => absurd c (by decide)) (fun _ => ?_)
      refine J_iload (pc := 34) dX6_worstAt_34 rfl ?_
      refine J_aload_n (pc := 36) dX6_worstAt_36 rfl ?_
      refine J_getR (pc := 37) dX6_worstAt_37 fX6_37 sh131 rfl ?_
      refine J_iload (pc := 40) dX6_worstAt_40 rfl ?_
      refine J_zald (pc := 42) dX6_worstAt_42 sh141 (rfl) (by omega) (rfl) (by decide) ?_
      refine J_if_eq (pc := 43) (tgt := 76) dX6_worstAt_43 (by decide) (fun c43 => ?_) (fun c43 => ?_)
      · skip
        refine J_iconst (pc := 76) (v := nI 0) dX6_worstAt_76 (by decide) ?_
        refine J_iadd (pc := 77) dX6_worstAt_77 (nI_add _ _) ?_
        refine J_istore (pc := 78) dX6_worstAt_78 (by decide) ?_
        refine J_iinc (pc := 80) dX6_worstAt_80 rfl (v := nI (k + 1)) (by exact nI_add _ _) (by decide) ?_
        refine J_goto (pc := 83) (tgt := 17) dX6_worstAt_83 (by decide) ?_
        have bf : ¬ f k = true := fun z => by rw [dn k q22, bI_t z] at c43; exact absurd c43 (by decide)
        have i := ih (k + 1) (by omega) (by omega)
        rw [show cntF f (fun c => V c p (t + 1)) (V c p (t + 1)) (k + 1) = cntF f (fun c => V c p (t + 1)) (V c p (t + 1)) k from if_neg (fun z => bf z.1)] at i
        refine J_ls ?_ i
        exact ⟨rfl, rfl, rfl, rfl, rfl, rfl, trivial⟩
      · skip
        refine J_aload_n (pc := 46) dX6_worstAt_46 rfl ?_
        refine J_getR (pc := 47) dX6_worstAt_47 fX6_34 sh131 rfl ?_
        refine J_bipush (pc := 50) (v := nI 16) dX6_worstAt_50 (by decide) ?_
        refine J_iload_n (pc := 52) dX6_worstAt_52 rfl ?_
        refine J_imul (pc := 53) dX6_worstAt_53 (pk_mul _ _) ?_
        refine J_iload_n (pc := 54) dX6_worstAt_54 rfl ?_
        refine J_iadd (pc := 55) dX6_worstAt_55 (nI_add _ _) ?_
        refine J_iald (pc := 56) dX6_worstAt_56 sh140 (rfl) (by omega) (pb c hc) (by decide) ?_
        refine J_aload_n (pc := 57) dX6_worstAt_57 rfl ?_
        refine J_getR (pc := 58) dX6_worstAt_58 fX6_34 sh131 rfl ?_
        refine J_bipush (pc := 61) (v := nI 16) dX6_worstAt_61 (by decide) ?_
        refine J_iload (pc := 63) dX6_worstAt_63 rfl ?_
        refine J_imul (pc := 65) dX6_worstAt_65 (pk_mul _ _) ?_
        refine J_iload_n (pc := 66) dX6_worstAt_66 rfl ?_
        refine J_iadd (pc := 67) dX6_worstAt_67 (nI_add _ _) ?_
        refine J_iald (pc := 68) dX6_worstAt_68 sh140 (rfl) (by omega) (pb k q22) (by decide) ?_
        refine J_icmp_ne (pc := 69) (tgt := 76) dX6_worstAt_69 (by decide) (fun c69 => ?_) (fun c69 => ?_)
        · skip
          refine J_iconst (pc := 76) (v := nI 0) dX6_worstAt_76 (by decide) ?_
          refine J_iadd (pc := 77) dX6_worstAt_77 (nI_add _ _) ?_
          refine J_istore (pc := 78) dX6_worstAt_78 (by decide) ?_
          refine J_iinc (pc := 80) dX6_worstAt_80 rfl (v := nI (k + 1)) (by exact nI_add _ _) (by decide) ?_
          refine J_goto (pc := 83) (tgt := 17) dX6_worstAt_83 (by decide) ?_
          have bt : f k = true := by
            by_cases z : f k = true
            · exact z
            · rw [dn k q22, bI_f z] at c43; exact absurd rfl c43
          have i := ih (k + 1) (by omega) (by omega)
          rw [show cntF f (fun c => V c p (t + 1)) (V c p (t + 1)) (k + 1) = cntF f (fun c => V c p (t + 1)) (V c p (t + 1)) k from if_neg (fun z => c69 z.2.symm)] at i
          refine J_ls ?_ i
          exact ⟨rfl, rfl, rfl, rfl, rfl, rfl, trivial⟩
        · skip
          refine J_iconst (pc := 72) (v := nI 1) dX6_worstAt_72 (by decide) ?_
          refine J_goto (pc := 73) (tgt := 77) dX6_worstAt_73 (by decide) ?_
          refine J_iadd (pc := 77) dX6_worstAt_77 (nI_add _ _) ?_
          refine J_istore (pc := 78) dX6_worstAt_78 (by decide) ?_
          refine J_iinc (pc := 80) dX6_worstAt_80 rfl (v := nI (k + 1)) (by exact nI_add _ _) (by decide) ?_
          refine J_goto (pc := 83) (tgt := 17) dX6_worstAt_83 (by decide) ?_
          have bt : f k = true := by
            by_cases z : f k = true
            · exact z
            · rw [dn k q22, bI_f z] at c43; exact absurd rfl c43
          have i := ih (k + 1) (by omega) (by omega)
          rw [show cntF f (fun c => V c p (t + 1)) (V c p (t + 1)) (k + 1) = cntF f (fun c => V c p (t + 1)) (V c p (t + 1)) k + 1 from if_pos ⟨bt, c69.symm⟩] at i
          refine J_ls ?_ i
          exact ⟨rfl, rfl, rfl, rfl, rfl, rfl, trivial⟩
set_option maxHeartbeats 4000000 in
theorem l6_wa1 {g : jG} {d : Nat} {h : jH} {Q : kQ} {f : Nat → Bool} {V : Nat → Nat → Nat → Int32} {p t : Nat} (hp : p < 4) (ht : t < 4) (dn : ∀ c, c < 256 → h 141 c = bI (f c)) (pb : ∀ c, c < 256 → h 140 (16 * c + (4 * t + p)) = V c p (t + 1)) (kx : K g d YX6_worstAt (h) 105 [(0, .ref 131), (1, .int (nI (4 * t + p))), (2, .int (nI (waF f (fun c => V c p (t + 1)) 256))), (3, .int (nI 256))] [] Q) : ∀ (mm k : Nat) , k ≤ 256 → 256 < k + mm → K g d YX6_worstAt (h) 4 [(0, .ref 131), (1, .int (nI (4 * t + p))), (2, .int (nI (waF f (fun c => V c p (t + 1)) k))), (3, .int (nI k))] [] Q := by
  intro mm
  induction mm with
  | zero => intro k  hk1 hk2 ; omega
  | succ mm ih =>
    intro k  hk1 hk2 
    have wl : waF f (fun c => V c p (t + 1)) k ≤ 256 := Nat.le_trans (wa_ml k) (mlF_le (Nat.le_refl _))
    have c2 := Nat.le_trans (cntF_le (f := f) (U := (fun c => V c p (t + 1))) (v := V k p (t + 1)) 256) (cnF_le 256)
    refine J_iload_n (pc := 4) dX6_worstAt_4 rfl ?_
    refine J_sipush (pc := 5) (v := nI 256) dX6_worstAt_5 (by decide) ?_
    refine J_icmp_ge (pc := 8) (tgt := 105) dX6_worstAt_8 (by decide) (fun c8 => ?_) (fun c8 => ?_)
    · skip
      have q8 : 256 ≤ k := (nI_leI (by omega) (by omega)).mp c8
      have e_k : k = 256 := by omega
      refine J_ls (ls' := [(0, .ref 131), (1, .int (nI (4 * t + p))), (2, .int (nI (waF f (fun c => V c p (t + 1)) k))), (3, .int (nI k))]) ⟨rfl, rfl, rfl, rfl, trivial⟩ ?_
      rw [e_k]
      exact kx
    · skip
      have q8 : k < 256 := Nat.lt_of_not_le (fun z => c8 ((nI_leI (by omega) (by omega)).mpr z))
      refine J_iconst (pc := 11) (v := nI 0) dX6_worstAt_11 (by decide) ?_
      refine J_istore (pc := 12) dX6_worstAt_12 (by decide) ?_
      refine J_iconst (pc := 14) (v := nI 0) dX6_worstAt_14 (by decide) ?_
      refine J_istore (pc := 15) dX6_worstAt_15 (by decide) ?_
      by_cases bt : f k = true
      · refine J_ls (ls' := [(0, .ref 131), (1, .int (nI (4 * t + p))), (2, .int (nI (waF f (fun c => V c p (t + 1)) k))), (3, .int (nI k)), (4, .int (nI (cntF f (fun c => V c p (t + 1)) (V k p (t + 1)) 0))), (5, .int (nI 0))]) ⟨rfl, rfl, rfl, rfl, rfl, rfl, trivial⟩ ?_
        refine l6_wa2 hp ht dn pb (c := k) q8 bt ?_ 257 0 (Nat.zero_le _) (by omega)
        refine J_iload (pc := 86) dX6_worstAt_86 rfl ?_
        refine J_iload_n (pc := 88) dX6_worstAt_88 rfl ?_
        refine J_icmp_le (pc := 89) (tgt := 97) dX6_worstAt_89 (by decide) (fun c89 => ?_) (fun c89 => ?_)
        · skip
          have q89 := (nI_leI (by omega) (by omega)).mp c89
          refine J_iload_n (pc := 97) dX6_worstAt_97 rfl ?_
          refine J_istore_n (pc := 98) dX6_worstAt_98 (by decide) ?_
          refine J_iinc (pc := 99) dX6_worstAt_99 rfl (v := nI (k + 1)) (by exact nI_add _ _) (by decide) ?_
          refine J_goto (pc := 102) (tgt := 4) dX6_worstAt_102 (by decide) ?_
          have i := ih (k + 1) (by omega) (by omega)
          rw [show waF f (fun c => V c p (t + 1)) (k + 1) = waF f (fun c => V c p (t + 1)) k from by
            rw [waF, if_pos bt]
            exact Nat.max_eq_left q89] at i
          refine J_ls ?_ i
          exact ⟨rfl, rfl, rfl, rfl, trivial⟩
        · skip
          have q89 : ¬ cntF f (fun c => V c p (t + 1)) (V k p (t + 1)) 256 ≤ waF f (fun c => V c p (t + 1)) k := fun z => c89 ((nI_leI (by omega) (by omega)).mpr z)
          refine J_iload (pc := 92) dX6_worstAt_92 rfl ?_
          refine J_goto (pc := 94) (tgt := 98) dX6_worstAt_94 (by decide) ?_
          refine J_istore_n (pc := 98) dX6_worstAt_98 (by decide) ?_
          refine J_iinc (pc := 99) dX6_worstAt_99 rfl (v := nI (k + 1)) (by exact nI_add _ _) (by decide) ?_
          refine J_goto (pc := 102) (tgt := 4) dX6_worstAt_102 (by decide) ?_
          have i := ih (k + 1) (by omega) (by omega)
          rw [show waF f (fun c => V c p (t + 1)) (k + 1) = cntF f (fun c => V c p (t + 1)) (V k p (t + 1)) 256 from by
            rw [waF, if_pos bt]
            exact Nat.max_eq_right (by omega)] at i
          refine J_ls ?_ i
          exact ⟨rfl, rfl, rfl, rfl, trivial⟩
      · skip
        refine J_iload (pc := 17) dX6_worstAt_17 rfl ?_
        refine J_sipush (pc := 19) (v := nI 256) dX6_worstAt_19 (by decide) ?_
        refine J_icmp_ge (pc := 22) (tgt := 86) dX6_worstAt_22 (by decide) (fun c => absurd c (by decide)) (fun _ => ?_)
        refine J_aload_n (pc := 25) dX6_worstAt_25 rfl ?_
        refine J_getR (pc := 26) dX6_worstAt_26 fX6_37 sh131 rfl ?_
        refine J_iload_n (pc := 29) dX6_worstAt_29 rfl ?_
        refine J_zald (pc := 30) dX6_worstAt_30 sh141 (rfl) (by omega) ((dn k q8).trans (bI_f bt)) (by decide) ?_
        refine J_if_eq (pc := 31) (tgt := 86) dX6_worstAt_31 (by decide) (fun _ => ?_) (fun c => absurd c (by decide))
        refine J_iload (pc := 86) dX6_worstAt_86 rfl ?_
        refine J_iload_n (pc := 88) dX6_worstAt_88 rfl ?_
        refine J_icmp_le (pc := 89) (tgt := 97) dX6_worstAt_89 (by decide) (fun c89 => ?_) (fun c89 => ?_)
        · skip
          refine J_iload_n (pc := 97) dX6_worstAt_97 rfl ?_
          refine J_istore_n (pc := 98) dX6_worstAt_98 (by decide) ?_
          refine J_iinc (pc := 99) dX6_worstAt_99 rfl (v := nI (k + 1)) (by exact nI_add _ _) (by decide) ?_
          refine J_goto (pc := 102) (tgt := 4) dX6_worstAt_102 (by decide) ?_
          have i := ih (k + 1) (by omega) (by omega)
          rw [show waF f (fun c => V c p (t + 1)) (k + 1) = waF f (fun c => V c p (t + 1)) k from if_neg bt] at i
          refine J_ls ?_ i
          exact ⟨rfl, rfl, rfl, rfl, trivial⟩
        · skip
          exact absurd ((nI_leI (by omega) (by omega)).mpr (Nat.zero_le _)) c89
set_option maxHeartbeats 4000000 in
theorem c6_worstAt {g : jG} {d : Nat} {h : jH} {f : Nat → Bool} {V : Nat → Nat → Nat → Int32} {p t : Nat} (hp : p < 4) (ht : t < 4) (dn : ∀ c, c < 256 → h 141 c = bI (f c)) (pb : ∀ c, c < 256 → h 140 (16 * c + (4 * t + p)) = V c p (t + 1)) : Mi g d YX6_worstAt h [.ref 131, .int (nI (4 * t + p))] (fun r h' => h' = h ∧ r = nI (mlF f (fun c => V c p (t + 1)) 256)) := by
  refine M.of (by decide) rfl (Nat.le_of_ble_eq_true rfl) ?_
  refine J_iconst (pc := 0) (v := nI 0) dX6_worstAt_0 (by decide) ?_
  refine J_istore_n (pc := 1) dX6_worstAt_1 (by decide) ?_
  refine J_iconst (pc := 2) (v := nI 0) dX6_worstAt_2 (by decide) ?_
  refine J_istore_n (pc := 3) dX6_worstAt_3 (by decide) ?_
  refine J_ls (ls' := [(0, .ref 131), (1, .int (nI (4 * t + p))), (2, .int (nI (waF f (fun c => V c p (t + 1)) 0))), (3, .int (nI 0))]) ⟨rfl, rfl, rfl, rfl, trivial⟩ ?_
  refine l6_wa1 hp ht dn pb ?_ 257 0 (Nat.zero_le _) (by omega)
  rw [wa_eq]
  refine J_iload_n (pc := 105) dX6_worstAt_105 rfl ?_
  refine K_iret (pc := 106) dX6_worstAt_106 rfl ?_
  exact ⟨rfl, rfl⟩
set_option maxHeartbeats 4000000 in
theorem l6_look0 {g : jG} {d : Nat} {h : jH} {Q : kQ} {f : Nat → Bool} {x : Int32} (dn : ∀ c, c < 256 → h 141 c = bI (f c)) (kx : K g (d + 3) YX6_look (h) 50 [(0, .ref 131), (1, .int x), (2, .int (nI (cnF f 256))), (3, .int (nI 256))] [] Q) : ∀ (mm k : Nat) , k ≤ 256 → 256 < k + mm → K g (d + 3) YX6_look (h) 20 [(0, .ref 131), (1, .int x), (2, .int (nI (cnF f k))), (3, .int (nI k))] [] Q := by
  intro mm
  induction mm with
  | zero => intro k  hk1 hk2 ; omega
  | succ mm ih =>
    intro k  hk1 hk2 
    refine J_iload_n (pc := 20) dX6_look_20 rfl ?_
    refine J_sipush (pc := 21) (v := nI 256) dX6_look_21 (by decide) ?_
    refine J_icmp_ge (pc := 24) (tgt := 50) dX6_look_24 (by decide) (fun c24 => ?_) (fun c24 => ?_)
    · skip
      have q24 : 256 ≤ k := (nI_leI (by omega) (by omega)).mp c24
      have e_k : k = 256 := by omega
      refine J_ls (ls' := [(0, .ref 131), (1, .int x), (2, .int (nI (cnF f k))), (3, .int (nI k))]) ⟨rfl, rfl, rfl, rfl, trivial⟩ ?_
      rw [e_k]
      exact kx
    · skip
      have q24 : k < 256 := Nat.lt_of_not_le (fun z => c24 ((nI_leI (by omega) (by omega)).mpr z))
      refine J_iload_n (pc := 27) dX6_look_27 rfl ?_
      refine J_aload_n (pc := 28) dX6_look_28 rfl ?_
      refine J_getR (pc := 29) dX6_look_29 fX6_37 sh131 rfl ?_
      refine J_iload_n (pc := 32) dX6_look_32 rfl ?_
      refine J_zald (pc := 33) dX6_look_33 sh141 (rfl) (by omega) (rfl) (by decide) ?_
      refine J_if_eq (pc := 34) (tgt := 41) dX6_look_34 (by decide) (fun c34 => ?_) (fun c34 => ?_)
      · skip
        refine J_iconst (pc := 41) (v := nI 0) dX6_look_41 (by decide) ?_
        refine J_iadd (pc := 42) dX6_look_42 (nI_add _ _) ?_
        refine J_istore_n (pc := 43) dX6_look_43 (by decide) ?_
        refine J_iinc (pc := 44) dX6_look_44 rfl (v := nI (k + 1)) (by exact nI_add _ _) (by decide) ?_
        refine J_goto (pc := 47) (tgt := 20) dX6_look_47 (by decide) ?_
        have i := ih (k + 1) (by omega) (by omega)
        rw [show cnF f (k + 1) = cnF f k from if_neg (fun z => by rw [dn k q24, bI_t z] at c34; exact absurd c34 (by decide))] at i
        refine J_ls ?_ i
        exact ⟨rfl, rfl, rfl, rfl, trivial⟩
      · skip
        refine J_iconst (pc := 37) (v := nI 1) dX6_look_37 (by decide) ?_
        refine J_goto (pc := 38) (tgt := 42) dX6_look_38 (by decide) ?_
        refine J_iadd (pc := 42) dX6_look_42 (nI_add _ _) ?_
        refine J_istore_n (pc := 43) dX6_look_43 (by decide) ?_
        refine J_iinc (pc := 44) dX6_look_44 rfl (v := nI (k + 1)) (by exact nI_add _ _) (by decide) ?_
        refine J_goto (pc := 47) (tgt := 20) dX6_look_47 (by decide) ?_
        have i := ih (k + 1) (by omega) (by omega)
        rw [show cnF f (k + 1) = cnF f k + 1 from if_pos (by by_cases z : f k = true; exact z; rw [dn k q24, bI_f z] at c34; exact absurd rfl c34)] at i
        refine J_ls ?_ i
        exact ⟨rfl, rfl, rfl, rfl, trivial⟩
set_option maxHeartbeats 4000000 in
theorem l6_look2 {g : jG} {d : Nat} {h : jH} {Q : kQ} {n : Nat} {f : Nat → Bool} {V : Nat → Nat → Nat → Int32} {x : Int32} (hn : h 131 2 = nI n) (hn4 : n ≤ 4) (dn : ∀ c, c < 256 → h 141 c = bI (f c)) (pb : ∀ c u p, c < 256 → u < 4 → p < 4 → h 140 (16 * c + 4 * u + p) = V c p (u + 1)) {p : Nat} {S : Int32 × Nat} (hp : p < n) (hS : S.2 ≤ 256) (kx : K g (d + 3) YX6_look (h) 127 [(0, .ref 131), (1, .int x), (2, .int (nI (lkI f V p S 4).2)), (3, .int (lkI f V p S 4).1), (4, .int (nI p)), (5, .int (nI (4 + 1)))] [] Q) : ∀ (mm k : Nat) , k ≤ 4 → 4 < k + mm → K g (d + 3) YX6_look (h) 68 [(0, .ref 131), (1, .int x), (2, .int (nI (lkI f V p S k).2)), (3, .int (lkI f V p S k).1), (4, .int (nI p)), (5, .int (nI (k + 1)))] [] Q := by
  intro mm
  induction mm with
  | zero => intro k  hk1 hk2 ; omega
  | succ mm ih =>
    intro k  hk1 hk2 
    have ll := lkI_le (f := f) (V := V) (p := p) hS k
    have m2 := mlF_le (f := f) (U := fun c => V c p (k + 1)) (Nat.le_refl 256)
    refine J_iload (pc := 68) dX6_look_68 rfl ?_
    refine J_iconst (pc := 70) (v := nI 4) dX6_look_70 (by decide) ?_
    refine J_icmp_gt (pc := 71) (tgt := 127) dX6_look_71 (by decide) (fun c71 => ?_) (fun c71 => ?_)
    · skip
      have q71 : 4 < k + 1 := (nI_ltI (by omega) (by omega)).mp c71
      have e_k : k = 4 := by omega
      refine J_ls (ls' := [(0, .ref 131), (1, .int x), (2, .int (nI (lkI f V p S k).2)), (3, .int (lkI f V p S k).1), (4, .int (nI p)), (5, .int (nI (k + 1)))]) ⟨rfl, rfl, rfl, rfl, rfl, rfl, trivial⟩ ?_
      rw [e_k]
      exact kx
    · skip
      have q71 : ¬ 4 < k + 1 := fun z => c71 ((nI_ltI (by omega) (by omega)).mpr z)
      refine J_aload_n (pc := 74) dX6_look_74 rfl ?_
      refine J_iconst (pc := 75) (v := nI 4) dX6_look_75 (by decide) ?_
      refine J_iload (pc := 76) dX6_look_76 rfl ?_
      refine J_iconst (pc := 78) (v := nI 1) dX6_look_78 (by decide) ?_
      refine J_isub (pc := 79) dX6_look_79 (pk_sub (by omega)) ?_
      refine J_imul (pc := 80) dX6_look_80 (pk_mul _ _) ?_
      refine J_iload (pc := 81) dX6_look_81 rfl ?_
      refine J_iadd (pc := 83) dX6_look_83 (nI_add _ _) ?_
      refine K_Vi1 (pc := 84) (Y' := YX6_worstAt) dX6_look_84 lX6_269 mX6_worstAt vX6_worstAt ⟨_, _, rfl⟩ sh131 (Nat.le_of_ble_eq_true rfl) (c6_worstAt (p := p) (t := k) (f := f) (V := V) (by omega) (by omega) dn (fun c hc => by rw [← Nat.add_assoc]; exact pb c k p hc (by omega) (by omega))) ?_
      rintro r h0 ⟨e0, rfl⟩
      rw [e0]
      clear e0 h0
      refine J_istore (pc := 87) dX6_look_87 (by decide) ?_
      refine J_iload (pc := 89) dX6_look_89 rfl ?_
      refine J_iload_n (pc := 91) dX6_look_91 rfl ?_
      refine J_icmp_ge (pc := 92) (tgt := 106) dX6_look_92 (by decide) (fun c92 => ?_) (fun c92 => ?_)
      · skip
        have q92 := (nI_leI (by omega) (by omega)).mp c92
        refine J_iload_n (pc := 106) dX6_look_106 rfl ?_
        refine J_istore_n (pc := 107) dX6_look_107 (by decide) ?_
        refine J_iload (pc := 108) dX6_look_108 rfl ?_
        refine J_iload_n (pc := 110) dX6_look_110 rfl ?_
        refine J_icmp_ge (pc := 111) (tgt := 119) dX6_look_111 (by decide) (fun c111 => ?_) (fun c111 => ?_)
        · skip
          refine J_iload_n (pc := 119) dX6_look_119 rfl ?_
          refine J_istore_n (pc := 120) dX6_look_120 (by decide) ?_
          refine J_iinc (pc := 121) dX6_look_121 rfl (v := nI ((k + 1) + 1)) (by exact nI_add _ _) (by decide) ?_
          refine J_goto (pc := 124) (tgt := 68) dX6_look_124 (by decide) ?_
          have i := ih (k + 1) (by omega) (by omega)
          rw [show lkI f V p S (k + 1) = (lkI f V p S k) from if_neg (Nat.not_lt.mpr q92)] at i
          refine J_ls ?_ i
          exact ⟨rfl, rfl, rfl, rfl, rfl, rfl, trivial⟩
        · skip
          exact absurd c92 c111
      · skip
        have q92 : mlF f (fun c => V c p (k + 1)) 256 < (lkI f V p S k).2 := Nat.lt_of_not_le (fun z => c92 ((nI_leI (by omega) (by omega)).mpr z))
        refine J_bipush (pc := 95) (v := nI 10) dX6_look_95 (by decide) ?_
        refine J_iload (pc := 97) dX6_look_97 rfl ?_
        refine J_imul (pc := 99) dX6_look_99 (pk_mul _ _) ?_
        refine J_iload (pc := 100) dX6_look_100 rfl ?_
        refine J_iadd (pc := 102) dX6_look_102 (nI_add _ _) ?_
        refine J_goto (pc := 103) (tgt := 107) dX6_look_103 (by decide) ?_
        refine J_istore_n (pc := 107) dX6_look_107 (by decide) ?_
        refine J_iload (pc := 108) dX6_look_108 rfl ?_
        refine J_iload_n (pc := 110) dX6_look_110 rfl ?_
        refine J_icmp_ge (pc := 111) (tgt := 119) dX6_look_111 (by decide) (fun c111 => ?_) (fun c111 => ?_)
        · skip
          exact absurd c111 c92
        · skip
          refine J_iload (pc := 114) dX6_look_114 rfl ?_
          refine J_goto (pc := 116) (tgt := 120) dX6_look_116 (by decide) ?_
          refine J_istore_n (pc := 120) dX6_look_120 (by decide) ?_
          refine J_iinc (pc := 121) dX6_look_121 rfl (v := nI ((k + 1) + 1)) (by exact nI_add _ _) (by decide) ?_
          refine J_goto (pc := 124) (tgt := 68) dX6_look_124 (by decide) ?_
          have i := ih (k + 1) (by omega) (by omega)
          rw [show lkI f V p S (k + 1) = (nI (10 * p + (k + 1)), mlF f (fun c => V c p (k + 1)) 256) from if_pos q92] at i
          refine J_ls ?_ i
          exact ⟨rfl, rfl, rfl, rfl, rfl, rfl, trivial⟩
set_option maxHeartbeats 4000000 in
theorem l6_look1 {g : jG} {d : Nat} {h : jH} {Q : kQ} {n : Nat} {f : Nat → Bool} {V : Nat → Nat → Nat → Int32} {x : Int32} (hn : h 131 2 = nI n) (hn4 : n ≤ 4) (dn : ∀ c, c < 256 → h 141 c = bI (f c)) (pb : ∀ c u p, c < 256 → u < 4 → p < 4 → h 140 (16 * c + 4 * u + p) = V c p (u + 1)) (kx : K g (d + 3) YX6_look (h) 133 [(0, .ref 131), (1, .int x), (2, .int (nI (lkO f V n).2)), (3, .int (lkO f V n).1), (4, .int (nI n))] [] Q) : ∀ (mm k : Nat) , k ≤ n → n < k + mm → K g (d + 3) YX6_look (h) 56 [(0, .ref 131), (1, .int x), (2, .int (nI (lkO f V k).2)), (3, .int (lkO f V k).1), (4, .int (nI k))] [] Q := by
  intro mm
  induction mm with
  | zero => intro k  hk1 hk2 ; omega
  | succ mm ih =>
    intro k  hk1 hk2 
    refine J_iload (pc := 56) dX6_look_56 rfl ?_
    refine J_aload_n (pc := 58) dX6_look_58 rfl ?_
    refine J_getI (pc := 59) dX6_look_59 fX6_148 sh131 rfl (hn) ?_
    refine J_icmp_ge (pc := 62) (tgt := 133) dX6_look_62 (by decide) (fun c62 => ?_) (fun c62 => ?_)
    · skip
      have q62 : n ≤ k := (nI_leI (by omega) (by omega)).mp c62
      have e_k : k = n := by omega
      refine J_ls (ls' := [(0, .ref 131), (1, .int x), (2, .int (nI (lkO f V k).2)), (3, .int (lkO f V k).1), (4, .int (nI k))]) ⟨rfl, rfl, rfl, rfl, rfl, trivial⟩ ?_
      rw [e_k]
      exact kx
    · skip
      have q62 : k < n := Nat.lt_of_not_le (fun z => c62 ((nI_leI (by omega) (by omega)).mpr z))
      refine J_iconst (pc := 65) (v := nI 1) dX6_look_65 (by decide) ?_
      refine J_istore (pc := 66) dX6_look_66 (by decide) ?_
      refine J_ls (ls' := [(0, .ref 131), (1, .int x), (2, .int (nI (lkO f V k).2)), (3, .int (lkO f V k).1), (4, .int (nI k)), (5, .int (nI (0 + 1)))]) ⟨rfl, rfl, rfl, rfl, rfl, rfl, trivial⟩ ?_
      refine l6_look2 hn hn4 dn pb (p := k) (S := (lkO f V k)) q62 (lkO_le k) ?_ 5 0 (Nat.zero_le _) (by omega)
      refine J_iinc (pc := 127) dX6_look_127 rfl (v := nI (k + 1)) (by exact nI_add _ _) (by decide) ?_
      refine J_goto (pc := 130) (tgt := 56) dX6_look_130 (by decide) ?_
      exact J_ls (ls' := [(0, .ref 131), (1, .int x), (2, .int (nI (lkO f V (k + 1)).2)), (3, .int (lkO f V (k + 1)).1), (4, .int (nI (k + 1)))]) ⟨rfl, rfl, rfl, rfl, rfl, trivial⟩ (ih (k + 1) (by omega) (by omega))
set_option maxHeartbeats 4000000 in
theorem c6_look {g : jG} {d : Nat} {h : jH} {x : Int32} (hR : MR h) : Mi g (d + 4) YX6_look h [.ref 131, .int x] (fun r h' => r = (oLook h x).1 ∧ sameP (oLook h x).2 h' ∧ lo h h') := by
  refine M.of (by decide) rfl (Nat.le_of_ble_eq_true rfl) ?_
  have hR0 := hR
  have hG : GD (ix (h 131 2)) (pg h 0) := hR.2.1
  obtain ⟨r1, ⟨⟨v1, v2, v3, v4⟩, v5, v6, v7, v8, v9, va, vb, vc, vd⟩, r3, r4, ⟨r5, r6⟩, r7, r8, r9, ra⟩ := hR
  have hn := r1.1
  have hn4 := v1
  have n5 := r1.2
  have c6 : ix (h 132 37) < 6 := v3.2
  have p9 : ix (h 132 51) < 9 := v5.2
  have p9' : ix (pg h 0 51) < 9 := v5.2
  refine J_iload_n (pc := 0) dX6_look_0 rfl ?_
  refine J_i2l (pc := 1) dX6_look_1 (rfl) ?_
  refine J_lconst (pc := 2) (v := 0) dX6_look_2 (by decide) ?_
  refine J_lconst (pc := 3) (v := 1) dX6_look_3 (by decide) ?_
  refine K_Si3 (pc := 4) (Y' := YX6_in) dX6_look_4 lX6_55 mX6_in sX6_in (Nat.le_of_ble_eq_true rfl) (c6_inI x (nI 0) (nI 1) rfl (by decide) (by decide)) ?_
  rintro x h0 ⟨e0, ⟨rfl, b4⟩ | ⟨rfl, b4⟩⟩ <;> rw [e0] <;> clear e0 h0
  · skip
    refine J_if_ne (pc := 7) (tgt := 12) dX6_look_7 (by decide) (fun _ => ?_) (fun c => absurd c (by decide))
    refine J_aload_n (pc := 12) dX6_look_12 rfl ?_
    refine K_Vv0 (pc := 13) (Y' := YX6_allSkies) dX6_look_13 lX6_266 mX6_allSkies vX6_allSkies ⟨_, _, rfl⟩ sh131 (Nat.le_of_ble_eq_true rfl) (c6_allSkies hR0) ?_
    rintro h1 ⟨f1, f2⟩
    obtain ⟨fs, fl⟩ := f1.same
    refine J_iconst (pc := 16) (v := nI 0) dX6_look_16 (by decide) ?_
    refine J_istore_n (pc := 17) dX6_look_17 (by decide) ?_
    refine J_iconst (pc := 18) (v := nI 0) dX6_look_18 (by decide) ?_
    refine J_istore_n (pc := 19) dX6_look_19 (by decide) ?_
    refine J_ls (ls' := [(0, .ref 131), (1, .int x), (2, .int (nI (cnF (fitA h) 0))), (3, .int (nI 0))]) ⟨rfl, rfl, rfl, rfl, trivial⟩ ?_
    refine l6_look0 (f := (fitA h)) f2.2 ?_ 257 0 (Nat.zero_le _) (by omega)
    refine J_bipush (pc := 50) (v := -4) dX6_look_50 (by decide) ?_
    refine J_istore_n (pc := 52) dX6_look_52 (by decide) ?_
    refine J_iconst (pc := 53) (v := nI 0) dX6_look_53 (by decide) ?_
    refine J_istore (pc := 54) dX6_look_54 (by decide) ?_
    refine J_ls (ls' := [(0, .ref 131), (1, .int x), (2, .int (nI (lkO (fitA h) (pw (ix (h 131 2)) (pg h 0)) 0).2)), (3, .int (lkO (fitA h) (pw (ix (h 131 2)) (pg h 0)) 0).1), (4, .int (nI 0))]) ⟨rfl, rfl, rfl, rfl, rfl, trivial⟩ ?_
    refine l6_look1 (f := (fitA h)) (V := pw (ix (h 131 2)) (pg h 0)) ((f1 131 2 (by omega) (by omega) (by omega)).trans hn) hn4 f2.2 (fun c u p h1 h2 h3 => f2.1 c h1 u p h2 h3) ?_ (ix (h 131 2) + 1) 0 (Nat.zero_le _) (by omega)
    refine J_iload_n (pc := 133) dX6_look_133 rfl ?_
    refine J_bipush (pc := 134) (v := -4) dX6_look_134 (by decide) ?_
    refine J_icmp_eq (pc := 136) (tgt := 143) dX6_look_136 (by decide) (fun c136 => ?_) (fun c136 => ?_)
    · skip
      refine J_iload_n (pc := 143) dX6_look_143 rfl ?_
      refine J_goto (pc := 144) (tgt := 148) dX6_look_144 (by decide) ?_
      refine K_iret (pc := 148) dX6_look_148 rfl ?_
      exact by rw [oLook, iteR_t b4]; exact ⟨(iteP_t (Or.inl c136)).symm, fs, fl⟩
    · skip
      refine J_iload_n (pc := 139) dX6_look_139 rfl ?_
      refine J_if_ne (pc := 140) (tgt := 147) dX6_look_140 (by decide) (fun c140 => ?_) (fun c140 => ?_)
      · skip
        refine J_iload_n (pc := 147) dX6_look_147 rfl ?_
        refine K_iret (pc := 148) dX6_look_148 rfl ?_
        exact by rw [oLook, iteR_t b4]; exact ⟨(iteP_f (fun z => z.elim c136 c140)).symm, fs, fl⟩
      · skip
        refine J_iload_n (pc := 143) dX6_look_143 rfl ?_
        refine J_goto (pc := 144) (tgt := 148) dX6_look_144 (by decide) ?_
        refine K_iret (pc := 148) dX6_look_148 rfl ?_
        exact by rw [oLook, iteR_t b4]; exact ⟨(iteP_t (Or.inr c140)).symm, fs, fl⟩
  · skip
    refine J_if_ne (pc := 7) (tgt := 12) dX6_look_7 (by decide) (fun c => absurd c (by decide)) (fun _ => ?_)
    refine J_iconst (pc := 10) (v := -1) dX6_look_10 (by decide) ?_
    refine K_iret (pc := 11) dX6_look_11 rfl ?_
    exact by rw [oLook, iteR_f b4]; exact ⟨rfl, sameP.rf, lo.rf⟩
