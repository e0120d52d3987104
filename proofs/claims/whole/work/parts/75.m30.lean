set_option maxHeartbeats 400000 in
theorem c6_byteAt {g : jG} {d : Nat} {h : jH} {L k : Nat} {t : Nat → Int32} (hT : RP L t h) (hk : k ≤ 1000) : Mi g d YX6_byteAt h [.ref 131, .int (nI k)] (fun r h' => h' = h ∧ r = byF L t k) := by
  refine M.of (by decide) rfl (Nat.le_of_ble_eq_true rfl) ?_
  refine J_iload_n (pc := 0) dX6_byteAt_0 rfl ?_
  refine J_aload_n (pc := 1) dX6_byteAt_1 rfl ?_
  refine J_getI (pc := 2) dX6_byteAt_2 fX6_59 sh131 rfl (hT.1) ?_
  refine J_icmp_ge (pc := 5) (tgt := 17) dX6_byteAt_5 (by decide) (fun c5 => ?_) (fun c5 => ?_)
  · skip
    have q5 : L ≤ k := (nI_leI (by have := hT.2.1; omega) (by omega)).mp c5
    refine J_bipush (pc := 17) (v := -4) dX6_byteAt_17 (by decide) ?_
    refine K_iret (pc := 19) dX6_byteAt_19 rfl ?_
    exact ⟨rfl, (byF_o (by omega)).symm⟩
  · skip
    have q5 : k < L := Nat.lt_of_not_le (fun z => c5 ((nI_leI (by have := hT.2.1; omega) (by omega)).mpr z))
    refine J_aload_n (pc := 8) dX6_byteAt_8 rfl ?_
    refine J_getR (pc := 9) dX6_byteAt_9 fX6_19 sh131 rfl ?_
    refine J_iload_n (pc := 12) dX6_byteAt_12 rfl ?_
    refine J_iald (pc := 13) dX6_byteAt_13 sh135 (rfl) (by have := hT.2.1; omega) ((hT.2.2 _ q5).1) (by decide) ?_
    refine J_goto (pc := 14) (tgt := 19) dX6_byteAt_14 (by decide) ?_
    refine K_iret (pc := 19) dX6_byteAt_19 rfl ?_
    exact ⟨rfl, (byF_i q5).symm⟩
set_option maxHeartbeats 400000 in
theorem c6_fails {g : jG} {d : Nat} {h : jH} {c : Nat} : Mv g d YX6_fails h [.ref 131, .int (nI c)] (fun h' => h' = flH h c) := by
  refine M.of (by decide) rfl (Nat.le_of_ble_eq_true rfl) ?_
  refine J_aload_n (pc := 0) dX6_fails_0 rfl ?_
  refine J_getI (pc := 1) dX6_fails_1 fX6_63 sh131 rfl (rfl) ?_
  refine J_if_ne (pc := 4) (tgt := 20) dX6_fails_4 (by decide) (fun c4 => ?_) (fun c4 => ?_)
  · skip
    refine K_ret (pc := 20) dX6_fails_20 rfl ?_
    exact (if_neg c4).symm
  · skip
    refine J_aload_n (pc := 7) dX6_fails_7 rfl ?_
    refine J_iload_n (pc := 8) dX6_fails_8 rfl ?_
    refine J_putI (pc := 9) dX6_fails_9 fX6_63 sh131 rfl ?_
    refine J_aload_n (pc := 12) dX6_fails_12 rfl ?_
    refine J_aload_n (pc := 13) dX6_fails_13 rfl ?_
    refine J_getI (pc := 14) dX6_fails_14 fX6_66 sh131 rfl (j_up_o (by omega)) ?_
    refine J_putI (pc := 17) dX6_fails_17 fX6_69 sh131 rfl ?_
    refine K_ret (pc := 20) dX6_fails_20 rfl ?_
    exact (if_pos c4).symm
set_option maxHeartbeats 400000 in
theorem l6_skip {g : jG} {d : Nat} {h : jH} {Q : kQ} {L p s : Nat} {t : Nat → Int32} (hT : RP L t h) (hsL : s ≤ L) (hp : scan (spB L t) 161 s = p) (kx : K g (d + 1) YX6_step (j_up h 131 12 (nI (s + (p - s)))) 34 [(0, .ref 131)] [] Q) : ∀ (mm k : Nat) , k ≤ (p - s) → (p - s) < k + mm → K g (d + 1) YX6_step (j_up h 131 12 (nI (s + k))) 8 [(0, .ref 131)] [] Q := by
  intro mm
  induction mm with
  | zero => intro k  hk1 hk2 ; omega
  | succ mm ih =>
    intro k  hk1 hk2 
    obtain ⟨a1, a2, a3, a4⟩ := scan_ex (m := 161) (s := s) (fun j => spB_l (L := L) (t := t) (k := j)) hsL (by have := hT.2.1; omega)
    rw [hp] at a1 a2 a3 a4
    have hL := hT.2.1
    refine J_aload_n (pc := 8) dX6_step_8 rfl ?_
    refine J_aload_n (pc := 9) dX6_step_9 rfl ?_
    refine J_getI (pc := 10) dX6_step_10 fX6_75 sh131 rfl (j_up_s) ?_
    refine K_Vi1 (pc := 13) (Y' := YX6_byteAt) dX6_step_13 lX6_78 mX6_byteAt vX6_byteAt ⟨_, _, rfl⟩ sh131 (Nat.le_of_ble_eq_true rfl) (c6_byteAt (L := L) (t := t) (k := (s + k)) (hT.rf (rfm_up rfm.rf (by omega) (by omega))) (by omega)) ?_
    rintro x h0 ⟨rfl, rfl⟩
    refine J_bipush (pc := 16) (v := nI 32) dX6_step_16 (by decide) ?_
    refine J_icmp_ne (pc := 18) (tgt := 34) dX6_step_18 (by decide) (fun c18 => ?_) (fun c18 => ?_)
    · skip
      have z2 : ¬ k < p - s := fun z => c18 (byF_sp.mpr (a3 (s + k) (by omega) (by omega)))
      have e_k : k = (p - s) := by omega
      refine J_ls (ls' := [(0, .ref 131)]) ⟨rfl, trivial⟩ ?_
      rw [e_k]
      exact kx
    · skip
      have z2 : k < p - s := Nat.lt_of_not_le (fun z => by
        have e : s + k = p := by omega
        rw [e] at c18
        rw [byF_sp.mp c18] at a4
        cases a4)
      refine J_aload_n (pc := 21) dX6_step_21 rfl ?_
      refine J_dup (pc := 22) dX6_step_22 rfl ?_
      refine J_getI (pc := 23) dX6_step_23 fX6_75 sh131 rfl (j_up_s) ?_
      refine J_iconst (pc := 26) (v := nI 1) dX6_step_26 (by decide) ?_
      refine J_iadd (pc := 27) dX6_step_27 (nI_add _ _) ?_
      refine J_putI (pc := 28) dX6_step_28 fX6_75 sh131 rfl ?_
      rw [j_up_up]
      refine J_goto (pc := 31) (tgt := 8) dX6_step_31 (by decide) ?_
      exact J_ls (ls' := [(0, .ref 131)]) ⟨rfl, trivial⟩ (ih (k + 1)  (by omega) (by omega) )
set_option maxHeartbeats 400000 in
theorem l6_lets {g : jG} {d : Nat} {h : jH} {Q : kQ} {L p q : Nat} {t : Nat → Int32} (hT : RP L t h) (hp : p ≤ L) (hq : scan (ltB L t) 161 p = q) (kx : K g (d + 1) YX6_step (j_up h 131 12 (nI (p + (q - p)))) 118 [(0, .ref 131)] [] Q) : ∀ (mm k : Nat) , k ≤ (q - p) → (q - p) < k + mm → K g (d + 1) YX6_step (j_up h 131 12 (nI (p + k))) 84 [(0, .ref 131)] [] Q := by
  intro mm
  induction mm with
  | zero => intro k  hk1 hk2 ; omega
  | succ mm ih =>
    intro k  hk1 hk2 
    obtain ⟨a1, a2, a3, a4⟩ := scan_ex (m := 161) (s := p) (fun j => ltB_l (L := L) (t := t) (k := j)) hp (by have := hT.2.1; omega)
    rw [hq] at a1 a2 a3 a4
    have hL := hT.2.1
    refine J_aload_n (pc := 84) dX6_step_84 rfl ?_
    refine J_aload_n (pc := 85) dX6_step_85 rfl ?_
    refine J_getI (pc := 86) dX6_step_86 fX6_75 sh131 rfl (j_up_s) ?_
    refine K_Vi1 (pc := 89) (Y' := YX6_byteAt) dX6_step_89 lX6_78 mX6_byteAt vX6_byteAt ⟨_, _, rfl⟩ sh131 (Nat.le_of_ble_eq_true rfl) (c6_byteAt (L := L) (t := t) (k := (p + k)) (hT.rf (rfm_up rfm.rf (by omega) (by omega))) (by omega)) ?_
    rintro x h0 ⟨rfl, rfl⟩
    refine J_i2l (pc := 92) dX6_step_92 (rfl) ?_
    refine J_ldc2 (pc := 93) dX6_step_93 kX6_85 ?_
    refine J_ldc2 (pc := 96) dX6_step_96 kX6_87 ?_
    refine K_Si3 (pc := 99) (Y' := YX6_in) dX6_step_99 lX6_55 mX6_in sX6_in (Nat.le_of_ble_eq_true rfl) (c6_inI (byF L t (p + k)) (nI 97) (nI 122) rfl (by decide) (by decide)) ?_
    rintro x h0 ⟨e0, ⟨rfl, b99⟩ | ⟨rfl, b99⟩⟩ <;> rw [e0] <;> clear e0 h0
    · skip
      have z2 : k < q - p := Nat.lt_of_not_le (fun z => by
        have e : p + k = q := by omega
        rw [e] at b99
        rw [byF_lt.mp b99] at a4
        cases a4)
      refine J_if_eq (pc := 102) (tgt := 118) dX6_step_102 (by decide) (fun c => absurd c (by decide)) (fun _ => ?_)
      refine J_aload_n (pc := 105) dX6_step_105 rfl ?_
      refine J_dup (pc := 106) dX6_step_106 rfl ?_
      refine J_getI (pc := 107) dX6_step_107 fX6_75 sh131 rfl (j_up_s) ?_
      refine J_iconst (pc := 110) (v := nI 1) dX6_step_110 (by decide) ?_
      refine J_iadd (pc := 111) dX6_step_111 (nI_add _ _) ?_
      refine J_putI (pc := 112) dX6_step_112 fX6_75 sh131 rfl ?_
      rw [j_up_up]
      refine J_goto (pc := 115) (tgt := 84) dX6_step_115 (by decide) ?_
      exact J_ls (ls' := [(0, .ref 131)]) ⟨rfl, trivial⟩ (ih (k + 1)  (by omega) (by omega) )
    · skip
      have z2 : ¬ k < q - p := fun z => b99 (byF_lt.mpr (a3 (p + k) (by omega) (by omega)))
      refine J_if_eq (pc := 102) (tgt := 118) dX6_step_102 (by decide) (fun _ => ?_) (fun c => absurd c (by decide))
      have e_k : k = (q - p) := by omega
      refine J_ls (ls' := [(0, .ref 131)]) ⟨rfl, trivial⟩ ?_
      rw [e_k]
      exact kx
set_option maxHeartbeats 400000 in
theorem l6_figs {g : jG} {d : Nat} {h : jH} {Q : kQ} {L p q : Nat} {t : Nat → Int32} (hT : RP L t h) (hp : p ≤ L) (hq : scan (fgB L t) 161 p = q) (h13 : h 131 13 = nI p) (kx : K g (d + 1) YX6_step (j_up (j_up h 131 15 (nv2 t p (q - p))) 131 12 (nI (p + (q - p)))) 217 [(0, .ref 131)] [] Q) : ∀ (mm k : Nat) , k ≤ (q - p) → (q - p) < k + mm → K g (d + 1) YX6_step (j_up (j_up h 131 15 (nv2 t p k)) 131 12 (nI (p + k))) 140 [(0, .ref 131)] [] Q := by
  intro mm
  induction mm with
  | zero => intro k  hk1 hk2 ; omega
  | succ mm ih =>
    intro k  hk1 hk2 
    obtain ⟨a1, a2, a3, a4⟩ := scan_ex (m := 161) (s := p) (fun j => fgB_l (L := L) (t := t) (k := j)) hp (by have := hT.2.1; omega)
    rw [hq] at a1 a2 a3 a4
    have hL := hT.2.1
    refine J_aload_n (pc := 140) dX6_step_140 rfl ?_
    refine J_aload_n (pc := 141) dX6_step_141 rfl ?_
    refine J_getI (pc := 142) dX6_step_142 fX6_75 sh131 rfl (j_up_s) ?_
    refine K_Vi1 (pc := 145) (Y' := YX6_byteAt) dX6_step_145 lX6_78 mX6_byteAt vX6_byteAt ⟨_, _, rfl⟩ sh131 (Nat.le_of_ble_eq_true rfl) (c6_byteAt (L := L) (t := t) (k := (p + k)) (hT.rf (rfm_up (rfm_up rfm.rf (by omega) (by omega)) (by omega) (by omega))) (by omega)) ?_
    rintro x h0 ⟨rfl, rfl⟩
    refine J_i2l (pc := 148) dX6_step_148 (rfl) ?_
    refine J_ldc2 (pc := 149) dX6_step_149 kX6_89 ?_
    refine J_ldc2 (pc := 152) dX6_step_152 kX6_91 ?_
    refine K_Si3 (pc := 155) (Y' := YX6_in) dX6_step_155 lX6_55 mX6_in sX6_in (Nat.le_of_ble_eq_true rfl) (c6_inI (byF L t (p + k)) (nI 48) (nI 57) rfl (by decide) (by decide)) ?_
    rintro x h0 ⟨e0, ⟨rfl, b155⟩ | ⟨rfl, b155⟩⟩ <;> rw [e0] <;> clear e0 h0
    · skip
      have z2 : k < q - p := Nat.lt_of_not_le (fun z => by
        have e : p + k = q := by omega
        rw [e] at b155
        rw [byF_fg.mp b155] at a4
        cases a4)
      have z3 : p + k < L := fgB_l (byF_fg.mp b155)
      refine J_if_eq (pc := 158) (tgt := 217) dX6_step_158 (by decide) (fun c => absurd c (by decide)) (fun _ => ?_)
      refine J_aload_n (pc := 161) dX6_step_161 rfl ?_
      refine J_aload_n (pc := 162) dX6_step_162 rfl ?_
      refine J_getI (pc := 163) dX6_step_163 fX6_75 sh131 rfl (j_up_s) ?_
      refine J_aload_n (pc := 166) dX6_step_166 rfl ?_
      refine J_getI (pc := 167) dX6_step_167 fX6_66 sh131 rfl ((j_up_o (by omega)).trans ((j_up_o (by omega)).trans h13)) ?_
      refine J_isub (pc := 170) dX6_step_170 (nIsub (by omega) (by omega)) ?_
      refine J_iconst (pc := 171) (v := nI 2) dX6_step_171 (by decide) ?_
      refine J_icmp_ge (pc := 172) (tgt := 197) dX6_step_172 (by decide) (fun c172 => ?_) (fun c172 => ?_)
      · skip
        have z4 : ¬ k < 2 := fun z => absurd ((nI_leI (by omega) (by omega)).mp c172) (by omega)
        refine J_aload_n (pc := 197) dX6_step_197 rfl ?_
        refine J_getI (pc := 198) dX6_step_198 fX6_82 sh131 rfl ((j_up_o (by omega)).trans j_up_s) ?_
        refine J_putI (pc := 201) dX6_step_201 fX6_82 sh131 rfl ?_
        refine J_aload_n (pc := 204) dX6_step_204 rfl ?_
        refine J_dup (pc := 205) dX6_step_205 rfl ?_
        refine J_getI (pc := 206) dX6_step_206 fX6_75 sh131 rfl ((j_up_o (by omega)).trans j_up_s) ?_
        refine J_iconst (pc := 209) (v := nI 1) dX6_step_209 (by decide) ?_
        refine J_iadd (pc := 210) dX6_step_210 (nI_add _ _) ?_
        refine J_putI (pc := 211) dX6_step_211 fX6_75 sh131 rfl ?_
        rw [j_up_u4]
        rw [nv2_t z4]
        refine J_goto (pc := 214) (tgt := 140) dX6_step_214 (by decide) ?_
        exact J_ls (ls' := [(0, .ref 131)]) ⟨rfl, trivial⟩ (ih (k + 1)  (by omega) (by omega) )
      · skip
        have z4 : k < 2 := Nat.lt_of_not_le (fun z => c172 ((nI_leI (by omega) (by omega)).mpr (by omega)))
        refine J_bipush (pc := 175) (v := nI 10) dX6_step_175 (by decide) ?_
        refine J_aload_n (pc := 177) dX6_step_177 rfl ?_
        refine J_getI (pc := 178) dX6_step_178 fX6_82 sh131 rfl ((j_up_o (by omega)).trans j_up_s) ?_
        refine J_imul (pc := 181) dX6_step_181 (rfl) ?_
        refine J_aload_n (pc := 182) dX6_step_182 rfl ?_
        refine J_aload_n (pc := 183) dX6_step_183 rfl ?_
        refine J_getI (pc := 184) dX6_step_184 fX6_75 sh131 rfl (j_up_s) ?_
        refine K_Vi1 (pc := 187) (Y' := YX6_byteAt) dX6_step_187 lX6_78 mX6_byteAt vX6_byteAt ⟨_, _, rfl⟩ sh131 (Nat.le_of_ble_eq_true rfl) (c6_byteAt (L := L) (t := t) (k := (p + k)) (hT.rf (rfm_up (rfm_up rfm.rf (by omega) (by omega)) (by omega) (by omega))) (by omega)) ?_
        rintro x h0 ⟨rfl, rfl⟩
        refine J_iadd (pc := 190) dX6_step_190 (rfl) ?_
        refine J_bipush (pc := 191) (v := nI 48) dX6_step_191 (by decide) ?_
        refine J_isub (pc := 193) dX6_step_193 (rfl) ?_
        refine J_goto (pc := 194) (tgt := 201) dX6_step_194 (by decide) ?_
        refine J_putI (pc := 201) dX6_step_201 fX6_82 sh131 rfl ?_
        refine J_aload_n (pc := 204) dX6_step_204 rfl ?_
        refine J_dup (pc := 205) dX6_step_205 rfl ?_
        refine J_getI (pc := 206) dX6_step_206 fX6_75 sh131 rfl ((j_up_o (by omega)).trans j_up_s) ?_
        refine J_iconst (pc := 209) (v := nI 1) dX6_step_209 (by decide) ?_
        refine J_iadd (pc := 210) dX6_step_210 (nI_add _ _) ?_
        refine J_putI (pc := 211) dX6_step_211 fX6_75 sh131 rfl ?_
        rw [j_up_u4]
        rw [byF_i z3, nv2_s z4]
        refine J_goto (pc := 214) (tgt := 140) dX6_step_214 (by decide) ?_
        exact J_ls (ls' := [(0, .ref 131)]) ⟨rfl, trivial⟩ (ih (k + 1)  (by omega) (by omega) )
    · skip
      have z2 : ¬ k < q - p := fun z => b155 (byF_fg.mpr (a3 (p + k) (by omega) (by omega)))
      refine J_if_eq (pc := 158) (tgt := 217) dX6_step_158 (by decide) (fun _ => ?_) (fun c => absurd c (by decide))
      have e_k : k = (q - p) := by omega
      refine J_ls (ls' := [(0, .ref 131)]) ⟨rfl, trivial⟩ ?_
      rw [e_k]
      exact kx
set_option maxHeartbeats 400000 in
theorem c6_step0 {g : jG} {d : Nat} {h : jH} {L s : Nat} {t : Nat → Int32} (hT : RP L t h) (hsL : s ≤ L) (h2 : h 131 12 = nI s) (h6 : h 131 10 = nI 0) : Mv g (d + 1) YX6_step h [.ref 131] (fun h' => RT L (nrm (0, tk L t s)) h' ∧ rfm h h') := by
  refine M.of (by decide) rfl (Nat.le_of_ble_eq_true rfl) ?_
  obtain ⟨p, hp⟩ : ∃ p, scan (spB L t) 161 s = p := ⟨_, rfl⟩
  have ht : ∀ i, i < L → nI 0 ≤ t i := fun i hi => (hT.2.2 i hi).2
  obtain ⟨a1, a2, a3, a4⟩ := scan_ex (m := 161) (s := s) (fun j => spB_l (L := L) (t := t) (k := j)) hsL (by have := hT.2.1; omega)
  rw [hp] at a1 a2 a3 a4
  have hL := hT.2.1
  have T3 : RP L t (j_up (j_up (j_up h 131 12 (nI p)) 131 13 (nI p)) 131 15 (nI 0)) := hT.rf (rfm_up (rfm_up (rfm_up rfm.rf (by omega) (by omega)) (by omega) (by omega)) (by omega) (by omega))
  have kN : ltB L t p = true → K g (d + 1) YX6_step (j_up (j_up (j_up h 131 12 (nI p)) 131 13 (nI p)) 131 15 (nI 0)) 84 [(0, .ref 131)] [] (fun r h' => r = none ∧ RT L (nrm (0, tk L t s)) h' ∧ rfm h h') := fun el => by
    obtain ⟨b1, b2, b3, b4⟩ := scan_ex (m := 161) (s := p) (fun j => ltB_l (L := L) (t := t) (k := j)) a2 (by omega)
    have q59 : p < L := ltB_l el
    have e1 : j_up (j_up (j_up h 131 12 (nI p)) 131 13 (nI p)) 131 15 (nI 0) = j_up (j_up (j_up (j_up h 131 12 (nI p)) 131 13 (nI p)) 131 15 (nI 0)) 131 12 (nI (p + 0)) := (j_up_id (by simp [j_up])).symm
    rw [e1]
    refine l6_lets T3 a2 rfl ?_ (scan (ltB L t) 161 p - p + 1) 0 (Nat.zero_le _) (by omega)
    rw [show p + (scan (ltB L t) 161 p - p) = scan (ltB L t) 161 p by omega]
    refine J_aload_n (pc := 118) dX6_step_118 rfl ?_
    refine J_iconst (pc := 119) (v := nI 1) dX6_step_119 (by decide) ?_
    refine J_putI (pc := 120) dX6_step_120 fX6_72 sh131 rfl ?_
    refine J_goto (pc := 123) (tgt := 269) dX6_step_123 (by decide) ?_
    refine K_ret (pc := 269) dX6_step_269 rfl ?_
    have hb : bT L (tk L t s) := (tk_b hsL hL).1
    rw [tk_name hp (by omega) el rfl] at hb ⊢
    rw [nrm_g (by show (1 : Nat) ≠ 4; decide)]
    refine ⟨⟨?_, ?_, hb, Nat.zero_le _, ?_, fun z => ?_, fun z => ?_⟩, rfm_up (rfm_up (rfm_up (rfm_up (rfm_up (rfm.rf) (by omega) (by omega)) (by omega) (by omega)) (by omega) (by omega)) (by omega) (by omega)) (by omega) (by omega)⟩
    · simp [j_up]
    · simp [j_up]
    · simp [j_up, h6]
    · exact ⟨by simp [j_up], fun z => absurd z (by show ¬ (1 : Nat) = 2; decide), by show (1 : Nat) ≠ 4; decide⟩
    · exact absurd rfl z
  have kF : ¬ ltB L t p = true → fgB L t p = true → K g (d + 1) YX6_step (j_up (j_up (j_up h 131 12 (nI p)) 131 13 (nI p)) 131 15 (nI 0)) 140 [(0, .ref 131)] [] (fun r h' => r = none ∧ RT L (nrm (0, tk L t s)) h' ∧ rfm h h') := fun el ef => by
    obtain ⟨q, hq⟩ : ∃ q, scan (fgB L t) 161 p = q := ⟨_, rfl⟩
    obtain ⟨b1, b2, b3, b4⟩ := scan_ex (m := 161) (s := p) (fun j => fgB_l (L := L) (t := t) (k := j)) a2 (by omega)
    rw [hq] at b1 b2 b3 b4
    have q59 : p < L := fgB_l ef
    have e1 : j_up (j_up (j_up h 131 12 (nI p)) 131 13 (nI p)) 131 15 (nI 0) = j_up (j_up (j_up (j_up (j_up h 131 12 (nI p)) 131 13 (nI p)) 131 15 (nI 0)) 131 15 (nv2 t p 0)) 131 12 (nI (p + 0)) := by rw [j_up_id (h := j_up (j_up (j_up h 131 12 (nI p)) 131 13 (nI p)) 131 15 (nI 0)) (show (j_up (j_up (j_up h 131 12 (nI p)) 131 13 (nI p)) 131 15 (nI 0)) 131 15 = nv2 t p 0 from j_up_s)]; exact (j_up_id (by simp [j_up])).symm
    rw [e1]
    refine l6_figs T3 a2 hq (by simp [j_up]) ?_ (q - p + 1) 0 (Nat.zero_le _) (by omega)
    rw [show p + (q - p) = q by omega]
    refine J_aload_n (pc := 217) dX6_step_217 rfl ?_
    refine J_iconst (pc := 218) (v := nI 2) dX6_step_218 (by decide) ?_
    refine J_putI (pc := 219) dX6_step_219 fX6_72 sh131 rfl ?_
    refine J_aload_n (pc := 222) dX6_step_222 rfl ?_
    refine J_getI (pc := 223) dX6_step_223 fX6_75 sh131 rfl ((j_up_o (by omega)).trans j_up_s) ?_
    refine J_aload_n (pc := 226) dX6_step_226 rfl ?_
    refine J_getI (pc := 227) dX6_step_227 fX6_66 sh131 rfl ((j_up_o (by omega)).trans ((j_up_o (by omega)).trans ((j_up_o (by omega)).trans ((j_up_o (by omega)).trans j_up_s)))) ?_
    refine J_isub (pc := 230) dX6_step_230 (nIsub (by omega) (by omega)) ?_
    refine J_iconst (pc := 231) (v := nI 2) dX6_step_231 (by decide) ?_
    refine J_icmp_le (pc := 232) (tgt := 269) dX6_step_232 (by decide) (fun c232 => ?_) (fun c232 => ?_)
    · skip
      have q232 : q - p ≤ 2 := (nI_leI (by omega) (by omega)).mp c232
      refine K_ret (pc := 269) dX6_step_269 rfl ?_
      have hb : bT L (tk L t s) := (tk_b hsL hL).1
      rw [tk_num hp (by omega) el ef hq, if_pos q232] at hb ⊢
      rw [nrm_g (by show (2 : Nat) ≠ 4; decide)]
      refine ⟨⟨?_, ?_, hb, Nat.zero_le _, ?_, fun z => ?_, fun z => ?_⟩, rfm_up (rfm_up (rfm_up (rfm_up (rfm_up (rfm_up (rfm.rf) (by omega) (by omega)) (by omega) (by omega)) (by omega) (by omega)) (by omega) (by omega)) (by omega) (by omega)) (by omega) (by omega)⟩
      · simp [j_up]
      · simp [j_up]
      · simp [j_up, h6]
      · exact ⟨by simp [j_up], fun z => by simp [j_up, nv2_e q232], by show (2 : Nat) ≠ 4; decide⟩
      · exact absurd rfl z
    · skip
      have q232 : ¬ q - p ≤ 2 := fun z => c232 ((nI_leI (by omega) (by omega)).mpr z)
      refine J_aload_n (pc := 235) dX6_step_235 rfl ?_
      refine J_iconst (pc := 236) (v := nI 1) dX6_step_236 (by decide) ?_
      refine K_Vv1 (pc := 237) (Y' := YX6_fails) dX6_step_237 lX6_93 mX6_fails vX6_fails ⟨_, _, rfl⟩ sh131 (Nat.le_of_ble_eq_true rfl) (c6_fails (c := 1)) ?_
      rintro h1 rfl
      refine J_goto (pc := 240) (tgt := 269) dX6_step_240 (by decide) ?_
      refine K_ret (pc := 269) dX6_step_269 rfl ?_
      have hb : bT L (tk L t s) := (tk_b hsL hL).1
      rw [tk_num hp (by omega) el ef hq, if_neg q232] at hb ⊢
      rw [nrm, sRef_y (decide_eq_true rfl) rfl]
      refine ⟨⟨?_, ?_, hb, by show 1 ≤ 6; decide, ?_, fun z => absurd z (by show ¬ (1 : Nat) = 0; decide), fun z => ?_⟩, (rfm_up (rfm_up (rfm_up (rfm_up (rfm_up (rfm_up (rfm.rf) (by omega) (by omega)) (by omega) (by omega)) (by omega) (by omega)) (by omega) (by omega)) (by omega) (by omega)) (by omega) (by omega)).tr flH_rf⟩
      · simp [flH, j_up, h6, nI0]
      · simp [flH, j_up, h6, nI0]
      · simp [flH, j_up, h6, nI0]
      · simp [flH, j_up, h6, nI0]
  have e0 : K g (d + 1) YX6_step (j_up h 131 12 (nI (s + 0))) 8 [(0, .ref 131)] [] (fun r h' => r = none ∧ RT L (nrm (0, tk L t s)) h' ∧ rfm h h') := by
    refine l6_skip hT hsL hp ?_ (p - s + 1) 0 (Nat.zero_le _) (by omega)
    rw [show s + (p - s) = p by omega]
    refine J_aload_n (pc := 34) dX6_step_34 rfl ?_
    refine J_aload_n (pc := 35) dX6_step_35 rfl ?_
    refine J_getI (pc := 36) dX6_step_36 fX6_75 sh131 rfl (j_up_s) ?_
    refine J_putI (pc := 39) dX6_step_39 fX6_66 sh131 rfl ?_
    refine J_aload_n (pc := 42) dX6_step_42 rfl ?_
    refine J_aload_n (pc := 43) dX6_step_43 rfl ?_
    refine J_getI (pc := 44) dX6_step_44 fX6_75 sh131 rfl ((j_up_o (by omega)).trans j_up_s) ?_
    refine K_Vi1 (pc := 47) (Y' := YX6_byteAt) dX6_step_47 lX6_78 mX6_byteAt vX6_byteAt ⟨_, _, rfl⟩ sh131 (Nat.le_of_ble_eq_true rfl) (c6_byteAt (L := L) (t := t) (k := p) (hT.rf (rfm_up (rfm_up rfm.rf (by omega) (by omega)) (by omega) (by omega))) (by omega)) ?_
    rintro x h0 ⟨rfl, rfl⟩
    refine J_istore_n (pc := 50) dX6_step_50 (by decide) ?_
    refine J_aload_n (pc := 51) dX6_step_51 rfl ?_
    refine J_iconst (pc := 52) (v := nI 0) dX6_step_52 (by decide) ?_
    refine J_putI (pc := 53) dX6_step_53 fX6_82 sh131 rfl ?_
    refine J_iload_n (pc := 56) dX6_step_56 rfl ?_
    refine J_bipush (pc := 57) (v := -4) dX6_step_57 (by decide) ?_
    refine J_icmp_ne (pc := 59) (tgt := 70) dX6_step_59 (by decide) (fun c59 => ?_) (fun c59 => ?_)
    · skip
      have q59 : p < L := Nat.lt_of_not_le (fun z => c59 ((byF_end ht).mpr z))
      refine J_iload_n (pc := 70) dX6_step_70 rfl ?_
      refine J_i2l (pc := 71) dX6_step_71 (rfl) ?_
      refine J_ldc2 (pc := 72) dX6_step_72 kX6_85 ?_
      refine J_ldc2 (pc := 75) dX6_step_75 kX6_87 ?_
      refine K_Si3 (pc := 78) (Y' := YX6_in) dX6_step_78 lX6_55 mX6_in sX6_in (Nat.le_of_ble_eq_true rfl) (c6_inI (byF L t p) (nI 97) (nI 122) rfl (by decide) (by decide)) ?_
      rintro x h0 ⟨e0, ⟨rfl, b78⟩ | ⟨rfl, b78⟩⟩ <;> rw [e0] <;> clear e0 h0
      · skip
        have el : ltB L t p = true := byF_lt.mp b78
        refine J_if_eq (pc := 81) (tgt := 126) dX6_step_81 (by decide) (fun c => absurd c (by decide)) (fun _ => ?_)
        exact J_ls (ls' := [(0, .ref 131)]) ⟨rfl, trivial⟩ (kN el)
      · skip
        have el : ¬ ltB L t p = true := fun z => b78 (byF_lt.mpr z)
        refine J_if_eq (pc := 81) (tgt := 126) dX6_step_81 (by decide) (fun _ => ?_) (fun c => absurd c (by decide))
        refine J_iload_n (pc := 126) dX6_step_126 rfl ?_
        refine J_i2l (pc := 127) dX6_step_127 (rfl) ?_
        refine J_ldc2 (pc := 128) dX6_step_128 kX6_89 ?_
        refine J_ldc2 (pc := 131) dX6_step_131 kX6_91 ?_
        refine K_Si3 (pc := 134) (Y' := YX6_in) dX6_step_134 lX6_55 mX6_in sX6_in (Nat.le_of_ble_eq_true rfl) (c6_inI (byF L t p) (nI 48) (nI 57) rfl (by decide) (by decide)) ?_
        rintro x h0 ⟨e0, ⟨rfl, b134⟩ | ⟨rfl, b134⟩⟩ <;> rw [e0] <;> clear e0 h0
        · skip
          have ef : fgB L t p = true := byF_fg.mp b134
          refine J_if_eq (pc := 137) (tgt := 243) dX6_step_137 (by decide) (fun c => absurd c (by decide)) (fun _ => ?_)
          exact J_ls (ls' := [(0, .ref 131)]) ⟨rfl, trivial⟩ (kF el ef)
        · skip
          have ef : ¬ fgB L t p = true := fun z => b134 (byF_fg.mpr z)
          refine J_if_eq (pc := 137) (tgt := 243) dX6_step_137 (by decide) (fun _ => ?_) (fun c => absurd c (by decide))
          refine J_aload_n (pc := 243) dX6_step_243 rfl ?_
          refine J_iconst (pc := 244) (v := nI 3) dX6_step_244 (by decide) ?_
          refine J_putI (pc := 245) dX6_step_245 fX6_72 sh131 rfl ?_
          refine J_aload_n (pc := 248) dX6_step_248 rfl ?_
          refine J_dup (pc := 249) dX6_step_249 rfl ?_
          refine J_getI (pc := 250) dX6_step_250 fX6_75 sh131 rfl ((j_up_o (by omega)).trans ((j_up_o (by omega)).trans ((j_up_o (by omega)).trans j_up_s))) ?_
          refine J_iconst (pc := 253) (v := nI 1) dX6_step_253 (by decide) ?_
          refine J_iadd (pc := 254) dX6_step_254 (nI_add _ _) ?_
          refine J_putI (pc := 255) dX6_step_255 fX6_75 sh131 rfl ?_
          refine J_iload_n (pc := 258) dX6_step_258 rfl ?_
          refine J_bipush (pc := 259) (v := nI 59) dX6_step_259 (by decide) ?_
          refine J_icmp_eq (pc := 261) (tgt := 269) dX6_step_261 (by decide) (fun c261 => ?_) (fun c261 => ?_)
          · skip
            rw [byF_i q59] at c261
            refine K_ret (pc := 269) dX6_step_269 rfl ?_
            have hb : bT L (tk L t s) := (tk_b hsL hL).1
            rw [tk_sign hp (by omega) el ef, if_pos c261] at hb ⊢
            rw [nrm_g (by show (3 : Nat) ≠ 4; decide)]
            refine ⟨⟨?_, ?_, hb, Nat.zero_le _, ?_, fun z => ?_, fun z => ?_⟩, rfm_up (rfm_up (rfm_up (rfm_up (rfm_up (rfm.rf) (by omega) (by omega)) (by omega) (by omega)) (by omega) (by omega)) (by omega) (by omega)) (by omega) (by omega)⟩
            · simp [j_up]
            · simp [j_up]
            · simp [j_up, h6]
            · exact ⟨by simp [j_up], fun z => absurd z (by show ¬ (3 : Nat) = 2; decide), by show (3 : Nat) ≠ 4; decide⟩
            · exact absurd rfl z
          · skip
            rw [byF_i q59] at c261
            refine J_aload_n (pc := 264) dX6_step_264 rfl ?_
            refine J_iconst (pc := 265) (v := nI 1) dX6_step_265 (by decide) ?_
            refine K_Vv1 (pc := 266) (Y' := YX6_fails) dX6_step_266 lX6_93 mX6_fails vX6_fails ⟨_, _, rfl⟩ sh131 (Nat.le_of_ble_eq_true rfl) (c6_fails (c := 1)) ?_
            rintro h1 rfl
            refine K_ret (pc := 269) dX6_step_269 rfl ?_
            have hb : bT L (tk L t s) := (tk_b hsL hL).1
            rw [tk_sign hp (by omega) el ef, if_neg c261] at hb ⊢
            rw [nrm, sRef_y (decide_eq_true rfl) rfl]
            refine ⟨⟨?_, ?_, hb, by show 1 ≤ 6; decide, ?_, fun z => absurd z (by show ¬ (1 : Nat) = 0; decide), fun z => ?_⟩, (rfm_up (rfm_up (rfm_up (rfm_up (rfm_up (rfm.rf) (by omega) (by omega)) (by omega) (by omega)) (by omega) (by omega)) (by omega) (by omega)) (by omega) (by omega)).tr flH_rf⟩
            · simp [flH, j_up, h6, nI0]
            · simp [flH, j_up, h6, nI0]
            · simp [flH, j_up, h6, nI0]
            · simp [flH, j_up, h6, nI0]
    · skip
      have q59 : L ≤ p := (byF_end ht).mp c59
      refine J_aload_n (pc := 62) dX6_step_62 rfl ?_
      refine J_iconst (pc := 63) (v := nI 0) dX6_step_63 (by decide) ?_
      refine J_putI (pc := 64) dX6_step_64 fX6_72 sh131 rfl ?_
      refine J_goto (pc := 67) (tgt := 269) dX6_step_67 (by decide) ?_
      refine K_ret (pc := 269) dX6_step_269 rfl ?_
      have hb : bT L (tk L t s) := (tk_b hsL hL).1
      rw [tk_end hp q59] at hb ⊢
      rw [nrm_g (by show (0 : Nat) ≠ 4; decide)]
      refine ⟨⟨?_, ?_, hb, Nat.zero_le _, ?_, fun z => ?_, fun z => ?_⟩, rfm_up (rfm_up (rfm_up (rfm_up (rfm.rf) (by omega) (by omega)) (by omega) (by omega)) (by omega) (by omega)) (by omega) (by omega)⟩
      · simp [j_up]
      · simp [j_up]
      · simp [j_up, h6]
      · exact ⟨by simp [j_up], fun z => absurd z (by show ¬ (0 : Nat) = 2; decide), by show (0 : Nat) ≠ 4; decide⟩
      · exact absurd rfl z
  refine J_aload_n (pc := 0) dX6_step_0 rfl ?_
  refine J_getI (pc := 1) dX6_step_1 fX6_63 sh131 rfl (h6) ?_
  refine J_if_le (pc := 4) (tgt := 8) dX6_step_4 (by decide) (fun _ => ?_) (fun c => absurd c (by decide))
  rw [show s + 0 = s from rfl, j_up_id h2] at e0
  exact e0
set_option maxHeartbeats 400000 in
theorem c6_step {g : jG} {d : Nat} {h : jH} {L : Nat} {t : Nat → Int32} {s : sS} (hT : RP L t h) (hs : RT L s h) : Mv g (d + 1) YX6_step h [.ref 131] (fun h' => RT L (nrm (sAdv L t s)) h' ∧ rfm h h') := by
  by_cases z : s.1 = 0
  · rw [sAdv_g z]
    exact c6_step0 hT hs.2.2.1.2.1 hs.1 (by rw [hs.2.2.2.2.1, z])
  refine M.of (by decide) rfl (Nat.le_of_ble_eq_true rfl) ?_
  refine J_aload_n (pc := 0) dX6_step_0 rfl ?_
  refine J_getI (pc := 1) dX6_step_1 fX6_63 sh131 rfl (hs.2.2.2.2.1) ?_
  refine J_if_le (pc := 4) (tgt := 8) dX6_step_4 (by decide) (fun c4 => ?_) (fun c4 => ?_)
  · skip
    exact absurd c4 (fun c => z (by have := (nI_leI (b := 0) (by have := hs.2.2.2.1; omega) (by omega)).mp c; omega))
  · skip
    refine K_ret (pc := 7) dX6_step_7 rfl ?_
    rw [sAdv_f z, nrm_f z]
    exact ⟨hs, rfm.rf⟩
