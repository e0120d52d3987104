set_option maxHeartbeats 4000000 in
theorem c0_begin {g : jG} {d : Nat} {h : jH} {q : Int32} : Mv g d YX0_begin h [.ref 59, .int q] (fun h' => h' = j_up (j_up h 59 5 (-4)) 59 6 q) := by
  refine M.of (by decide) rfl (Nat.le_of_ble_eq_true rfl) ?_
  refine J_aload_n (pc := 0) dX0_begin_0 rfl ?_
  refine J_bipush (pc := 1) (v := -4) dX0_begin_1 (by decide) ?_
  refine J_putI (pc := 3) dX0_begin_3 fX0_120 sh59 rfl ?_
  refine J_aload_n (pc := 6) dX0_begin_6 rfl ?_
  refine J_iload_n (pc := 7) dX0_begin_7 rfl ?_
  refine J_putI (pc := 8) dX0_begin_8 fX0_123 sh59 rfl ?_
  refine K_ret (pc := 11) dX0_begin_11 rfl ?_
  exact rfl
set_option maxHeartbeats 4000000 in
theorem c0_offerMore {g : jG} {d : Nat} {h : jH} {n q : Nat} {P : Nat → Int32} {b w : Int32} (hG : GD n P) (hq : q ≤ 4) (hT : TR n P h) (h0 : nd n h 0 P) (hb : h 59 5 = b) (hm : h 59 6 = nI q) : Mv g (d + 5) YX0_offerMore h [.ref 59, .int w] (fun h' => TR n P h' ∧ nd n h' 0 P ∧ h' 59 5 = (bestF (b, q) w (pop (sfN n P 3))).1 ∧ h' 59 6 = nI (bestF (b, q) w (pop (sfN n P 3))).2 ∧ ∀ b, (b < 59 ∨ 79 ≤ b) → h' b = h b) := by
  refine M.of (by decide) rfl (Nat.le_of_ble_eq_true rfl) ?_
  refine J_aload_n (pc := 0) dX0_offerMore_0 rfl ?_
  refine J_iconst (pc := 1) (v := nI 3) dX0_offerMore_1 (by decide) ?_
  refine J_aload_n (pc := 2) dX0_offerMore_2 rfl ?_
  refine J_getI (pc := 3) dX0_offerMore_3 fX0_123 sh59 rfl (hm) ?_
  refine K_Vi2 (pc := 6) (Y' := YX0_safeBits) dX0_offerMore_6 lX0_96 mX0_safeBits vX0_safeBits ⟨_, _, rfl⟩ sh59 (Nat.le_of_ble_eq_true rfl) (c0_safeBits (few := q) hG (by omega) (by omega) hT h0) ?_
  rintro r h2 ⟨k, rfl, k16, hk, t2, n2, hf⟩
  have p4k := pop_4 k k16
  refine K_Si1 (pc := 9) (Y' := YJ6_bitCount_0f7a4) dX0_offerMore_9 lX0_85 mJ6_bitCount_0f7a4 sJ6_bitCount_0f7a4 (Nat.le_of_ble_eq_true rfl) (cJ6_bitCount (k := k) (k16)) ?_
  rintro r h0 ⟨e0, rfl⟩
  rw [e0]
  clear e0 h0
  refine J_istore_n (pc := 12) dX0_offerMore_12 (by decide) ?_
  refine J_iload_n (pc := 13) dX0_offerMore_13 rfl ?_
  refine J_aload_n (pc := 14) dX0_offerMore_14 rfl ?_
  refine J_getI (pc := 15) dX0_offerMore_15 fX0_123 sh59 rfl ((congrFun (hf 59 (by omega)) 6).trans hm) ?_
  refine J_icmp_le (pc := 18) (tgt := 31) dX0_offerMore_18 (by decide) (fun c18 => ?_) (fun c18 => ?_)
  · skip
    have q18 : pop k ≤ q := (nI_leI (by omega) (by omega)).mp c18
    refine K_ret (pc := 31) dX0_offerMore_31 rfl ?_
    have e : bestF (b, q) w (pop (sfN n P 3)) = (b, q) := by
      unfold bestF
      rw [if_neg]
      rcases hk with z | z
      · rw [← z]; exact Nat.not_lt.mpr q18
      · exact Nat.not_lt.mpr z.2
    rw [e]
    exact ⟨t2, n2, (congrFun (hf 59 (by omega)) 5).trans hb, (congrFun (hf 59 (by omega)) 6).trans hm, fun b hb => hf b (by omega)⟩
  · skip
    have q18 : ¬ pop k ≤ q := fun z => c18 ((nI_leI (by omega) (by omega)).mpr z)
    refine J_aload_n (pc := 21) dX0_offerMore_21 rfl ?_
    refine J_iload_n (pc := 22) dX0_offerMore_22 rfl ?_
    refine J_putI (pc := 23) dX0_offerMore_23 fX0_120 sh59 rfl ?_
    refine J_aload_n (pc := 26) dX0_offerMore_26 rfl ?_
    refine J_iload_n (pc := 27) dX0_offerMore_27 rfl ?_
    refine J_putI (pc := 28) dX0_offerMore_28 fX0_123 sh59 rfl ?_
    refine K_ret (pc := 31) dX0_offerMore_31 rfl ?_
    have ek : k = sfN n P 3 := hk.elim id (fun z => absurd z.1 q18)
    have e : bestF (b, q) w (pop (sfN n P 3)) = (w, pop (sfN n P 3)) := by
      unfold bestF
      rw [← ek]
      exact if_pos (Nat.lt_of_not_le q18)
    rw [e, ← ek]
    refine ⟨TR_congr hG t2 (fun b h1 h3 => by rw [j_up_ne b (by omega), j_up_ne b (by omega)]), nd_congr n2 (by rw [j_up_ne 78 (by omega), j_up_ne 78 (by omega)]), ?_, j_up_s, fun b hb => ?_⟩
    · rw [j_up_o (by omega), j_up_s]
    · rw [j_up_ne b (by omega), j_up_ne b (by omega)]; exact hf b (by omega)
set_option maxHeartbeats 4000000 in
theorem c0_found {g : jG} {d : Nat} {h : jH} {S : Int32 × Nat} {x : Int32} (hb : h 59 5 = S.1) (hm : h 59 6 = nI S.2) : Mi g d YX0_found h [.ref 59, .int x] (fun r h' => h' = h ∧ r = foundF S x) := by
  refine M.of (by decide) rfl (Nat.le_of_ble_eq_true rfl) ?_
  refine J_aload_n (pc := 0) dX0_found_0 rfl ?_
  refine J_getI (pc := 1) dX0_found_1 fX0_120 sh59 rfl (hb) ?_
  refine J_bipush (pc := 4) (v := -4) dX0_found_4 (by decide) ?_
  refine J_icmp_eq (pc := 6) (tgt := 13) dX0_found_6 (by decide) (fun c6 => ?_) (fun c6 => ?_)
  · skip
    refine J_aload_n (pc := 13) dX0_found_13 rfl ?_
    refine J_getI (pc := 14) dX0_found_14 fX0_120 sh59 rfl (hb) ?_
    refine J_goto (pc := 17) (tgt := 24) dX0_found_17 (by decide) ?_
    refine K_iret (pc := 24) dX0_found_24 rfl ?_
    exact ⟨rfl, (iteP_t (Or.inl c6)).symm⟩
  · skip
    refine J_iload_n (pc := 9) dX0_found_9 rfl ?_
    refine J_if_ne (pc := 10) (tgt := 20) dX0_found_10 (by decide) (fun c10 => ?_) (fun c10 => ?_)
    · skip
      refine J_aload_n (pc := 20) dX0_found_20 rfl ?_
      refine J_getI (pc := 21) dX0_found_21 fX0_123 sh59 rfl (hm) ?_
      refine K_iret (pc := 24) dX0_found_24 rfl ?_
      exact ⟨rfl, (iteP_f (fun z => z.elim c6 c10)).symm⟩
    · skip
      refine J_aload_n (pc := 13) dX0_found_13 rfl ?_
      refine J_getI (pc := 14) dX0_found_14 fX0_120 sh59 rfl (hb) ?_
      refine J_goto (pc := 17) (tgt := 24) dX0_found_17 (by decide) ?_
      refine K_iret (pc := 24) dX0_found_24 rfl ?_
      exact ⟨rfl, (iteP_t (Or.inr c10)).symm⟩
set_option maxHeartbeats 4000000 in
theorem l0_more {g : jG} {d : Nat} {h : jH} {Q : kQ} {n o : Nat} {P : Nat → Int32} {pay : Int32} (hG : GD n P) (h5 : ix (P 37) < 5) (hpay : nb 21 pay) (kx : ∀ (hh : jH), (TH n P pay hh ∧ nd n hh 0 P ∧ hh 59 5 = (hpF n P pay 64).1 ∧ hh 59 6 = nI (hpF n P pay 64).2 ∧ ∀ b, (b < 59 ∨ 79 ≤ b) → hh b = h b) → K g (d + 6) YX0_searchMore (hh) 160 [(0, .ref 59), (1, .ref o), (2, .int pay), (3, .int (nI (ix (P 37)))), (4, .int (nI 64))] [] Q) : ∀ (mm k : Nat) (hh : jH), k ≤ 64 → 64 < k + mm → (TH n P pay hh ∧ nd n hh 0 P ∧ hh 59 5 = (hpF n P pay k).1 ∧ hh 59 6 = nI (hpF n P pay k).2 ∧ ∀ b, (b < 59 ∨ 79 ≤ b) → hh b = h b) → K g (d + 6) YX0_searchMore (hh) 41 [(0, .ref 59), (1, .ref o), (2, .int pay), (3, .int (nI (ix (P 37)))), (4, .int (nI k))] [] Q := by
  intro mm
  induction mm with
  | zero => intro k hh hk1 hk2 hI; omega
  | succ mm ih =>
    intro k hh hk1 hk2 hI
    have hn := hG.1.1
    have ppl : hh 60 0 = nI n := by obtain ⟨Q, hQ, -⟩ := hI.1; exact hQ.1
    have h4 := hpF_4 (P := P) (pay := pay) hn k
    refine J_iload (pc := 41) dX0_searchMore_41 rfl ?_
    refine J_bipush (pc := 43) (v := nI 64) dX0_searchMore_43 (by decide) ?_
    refine J_icmp_ge (pc := 45) (tgt := 160) dX0_searchMore_45 (by decide) (fun c45 => ?_) (fun c45 => ?_)
    · skip
      have q45 : 64 ≤ k := (nI_leI (by omega) (by omega)).mp c45
      have e_k : k = 64 := by omega
      refine J_ls (ls' := [(0, .ref 59), (1, .ref o), (2, .int pay), (3, .int (nI (ix (P 37)))), (4, .int (nI k))]) ⟨rfl, rfl, rfl, rfl, rfl, trivial⟩ ?_
      rw [e_k] at hI ⊢
      exact kx hh hI
    · skip
      have q45 : k < 64 := Nat.lt_of_not_le (fun z => c45 ((nI_leI (by omega) (by omega)).mpr z))
      refine J_iload (pc := 48) dX0_searchMore_48 rfl ?_
      refine J_iconst (pc := 50) (v := nI 4) dX0_searchMore_50 (by decide) ?_
      refine J_ishr (pc := 51) dX0_searchMore_51 (shr16 (by omega)) ?_
      refine J_istore (pc := 52) dX0_searchMore_52 (by decide) ?_
      refine J_iload (pc := 54) dX0_searchMore_54 rfl ?_
      refine J_iconst (pc := 56) (v := nI 2) dX0_searchMore_56 (by decide) ?_
      refine J_ishr (pc := 57) dX0_searchMore_57 (shr2 (by omega)) ?_
      refine J_iconst (pc := 58) (v := nI 3) dX0_searchMore_58 (by decide) ?_
      refine J_iand (pc := 59) dX0_searchMore_59 (and3 (by omega)) ?_
      refine J_istore (pc := 60) dX0_searchMore_60 (by decide) ?_
      refine J_iload (pc := 62) dX0_searchMore_62 rfl ?_
      refine J_iload (pc := 64) dX0_searchMore_64 rfl ?_
      refine J_icmp_eq (pc := 66) (tgt := 154) dX0_searchMore_66 (by decide) (fun c66 => ?_) (fun c66 => ?_)
      · skip
        have q66 : k / 16 = k / 4 % 4 := (nI_eq (by omega) (by omega)).mp c66
        refine J_iinc (pc := 154) dX0_searchMore_154 rfl (v := nI (k + 1)) (by exact nI_add _ _) (by decide) ?_
        refine J_goto (pc := 157) (tgt := 41) dX0_searchMore_157 (by decide) ?_
        have i := ih (k + 1) hh (by omega) (by omega)
        rw [show hpF n P pay (k + 1) = hpF n P pay k from if_neg (fun z => z.2.2 q66)] at i
        refine J_ls ?_ (i hI)
        exact ⟨rfl, rfl, rfl, rfl, rfl, trivial⟩
      · skip
        have q66 : ¬ k / 16 = k / 4 % 4 := fun z => c66 ((nI_eq (by omega) (by omega)).mpr z)
        refine J_iload (pc := 69) dX0_searchMore_69 rfl ?_
        refine J_aload_n (pc := 71) dX0_searchMore_71 rfl ?_
        refine J_getR (pc := 72) dX0_searchMore_72 fX0_12 sh59 rfl ?_
        refine J_getI (pc := 75) dX0_searchMore_75 fX0_82 (sv0 isV60) rfl (ppl) ?_
        refine J_icmp_ge (pc := 78) (tgt := 154) dX0_searchMore_78 (by decide) (fun c78 => ?_) (fun c78 => ?_)
        · skip
          have q78 : ¬ k / 16 < n := Nat.not_lt.mpr ((nI_leI (by omega) (by omega)).mp c78)
          refine J_iinc (pc := 154) dX0_searchMore_154 rfl (v := nI (k + 1)) (by exact nI_add _ _) (by decide) ?_
          refine J_goto (pc := 157) (tgt := 41) dX0_searchMore_157 (by decide) ?_
          have i := ih (k + 1) hh (by omega) (by omega)
          rw [show hpF n P pay (k + 1) = hpF n P pay k from if_neg (fun z => q78 z.1)] at i
          refine J_ls ?_ (i hI)
          exact ⟨rfl, rfl, rfl, rfl, rfl, trivial⟩
        · skip
          have q78 : k / 16 < n := Nat.lt_of_not_le (fun z => c78 ((nI_leI (by omega) (by omega)).mpr z))
          refine J_iload (pc := 81) dX0_searchMore_81 rfl ?_
          refine J_aload_n (pc := 83) dX0_searchMore_83 rfl ?_
          refine J_getR (pc := 84) dX0_searchMore_84 fX0_12 sh59 rfl ?_
          refine J_getI (pc := 87) dX0_searchMore_87 fX0_82 (sv0 isV60) rfl (ppl) ?_
          refine J_icmp_ge (pc := 90) (tgt := 154) dX0_searchMore_90 (by decide) (fun c90 => ?_) (fun c90 => ?_)
          · skip
            have q90 : ¬ k / 4 % 4 < n := Nat.not_lt.mpr ((nI_leI (by omega) (by omega)).mp c90)
            refine J_iinc (pc := 154) dX0_searchMore_154 rfl (v := nI (k + 1)) (by exact nI_add _ _) (by decide) ?_
            refine J_goto (pc := 157) (tgt := 41) dX0_searchMore_157 (by decide) ?_
            have i := ih (k + 1) hh (by omega) (by omega)
            rw [show hpF n P pay (k + 1) = hpF n P pay k from if_neg (fun z => q90 z.2.1)] at i
            refine J_ls ?_ (i hI)
            exact ⟨rfl, rfl, rfl, rfl, rfl, trivial⟩
          · skip
            have q90 : k / 4 % 4 < n := Nat.lt_of_not_le (fun z => c90 ((nI_leI (by omega) (by omega)).mpr z))
            refine J_aload_n (pc := 93) dX0_searchMore_93 rfl ?_
            refine J_getR (pc := 94) dX0_searchMore_94 fX0_12 sh59 rfl ?_
            refine J_getR (pc := 97) dX0_searchMore_97 fX0_110 (sv0 isV60) rfl ?_
            refine J_iconst (pc := 100) (v := nI 0) dX0_searchMore_100 (by decide) ?_
            refine J_aald (pc := 101) dX0_searchMore_101 (sv5 isV60) j_k2 (rfl) rfl (Nat.le_of_ble_eq_true rfl) ?_
            refine J_iload_n (pc := 102) dX0_searchMore_102 rfl ?_
            refine J_iload (pc := 103) dX0_searchMore_103 rfl ?_
            refine J_iast (pc := 105) dX0_searchMore_105 (sv6 isV60) (rfl) (by omega) (by decide) ?_
            refine J_aload_n (pc := 106) dX0_searchMore_106 rfl ?_
            refine J_getR (pc := 107) dX0_searchMore_107 fX0_12 sh59 rfl ?_
            refine J_getR (pc := 110) dX0_searchMore_110 fX0_110 (sv0 isV60) rfl ?_
            refine J_iconst (pc := 113) (v := nI 1) dX0_searchMore_113 (by decide) ?_
            refine J_aald (pc := 114) dX0_searchMore_114 (sv5 isV60) j_k2 (rfl) rfl (Nat.le_of_ble_eq_true rfl) ?_
            refine J_iload_n (pc := 115) dX0_searchMore_115 rfl ?_
            refine J_iload (pc := 116) dX0_searchMore_116 rfl ?_
            refine J_iast (pc := 118) dX0_searchMore_118 (sv7 isV60) (rfl) (by omega) (by decide) ?_
            refine J_aload_n (pc := 119) dX0_searchMore_119 rfl ?_
            refine J_getR (pc := 120) dX0_searchMore_120 fX0_12 sh59 rfl ?_
            refine J_getR (pc := 123) dX0_searchMore_123 fX0_110 (sv0 isV60) rfl ?_
            refine J_iconst (pc := 126) (v := nI 2) dX0_searchMore_126 (by decide) ?_
            refine J_aald (pc := 127) dX0_searchMore_127 (sv5 isV60) j_k2 (rfl) rfl (Nat.le_of_ble_eq_true rfl) ?_
            refine J_iload_n (pc := 128) dX0_searchMore_128 rfl ?_
            refine J_iload (pc := 129) dX0_searchMore_129 rfl ?_
            refine J_iconst (pc := 131) (v := nI 3) dX0_searchMore_131 (by decide) ?_
            refine J_iand (pc := 132) dX0_searchMore_132 (and3 (by omega)) ?_
            refine J_iast (pc := 133) dX0_searchMore_133 (sv8 isV60) (rfl) (by omega) (by decide) ?_
            refine J_aload_n (pc := 134) dX0_searchMore_134 rfl ?_
            refine J_bipush (pc := 135) (v := nI 100) dX0_searchMore_135 (by decide) ?_
            refine J_iload (pc := 137) dX0_searchMore_137 rfl ?_
            refine J_imul (pc := 139) dX0_searchMore_139 (pk_mul _ _) ?_
            refine J_bipush (pc := 140) (v := nI 10) dX0_searchMore_140 (by decide) ?_
            refine J_iload (pc := 142) dX0_searchMore_142 rfl ?_
            refine J_imul (pc := 144) dX0_searchMore_144 (pk_mul _ _) ?_
            refine J_iadd (pc := 145) dX0_searchMore_145 (nI_add _ _) ?_
            refine J_iload (pc := 146) dX0_searchMore_146 rfl ?_
            refine J_iconst (pc := 148) (v := nI 3) dX0_searchMore_148 (by decide) ?_
            refine J_iand (pc := 149) dX0_searchMore_149 (and3 (by omega)) ?_
            refine J_iadd (pc := 150) dX0_searchMore_150 (nI_add _ _) ?_
            refine K_Vv1 (pc := 151) (Y' := YX0_offerMore) dX0_searchMore_151 lX0_114 mX0_offerMore vX0_offerMore ⟨_, _, rfl⟩ sh59 (Nat.le_of_ble_eq_true rfl) (c0_offerMore (b := (hpF n P pay k).1) (q := (hpF n P pay k).2) (hp_gd hG h5 hpay q78 q90 q66) h4 (TH_TR hG h5 hI.1) (fun p hp => (show j_up (j_up (j_up hh (60 + 6) (ix (P 37)) (nI (k / 16))) (60 + 7) (ix (P 37)) (nI (k / 4 % 4))) (60 + 8) (ix (P 37)) (nI (k % 4)) 78 (4 * 0 + p) = hpP P pay k (8 + p) from (j_up_o (by omega)).trans ((j_up_o (by omega)).trans ((j_up_o (by omega)).trans ((hI.2.1 p hp).trans (addP_ne (by omega) (by omega)).symm))))) ((j_up_o (by omega)).trans ((j_up_o (by omega)).trans ((j_up_o (by omega)).trans hI.2.2.1))) ((j_up_o (by omega)).trans ((j_up_o (by omega)).trans ((j_up_o (by omega)).trans hI.2.2.2.1)))) ?_
            rintro h2 ⟨o1, o2, o3, o4, o5⟩
            refine J_iinc (pc := 154) dX0_searchMore_154 rfl (v := nI (k + 1)) (by exact nI_add _ _) (by decide) ?_
            refine J_goto (pc := 157) (tgt := 41) dX0_searchMore_157 (by decide) ?_
            have i := ih (k + 1) h2 (by omega) (by omega)
            rw [show hpF n P pay (k + 1) = bestF (hpF n P pay k) (nI (100 * (k / 16) + 10 * (k / 4 % 4) + k % 4)) (pop (sfN n (hpP P pay k) 3)) from if_pos ⟨q78, q90, q66⟩] at i
            refine J_ls ?_ (i ⟨TR_TH h5 o1, fun p hp => (o2 p hp).trans (addP_ne (by omega) (by omega)), o3, o4, fun b hb => ?_⟩)
            · exact ⟨rfl, rfl, rfl, rfl, rfl, trivial⟩
            · rw [o5 b hb, j_up_ne b (by omega), j_up_ne b (by omega), j_up_ne b (by omega)]
              exact hI.2.2.2.2 b hb
set_option maxHeartbeats 4000000 in
theorem c0_searchMore {g : jG} {d : Nat} {h : jH} {o n : Nat} {P : Nat → Int32} {pay : Int32} (ho : isV o) (hne : o ≠ 60) (hX : XV n P h o) (hG : GD n P) (h5 : ix (P 37) < 5) (hpay : nb 21 pay) : Mv g (d + 6) YX0_searchMore h [.ref 59, .ref o, .int pay] (fun h' => h' 59 5 = (hpF n P pay 64).1 ∧ h' 59 6 = nI (hpF n P pay 64).2 ∧ ∀ b, (b < 59 ∨ 79 ≤ b) → h' b = h b) := by
  refine M.of (by decide) rfl (Nat.le_of_ble_eq_true rfl) ?_
  refine J_aload_n (pc := 0) dX0_searchMore_0 rfl ?_
  refine J_aload_n (pc := 1) dX0_searchMore_1 rfl ?_
  refine K_Vv1 (pc := 2) (Y' := YX0_beginWith) dX0_searchMore_2 lX0_49 mX0_beginWith vX0_beginWith ⟨_, _, rfl⟩ sh59 (Nat.le_of_ble_eq_true rfl) (c0_beginWith ho hne hX hG.1.1 hG.1.2.2.1.2 hG.2.1.2) ?_
  rintro h1 ⟨g1, g2, g3⟩
  refine J_aload_n (pc := 5) dX0_searchMore_5 rfl ?_
  refine J_aload_n (pc := 6) dX0_searchMore_6 rfl ?_
  refine J_iconst (pc := 7) (v := nI 3) dX0_searchMore_7 (by decide) ?_
  refine J_iconst (pc := 8) (v := nI 0) dX0_searchMore_8 (by decide) ?_
  refine K_Vi2 (pc := 9) (Y' := YX0_safeBits) dX0_searchMore_9 lX0_96 mX0_safeBits vX0_safeBits ⟨_, _, rfl⟩ sh59 (Nat.le_of_ble_eq_true rfl) (c0_safeBits (few := 0) (m := 3) hG (by omega) (by omega) ⟨_, g1, fun _ _ => rfl⟩ g2) ?_
  rintro r h2 ⟨k, rfl, k16, hk, t2, n2, hf⟩
  have ek : k = sfN n P 3 := by
    rcases hk with z | ⟨z1, z2⟩
    · exact z
    · rw [pop_0 k k16 (by omega), pop_0 _ (sfN_lt hG.1.1 _) (by omega)]
  subst ek
  refine K_Si1 (pc := 12) (Y' := YJ6_bitCount_0f7a4) dX0_searchMore_12 lX0_85 mJ6_bitCount_0f7a4 sJ6_bitCount_0f7a4 (Nat.le_of_ble_eq_true rfl) (cJ6_bitCount (k := sfN n P 3) (sfN_lt hG.1.1 _)) ?_
  rintro r h0 ⟨e0, rfl⟩
  rw [e0]
  clear e0 h0
  refine K_Vv1 (pc := 15) (Y' := YX0_begin) dX0_searchMore_15 lX0_99 mX0_begin vX0_begin ⟨_, _, rfl⟩ sh59 (Nat.le_of_ble_eq_true rfl) (c0_begin) ?_
  rintro h0 e0
  rw [e0]
  clear e0 h0
  obtain ⟨Q, hQ, kQ⟩ := TR_congr (h' := j_up (j_up h2 59 5 (-4)) 59 6 (nI (pop (sfN n P 3)))) hG t2 (fun b h1 h3 => by rw [j_up_ne b (by omega), j_up_ne b (by omega)])
  have k37 := kQ 37 (by omega)
  have tc : j_up (j_up h2 59 5 (-4)) 59 6 (nI (pop (sfN n P 3))) 60 3 = nI (ix (P 37)) := hQ.2.2.1.trans (k37.trans hG.1.2.2.1.1)
  refine J_aload_n (pc := 18) dX0_searchMore_18 rfl ?_
  refine J_getR (pc := 19) dX0_searchMore_19 fX0_12 sh59 rfl ?_
  refine J_getI (pc := 22) dX0_searchMore_22 fX0_103 (sv0 isV60) rfl (tc) ?_
  refine J_istore_n (pc := 25) dX0_searchMore_25 (by decide) ?_
  refine J_aload_n (pc := 26) dX0_searchMore_26 rfl ?_
  refine J_getR (pc := 27) dX0_searchMore_27 fX0_12 sh59 rfl ?_
  refine J_iconst (pc := 30) (v := nI 0) dX0_searchMore_30 (by decide) ?_
  refine J_iconst (pc := 31) (v := nI 0) dX0_searchMore_31 (by decide) ?_
  refine J_iconst (pc := 32) (v := nI 0) dX0_searchMore_32 (by decide) ?_
  refine J_iload_n (pc := 33) dX0_searchMore_33 rfl ?_
  refine J_iconst (pc := 34) (v := nI 0) dX0_searchMore_34 (by decide) ?_
  refine K_Vv5 (pc := 35) (Y' := YX4_addCover) dX0_searchMore_35 lX0_106 mX4_addCover vX4_addCover ⟨_, _, rfl⟩ (sv0 isV60) (Nat.le_of_ble_eq_true rfl) (c4_addCover isV60 tc h5) ?_
  rintro h0 e0
  rw [e0]
  clear e0 h0
  refine J_iconst (pc := 38) (v := nI 0) dX0_searchMore_38 (by decide) ?_
  refine J_istore (pc := 39) dX0_searchMore_39 (by decide) ?_
  have hn := hG.1.1
  have XA := XV_add (p := nI 0) (q := nI 0) (w := nI 0) (x := pay) (y := nI 0) hQ hn (by rw [kQ 51 (by omega)]; exact hG.2.1.2) (k37.trans hG.1.2.2.1.1) h5
  have af := fun b hb => (acH_fr (h := j_up (j_up h2 59 5 (-4)) 59 6 (nI (pop (sfN n P 3)))) (v := 60) (c := ix (P 37)) (p := nI 0) (q := nI 0) (w := nI 0) (x := pay) (y := nI 0)).1 b hb
  refine J_ls (ls' := [(0, .ref 59), (1, .ref o), (2, .int pay), (3, .int (nI (ix (P 37)))), (4, .int (nI 0))]) ⟨rfl, rfl, rfl, rfl, rfl, trivial⟩ ?_
  refine l0_more (h := h) hG h5 hpay ?_ 65 0 _ (Nat.zero_le _) (by omega) ⟨⟨_, XA, fun j hj hne => ?_⟩, fun p hp => ?_, ?_, ?_, fun b hb => ?_⟩
  · intro hh hI
    refine K_ret (pc := 160) dX0_searchMore_160 rfl ?_
    exact ⟨hI.2.2.1, hI.2.2.2.1, hI.2.2.2.2⟩
  · unfold addP upd
    rw [kQ j hj]
  · rw [congrFun (af 78 (by omega)) _, j_up_o (by omega), j_up_o (by omega)]; exact n2 p hp
  · rw [congrFun (af 59 (by omega)) _, j_up_o (by omega), j_up_s]; rfl
  · rw [congrFun (af 59 (by omega)) _, j_up_s]; rfl
  · rw [af b (by omega), j_up_ne b (by omega), j_up_ne b (by omega), hf b (by omega)]; exact g3 b (by omega)
set_option maxHeartbeats 4000000 in
theorem c5_help {g : jG} {d : Nat} {a h : jH} {p x : Int32} (hR : RX a h) : Mi g (d + 7) YX5_help h [.ref 0, .int p, .int x] (fun r h' => ∃ a', oHelp a p x = (r, a') ∧ RX a' h' ∧ hi h h') := by
  refine M.of (by decide) rfl (Nat.le_of_ble_eq_true rfl) ?_
  have hR0 := hR
  have hG := hR.1.2.2.2
  obtain ⟨⟨r1, hX, hwk, ⟨⟨v1, v2, v3, v4⟩, v5, v6, v7, v8, v9, va, vb, vc, vd⟩⟩, rK, rT, rS, rH, ⟨r8, r8b, r9, ra⟩⟩ := hR
  obtain ⟨x1, x2, x3, x4, x5, x6, x7, x8, x9⟩ := id hX
  have hn4 := v1
  have n5 := r1.2
  have c6 := v3.2
  have p9 := v5.2
  refine J_iload_n (pc := 0) dX5_help_0 rfl ?_
  refine J_iconst (pc := 1) (v := nI 1) dX5_help_1 (by decide) ?_
  refine J_bipush (pc := 2) (v := nI 20) dX5_help_2 (by decide) ?_
  refine K_Si3 (pc := 4) (Y' := YX5_within) dX5_help_4 lX5_63 mX5_within sX5_within (Nat.le_of_ble_eq_true rfl) (c5_within) ?_
  rintro x h0 ⟨e0, ⟨rfl, b4⟩ | ⟨rfl, b4⟩⟩ <;> rw [e0] <;> clear e0 h0
  · skip
    refine J_if_eq (pc := 7) (tgt := 19) dX5_help_7 (by decide) (fun c => absurd c (by decide)) (fun _ => ?_)
    refine J_iload_n (pc := 10) dX5_help_10 rfl ?_
    refine J_iconst (pc := 11) (v := nI 0) dX5_help_11 (by decide) ?_
    refine J_iconst (pc := 12) (v := nI 1) dX5_help_12 (by decide) ?_
    refine K_Si3 (pc := 13) (Y' := YX5_within) dX5_help_13 lX5_63 mX5_within sX5_within (Nat.le_of_ble_eq_true rfl) (c5_within) ?_
    rintro x h0 ⟨e0, ⟨rfl, b13⟩ | ⟨rfl, b13⟩⟩ <;> rw [e0] <;> clear e0 h0
    · skip
      refine J_if_ne (pc := 16) (tgt := 21) dX5_help_16 (by decide) (fun _ => ?_) (fun c => absurd c (by decide))
      refine J_aload_n (pc := 21) dX5_help_21 rfl ?_
      refine J_getR (pc := 22) dX5_help_22 fX5_10 sh0 rfl ?_
      refine J_getI (pc := 25) dX5_help_25 fX5_94 (sv0 isV1) rfl (x3.trans v3.1) ?_
      refine J_iconst (pc := 28) (v := nI 5) dX5_help_28 (by decide) ?_
      refine J_icmp_lt (pc := 29) (tgt := 35) dX5_help_29 (by decide) (fun c29 => ?_) (fun c29 => ?_)
      · skip
        have q29 : ix (pg a 0 37) < 5 := (nI_ltI (by omega) (by omega)).mp c29
        have ne : ¬ pg a 0 37 = nI 5 := fun z => by
          have := congrArg ix z
          rw [ix_nI (by omega)] at this
          omega
        refine J_aload_n (pc := 35) dX5_help_35 rfl ?_
        refine J_getR (pc := 36) dX5_help_36 fX5_37 sh0 rfl ?_
        refine J_aload_n (pc := 39) dX5_help_39 rfl ?_
        refine J_getR (pc := 40) dX5_help_40 fX5_10 sh0 rfl ?_
        refine J_iload_n (pc := 43) dX5_help_43 rfl ?_
        refine K_Vv2 (pc := 44) (Y' := YX0_searchMore) dX5_help_44 lX5_199 mX0_searchMore vX0_searchMore ⟨_, _, rfl⟩ sh59 (Nat.le_of_ble_eq_true rfl) (c0_searchMore isV1 (by omega) hX hG q29 ((in_nbc (n := 20) rfl (by omega)).mp ⟨Int32.le_trans (by decide) b4.1, b4.2⟩)) ?_
        rintro h1 ⟨m1, m2, m3⟩
        refine J_aload_n (pc := 47) dX5_help_47 rfl ?_
        refine J_getR (pc := 48) dX5_help_48 fX5_37 sh0 rfl ?_
        refine J_iload_n (pc := 51) dX5_help_51 rfl ?_
        refine K_Vi1 (pc := 52) (Y' := YX0_found) dX5_help_52 lX5_202 mX0_found vX0_found ⟨_, _, rfl⟩ sh59 (Nat.le_of_ble_eq_true rfl) (c0_found m1 m2) ?_
        rintro r h0 ⟨e0, rfl⟩
        rw [e0]
        clear e0 h0
        refine K_iret (pc := 55) dX5_help_55 rfl ?_
        exact ⟨a, (iteR_t ⟨b4, b13⟩).trans (iteR_f ne), RX_congr hR0 sameP.rf (fun b hb => m3 b (by omega)), fun b hb => m3 b (by omega)⟩
      · skip
        have q29 : ¬ ix (pg a 0 37) < 5 := fun z => c29 ((nI_ltI (by omega) (by omega)).mpr z)
        refine J_bipush (pc := 32) (v := -3) dX5_help_32 (by decide) ?_
        refine K_iret (pc := 34) dX5_help_34 rfl ?_
        exact ⟨a, (iteR_t ⟨b4, b13⟩).trans (iteR_t (v3.1.trans (congrArg nI (show ix (pg a 0 37) = 5 by omega)))), hR0, hi.rf⟩
    · skip
      refine J_if_ne (pc := 16) (tgt := 21) dX5_help_16 (by decide) (fun c => absurd c (by decide)) (fun _ => ?_)
      refine J_iconst (pc := 19) (v := -1) dX5_help_19 (by decide) ?_
      refine K_iret (pc := 20) dX5_help_20 rfl ?_
      exact ⟨a, iteR_f (fun z => b13 z.2), hR0, hi.rf⟩
  · skip
    refine J_if_eq (pc := 7) (tgt := 19) dX5_help_7 (by decide) (fun _ => ?_) (fun c => absurd c (by decide))
    refine J_iconst (pc := 19) (v := -1) dX5_help_19 (by decide) ?_
    refine K_iret (pc := 20) dX5_help_20 rfl ?_
    exact ⟨a, iteR_f (fun z => b4 z.1), hR0, hi.rf⟩
set_option maxHeartbeats 4000000 in
theorem l0_fewer {g : jG} {d : Nat} {h : jH} {Q : kQ} {n o : Nat} {P : Nat → Int32} (ho : isV o) (hne : o = 1) (hX : XV n P h o) (hG : GD n P) (kx : ∀ (hh : jH), (hh 59 5 = (spF n P (ix (P 37))).1 ∧ hh 59 6 = nI (spF n P (ix (P 37))).2 ∧ ∀ b, (b < 59 ∨ 79 ≤ b) → hh b = h b) → K g (d + 6) YX0_searchFewer (hh) 52 [(0, .ref 59), (1, .ref o), (2, .int (nI (ix (P 37))))] [] Q) : ∀ (mm k : Nat) (hh : jH), k ≤ (ix (P 37)) → (ix (P 37)) < k + mm → (hh 59 5 = (spF n P k).1 ∧ hh 59 6 = nI (spF n P k).2 ∧ ∀ b, (b < 59 ∨ 79 ≤ b) → hh b = h b) → K g (d + 6) YX0_searchFewer (hh) 20 [(0, .ref 59), (1, .ref o), (2, .int (nI k))] [] Q := by
  intro mm
  induction mm with
  | zero => intro k hh hk1 hk2 hI; omega
  | succ mm ih =>
    intro k hh hk1 hk2 hI
    have hn := hG.1.1
    have h6 := hG.1.2.2.1.2
    have h4 := spF_4 (P := P) hn k
    have hXh : XV n P hh o := XV_congr hX (fun _ _ => rfl) hn h6 hG.2.1.2 (fun b h1 h2 => hI.2.2 b (by omega))
    refine J_iload_n (pc := 20) dX0_searchFewer_20 rfl ?_
    refine J_aload_n (pc := 21) dX0_searchFewer_21 rfl ?_
    refine J_getI (pc := 22) dX0_searchFewer_22 fX0_103 (sv0 ho) rfl (hXh.2.2.1.trans hG.1.2.2.1.1) ?_
    refine J_icmp_ge (pc := 25) (tgt := 52) dX0_searchFewer_25 (by decide) (fun c25 => ?_) (fun c25 => ?_)
    · skip
      have q25 : (ix (P 37)) ≤ k := (nI_leI (by omega) (by omega)).mp c25
      have e_k : k = (ix (P 37)) := by omega
      refine J_ls (ls' := [(0, .ref 59), (1, .ref o), (2, .int (nI k))]) ⟨rfl, rfl, rfl, trivial⟩ ?_
      rw [e_k] at hI ⊢
      exact kx hh hI
    · skip
      have q25 : k < (ix (P 37)) := Nat.lt_of_not_le (fun z => c25 ((nI_leI (by omega) (by omega)).mpr z))
      refine J_aload_n (pc := 28) dX0_searchFewer_28 rfl ?_
      refine J_aload_n (pc := 29) dX0_searchFewer_29 rfl ?_
      refine K_Vv1 (pc := 30) (Y' := YX0_beginWith) dX0_searchFewer_30 lX0_49 mX0_beginWith vX0_beginWith ⟨_, _, rfl⟩ sh59 (Nat.le_of_ble_eq_true rfl) (c0_beginWith ho (by omega) hXh hn h6 hG.2.1.2) ?_
      rintro h1 ⟨g1, g2, g3⟩
      refine J_aload_n (pc := 33) dX0_searchFewer_33 rfl ?_
      refine J_getR (pc := 34) dX0_searchFewer_34 fX0_12 sh59 rfl ?_
      refine J_iload_n (pc := 37) dX0_searchFewer_37 rfl ?_
      refine K_Vv1 (pc := 38) (Y' := YX4_removeCover) dX0_searchFewer_38 lX0_117 mX4_removeCover vX4_removeCover ⟨_, _, rfl⟩ (sv0 isV60) (Nat.le_of_ble_eq_true rfl) (c4_removeCover isV60 (g1.2.2.1.trans hG.1.2.2.1.1) h6 q25) ?_
      rintro h0 e0
      rw [e0]
      clear e0 h0
      have XD := XV_drop (c := k) g1 hn hG.2.1.2 hG.1.2.2.1.1 h6 q25
      have gd := GD_drop hG hG.1.2.2.1.1 h6 q25
      have rf := fun b hb => (rcH_fr (h := h1) (v := 60) (c := k) (M := ix (P 37) - 1)).1 b hb
      refine J_aload_n (pc := 41) dX0_searchFewer_41 rfl ?_
      refine J_iload_n (pc := 42) dX0_searchFewer_42 rfl ?_
      refine K_Vv1 (pc := 43) (Y' := YX0_offerMore) dX0_searchFewer_43 lX0_114 mX0_offerMore vX0_offerMore ⟨_, _, rfl⟩ sh59 (Nat.le_of_ble_eq_true rfl) (c0_offerMore (b := (spF n P k).1) (q := (spF n P k).2) gd h4 ⟨_, XD, fun _ _ => rfl⟩ (fun p hp => (congrFun (rf 78 (by omega)) _).trans ((g2 p hp).trans (dropP_ne (by omega) (by omega)).symm)) ((congrFun (rf 59 (by omega)) _).trans ((congrFun (g3 59 (by omega)) _).trans hI.1)) ((congrFun (rf 59 (by omega)) _).trans ((congrFun (g3 59 (by omega)) _).trans hI.2.1))) ?_
      rintro h2 ⟨o1, o2, o3, o4, o5⟩
      refine J_iinc (pc := 46) dX0_searchFewer_46 rfl (v := nI (k + 1)) (by exact nI_add _ _) (by decide) ?_
      refine J_goto (pc := 49) (tgt := 20) dX0_searchFewer_49 (by decide) ?_
      refine J_ls ?_ (ih (k + 1) h2 (by omega) (by omega) ⟨o3, o4, fun b hb => ?_⟩)
      · exact ⟨rfl, rfl, rfl, trivial⟩
      · rw [o5 b hb, rf b (by omega), g3 b (by omega)]; exact hI.2.2 b hb
set_option maxHeartbeats 4000000 in
theorem c0_searchFewer {g : jG} {d : Nat} {h : jH} {o n : Nat} {P : Nat → Int32} (ho : isV o) (hne : o = 1) (hX : XV n P h o) (hG : GD n P) : Mv g (d + 6) YX0_searchFewer h [.ref 59, .ref o] (fun h' => h' 59 5 = (spF n P (ix (P 37))).1 ∧ h' 59 6 = nI (spF n P (ix (P 37))).2 ∧ ∀ b, (b < 59 ∨ 79 ≤ b) → h' b = h b) := by
  refine M.of (by decide) rfl (Nat.le_of_ble_eq_true rfl) ?_
  refine J_aload_n (pc := 0) dX0_searchFewer_0 rfl ?_
  refine J_aload_n (pc := 1) dX0_searchFewer_1 rfl ?_
  refine K_Vv1 (pc := 2) (Y' := YX0_beginWith) dX0_searchFewer_2 lX0_49 mX0_beginWith vX0_beginWith ⟨_, _, rfl⟩ sh59 (Nat.le_of_ble_eq_true rfl) (c0_beginWith ho (by omega) hX hG.1.1 hG.1.2.2.1.2 hG.2.1.2) ?_
  rintro h1 ⟨g1, g2, g3⟩
  refine J_aload_n (pc := 5) dX0_searchFewer_5 rfl ?_
  refine J_aload_n (pc := 6) dX0_searchFewer_6 rfl ?_
  refine J_iconst (pc := 7) (v := nI 3) dX0_searchFewer_7 (by decide) ?_
  refine J_iconst (pc := 8) (v := nI 0) dX0_searchFewer_8 (by decide) ?_
  refine K_Vi2 (pc := 9) (Y' := YX0_safeBits) dX0_searchFewer_9 lX0_96 mX0_safeBits vX0_safeBits ⟨_, _, rfl⟩ sh59 (Nat.le_of_ble_eq_true rfl) (c0_safeBits (few := 0) (m := 3) hG (by omega) (by omega) ⟨_, g1, fun _ _ => rfl⟩ g2) ?_
  rintro r h2 ⟨k, rfl, k16, hk, t2, n2, hf⟩
  have ek : k = sfN n P 3 := by
    rcases hk with z | ⟨z1, z2⟩
    · exact z
    · rw [pop_0 k k16 (by omega), pop_0 _ (sfN_lt hG.1.1 _) (by omega)]
  subst ek
  refine K_Si1 (pc := 12) (Y' := YJ6_bitCount_0f7a4) dX0_searchFewer_12 lX0_85 mJ6_bitCount_0f7a4 sJ6_bitCount_0f7a4 (Nat.le_of_ble_eq_true rfl) (cJ6_bitCount (k := sfN n P 3) (sfN_lt hG.1.1 _)) ?_
  rintro r h0 ⟨e0, rfl⟩
  rw [e0]
  clear e0 h0
  refine K_Vv1 (pc := 15) (Y' := YX0_begin) dX0_searchFewer_15 lX0_99 mX0_begin vX0_begin ⟨_, _, rfl⟩ sh59 (Nat.le_of_ble_eq_true rfl) (c0_begin) ?_
  rintro h0 e0
  rw [e0]
  clear e0 h0
  refine J_iconst (pc := 18) (v := nI 0) dX0_searchFewer_18 (by decide) ?_
  refine J_istore_n (pc := 19) dX0_searchFewer_19 (by decide) ?_
  refine J_ls (ls' := [(0, .ref 59), (1, .ref o), (2, .int (nI 0))]) ⟨rfl, rfl, rfl, trivial⟩ ?_
  refine l0_fewer (h := h) ho hne hX hG ?_ (ix (P 37) + 1) 0 _ (Nat.zero_le _) (by omega) ⟨?_, ?_, fun b hb => ?_⟩
  · intro hh hI
    refine K_ret (pc := 52) dX0_searchFewer_52 rfl ?_
    exact hI
  · rw [j_up_o (by omega), j_up_s]; rfl
  · rw [j_up_s]; rfl
  · rw [j_up_ne b (by omega), j_up_ne b (by omega), hf b (by omega)]; exact g3 b (by omega)
set_option maxHeartbeats 4000000 in
theorem c5_spare {g : jG} {d : Nat} {a h : jH} {x : Int32} (hR : RX a h) : Mi g (d + 7) YX5_spare h [.ref 0, .int x] (fun r h' => ∃ a', oSpare a x = (r, a') ∧ RX a' h' ∧ hi h h') := by
  refine M.of (by decide) rfl (Nat.le_of_ble_eq_true rfl) ?_
  have hR0 := hR
  have hG := hR.1.2.2.2
  obtain ⟨⟨r1, hX, hwk, ⟨⟨v1, v2, v3, v4⟩, v5, v6, v7, v8, v9, va, vb, vc, vd⟩⟩, rK, rT, rS, rH, ⟨r8, r8b, r9, ra⟩⟩ := hR
  obtain ⟨x1, x2, x3, x4, x5, x6, x7, x8, x9⟩ := id hX
  have hn4 := v1
  have n5 := r1.2
  have c6 := v3.2
  have p9 := v5.2
  refine J_iload_n (pc := 0) dX5_spare_0 rfl ?_
  refine J_iconst (pc := 1) (v := nI 0) dX5_spare_1 (by decide) ?_
  refine J_iconst (pc := 2) (v := nI 1) dX5_spare_2 (by decide) ?_
  refine K_Si3 (pc := 3) (Y' := YX5_within) dX5_spare_3 lX5_63 mX5_within sX5_within (Nat.le_of_ble_eq_true rfl) (c5_within) ?_
  rintro x h0 ⟨e0, ⟨rfl, b3⟩ | ⟨rfl, b3⟩⟩ <;> rw [e0] <;> clear e0 h0
  · skip
    refine J_if_ne (pc := 6) (tgt := 11) dX5_spare_6 (by decide) (fun _ => ?_) (fun c => absurd c (by decide))
    refine J_aload_n (pc := 11) dX5_spare_11 rfl ?_
    refine J_getR (pc := 12) dX5_spare_12 fX5_37 sh0 rfl ?_
    refine J_aload_n (pc := 15) dX5_spare_15 rfl ?_
    refine J_getR (pc := 16) dX5_spare_16 fX5_10 sh0 rfl ?_
    refine K_Vv1 (pc := 19) (Y' := YX0_searchFewer) dX5_spare_19 lX5_205 mX0_searchFewer vX0_searchFewer ⟨_, _, rfl⟩ sh59 (Nat.le_of_ble_eq_true rfl) (c0_searchFewer isV1 rfl hX hG) ?_
    rintro h1 ⟨m1, m2, m3⟩
    refine J_aload_n (pc := 22) dX5_spare_22 rfl ?_
    refine J_getR (pc := 23) dX5_spare_23 fX5_37 sh0 rfl ?_
    refine J_iload_n (pc := 26) dX5_spare_26 rfl ?_
    refine K_Vi1 (pc := 27) (Y' := YX0_found) dX5_spare_27 lX5_202 mX0_found vX0_found ⟨_, _, rfl⟩ sh59 (Nat.le_of_ble_eq_true rfl) (c0_found m1 m2) ?_
    rintro r h0 ⟨e0, rfl⟩
    rw [e0]
    clear e0 h0
    refine K_iret (pc := 30) dX5_spare_30 rfl ?_
    exact ⟨a, iteR_t b3, RX_congr hR0 sameP.rf (fun b hb => m3 b (by omega)), fun b hb => m3 b (by omega)⟩
  · skip
    refine J_if_ne (pc := 6) (tgt := 11) dX5_spare_6 (by decide) (fun c => absurd c (by decide)) (fun _ => ?_)
    refine J_iconst (pc := 9) (v := -1) dX5_spare_9 (by decide) ?_
    refine K_iret (pc := 10) dX5_spare_10 rfl ?_
    exact ⟨a, iteR_f b3, hR0, hi.rf⟩
set_option maxHeartbeats 4000000 in
theorem l6_help {g : jG} {d : Nat} {h : jH} {Q : kQ} {x pay : Int32} (hR : MR h) (h5 : ix (pg h 0 37) < 5) (hpay : nb 21 pay) (kx : ∀ (T : Nat → Int32), (64 = 64) → K g (d + 4) YX6_help (mset (mset h 345 (pg h 0)) 276 T) 191 [(0, .ref 131), (1, .int pay), (2, .int x), (3, .int (nI (hpF (ix (h 131 2)) (pg h 0) pay 64).2)), (4, .int (hpF (ix (h 131 2)) (pg h 0) pay 64).1), (5, .int (nI 64))] [] Q) : ∀ (mm k : Nat) (T : Nat → Int32), k ≤ 64 → 64 < k + mm → (k = k) → K g (d + 4) YX6_help (mset (mset h 345 (pg h 0)) 276 T) 63 [(0, .ref 131), (1, .int pay), (2, .int x), (3, .int (nI (hpF (ix (h 131 2)) (pg h 0) pay k).2)), (4, .int (hpF (ix (h 131 2)) (pg h 0) pay k).1), (5, .int (nI k))] [] Q := by
  intro mm
  induction mm with
  | zero => intro k T hk1 hk2 hI; omega
  | succ mm ih =>
    intro k T hk1 hk2 hI
    have hR0 := hR
    have hG : GD (ix (h 131 2)) (pg h 0) := hR.2.1
    obtain ⟨r1, ⟨⟨v1, v2, v3, v4⟩, v5, v6, v7, v8, v9, va, vb, vc, vd⟩, r3, r4, ⟨r5, r6⟩, r7, r8, r9, ra⟩ := hR
    have hn := r1.1
    have hn4 := v1
    have n5 := r1.2
    have c6 : ix (h 132 37) < 6 := v3.2
    have p9 : ix (h 132 51) < 9 := v5.2
    have p9' : ix (pg h 0 51) < 9 := v5.2
    have h4 := hpF_4 (P := (pg h 0)) (pay := pay) hn4 k
    have hn1 : mset (mset h 345 (pg h 0)) 276 T 131 2 = nI (ix (h 131 2)) := mset_b (by decide) (mset_b (by decide) hn)
    have e37 : (pg h 0) 37 = nI (ix ((pg h 0) 37)) := v3.1
    refine J_iload (pc := 63) dX6_help_63 rfl ?_
    refine J_bipush (pc := 65) (v := nI 64) dX6_help_65 (by decide) ?_
    refine J_icmp_ge (pc := 67) (tgt := 191) dX6_help_67 (by decide) (fun c67 => ?_) (fun c67 => ?_)
    · skip
      have q67 : 64 ≤ k := (nI_leI (by omega) (by omega)).mp c67
      have e_k : k = 64 := by omega
      refine J_ls (ls' := [(0, .ref 131), (1, .int pay), (2, .int x), (3, .int (nI (hpF (ix (h 131 2)) (pg h 0) pay k).2)), (4, .int (hpF (ix (h 131 2)) (pg h 0) pay k).1), (5, .int (nI k))]) ⟨rfl, rfl, rfl, rfl, rfl, rfl, trivial⟩ ?_
      rw [e_k] at hI ⊢
      exact kx T hI
    · skip
      have q67 : k < 64 := Nat.lt_of_not_le (fun z => c67 ((nI_leI (by omega) (by omega)).mpr z))
      refine J_iload (pc := 70) dX6_help_70 rfl ?_
      refine J_bipush (pc := 72) (v := nI 16) dX6_help_72 (by decide) ?_
      refine J_idiv (pc := 74) dX6_help_74 (by decide) (pk_div (by omega) (by omega) (by omega)) ?_
      refine J_istore (pc := 75) dX6_help_75 (by decide) ?_
      refine J_iload (pc := 77) dX6_help_77 rfl ?_
      refine J_iconst (pc := 79) (v := nI 4) dX6_help_79 (by decide) ?_
      refine J_idiv (pc := 80) dX6_help_80 (by decide) (pk_div (by omega) (by omega) (by omega)) ?_
      refine J_iconst (pc := 81) (v := nI 4) dX6_help_81 (by decide) ?_
      refine J_irem (pc := 82) dX6_help_82 (by decide) (pk_rem (by omega) (by omega) (by omega)) ?_
      refine J_istore (pc := 83) dX6_help_83 (by decide) ?_
      refine J_aload_n (pc := 85) dX6_help_85 rfl ?_
      refine J_iload (pc := 86) dX6_help_86 rfl ?_
      refine K_Vi1 (pc := 88) (Y' := YX6_isOne) dX6_help_88 lX6_160 mX6_isOne vX6_isOne ⟨_, _, rfl⟩ sh131 (Nat.le_of_ble_eq_true rfl) (c6_isOne (x := nI (k / 16)) hn1 hn4) ?_
      rintro x h0 ⟨e0, ⟨rfl, b88⟩ | ⟨rfl, b88⟩⟩ <;> rw [e0] <;> clear e0 h0
      · skip
        refine J_if_eq (pc := 91) (tgt := 185) dX6_help_91 (by decide) (fun c => absurd c (by decide)) (fun _ => ?_)
        refine J_aload_n (pc := 94) dX6_help_94 rfl ?_
        refine J_iload (pc := 95) dX6_help_95 rfl ?_
        refine K_Vi1 (pc := 97) (Y' := YX6_isOne) dX6_help_97 lX6_160 mX6_isOne vX6_isOne ⟨_, _, rfl⟩ sh131 (Nat.le_of_ble_eq_true rfl) (c6_isOne (x := nI (k / 4 % 4)) hn1 hn4) ?_
        rintro x h0 ⟨e0, ⟨rfl, b97⟩ | ⟨rfl, b97⟩⟩ <;> rw [e0] <;> clear e0 h0
        · skip
          refine J_if_eq (pc := 100) (tgt := 185) dX6_help_100 (by decide) (fun c => absurd c (by decide)) (fun _ => ?_)
          refine J_iload (pc := 103) dX6_help_103 rfl ?_
          refine J_iload (pc := 105) dX6_help_105 rfl ?_
          refine J_icmp_eq (pc := 107) (tgt := 185) dX6_help_107 (by decide) (fun c107 => ?_) (fun c107 => ?_)
          · skip
            have q107 : k / 16 = k / 4 % 4 := (nI_eq (by omega) (by omega)).mp c107
            refine J_iinc (pc := 185) dX6_help_185 rfl (v := nI (k + 1)) (by exact nI_add _ _) (by decide) ?_
            refine J_goto (pc := 188) (tgt := 63) dX6_help_188 (by decide) ?_
            have i := ih (k + 1) T (by omega) (by omega) rfl
            rw [show hpF (ix (h 131 2)) (pg h 0) pay (k + 1) = hpF (ix (h 131 2)) (pg h 0) pay k from if_neg (fun z => z.2.2 q107)] at i
            refine J_ls ?_ i
            exact ⟨rfl, rfl, rfl, rfl, rfl, rfl, trivial⟩
          · skip
            have q107 : ¬ k / 16 = k / 4 % 4 := fun z => c107 ((nI_eq (by omega) (by omega)).mpr z)
            have qa : k / 16 < ix (h 131 2) := by have := b88.2; rw [ix_nI (by omega)] at this; exact this
            have qb : k / 4 % 4 < ix (h 131 2) := by have := b97.2; rw [ix_nI (by omega)] at this; exact this
            refine J_h (h' := mset (mset (mset h 345 (pg h 0)) 276 T) 0 (pg h 0)) (by
              funext b j
              by_cases z : b = 132 ∧ 0 ≤ j ∧ j < 0 + 69
              · obtain ⟨rfl, -, z2⟩ := z
                rw [mset_at (o := 0) j (by omega) (by omega), mset_out (by omega), mset_out (by omega), pg0]
              · rw [mset.eq_1 (mset (mset h 345 (pg h 0)) 276 T), if_neg z]) ?_
            refine J_aload_n (pc := 110) dX6_help_110 rfl ?_
            refine J_iload (pc := 111) dX6_help_111 rfl ?_
            refine J_iload (pc := 113) dX6_help_113 rfl ?_
            refine J_iload (pc := 115) dX6_help_115 rfl ?_
            refine J_iconst (pc := 117) (v := nI 4) dX6_help_117 (by decide) ?_
            refine J_irem (pc := 118) dX6_help_118 (by decide) (pk_rem (by omega) (by omega) (by omega)) ?_
            refine J_iload_n (pc := 119) dX6_help_119 rfl ?_
            refine J_iconst (pc := 120) (v := nI 0) dX6_help_120 (by decide) ?_
            refine K_Vv5 (pc := 121) (Y' := YX6_adds) dX6_help_121 lX6_193 mX6_adds vX6_adds ⟨_, _, rfl⟩ sh131 (Nat.le_of_ble_eq_true rfl) (c6_adds (h := mset (mset h 345 (pg h 0)) 276 T) (P := (pg h 0)) (c := ix ((pg h 0) 37)) e37 h5) ?_
            rintro h1 e1
            rw [e1, mset_comm (o := 276) (u := 0) (by omega), show addP (ix (pg h 0 37)) (nI (k / 16)) (nI (k / 4 % 4)) (nI (k % 4)) pay (nI 0) (pg h 0) = hpP (pg h 0) pay k from rfl]
            clear e1 h1
            have gd := hp_gd (k := k) hG h5 hpay qa qb q107
            have mr := MR_page hR0 gd
            refine J_aload_n (pc := 124) dX6_help_124 rfl ?_
            refine J_iconst (pc := 125) (v := nI 0) dX6_help_125 (by decide) ?_
            refine J_iconst (pc := 126) (v := nI 3) dX6_help_126 (by decide) ?_
            refine K_Vi2 (pc := 127) (Y' := YX6_safeFrom) dX6_help_127 lX6_238 mX6_safeFrom vX6_safeFrom ⟨_, _, rfl⟩ sh131 (Nat.le_of_ble_eq_true rfl) (c6_safeFrom (m := 3) mr (by omega)) ?_
            rintro r h1 ⟨e1, T1, e2⟩
            rw [e1, e2, show mset (mset h 345 (pg h 0)) 0 (hpP (pg h 0) pay k) 131 2 = h 131 2 from mset_b (by decide) (mset_b (by decide) rfl), sfN_page gd hn4]
            clear e1 e2 h1
            have sl := sfN_lt (P := hpP (pg h 0) pay k) hn4 3
            refine K_Si1 (pc := 130) (Y' := YX6_bitsOf) dX6_help_130 lX6_241 mX6_bitsOf sX6_bitsOf (Nat.le_of_ble_eq_true rfl) (c6_bitsOf) ?_
            rintro r h1 ⟨e0, e1⟩
            rw [e0, e1, bits_pop _ sl]
            clear e0 e1 h1
            refine J_istore (pc := 133) dX6_help_133 (by decide) ?_
            refine J_iload (pc := 135) dX6_help_135 rfl ?_
            refine J_iload_n (pc := 137) dX6_help_137 rfl ?_
            refine J_icmp_le (pc := 138) (tgt := 160) dX6_help_138 (by decide) (fun c138 => ?_) (fun c138 => ?_)
            · skip
              have q138 := (nI_leI (by have := pop_4 _ sl; omega) (by omega)).mp c138
              refine J_iload (pc := 160) dX6_help_160 rfl ?_
              refine J_istore (pc := 162) dX6_help_162 (by decide) ?_
              refine J_iload (pc := 164) dX6_help_164 rfl ?_
              refine J_iload_n (pc := 166) dX6_help_166 rfl ?_
              refine J_icmp_le (pc := 167) (tgt := 175) dX6_help_167 (by decide) (fun c167 => ?_) (fun c167 => ?_)
              · skip
                refine J_iload_n (pc := 175) dX6_help_175 rfl ?_
                refine J_istore_n (pc := 176) dX6_help_176 (by decide) ?_
                refine J_aload_n (pc := 177) dX6_help_177 rfl ?_
                refine J_sipush (pc := 178) (v := nI 345) dX6_help_178 (by decide) ?_
                refine J_iconst (pc := 181) (v := nI 0) dX6_help_181 (by decide) ?_
                refine K_Vv2 (pc := 182) (Y' := YX6_copies) dX6_help_182 lX6_215 mX6_copies vX6_copies ⟨_, _, rfl⟩ sh131 (Nat.le_of_ble_eq_true rfl) (c6_copies (a := 345) (o := 0) (by omega) (by omega) (by omega)) ?_
                rintro h1 e1
                rw [e1, back345]
                clear e1 h1
                refine J_iinc (pc := 185) dX6_help_185 rfl (v := nI (k + 1)) (by exact nI_add _ _) (by decide) ?_
                refine J_goto (pc := 188) (tgt := 63) dX6_help_188 (by decide) ?_
                have i := ih (k + 1) T1 (by omega) (by omega) rfl
                rw [show hpF (ix (h 131 2)) (pg h 0) pay (k + 1) = (hpF (ix (h 131 2)) (pg h 0) pay k) from (if_pos ⟨qa, qb, q107⟩).trans (if_neg (Nat.not_lt.mpr q138))] at i
                refine J_ls ?_ i
                exact ⟨rfl, rfl, rfl, rfl, rfl, rfl, trivial⟩
              · skip
                exact absurd c138 c167
            · skip
              have q138 : ¬ pop (sfN (ix (h 131 2)) (hpP (pg h 0) pay k) 3) ≤ (hpF (ix (h 131 2)) (pg h 0) pay k).2 := fun z => c138 ((nI_leI (by have := pop_4 _ sl; omega) (by omega)).mpr z)
              refine J_bipush (pc := 141) (v := nI 100) dX6_help_141 (by decide) ?_
              refine J_iload (pc := 143) dX6_help_143 rfl ?_
              refine J_imul (pc := 145) dX6_help_145 (pk_mul _ _) ?_
              refine J_bipush (pc := 146) (v := nI 10) dX6_help_146 (by decide) ?_
              refine J_iload (pc := 148) dX6_help_148 rfl ?_
              refine J_imul (pc := 150) dX6_help_150 (pk_mul _ _) ?_
              refine J_iadd (pc := 151) dX6_help_151 (nI_add _ _) ?_
              refine J_iload (pc := 152) dX6_help_152 rfl ?_
              refine J_iconst (pc := 154) (v := nI 4) dX6_help_154 (by decide) ?_
              refine J_irem (pc := 155) dX6_help_155 (by decide) (pk_rem (by omega) (by omega) (by omega)) ?_
              refine J_iadd (pc := 156) dX6_help_156 (nI_add _ _) ?_
              refine J_goto (pc := 157) (tgt := 162) dX6_help_157 (by decide) ?_
              refine J_istore (pc := 162) dX6_help_162 (by decide) ?_
              refine J_iload (pc := 164) dX6_help_164 rfl ?_
              refine J_iload_n (pc := 166) dX6_help_166 rfl ?_
              refine J_icmp_le (pc := 167) (tgt := 175) dX6_help_167 (by decide) (fun c167 => ?_) (fun c167 => ?_)
              · skip
                exact absurd c167 c138
              · skip
                refine J_iload (pc := 170) dX6_help_170 rfl ?_
                refine J_goto (pc := 172) (tgt := 176) dX6_help_172 (by decide) ?_
                refine J_istore_n (pc := 176) dX6_help_176 (by decide) ?_
                refine J_aload_n (pc := 177) dX6_help_177 rfl ?_
                refine J_sipush (pc := 178) (v := nI 345) dX6_help_178 (by decide) ?_
                refine J_iconst (pc := 181) (v := nI 0) dX6_help_181 (by decide) ?_
                refine K_Vv2 (pc := 182) (Y' := YX6_copies) dX6_help_182 lX6_215 mX6_copies vX6_copies ⟨_, _, rfl⟩ sh131 (Nat.le_of_ble_eq_true rfl) (c6_copies (a := 345) (o := 0) (by omega) (by omega) (by omega)) ?_
                rintro h1 e1
                rw [e1, back345]
                clear e1 h1
                refine J_iinc (pc := 185) dX6_help_185 rfl (v := nI (k + 1)) (by exact nI_add _ _) (by decide) ?_
                refine J_goto (pc := 188) (tgt := 63) dX6_help_188 (by decide) ?_
                have i := ih (k + 1) T1 (by omega) (by omega) rfl
                rw [show hpF (ix (h 131 2)) (pg h 0) pay (k + 1) = (nI (100 * (k / 16) + 10 * (k / 4 % 4) + k % 4), pop (sfN (ix (h 131 2)) (hpP (pg h 0) pay k) 3)) from (if_pos ⟨qa, qb, q107⟩).trans (if_pos (Nat.lt_of_not_le q138))] at i
                refine J_ls ?_ i
                exact ⟨rfl, rfl, rfl, rfl, rfl, rfl, trivial⟩
        · skip
          refine J_if_eq (pc := 100) (tgt := 185) dX6_help_100 (by decide) (fun _ => ?_) (fun c => absurd c (by decide))
          refine J_iinc (pc := 185) dX6_help_185 rfl (v := nI (k + 1)) (by exact nI_add _ _) (by decide) ?_
          refine J_goto (pc := 188) (tgt := 63) dX6_help_188 (by decide) ?_
          have i := ih (k + 1) T (by omega) (by omega) rfl
          rw [show hpF (ix (h 131 2)) (pg h 0) pay (k + 1) = hpF (ix (h 131 2)) (pg h 0) pay k from if_neg (fun z => b97 (nb_nI z.2.1 (by omega)))] at i
          refine J_ls ?_ i
          exact ⟨rfl, rfl, rfl, rfl, rfl, rfl, trivial⟩
      · skip
        refine J_if_eq (pc := 91) (tgt := 185) dX6_help_91 (by decide) (fun _ => ?_) (fun c => absurd c (by decide))
        refine J_iinc (pc := 185) dX6_help_185 rfl (v := nI (k + 1)) (by exact nI_add _ _) (by decide) ?_
        refine J_goto (pc := 188) (tgt := 63) dX6_help_188 (by decide) ?_
        have i := ih (k + 1) T (by omega) (by omega) rfl
        rw [show hpF (ix (h 131 2)) (pg h 0) pay (k + 1) = hpF (ix (h 131 2)) (pg h 0) pay k from if_neg (fun z => b88 (nb_nI z.1 (by omega)))] at i
        refine J_ls ?_ i
        exact ⟨rfl, rfl, rfl, rfl, rfl, rfl, trivial⟩
set_option maxHeartbeats 4000000 in
theorem c6_help {g : jG} {d : Nat} {h : jH} {p x : Int32} (hR : MR h) : Mi g (d + 5) YX6_help h [.ref 131, .int p, .int x] (fun r h' => r = (oHelp h p x).1 ∧ sameP (oHelp h p x).2 h' ∧ lo h h') := by
  refine M.of (by decide) rfl (Nat.le_of_ble_eq_true rfl) ?_
  have hR0 := hR
  have hG : GD (ix (h 131 2)) (pg h 0) := hR.2.1
  obtain ⟨r1, ⟨⟨v1, v2, v3, v4⟩, v5, v6, v7, v8, v9, va, vb, vc, vd⟩, r3, r4, ⟨r5, r6⟩, r7, r8, r9, ra⟩ := hR
  have hn := r1.1
  have hn4 := v1
  have n5 := r1.2
  have c6 : ix (h 132 37) < 6 := v3.2
  have p9 : ix (h 132 51) < 9 := v5.2
  have p9' : ix (pg h 0 51) < 9 := v5.2
  refine J_iload_n (pc := 0) dX6_help_0 rfl ?_
  refine J_i2l (pc := 1) dX6_help_1 (rfl) ?_
  refine J_lconst (pc := 2) (v := 1) dX6_help_2 (by decide) ?_
  refine J_ldc2 (pc := 3) dX6_help_3 kX6_189 ?_
  refine K_Si3 (pc := 6) (Y' := YX6_in) dX6_help_6 lX6_55 mX6_in sX6_in (Nat.le_of_ble_eq_true rfl) (c6_inI p (nI 1) (nI 20) rfl (by decide) (by decide)) ?_
  rintro x h0 ⟨e0, ⟨rfl, b6⟩ | ⟨rfl, b6⟩⟩ <;> rw [e0] <;> clear e0 h0
  · skip
    refine J_if_eq (pc := 9) (tgt := 22) dX6_help_9 (by decide) (fun c => absurd c (by decide)) (fun _ => ?_)
    refine J_iload_n (pc := 12) dX6_help_12 rfl ?_
    refine J_i2l (pc := 13) dX6_help_13 (rfl) ?_
    refine J_lconst (pc := 14) (v := 0) dX6_help_14 (by decide) ?_
    refine J_lconst (pc := 15) (v := 1) dX6_help_15 (by decide) ?_
    refine K_Si3 (pc := 16) (Y' := YX6_in) dX6_help_16 lX6_55 mX6_in sX6_in (Nat.le_of_ble_eq_true rfl) (c6_inI x (nI 0) (nI 1) rfl (by decide) (by decide)) ?_
    rintro x h0 ⟨e0, ⟨rfl, b16⟩ | ⟨rfl, b16⟩⟩ <;> rw [e0] <;> clear e0 h0
    · skip
      refine J_if_ne (pc := 19) (tgt := 24) dX6_help_19 (by decide) (fun _ => ?_) (fun c => absurd c (by decide))
      refine J_aload_n (pc := 24) dX6_help_24 rfl ?_
      refine J_getR (pc := 25) dX6_help_25 fX6_7 sh131 rfl ?_
      refine J_bipush (pc := 28) (v := nI 37) dX6_help_28 (by decide) ?_
      refine J_iald (pc := 30) dX6_help_30 sh132 (rfl) (by omega) (v3.1) (by decide) ?_
      refine J_iconst (pc := 31) (v := nI 5) dX6_help_31 (by decide) ?_
      refine J_icmp_ne (pc := 32) (tgt := 38) dX6_help_32 (by decide) (fun c32 => ?_) (fun c32 => ?_)
      · skip
        have q32 : ix (pg h 0 37) < 5 := by
          have := v3.2
          by_cases z : ix (pg h 0 37) = 5
          · exact absurd (congrArg nI z) c32
          · omega
        refine J_h (mset_pg (h := h) (o := 276)).symm ?_
        refine J_aload_n (pc := 38) dX6_help_38 rfl ?_
        refine J_iconst (pc := 39) (v := nI 0) dX6_help_39 (by decide) ?_
        refine J_iconst (pc := 40) (v := nI 3) dX6_help_40 (by decide) ?_
        refine K_Vi2 (pc := 41) (Y' := YX6_safeFrom) dX6_help_41 lX6_238 mX6_safeFrom vX6_safeFrom ⟨_, _, rfl⟩ sh131 (Nat.le_of_ble_eq_true rfl) (c6_safeFrom (T0 := pg h 276) (m := 3) hR0 (by omega)) ?_
        rintro r h1 ⟨rfl, T, rfl⟩
        have sl := sfN_lt (P := pg h 0) hn4 3
        refine K_Si1 (pc := 44) (Y' := YX6_bitsOf) dX6_help_44 lX6_241 mX6_bitsOf sX6_bitsOf (Nat.le_of_ble_eq_true rfl) (c6_bitsOf) ?_
        rintro r h1 ⟨e0, e1⟩
        rw [e0, e1, bits_pop _ sl]
        clear e0 e1 h1
        refine J_istore_n (pc := 47) dX6_help_47 (by decide) ?_
        refine J_bipush (pc := 48) (v := -4) dX6_help_48 (by decide) ?_
        refine J_istore (pc := 50) dX6_help_50 (by decide) ?_
        refine J_aload_n (pc := 52) dX6_help_52 rfl ?_
        refine J_iconst (pc := 53) (v := nI 0) dX6_help_53 (by decide) ?_
        refine J_sipush (pc := 54) (v := nI 345) dX6_help_54 (by decide) ?_
        refine K_Vv2 (pc := 57) (Y' := YX6_copies) dX6_help_57 lX6_215 mX6_copies vX6_copies ⟨_, _, rfl⟩ sh131 (Nat.le_of_ble_eq_true rfl) (c6_copies (a := 0) (o := 345) (by omega) (by omega) (by omega)) ?_
        rintro h0 e0
        rw [e0]
        clear e0 h0
        refine J_iconst (pc := 60) (v := nI 0) dX6_help_60 (by decide) ?_
        refine J_istore (pc := 61) dX6_help_61 (by decide) ?_
        refine J_h (h' := mset (mset h 345 (pg h 0)) 276 T) (by
          rw [mset_comm (o := 276) (u := 345) (by omega)]
          exact congrArg (fun z => mset z 276 T) (mset_cong (fun k hk => mset_out (by omega)))) ?_
        refine J_ls (ls' := [(0, .ref 131), (1, .int p), (2, .int x), (3, .int (nI (hpF (ix (h 131 2)) (pg h 0) p 0).2)), (4, .int (hpF (ix (h 131 2)) (pg h 0) p 0).1), (5, .int (nI 0))]) ⟨rfl, rfl, rfl, rfl, rfl, rfl, trivial⟩ ?_
        refine l6_help hR0 q32 ((in_nbc (n := 20) rfl (by omega)).mp ⟨Int32.le_trans (by decide) b6.1, b6.2⟩) ?_ 65 0 T (Nat.zero_le _) (by omega) rfl
        intro T2 hT2
        have fin : sameP h (mset (mset h 345 (pg h 0)) 276 T2) ∧ lo h (mset (mset h 345 (pg h 0)) 276 T2) := ⟨(sameP_scr (by omega)).tr (sameP_scr (by omega)), lo_mset.tr lo_mset⟩
        refine J_iload (pc := 191) dX6_help_191 rfl ?_
        refine J_bipush (pc := 193) (v := -4) dX6_help_193 (by decide) ?_
        refine J_icmp_eq (pc := 195) (tgt := 202) dX6_help_195 (by decide) (fun c195 => ?_) (fun c195 => ?_)
        · skip
          refine J_iload (pc := 202) dX6_help_202 rfl ?_
          refine J_goto (pc := 204) (tgt := 208) dX6_help_204 (by decide) ?_
          refine K_iret (pc := 208) dX6_help_208 rfl ?_
          exact by rw [oHelp, iteR_t ⟨b6, b16⟩, iteR_f (fun z => c32 (v3.1.symm.trans z))]; exact ⟨(iteP_t (Or.inl c195)).symm, fin.1, fin.2⟩
        · skip
          refine J_iload_n (pc := 198) dX6_help_198 rfl ?_
          refine J_if_ne (pc := 199) (tgt := 207) dX6_help_199 (by decide) (fun c199 => ?_) (fun c199 => ?_)
          · skip
            refine J_iload_n (pc := 207) dX6_help_207 rfl ?_
            refine K_iret (pc := 208) dX6_help_208 rfl ?_
            exact by rw [oHelp, iteR_t ⟨b6, b16⟩, iteR_f (fun z => c32 (v3.1.symm.trans z))]; exact ⟨(iteP_f (fun z => z.elim c195 c199)).symm, fin.1, fin.2⟩
          · skip
            refine J_iload (pc := 202) dX6_help_202 rfl ?_
            refine J_goto (pc := 204) (tgt := 208) dX6_help_204 (by decide) ?_
            refine K_iret (pc := 208) dX6_help_208 rfl ?_
            exact by rw [oHelp, iteR_t ⟨b6, b16⟩, iteR_f (fun z => c32 (v3.1.symm.trans z))]; exact ⟨(iteP_t (Or.inr c199)).symm, fin.1, fin.2⟩
      · skip
        refine J_bipush (pc := 35) (v := -3) dX6_help_35 (by decide) ?_
        refine K_iret (pc := 37) dX6_help_37 rfl ?_
        exact by rw [oHelp, iteR_t ⟨b6, b16⟩, iteR_t (v3.1.trans c32)]; exact ⟨rfl, sameP.rf, lo.rf⟩
    · skip
      refine J_if_ne (pc := 19) (tgt := 24) dX6_help_19 (by decide) (fun c => absurd c (by decide)) (fun _ => ?_)
      refine J_iconst (pc := 22) (v := -1) dX6_help_22 (by decide) ?_
      refine K_iret (pc := 23) dX6_help_23 rfl ?_
      exact by rw [oHelp, iteR_f (fun z => b16 z.2)]; exact ⟨rfl, sameP.rf, lo.rf⟩
  · skip
    refine J_if_eq (pc := 9) (tgt := 22) dX6_help_9 (by decide) (fun _ => ?_) (fun c => absurd c (by decide))
    refine J_iconst (pc := 22) (v := -1) dX6_help_22 (by decide) ?_
    refine K_iret (pc := 23) dX6_help_23 rfl ?_
    exact by rw [oHelp, iteR_f (fun z => b6 z.1)]; exact ⟨rfl, sameP.rf, lo.rf⟩
set_option maxHeartbeats 4000000 in
theorem l6_spare {g : jG} {d : Nat} {h : jH} {Q : kQ} {x : Int32} (hR : MR h) (kx : ∀ (T : Nat → Int32), ((ix ((pg h 0) 37)) = (ix ((pg h 0) 37))) → K g (d + 4) YX6_spare (mset (mset h 345 (pg h 0)) 276 T) 106 [(0, .ref 131), (1, .int x), (2, .int (nI (spF (ix (h 131 2)) (pg h 0) (ix ((pg h 0) 37))).2)), (3, .int (spF (ix (h 131 2)) (pg h 0) (ix ((pg h 0) 37))).1), (4, .int (nI (ix ((pg h 0) 37))))] [] Q) : ∀ (mm k : Nat) (T : Nat → Int32), k ≤ (ix ((pg h 0) 37)) → (ix ((pg h 0) 37)) < k + mm → (k = k) → K g (d + 4) YX6_spare (mset (mset h 345 (pg h 0)) 276 T) 36 [(0, .ref 131), (1, .int x), (2, .int (nI (spF (ix (h 131 2)) (pg h 0) k).2)), (3, .int (spF (ix (h 131 2)) (pg h 0) k).1), (4, .int (nI k))] [] Q := by
  intro mm
  induction mm with
  | zero => intro k T hk1 hk2 hI; omega
  | succ mm ih =>
    intro k T hk1 hk2 hI
    have hR0 := hR
    have hG : GD (ix (h 131 2)) (pg h 0) := hR.2.1
    obtain ⟨r1, ⟨⟨v1, v2, v3, v4⟩, v5, v6, v7, v8, v9, va, vb, vc, vd⟩, r3, r4, ⟨r5, r6⟩, r7, r8, r9, ra⟩ := hR
    have hn := r1.1
    have hn4 := v1
    have n5 := r1.2
    have c6 : ix (h 132 37) < 6 := v3.2
    have p9 : ix (h 132 51) < 9 := v5.2
    have p9' : ix (pg h 0 51) < 9 := v5.2
    have h4 := spF_4 (P := (pg h 0)) hn4 k
    have h6 := v3.2
    refine J_iload (pc := 36) dX6_spare_36 rfl ?_
    refine J_aload_n (pc := 38) dX6_spare_38 rfl ?_
    refine J_getR (pc := 39) dX6_spare_39 fX6_7 sh131 rfl ?_
    refine J_sipush (pc := 42) (v := nI 382) dX6_spare_42 (by decide) ?_
    refine J_iald (pc := 45) dX6_spare_45 sh132 (rfl) (by omega) ((mset_out (by omega)).trans ((mset_at 37 (by omega) rfl).trans v3.1)) (by decide) ?_
    refine J_icmp_ge (pc := 46) (tgt := 106) dX6_spare_46 (by decide) (fun c46 => ?_) (fun c46 => ?_)
    · skip
      have q46 : (ix ((pg h 0) 37)) ≤ k := (nI_leI (by omega) (by omega)).mp c46
      have e_k : k = (ix ((pg h 0) 37)) := by omega
      refine J_ls (ls' := [(0, .ref 131), (1, .int x), (2, .int (nI (spF (ix (h 131 2)) (pg h 0) k).2)), (3, .int (spF (ix (h 131 2)) (pg h 0) k).1), (4, .int (nI k))]) ⟨rfl, rfl, rfl, rfl, rfl, trivial⟩ ?_
      rw [e_k] at hI ⊢
      exact kx T hI
    · skip
      have q46 : k < (ix ((pg h 0) 37)) := Nat.lt_of_not_le (fun z => c46 ((nI_leI (by omega) (by omega)).mpr z))
      refine J_h (h' := mset (mset (mset h 345 (pg h 0)) 276 T) 0 (pg h 0)) (by
        funext b j
        by_cases z : b = 132 ∧ 0 ≤ j ∧ j < 0 + 69
        · obtain ⟨rfl, -, z2⟩ := z
          rw [mset_at (o := 0) j (by omega) (by omega), mset_out (by omega), mset_out (by omega), pg0]
        · rw [mset.eq_1 (mset (mset h 345 (pg h 0)) 276 T), if_neg z]) ?_
      refine J_aload_n (pc := 49) dX6_spare_49 rfl ?_
      refine J_iload (pc := 50) dX6_spare_50 rfl ?_
      refine K_Vv1 (pc := 52) (Y' := YX6_drops) dX6_spare_52 lX6_197 mX6_drops vX6_drops ⟨_, _, rfl⟩ sh131 (Nat.le_of_ble_eq_true rfl) (c6_drops (h := mset (mset h 345 (pg h 0)) 276 T) (P := (pg h 0)) (c := k) (by omega)) ?_
      rintro h1 e1
      rw [e1, mset_comm (o := 276) (u := 0) (by omega)]
      clear e1 h1
      have gd := GD_drop hG v3.1 h6 q46
      have mr := MR_page hR0 gd
      refine J_aload_n (pc := 55) dX6_spare_55 rfl ?_
      refine J_iconst (pc := 56) (v := nI 0) dX6_spare_56 (by decide) ?_
      refine J_iconst (pc := 57) (v := nI 3) dX6_spare_57 (by decide) ?_
      refine K_Vi2 (pc := 58) (Y' := YX6_safeFrom) dX6_spare_58 lX6_238 mX6_safeFrom vX6_safeFrom ⟨_, _, rfl⟩ sh131 (Nat.le_of_ble_eq_true rfl) (c6_safeFrom (m := 3) mr (by omega)) ?_
      rintro r h1 ⟨e1, T1, e2⟩
      rw [e1, e2, show mset (mset h 345 (pg h 0)) 0 (dropP k (pg h 0)) 131 2 = h 131 2 from mset_b (by decide) (mset_b (by decide) rfl), sfN_page gd hn4]
      clear e1 e2 h1
      have sl := sfN_lt (P := dropP k (pg h 0)) hn4 3
      refine K_Si1 (pc := 61) (Y' := YX6_bitsOf) dX6_spare_61 lX6_241 mX6_bitsOf sX6_bitsOf (Nat.le_of_ble_eq_true rfl) (c6_bitsOf) ?_
      rintro r h1 ⟨e0, e1⟩
      rw [e0, e1, bits_pop _ sl]
      clear e0 e1 h1
      refine J_istore (pc := 64) dX6_spare_64 (by decide) ?_
      refine J_iload (pc := 66) dX6_spare_66 rfl ?_
      refine J_iload_n (pc := 68) dX6_spare_68 rfl ?_
      refine J_icmp_le (pc := 69) (tgt := 77) dX6_spare_69 (by decide) (fun c69 => ?_) (fun c69 => ?_)
      · skip
        have q69 := (nI_leI (by have := pop_4 _ sl; omega) (by omega)).mp c69
        refine J_iload_n (pc := 77) dX6_spare_77 rfl ?_
        refine J_istore_n (pc := 78) dX6_spare_78 (by decide) ?_
        refine J_iload (pc := 79) dX6_spare_79 rfl ?_
        refine J_iload_n (pc := 81) dX6_spare_81 rfl ?_
        refine J_icmp_le (pc := 82) (tgt := 90) dX6_spare_82 (by decide) (fun c82 => ?_) (fun c82 => ?_)
        · skip
          refine J_iload_n (pc := 90) dX6_spare_90 rfl ?_
          refine J_istore_n (pc := 91) dX6_spare_91 (by decide) ?_
          refine J_aload_n (pc := 92) dX6_spare_92 rfl ?_
          refine J_sipush (pc := 93) (v := nI 345) dX6_spare_93 (by decide) ?_
          refine J_iconst (pc := 96) (v := nI 0) dX6_spare_96 (by decide) ?_
          refine K_Vv2 (pc := 97) (Y' := YX6_copies) dX6_spare_97 lX6_215 mX6_copies vX6_copies ⟨_, _, rfl⟩ sh131 (Nat.le_of_ble_eq_true rfl) (c6_copies (a := 345) (o := 0) (by omega) (by omega) (by omega)) ?_
          rintro h1 e1
          rw [e1, back345]
          clear e1 h1
          refine J_iinc (pc := 100) dX6_spare_100 rfl (v := nI (k + 1)) (by exact nI_add _ _) (by decide) ?_
          refine J_goto (pc := 103) (tgt := 36) dX6_spare_103 (by decide) ?_
          have i := ih (k + 1) T1 (by omega) (by omega) rfl
          rw [show spF (ix (h 131 2)) (pg h 0) (k + 1) = (spF (ix (h 131 2)) (pg h 0) k) from if_neg (Nat.not_lt.mpr q69)] at i
          refine J_ls ?_ i
          exact ⟨rfl, rfl, rfl, rfl, rfl, trivial⟩
        · skip
          exact absurd c69 c82
      · skip
        have q69 : ¬ pop (sfN (ix (h 131 2)) (dropP k (pg h 0)) 3) ≤ (spF (ix (h 131 2)) (pg h 0) k).2 := fun z => c69 ((nI_leI (by have := pop_4 _ sl; omega) (by omega)).mpr z)
        refine J_iload (pc := 72) dX6_spare_72 rfl ?_
        refine J_goto (pc := 74) (tgt := 78) dX6_spare_74 (by decide) ?_
        refine J_istore_n (pc := 78) dX6_spare_78 (by decide) ?_
        refine J_iload (pc := 79) dX6_spare_79 rfl ?_
        refine J_iload_n (pc := 81) dX6_spare_81 rfl ?_
        refine J_icmp_le (pc := 82) (tgt := 90) dX6_spare_82 (by decide) (fun c82 => ?_) (fun c82 => ?_)
        · skip
          exact absurd c82 c69
        · skip
          refine J_iload (pc := 85) dX6_spare_85 rfl ?_
          refine J_goto (pc := 87) (tgt := 91) dX6_spare_87 (by decide) ?_
          refine J_istore_n (pc := 91) dX6_spare_91 (by decide) ?_
          refine J_aload_n (pc := 92) dX6_spare_92 rfl ?_
          refine J_sipush (pc := 93) (v := nI 345) dX6_spare_93 (by decide) ?_
          refine J_iconst (pc := 96) (v := nI 0) dX6_spare_96 (by decide) ?_
          refine K_Vv2 (pc := 97) (Y' := YX6_copies) dX6_spare_97 lX6_215 mX6_copies vX6_copies ⟨_, _, rfl⟩ sh131 (Nat.le_of_ble_eq_true rfl) (c6_copies (a := 345) (o := 0) (by omega) (by omega) (by omega)) ?_
          rintro h1 e1
          rw [e1, back345]
          clear e1 h1
          refine J_iinc (pc := 100) dX6_spare_100 rfl (v := nI (k + 1)) (by exact nI_add _ _) (by decide) ?_
          refine J_goto (pc := 103) (tgt := 36) dX6_spare_103 (by decide) ?_
          have i := ih (k + 1) T1 (by omega) (by omega) rfl
          rw [show spF (ix (h 131 2)) (pg h 0) (k + 1) = (nI k, pop (sfN (ix (h 131 2)) (dropP k (pg h 0)) 3)) from if_pos (Nat.lt_of_not_le q69)] at i
          refine J_ls ?_ i
          exact ⟨rfl, rfl, rfl, rfl, rfl, trivial⟩
set_option maxHeartbeats 4000000 in
theorem c6_spare {g : jG} {d : Nat} {h : jH} {x : Int32} (hR : MR h) : Mi g (d + 5) YX6_spare h [.ref 131, .int x] (fun r h' => r = (oSpare h x).1 ∧ sameP (oSpare h x).2 h' ∧ lo h h') := by
  refine M.of (by decide) rfl (Nat.le_of_ble_eq_true rfl) ?_
  have hR0 := hR
  have hG : GD (ix (h 131 2)) (pg h 0) := hR.2.1
  obtain ⟨r1, ⟨⟨v1, v2, v3, v4⟩, v5, v6, v7, v8, v9, va, vb, vc, vd⟩, r3, r4, ⟨r5, r6⟩, r7, r8, r9, ra⟩ := hR
  have hn := r1.1
  have hn4 := v1
  have n5 := r1.2
  have c6 : ix (h 132 37) < 6 := v3.2
  have p9 : ix (h 132 51) < 9 := v5.2
  have p9' : ix (pg h 0 51) < 9 := v5.2
  refine J_iload_n (pc := 0) dX6_spare_0 rfl ?_
  refine J_i2l (pc := 1) dX6_spare_1 (rfl) ?_
  refine J_lconst (pc := 2) (v := 0) dX6_spare_2 (by decide) ?_
  refine J_lconst (pc := 3) (v := 1) dX6_spare_3 (by decide) ?_
  refine K_Si3 (pc := 4) (Y' := YX6_in) dX6_spare_4 lX6_55 mX6_in sX6_in (Nat.le_of_ble_eq_true rfl) (c6_inI x (nI 0) (nI 1) rfl (by decide) (by decide)) ?_
  rintro x h0 ⟨e0, ⟨rfl, b4⟩ | ⟨rfl, b4⟩⟩ <;> rw [e0] <;> clear e0 h0
  · skip
    refine J_if_ne (pc := 7) (tgt := 12) dX6_spare_7 (by decide) (fun _ => ?_) (fun c => absurd c (by decide))
    refine J_h (mset_pg (h := h) (o := 276)).symm ?_
    refine J_aload_n (pc := 12) dX6_spare_12 rfl ?_
    refine J_iconst (pc := 13) (v := nI 0) dX6_spare_13 (by decide) ?_
    refine J_iconst (pc := 14) (v := nI 3) dX6_spare_14 (by decide) ?_
    refine K_Vi2 (pc := 15) (Y' := YX6_safeFrom) dX6_spare_15 lX6_238 mX6_safeFrom vX6_safeFrom ⟨_, _, rfl⟩ sh131 (Nat.le_of_ble_eq_true rfl) (c6_safeFrom (T0 := pg h 276) (m := 3) hR0 (by omega)) ?_
    rintro r h1 ⟨rfl, T, rfl⟩
    have sl := sfN_lt (P := pg h 0) hn4 3
    refine K_Si1 (pc := 18) (Y' := YX6_bitsOf) dX6_spare_18 lX6_241 mX6_bitsOf sX6_bitsOf (Nat.le_of_ble_eq_true rfl) (c6_bitsOf) ?_
    rintro r h1 ⟨e0, e1⟩
    rw [e0, e1, bits_pop _ sl]
    clear e0 e1 h1
    refine J_istore_n (pc := 21) dX6_spare_21 (by decide) ?_
    refine J_bipush (pc := 22) (v := -4) dX6_spare_22 (by decide) ?_
    refine J_istore_n (pc := 24) dX6_spare_24 (by decide) ?_
    refine J_aload_n (pc := 25) dX6_spare_25 rfl ?_
    refine J_iconst (pc := 26) (v := nI 0) dX6_spare_26 (by decide) ?_
    refine J_sipush (pc := 27) (v := nI 345) dX6_spare_27 (by decide) ?_
    refine K_Vv2 (pc := 30) (Y' := YX6_copies) dX6_spare_30 lX6_215 mX6_copies vX6_copies ⟨_, _, rfl⟩ sh131 (Nat.le_of_ble_eq_true rfl) (c6_copies (a := 0) (o := 345) (by omega) (by omega) (by omega)) ?_
    rintro h0 e0
    rw [e0]
    clear e0 h0
    refine J_iconst (pc := 33) (v := nI 0) dX6_spare_33 (by decide) ?_
    refine J_istore (pc := 34) dX6_spare_34 (by decide) ?_
    refine J_h (h' := mset (mset h 345 (pg h 0)) 276 T) (by
      rw [mset_comm (o := 276) (u := 345) (by omega)]
      exact congrArg (fun z => mset z 276 T) (mset_cong (fun k hk => mset_out (by omega)))) ?_
    refine J_ls (ls' := [(0, .ref 131), (1, .int x), (2, .int (nI (spF (ix (h 131 2)) (pg h 0) 0).2)), (3, .int (spF (ix (h 131 2)) (pg h 0) 0).1), (4, .int (nI 0))]) ⟨rfl, rfl, rfl, rfl, rfl, trivial⟩ ?_
    refine l6_spare hR0 ?_ (ix ((pg h 0) 37) + 1) 0 T (Nat.zero_le _) (by omega) rfl
    intro T2 hT2
    have fin : sameP h (mset (mset h 345 (pg h 0)) 276 T2) ∧ lo h (mset (mset h 345 (pg h 0)) 276 T2) := ⟨(sameP_scr (by omega)).tr (sameP_scr (by omega)), lo_mset.tr lo_mset⟩
    refine J_iload_n (pc := 106) dX6_spare_106 rfl ?_
    refine J_bipush (pc := 107) (v := -4) dX6_spare_107 (by decide) ?_
    refine J_icmp_eq (pc := 109) (tgt := 116) dX6_spare_109 (by decide) (fun c109 => ?_) (fun c109 => ?_)
    · skip
      refine J_iload_n (pc := 116) dX6_spare_116 rfl ?_
      refine J_goto (pc := 117) (tgt := 121) dX6_spare_117 (by decide) ?_
      refine K_iret (pc := 121) dX6_spare_121 rfl ?_
      exact by rw [oSpare, iteR_t b4]; exact ⟨(iteP_t (Or.inl c109)).symm, fin.1, fin.2⟩
    · skip
      refine J_iload_n (pc := 112) dX6_spare_112 rfl ?_
      refine J_if_ne (pc := 113) (tgt := 120) dX6_spare_113 (by decide) (fun c113 => ?_) (fun c113 => ?_)
      · skip
        refine J_iload_n (pc := 120) dX6_spare_120 rfl ?_
        refine K_iret (pc := 121) dX6_spare_121 rfl ?_
        exact by rw [oSpare, iteR_t b4]; exact ⟨(iteP_f (fun z => z.elim c109 c113)).symm, fin.1, fin.2⟩
      · skip
        refine J_iload_n (pc := 116) dX6_spare_116 rfl ?_
        refine J_goto (pc := 117) (tgt := 121) dX6_spare_117 (by decide) ?_
        refine K_iret (pc := 121) dX6_spare_121 rfl ?_
        exact by rw [oSpare, iteR_t b4]; exact ⟨(iteP_t (Or.inr c113)).symm, fin.1, fin.2⟩
  · skip
    refine J_if_ne (pc := 7) (tgt := 12) dX6_spare_7 (by decide) (fun c => absurd c (by decide)) (fun _ => ?_)
    refine J_iconst (pc := 10) (v := -1) dX6_spare_10 (by decide) ?_
    refine K_iret (pc := 11) dX6_spare_11 rfl ?_
    exact by rw [oSpare, iteR_f b4]; exact ⟨rfl, sameP.rf, lo.rf⟩
