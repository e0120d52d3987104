set_option maxHeartbeats 400000 in
theorem c6_oneHere {g : jG} {d : Nat} {h : jH} {L : Nat} {t : Nat → Int32} {u : sS} (hT : RP L t h) (hs : RT L (nrm u) h) : Mi g (d + 3) YX6_oneHere h [.ref 131] (fun r h' => RT L (nrm (sAdv L t (sNm (nI 0) (nI 3) u))) h' ∧ rfm (j_up h 131 6 (mxI r (h 131 6))) h' ∧ ((sNm (nI 0) (nI 3) u).1 = 0 → r = sVal (sNm (nI 0) (nI 3) u))) := by
  refine M.of (by decide) rfl (Nat.le_of_ble_eq_true rfl) ?_
  refine J_aload_n (pc := 0) dX6_oneHere_0 rfl ?_
  refine J_iconst (pc := 1) (v := nI 0) dX6_oneHere_1 (by decide) ?_
  refine J_iconst (pc := 2) (v := nI 3) dX6_oneHere_2 (by decide) ?_
  refine K_Vi2 (pc := 3) (Y' := YX6_number) dX6_oneHere_3 lX6_100 mX6_number vX6_number ⟨_, _, rfl⟩ sh131 (Nat.le_of_ble_eq_true rfl) (c6_number (u := u) (lo := nI 0) (hi := nI 3) (hT) hs) ?_
  rintro x1 h1 ⟨hs1, f1, ex1⟩
  refine J_istore_n (pc := 6) dX6_oneHere_6 (by decide) ?_
  refine J_aload_n (pc := 7) dX6_oneHere_7 rfl ?_
  refine J_iload_n (pc := 8) dX6_oneHere_8 rfl ?_
  refine J_aload_n (pc := 9) dX6_oneHere_9 rfl ?_
  refine J_getI (pc := 10) dX6_oneHere_10 fX6_104 sh131 rfl (f1 131 6 (by omega)) ?_
  refine J_icmp_le (pc := 13) (tgt := 20) dX6_oneHere_13 (by decide) (fun c13 => ?_) (fun c13 => ?_)
  · skip
    refine J_aload_n (pc := 20) dX6_oneHere_20 rfl ?_
    refine J_getI (pc := 21) dX6_oneHere_21 fX6_104 sh131 rfl (f1 131 6 (by omega)) ?_
    refine J_putI (pc := 24) dX6_oneHere_24 fX6_104 sh131 rfl ?_
    refine J_iload_n (pc := 27) dX6_oneHere_27 rfl ?_
    refine K_iret (pc := 28) dX6_oneHere_28 rfl ?_
    refine ⟨hs1.u (by omega), fun b k z => ?_, ex1⟩
    rw [mxI, if_pos c13]
    by_cases q : b = 131 ∧ k = 6
    · rw [q.1, q.2, j_up_s, j_up_s]
    · rw [j_up_o (by omega), j_up_o (by omega)]; exact f1 b k z
  · skip
    refine J_iload_n (pc := 16) dX6_oneHere_16 rfl ?_
    refine J_goto (pc := 17) (tgt := 24) dX6_oneHere_17 (by decide) ?_
    refine J_putI (pc := 24) dX6_oneHere_24 fX6_104 sh131 rfl ?_
    refine J_iload_n (pc := 27) dX6_oneHere_27 rfl ?_
    refine K_iret (pc := 28) dX6_oneHere_28 rfl ?_
    refine ⟨hs1.u (by omega), fun b k z => ?_, ex1⟩
    rw [mxI, if_neg c13]
    by_cases q : b = 131 ∧ k = 6
    · rw [q.1, q.2, j_up_s, j_up_s]
    · rw [j_up_o (by omega), j_up_o (by omega)]; exact f1 b k z
set_option maxHeartbeats 400000 in
theorem c6_weatherHere {g : jG} {d : Nat} {h : jH} {L : Nat} {t : Nat → Int32} {u : sS} (hT : RP L t h) (hs : RT L (nrm u) h) (hW : RW h) : Mi g (d + 2) YX6_weatherHere h [.ref 131] (fun r h' => RT L (nrm (sAdv L t (sWea t u))) h' ∧ rfm h h' ∧ ((nrm (sAdv L t (sWea t u))).1 = 0 → r = sWv t (sWea t u))) := by
  refine M.of (by decide) rfl (Nat.le_of_ble_eq_true rfl) ?_
  refine J_aload_n (pc := 0) dX6_weatherHere_0 rfl ?_
  refine K_Vi0 (pc := 1) (Y' := YX6_nameHere) dX6_weatherHere_1 lX6_107 mX6_nameHere vX6_nameHere ⟨_, _, rfl⟩ sh131 (Nat.le_of_ble_eq_true rfl) (c6_nameHere (u := u.2.2.2) hT hW (by rw [hs.1, nrm_2]) (by rw [hs.2.1, nrm_2]) (by have := hs.2.2.1.1; rw [nrm_2] at this; exact this) (by have := hs.2.2.1.2.1; rw [nrm_2] at this; exact this)) ?_
  rintro x0 h0 ⟨e0, y1, y2⟩
  rw [e0]
  clear e0 h0
  refine J_bipush (pc := 4) (v := nI 8) dX6_weatherHere_4 (by decide) ?_
  refine J_isub (pc := 6) dX6_weatherHere_6 (rfl) ?_
  refine J_istore_n (pc := 7) dX6_weatherHere_7 (by decide) ?_
  refine J_aload_n (pc := 8) dX6_weatherHere_8 rfl ?_
  refine J_getI (pc := 9) dX6_weatherHere_9 fX6_63 sh131 rfl (hs.2.2.2.2.1) ?_
  refine J_if_ne (pc := 12) (tgt := 32) dX6_weatherHere_12 (by decide) (fun c12 => ?_) (fun c12 => ?_)
  · skip
    have H2 : RT L (sWea t u) h := by
      rw [sWea_nf (fun z => c12 (by rw [z]; rfl))]; exact hs
    have f2 : rfm h h := rfm.rf
    refine J_aload_n (pc := 32) dX6_weatherHere_32 rfl ?_
    refine K_Vv0 (pc := 33) (Y' := YX6_step) dX6_weatherHere_33 lX6_97 mX6_step vX6_step ⟨_, _, rfl⟩ sh131 (Nat.le_of_ble_eq_true rfl) (c6_step (hT.rf f2) H2) ?_
    rintro h3 ⟨hs3, f3⟩
    refine J_aload_n (pc := 36) dX6_weatherHere_36 rfl ?_
    refine J_getI (pc := 37) dX6_weatherHere_37 fX6_63 sh131 rfl (hs3.2.2.2.2.1) ?_
    refine J_if_ne (pc := 40) (tgt := 47) dX6_weatherHere_40 (by decide) (fun c40 => ?_) (fun c40 => ?_)
    · skip
      refine J_iconst (pc := 47) (v := nI 0) dX6_weatherHere_47 (by decide) ?_
      refine K_iret (pc := 48) dX6_weatherHere_48 rfl ?_
      refine ⟨hs3, f2.tr f3, fun z => absurd z (fun z => c40 (by rw [z]; rfl))⟩
    · skip
      refine J_iload_n (pc := 43) dX6_weatherHere_43 rfl ?_
      refine J_goto (pc := 44) (tgt := 48) dX6_weatherHere_44 (by decide) ?_
      refine K_iret (pc := 48) dX6_weatherHere_48 rfl ?_
      refine ⟨hs3, f2.tr f3, fun z => ?_⟩
      have z5 := sAdv_0 (nrm_0 z).1
      refine False.elim ?_
      exact c12 (by rw [(show (nrm u).1 = 0 from by have q := sWea_0 z5; rw [nrm_g (by omega)]; exact q.1)]; rfl)
  · skip
    refine J_iload_n (pc := 15) dX6_weatherHere_15 rfl ?_
    refine J_i2l (pc := 16) dX6_weatherHere_16 (rfl) ?_
    refine J_lconst (pc := 17) (v := 0) dX6_weatherHere_17 (by decide) ?_
    refine J_ldc2 (pc := 18) dX6_weatherHere_18 kX6_111 ?_
    refine K_Si3 (pc := 21) (Y' := YX6_in) dX6_weatherHere_21 lX6_55 mX6_in sX6_in (Nat.le_of_ble_eq_true rfl) (c6_inI (x0 - nI 8) (nI 0) (nI 3) rfl (by decide) (by decide)) ?_
    rintro x h0 ⟨e0, ⟨rfl, b21⟩ | ⟨rfl, b21⟩⟩ <;> rw [e0] <;> clear e0 h0
    · skip
      refine J_if_ne (pc := 24) (tgt := 32) dX6_weatherHere_24 (by decide) (fun _ => ?_) (fun c => absurd c (by decide))
      have z1 : (nrm u).1 = 0 := (nI0e hs.b).mp c12
      obtain ⟨z2, z3, z4⟩ := nrm_0 z1
      have tk1 := (hs.2.2.2.2.2.1 z1).1
      rw [nrm_2] at tk1
      have k5 := hs.2.2.1.2.2.2
      rw [nrm_2] at k5
      have wl : wd t u.2 ≤ 12 := wd_le
      have k1 : u.2.2.2.1 = 1 := Classical.byContradiction (fun q => by
        rw [y2 (fun e => q ((nIe (by omega) (by omega)).mp (tk1.symm.trans e)))] at b21
        exact absurd b21.1 (by decide))
      have y1' := y1 (by rw [tk1, k1])
      rw [y1'] at b21
      have ww := (nmI_w (wd t u.2) (by omega)).1.mp b21
      have H2 : RT L (sWea t u) h := by
        rw [sWea, sExp_e, sRef_n (b := decide (u.2.2.2.1 ≠ 1)) (by simp [k1]), sRef_n (fun q => (of_decide_eq_true q) ww)]; exact hs
      have f2 : rfm h h := rfm.rf
      have yy : x0 - nI 8 = nI (wd t u.2 - 4) := by rw [y1']; exact (nmI_w (wd t u.2) (by omega)).2 ww
      refine J_aload_n (pc := 32) dX6_weatherHere_32 rfl ?_
      refine K_Vv0 (pc := 33) (Y' := YX6_step) dX6_weatherHere_33 lX6_97 mX6_step vX6_step ⟨_, _, rfl⟩ sh131 (Nat.le_of_ble_eq_true rfl) (c6_step (hT.rf f2) H2) ?_
      rintro h3 ⟨hs3, f3⟩
      refine J_aload_n (pc := 36) dX6_weatherHere_36 rfl ?_
      refine J_getI (pc := 37) dX6_weatherHere_37 fX6_63 sh131 rfl (hs3.2.2.2.2.1) ?_
      refine J_if_ne (pc := 40) (tgt := 47) dX6_weatherHere_40 (by decide) (fun c40 => ?_) (fun c40 => ?_)
      · skip
        refine J_iconst (pc := 47) (v := nI 0) dX6_weatherHere_47 (by decide) ?_
        refine K_iret (pc := 48) dX6_weatherHere_48 rfl ?_
        refine ⟨hs3, f2.tr f3, fun z => absurd z (fun z => c40 (by rw [z]; rfl))⟩
      · skip
        refine J_iload_n (pc := 43) dX6_weatherHere_43 rfl ?_
        refine J_goto (pc := 44) (tgt := 48) dX6_weatherHere_44 (by decide) ?_
        refine K_iret (pc := 48) dX6_weatherHere_48 rfl ?_
        refine ⟨hs3, f2.tr f3, fun z => ?_⟩
        have z5 := sAdv_0 (nrm_0 z).1
        rw [sWv, if_pos z5, sWea_2]
        exact yy
    · skip
      refine J_if_ne (pc := 24) (tgt := 32) dX6_weatherHere_24 (by decide) (fun c => absurd c (by decide)) (fun _ => ?_)
      refine J_aload_n (pc := 27) dX6_weatherHere_27 rfl ?_
      refine J_iconst (pc := 28) (v := nI 2) dX6_weatherHere_28 (by decide) ?_
      refine K_Vv1 (pc := 29) (Y' := YX6_fails) dX6_weatherHere_29 lX6_93 mX6_fails vX6_fails ⟨_, _, rfl⟩ sh131 (Nat.le_of_ble_eq_true rfl) (c6_fails (c := 2)) ?_
      rintro h1 rfl
      have z1 : (nrm u).1 = 0 := (nI0e hs.b).mp c12
      obtain ⟨z2, z3, z4⟩ := nrm_0 z1
      have tk1 := (hs.2.2.2.2.2.1 z1).1
      rw [nrm_2] at tk1
      have k5 := hs.2.2.1.2.2.2
      rw [nrm_2] at k5
      have wl : wd t u.2 ≤ 12 := wd_le
      have H2 : RT L (sWea t u) (flH h 2) := by
        have e : sWea t u = sRef true 2 (nrm u) := by
          rw [sWea, sExp_e]
          by_cases k1 : u.2.2.2.1 = 1
          · rw [sRef_n (b := decide (u.2.2.2.1 ≠ 1)) (by simp [k1]), decide_eq_true (p := ¬ (4 ≤ wd t u.2 ∧ wd t u.2 < 8))]
            exact fun q => b21 (by rw [y1 (by rw [tk1, k1])]; exact (nmI_w (wd t u.2) (by omega)).1.mpr q)
          · rw [decide_eq_true (p := u.2.2.2.1 ≠ 1) k1, sRef_f]
            rw [sRef_y rfl z1]; show (2 : Nat) ≠ 0; decide
        rw [e]
        exact RT_fl hs (by omega) (by omega)
      have f2 : rfm h (flH h 2) := flH_rf
      refine J_aload_n (pc := 32) dX6_weatherHere_32 rfl ?_
      refine K_Vv0 (pc := 33) (Y' := YX6_step) dX6_weatherHere_33 lX6_97 mX6_step vX6_step ⟨_, _, rfl⟩ sh131 (Nat.le_of_ble_eq_true rfl) (c6_step (hT.rf f2) H2) ?_
      rintro h3 ⟨hs3, f3⟩
      refine J_aload_n (pc := 36) dX6_weatherHere_36 rfl ?_
      refine J_getI (pc := 37) dX6_weatherHere_37 fX6_63 sh131 rfl (hs3.2.2.2.2.1) ?_
      refine J_if_ne (pc := 40) (tgt := 47) dX6_weatherHere_40 (by decide) (fun c40 => ?_) (fun c40 => ?_)
      · skip
        refine J_iconst (pc := 47) (v := nI 0) dX6_weatherHere_47 (by decide) ?_
        refine K_iret (pc := 48) dX6_weatherHere_48 rfl ?_
        refine ⟨hs3, f2.tr f3, fun z => absurd z (fun z => c40 (by rw [z]; rfl))⟩
      · skip
        refine J_iload_n (pc := 43) dX6_weatherHere_43 rfl ?_
        refine J_goto (pc := 44) (tgt := 48) dX6_weatherHere_44 (by decide) ?_
        refine K_iret (pc := 48) dX6_weatherHere_48 rfl ?_
        refine ⟨hs3, f2.tr f3, fun z => ?_⟩
        have z5 := sAdv_0 (nrm_0 z).1
        refine False.elim ?_
        have q := sWea_0 z5
        have y1' := y1 (by rw [tk1, q.2.1])
        exact b21 (by rw [y1']; exact (nmI_w (wd t u.2) (by omega)).1.mpr q.2.2.1)
set_option maxHeartbeats 400000 in
theorem c6_readCover {g : jG} {d : Nat} {h : jH} {L c : Nat} {t : Nat → Int32} {s : sS} {D : sD} {P : Nat → Int32} (hT : RP L t h) (hW : RW h) (hs : RT L (nrm (sAdv L t s)) h) (h0 : cov0 s D = s) (hc : h 134 37 = nI c) (hc5 : c < 5) : Mv g (d + 4) YX6_readCover h [.ref 131] (fun h' => (RT L (nrm (sAdv L t (cov7 L t s D))) h' ∧ qf h h' ∧ ((cov7 L t s D).1 = 0 → (RG P h → RG (addP c (sVal (cov1 L t s D)) (sVal (cov2 L t s D)) (sWv t (cov5 L t s D)) (sVal (cov6 L t s D)) (sVal (cov7 L t s D)) P) h') ∧ h' 131 6 = mxI (sVal (cov2 L t s D)) (mxI (sVal (cov1 L t s D)) (h 131 6)) ∧ h' 131 4 = h 131 4 ∧ h' 131 5 = h 131 5)) ∧ h' 131 5 = h 131 5) := by
  refine M.of (by decide) rfl (Nat.le_of_ble_eq_true rfl) ?_
  refine J_bipush (pc := 0) (v := nI 12) dX6_readCover_0 (by decide) ?_
  refine J_iconst (pc := 2) (v := nI 5) dX6_readCover_2 (by decide) ?_
  refine J_aload_n (pc := 3) dX6_readCover_3 rfl ?_
  refine J_getR (pc := 4) dX6_readCover_4 fX6_16 sh131 rfl ?_
  refine J_bipush (pc := 7) (v := nI 37) dX6_readCover_7 (by decide) ?_
  refine J_iald (pc := 9) dX6_readCover_9 sh134 (rfl) (by omega) (hc) (by decide) ?_
  refine J_imul (pc := 10) dX6_readCover_10 (pk_mul _ _) ?_
  refine J_iadd (pc := 11) dX6_readCover_11 (nI_add _ _) ?_
  refine J_istore_n (pc := 12) dX6_readCover_12 (by decide) ?_
  refine J_aload_n (pc := 13) dX6_readCover_13 rfl ?_
  refine K_Vi0 (pc := 14) (Y' := YX6_oneHere) dX6_readCover_14 lX6_113 mX6_oneHere vX6_oneHere ⟨_, _, rfl⟩ sh131 (Nat.le_of_ble_eq_true rfl) (c6_oneHere hT hs) ?_
  rintro x1 h1 ⟨hs1, f1, ex1⟩
  have ec1 : sNm (nI 0) (nI 3) (sAdv L t s) = cov1 L t s D := by rw [cov1, h0, sNum]
  rw [ec1] at hs1 ex1
  have b1 : (cov1 L t s D).1 = 0 → nb 4 (sVal (cov1 L t s D)) := fun z => inb (n := 3) (by omega) (sNum_0 (s := cov0 s D) z).2
  have c1' : h1 134 37 = nI c := (f1 134 37 (by omega)).trans ((j_up_o (by omega)).trans hc)
  refine J_istore_n (pc := 17) dX6_readCover_17 (by decide) ?_
  refine J_aload_n (pc := 18) dX6_readCover_18 rfl ?_
  refine J_getI (pc := 19) dX6_readCover_19 fX6_63 sh131 rfl (hs1.2.2.2.2.1) ?_
  refine J_if_ne (pc := 22) (tgt := 46) dX6_readCover_22 (by decide) (fun c22 => ?_) (fun c22 => ?_)
  · skip
    have H1 : RT L (sRef (decide ((sAdv L t (cov1 L t s D)).2.2.2.1 = 2 ∧ (sAdv L t (cov1 L t s D)).2.2.2.2 = sVal (cov1 L t s D))) 3 (nrm (sAdv L t (cov1 L t s D)))) h1 := by
      rw [sRef_f (fun z => c22 (by rw [z]; rfl))]; exact hs1
    have f1b : rfm h1 h1 := rfm.rf
    have nrmV : nrm (sRef (decide ((sAdv L t (cov1 L t s D)).2.2.2.1 = 2 ∧ (sAdv L t (cov1 L t s D)).2.2.2.2 = sVal (cov1 L t s D))) 3 (nrm (sAdv L t (cov1 L t s D)))) = (sRef (decide ((sAdv L t (cov1 L t s D)).2.2.2.1 = 2 ∧ (sAdv L t (cov1 L t s D)).2.2.2.2 = sVal (cov1 L t s D))) 3 (nrm (sAdv L t (cov1 L t s D)))) := by
      by_cases z : (sRef (decide ((sAdv L t (cov1 L t s D)).2.2.2.1 = 2 ∧ (sAdv L t (cov1 L t s D)).2.2.2.2 = sVal (cov1 L t s D))) 3 (nrm (sAdv L t (cov1 L t s D)))).1 = 0
      · have q := sRef_0 (by decide) z
        rw [nrm_g]
        rw [sRef_2, nrm_2]
        exact (nrm_0 q.1).2.1
      · exact nrm_f z
    refine J_aload_n (pc := 46) dX6_readCover_46 rfl ?_
    refine J_getR (pc := 47) dX6_readCover_47 fX6_16 sh131 rfl ?_
    refine J_iload_n (pc := 50) dX6_readCover_50 rfl ?_
    refine J_iload_n (pc := 51) dX6_readCover_51 rfl ?_
    refine J_iast (pc := 52) dX6_readCover_52 sh134 (rfl) (by omega) (by decide) ?_
    refine J_aload_n (pc := 53) dX6_readCover_53 rfl ?_
    refine J_getR (pc := 54) dX6_readCover_54 fX6_16 sh131 rfl ?_
    refine J_iload_n (pc := 57) dX6_readCover_57 rfl ?_
    refine J_iconst (pc := 58) (v := nI 1) dX6_readCover_58 (by decide) ?_
    refine J_iadd (pc := 59) dX6_readCover_59 (nI_add _ _) ?_
    refine J_aload_n (pc := 60) dX6_readCover_60 rfl ?_
    refine K_Vi0 (pc := 61) (Y' := YX6_oneHere) dX6_readCover_61 lX6_113 mX6_oneHere vX6_oneHere ⟨_, _, rfl⟩ sh131 (Nat.le_of_ble_eq_true rfl) (c6_oneHere (L := L) (t := t) (u := (sRef (decide ((sAdv L t (cov1 L t s D)).2.2.2.1 = 2 ∧ (sAdv L t (cov1 L t s D)).2.2.2.2 = sVal (cov1 L t s D))) 3 (nrm (sAdv L t (cov1 L t s D))))) (h := (j_up h1 134 (12 + 5 * c) x1)) ((((hT.qf (qf_6 (k := 6) (by omega) (by omega))).rf f1).rf f1b).qf qf_p) (by rw [nrmV]; exact H1.p)) ?_
    rintro x2 h2 ⟨hs2, f2, ex2⟩
    rw [cov3_eq b1] at hs2 ex2
    have hs2 : RT L (nrm (sAdv L t (cov3 L t s D))) h2 := hs2
    have Q2 : qf h h2 := ((((qf_6 (k := 6) (by omega) (by omega)).tr f1.qf).tr f1b.qf).tr (qf_p.tr (qf_6 (k := 6) (by omega) (by omega)))).tr f2.qf
    refine J_iast (pc := 64) dX6_readCover_64 sh134 (rfl) (by omega) (by decide) ?_
    refine J_aload_n (pc := 65) dX6_readCover_65 rfl ?_
    refine J_getR (pc := 66) dX6_readCover_66 fX6_16 sh131 rfl ?_
    refine J_iload_n (pc := 69) dX6_readCover_69 rfl ?_
    refine J_iconst (pc := 70) (v := nI 2) dX6_readCover_70 (by decide) ?_
    refine J_iadd (pc := 71) dX6_readCover_71 (nI_add _ _) ?_
    refine J_aload_n (pc := 72) dX6_readCover_72 rfl ?_
    refine K_Vi0 (pc := 73) (Y' := YX6_weatherHere) dX6_readCover_73 lX6_116 mX6_weatherHere vX6_weatherHere ⟨_, _, rfl⟩ sh131 (Nat.le_of_ble_eq_true rfl) (c6_weatherHere (L := L) (t := t) (u := sAdv L t (cov3 L t s D)) (hT.qf (Q2.tr qf_p)) hs2.p (hW.qf (Q2.tr qf_p))) ?_
    rintro x3 h3 ⟨hs3, f3, ex3⟩
    have hs3 : RT L (nrm (sAdv L t (cov5 L t s D))) h3 := hs3
    have ex3 : (nrm (sAdv L t (cov5 L t s D))).1 = 0 → x3 = sWv t (cov5 L t s D) := ex3
    have Q3 := (Q2.tr qf_p).tr f3.qf
    refine J_iast (pc := 76) dX6_readCover_76 sh134 (rfl) (by omega) (by decide) ?_
    refine J_aload_n (pc := 77) dX6_readCover_77 rfl ?_
    refine J_getR (pc := 78) dX6_readCover_78 fX6_16 sh131 rfl ?_
    refine J_iload_n (pc := 81) dX6_readCover_81 rfl ?_
    refine J_iconst (pc := 82) (v := nI 3) dX6_readCover_82 (by decide) ?_
    refine J_iadd (pc := 83) dX6_readCover_83 (nI_add _ _) ?_
    refine J_aload_n (pc := 84) dX6_readCover_84 rfl ?_
    refine J_iconst (pc := 85) (v := nI 0) dX6_readCover_85 (by decide) ?_
    refine J_bipush (pc := 86) (v := nI 20) dX6_readCover_86 (by decide) ?_
    refine K_Vi2 (pc := 88) (Y' := YX6_number) dX6_readCover_88 lX6_100 mX6_number vX6_number ⟨_, _, rfl⟩ sh131 (Nat.le_of_ble_eq_true rfl) (c6_number (L := L) (t := t) (u := sAdv L t (cov5 L t s D)) (lo := nI 0) (hi := nI 20) (hT.qf (Q3.tr qf_p)) hs3.p) ?_
    rintro x4 h4 ⟨hs4, f4, ex4⟩
    have hs4 : RT L (nrm (sAdv L t (cov6 L t s D))) h4 := hs4
    have ex4 : (cov6 L t s D).1 = 0 → x4 = sVal (cov6 L t s D) := ex4
    have Q4 := (Q3.tr qf_p).tr f4.qf
    refine J_iast (pc := 91) dX6_readCover_91 sh134 (rfl) (by omega) (by decide) ?_
    refine J_aload_n (pc := 92) dX6_readCover_92 rfl ?_
    refine J_getR (pc := 93) dX6_readCover_93 fX6_16 sh131 rfl ?_
    refine J_iload_n (pc := 96) dX6_readCover_96 rfl ?_
    refine J_iconst (pc := 97) (v := nI 4) dX6_readCover_97 (by decide) ?_
    refine J_iadd (pc := 98) dX6_readCover_98 (nI_add _ _) ?_
    refine J_aload_n (pc := 99) dX6_readCover_99 rfl ?_
    refine J_iconst (pc := 100) (v := nI 0) dX6_readCover_100 (by decide) ?_
    refine J_bipush (pc := 101) (v := nI 9) dX6_readCover_101 (by decide) ?_
    refine K_Vi2 (pc := 103) (Y' := YX6_number) dX6_readCover_103 lX6_100 mX6_number vX6_number ⟨_, _, rfl⟩ sh131 (Nat.le_of_ble_eq_true rfl) (c6_number (L := L) (t := t) (u := sAdv L t (cov6 L t s D)) (lo := nI 0) (hi := nI 9) (hT.qf (Q4.tr qf_p)) hs4.p) ?_
    rintro x5 h5 ⟨hs5, f5, ex5⟩
    have hs5 : RT L (nrm (sAdv L t (cov7 L t s D))) h5 := hs5
    have ex5 : (cov7 L t s D).1 = 0 → x5 = sVal (cov7 L t s D) := ex5
    have Q5 := (Q4.tr qf_p).tr f5.qf
    have c5' : j_up h5 134 (12 + 5 * c + 4) x5 134 37 = nI c := (j_up_o (by omega)).trans ((f5 134 37 (by omega)).trans ((j_up_o (by omega)).trans ((f4 134 37 (by omega)).trans ((j_up_o (by omega)).trans ((f3 134 37 (by omega)).trans ((j_up_o (by omega)).trans ((f2 134 37 (by omega)).trans ((j_up_o (by omega)).trans ((j_up_o (by omega)).trans ((f1b 134 37 (by omega)).trans c1'))))))))))
    refine J_iast (pc := 106) dX6_readCover_106 sh134 (rfl) (by omega) (by decide) ?_
    refine J_aload_n (pc := 107) dX6_readCover_107 rfl ?_
    refine J_getR (pc := 108) dX6_readCover_108 fX6_16 sh131 rfl ?_
    refine J_bipush (pc := 111) (v := nI 37) dX6_readCover_111 (by decide) ?_
    refine J_dup2 (pc := 113) dX6_readCover_113 rfl rfl ?_
    refine J_iald (pc := 114) dX6_readCover_114 sh134 (rfl) (by omega) (c5') (by decide) ?_
    refine J_iconst (pc := 115) (v := nI 1) dX6_readCover_115 (by decide) ?_
    refine J_iadd (pc := 116) dX6_readCover_116 (nI_add _ _) ?_
    refine J_iast (pc := 117) dX6_readCover_117 sh134 (rfl) (by omega) (by decide) ?_
    refine K_ret (pc := 118) dX6_readCover_118 rfl ?_
    have e5 : j_up (j_up h5 134 (12 + 5 * c + 4) x5) 134 37 (nI (c + 1)) 131 5 = h 131 5 := by
      rw [j_up_o (by omega), j_up_o (by omega), f5 131 5 (by omega), j_up_o (by omega), f4 131 5 (by omega), j_up_o (by omega), f3 131 5 (by omega), j_up_o (by omega), f2 131 5 (by omega), j_up_o (by omega), j_up_o (by omega), f1b 131 5 (by omega), f1 131 5 (by omega), j_up_o (by omega)]
    refine ⟨⟨(hs5.p).p, (Q5.tr qf_p).tr qf_p, fun z7 => ?_⟩, e5⟩
    have z6 := (sNum_0 (s := cov6 L t s D) z7).1
    have z6n := sNm_0n (u := sAdv L t (cov5 L t s D)) z6
    have z5 := (sNum_0 (s := cov5 L t s D) z6).1
    have z3 := sAdv_0 (sWea_0 (s := sAdv L t (cov3 L t s D)) z5).1
    have z2 := (sRef_0 (by decide) z3).1
    have z1 := (sNum_0 (s := cov1 L t s D) z2).1
    have e3 : cov3 L t s D = cov2 L t s D := (sRef_0 (by decide) z3).2.2
    have y2 : x2 = sVal (cov2 L t s D) := by
      have := ex2 z3
      rw [show sRef (decide (sVal (cov1 L t s D) = sVal (sNm (nI 0) (nI 3) (sAdv L t (cov1 L t s D))))) 3 (sNm (nI 0) (nI 3) (sAdv L t (cov1 L t s D))) = cov3 L t s D from rfl, e3] at this
      exact this
    rw [ex5 z7, show nI (c + 1) = nI c + nI 1 from (nI_add c 1).symm]
    rw [ex1 z1] at f1 f2
    rw [y2] at f2 f3
    rw [ex3 z6n] at f4
    rw [ex4 z6] at f5
    refine ⟨fun hG => ?_, ?_, ?_, ?_⟩
    · have G1 := ((((hG.u (k := 6) (x := mxI (sVal (cov1 L t s D)) (h 131 6))).rf f1).rf f1b).up (k := 12 + 5 * c) (x := sVal (cov1 L t s D)))
      have G2 := (((G1.u (k := 6) (x := mxI (sVal (cov2 L t s D)) _)).rf f2).up (k := 12 + 5 * c + 1) (x := sVal (cov2 L t s D)))
      have G3 := (G2.rf f3).up (k := 12 + 5 * c + 2) (x := sWv t (cov5 L t s D))
      have G4 := (G3.rf f4).up (k := 12 + 5 * c + 3) (x := sVal (cov6 L t s D))
      have G5 := (G4.rf f5).up (k := 12 + 5 * c + 4) (x := sVal (cov7 L t s D))
      exact G5.up (k := 37) (x := nI c + nI 1)
    · rw [j_up_o (by omega), j_up_o (by omega), f5 131 6 (by omega), j_up_o (by omega), f4 131 6 (by omega), j_up_o (by omega), f3 131 6 (by omega), j_up_o (by omega), f2 131 6 (by omega), j_up_s, j_up_o (by omega), f1b 131 6 (by omega), f1 131 6 (by omega), j_up_s]
    · rw [j_up_o (by omega), j_up_o (by omega), f5 131 4 (by omega), j_up_o (by omega), f4 131 4 (by omega), j_up_o (by omega), f3 131 4 (by omega), j_up_o (by omega), f2 131 4 (by omega), j_up_o (by omega), j_up_o (by omega), f1b 131 4 (by omega), f1 131 4 (by omega), j_up_o (by omega)]
    · rw [j_up_o (by omega), j_up_o (by omega), f5 131 5 (by omega), j_up_o (by omega), f4 131 5 (by omega), j_up_o (by omega), f3 131 5 (by omega), j_up_o (by omega), f2 131 5 (by omega), j_up_o (by omega), j_up_o (by omega), f1b 131 5 (by omega), f1 131 5 (by omega), j_up_o (by omega)]
  · skip
    refine J_aload_n (pc := 25) dX6_readCover_25 rfl ?_
    refine J_getI (pc := 26) dX6_readCover_26 fX6_72 sh131 rfl ((hs1.2.2.2.2.2.1 ((nI0e hs1.b).mp c22)).1) ?_
    refine J_iconst (pc := 29) (v := nI 2) dX6_readCover_29 (by decide) ?_
    refine J_icmp_ne (pc := 30) (tgt := 46) dX6_readCover_30 (by decide) (fun c30 => ?_) (fun c30 => ?_)
    · skip
      have kb : (sAdv L t (cov1 L t s D)).2.2.2.1 ≤ 4 := by have := hs1.2.2.1.2.2.2; rw [nrm_2] at this; exact this
      have z1 : (nrm (sAdv L t (cov1 L t s D))).1 = 0 := (nI0e hs1.b).mp c22
      have H1 : RT L (sRef (decide ((sAdv L t (cov1 L t s D)).2.2.2.1 = 2 ∧ (sAdv L t (cov1 L t s D)).2.2.2.2 = sVal (cov1 L t s D))) 3 (nrm (sAdv L t (cov1 L t s D)))) h1 := by
        rw [sRef_n (fun z => c30 (congrArg nI (by rw [nrm_2]; exact (of_decide_eq_true z).1)))]; exact hs1
      have f1b : rfm h1 h1 := rfm.rf
      have nrmV : nrm (sRef (decide ((sAdv L t (cov1 L t s D)).2.2.2.1 = 2 ∧ (sAdv L t (cov1 L t s D)).2.2.2.2 = sVal (cov1 L t s D))) 3 (nrm (sAdv L t (cov1 L t s D)))) = (sRef (decide ((sAdv L t (cov1 L t s D)).2.2.2.1 = 2 ∧ (sAdv L t (cov1 L t s D)).2.2.2.2 = sVal (cov1 L t s D))) 3 (nrm (sAdv L t (cov1 L t s D)))) := by
        by_cases z : (sRef (decide ((sAdv L t (cov1 L t s D)).2.2.2.1 = 2 ∧ (sAdv L t (cov1 L t s D)).2.2.2.2 = sVal (cov1 L t s D))) 3 (nrm (sAdv L t (cov1 L t s D)))).1 = 0
        · have q := sRef_0 (by decide) z
          rw [nrm_g]
          rw [sRef_2, nrm_2]
          exact (nrm_0 q.1).2.1
        · exact nrm_f z
      refine J_aload_n (pc := 46) dX6_readCover_46 rfl ?_
      refine J_getR (pc := 47) dX6_readCover_47 fX6_16 sh131 rfl ?_
      refine J_iload_n (pc := 50) dX6_readCover_50 rfl ?_
      refine J_iload_n (pc := 51) dX6_readCover_51 rfl ?_
      refine J_iast (pc := 52) dX6_readCover_52 sh134 (rfl) (by omega) (by decide) ?_
      refine J_aload_n (pc := 53) dX6_readCover_53 rfl ?_
      refine J_getR (pc := 54) dX6_readCover_54 fX6_16 sh131 rfl ?_
      refine J_iload_n (pc := 57) dX6_readCover_57 rfl ?_
      refine J_iconst (pc := 58) (v := nI 1) dX6_readCover_58 (by decide) ?_
      refine J_iadd (pc := 59) dX6_readCover_59 (nI_add _ _) ?_
      refine J_aload_n (pc := 60) dX6_readCover_60 rfl ?_
      refine K_Vi0 (pc := 61) (Y' := YX6_oneHere) dX6_readCover_61 lX6_113 mX6_oneHere vX6_oneHere ⟨_, _, rfl⟩ sh131 (Nat.le_of_ble_eq_true rfl) (c6_oneHere (L := L) (t := t) (u := (sRef (decide ((sAdv L t (cov1 L t s D)).2.2.2.1 = 2 ∧ (sAdv L t (cov1 L t s D)).2.2.2.2 = sVal (cov1 L t s D))) 3 (nrm (sAdv L t (cov1 L t s D))))) (h := (j_up h1 134 (12 + 5 * c) x1)) ((((hT.qf (qf_6 (k := 6) (by omega) (by omega))).rf f1).rf f1b).qf qf_p) (by rw [nrmV]; exact H1.p)) ?_
      rintro x2 h2 ⟨hs2, f2, ex2⟩
      rw [cov3_eq b1] at hs2 ex2
      have hs2 : RT L (nrm (sAdv L t (cov3 L t s D))) h2 := hs2
      have Q2 : qf h h2 := ((((qf_6 (k := 6) (by omega) (by omega)).tr f1.qf).tr f1b.qf).tr (qf_p.tr (qf_6 (k := 6) (by omega) (by omega)))).tr f2.qf
      refine J_iast (pc := 64) dX6_readCover_64 sh134 (rfl) (by omega) (by decide) ?_
      refine J_aload_n (pc := 65) dX6_readCover_65 rfl ?_
      refine J_getR (pc := 66) dX6_readCover_66 fX6_16 sh131 rfl ?_
      refine J_iload_n (pc := 69) dX6_readCover_69 rfl ?_
      refine J_iconst (pc := 70) (v := nI 2) dX6_readCover_70 (by decide) ?_
      refine J_iadd (pc := 71) dX6_readCover_71 (nI_add _ _) ?_
      refine J_aload_n (pc := 72) dX6_readCover_72 rfl ?_
      refine K_Vi0 (pc := 73) (Y' := YX6_weatherHere) dX6_readCover_73 lX6_116 mX6_weatherHere vX6_weatherHere ⟨_, _, rfl⟩ sh131 (Nat.le_of_ble_eq_true rfl) (c6_weatherHere (L := L) (t := t) (u := sAdv L t (cov3 L t s D)) (hT.qf (Q2.tr qf_p)) hs2.p (hW.qf (Q2.tr qf_p))) ?_
      rintro x3 h3 ⟨hs3, f3, ex3⟩
      have hs3 : RT L (nrm (sAdv L t (cov5 L t s D))) h3 := hs3
      have ex3 : (nrm (sAdv L t (cov5 L t s D))).1 = 0 → x3 = sWv t (cov5 L t s D) := ex3
      have Q3 := (Q2.tr qf_p).tr f3.qf
      refine J_iast (pc := 76) dX6_readCover_76 sh134 (rfl) (by omega) (by decide) ?_
      refine J_aload_n (pc := 77) dX6_readCover_77 rfl ?_
      refine J_getR (pc := 78) dX6_readCover_78 fX6_16 sh131 rfl ?_
      refine J_iload_n (pc := 81) dX6_readCover_81 rfl ?_
      refine J_iconst (pc := 82) (v := nI 3) dX6_readCover_82 (by decide) ?_
      refine J_iadd (pc := 83) dX6_readCover_83 (nI_add _ _) ?_
      refine J_aload_n (pc := 84) dX6_readCover_84 rfl ?_
      refine J_iconst (pc := 85) (v := nI 0) dX6_readCover_85 (by decide) ?_
      refine J_bipush (pc := 86) (v := nI 20) dX6_readCover_86 (by decide) ?_
      refine K_Vi2 (pc := 88) (Y' := YX6_number) dX6_readCover_88 lX6_100 mX6_number vX6_number ⟨_, _, rfl⟩ sh131 (Nat.le_of_ble_eq_true rfl) (c6_number (L := L) (t := t) (u := sAdv L t (cov5 L t s D)) (lo := nI 0) (hi := nI 20) (hT.qf (Q3.tr qf_p)) hs3.p) ?_
      rintro x4 h4 ⟨hs4, f4, ex4⟩
      have hs4 : RT L (nrm (sAdv L t (cov6 L t s D))) h4 := hs4
      have ex4 : (cov6 L t s D).1 = 0 → x4 = sVal (cov6 L t s D) := ex4
      have Q4 := (Q3.tr qf_p).tr f4.qf
      refine J_iast (pc := 91) dX6_readCover_91 sh134 (rfl) (by omega) (by decide) ?_
      refine J_aload_n (pc := 92) dX6_readCover_92 rfl ?_
      refine J_getR (pc := 93) dX6_readCover_93 fX6_16 sh131 rfl ?_
      refine J_iload_n (pc := 96) dX6_readCover_96 rfl ?_
      refine J_iconst (pc := 97) (v := nI 4) dX6_readCover_97 (by decide) ?_
      refine J_iadd (pc := 98) dX6_readCover_98 (nI_add _ _) ?_
      refine J_aload_n (pc := 99) dX6_readCover_99 rfl ?_
      refine J_iconst (pc := 100) (v := nI 0) dX6_readCover_100 (by decide) ?_
      refine J_bipush (pc := 101) (v := nI 9) dX6_readCover_101 (by decide) ?_
      refine K_Vi2 (pc := 103) (Y' := YX6_number) dX6_readCover_103 lX6_100 mX6_number vX6_number ⟨_, _, rfl⟩ sh131 (Nat.le_of_ble_eq_true rfl) (c6_number (L := L) (t := t) (u := sAdv L t (cov6 L t s D)) (lo := nI 0) (hi := nI 9) (hT.qf (Q4.tr qf_p)) hs4.p) ?_
      rintro x5 h5 ⟨hs5, f5, ex5⟩
      have hs5 : RT L (nrm (sAdv L t (cov7 L t s D))) h5 := hs5
      have ex5 : (cov7 L t s D).1 = 0 → x5 = sVal (cov7 L t s D) := ex5
      have Q5 := (Q4.tr qf_p).tr f5.qf
      have c5' : j_up h5 134 (12 + 5 * c + 4) x5 134 37 = nI c := (j_up_o (by omega)).trans ((f5 134 37 (by omega)).trans ((j_up_o (by omega)).trans ((f4 134 37 (by omega)).trans ((j_up_o (by omega)).trans ((f3 134 37 (by omega)).trans ((j_up_o (by omega)).trans ((f2 134 37 (by omega)).trans ((j_up_o (by omega)).trans ((j_up_o (by omega)).trans ((f1b 134 37 (by omega)).trans c1'))))))))))
      refine J_iast (pc := 106) dX6_readCover_106 sh134 (rfl) (by omega) (by decide) ?_
      refine J_aload_n (pc := 107) dX6_readCover_107 rfl ?_
      refine J_getR (pc := 108) dX6_readCover_108 fX6_16 sh131 rfl ?_
      refine J_bipush (pc := 111) (v := nI 37) dX6_readCover_111 (by decide) ?_
      refine J_dup2 (pc := 113) dX6_readCover_113 rfl rfl ?_
      refine J_iald (pc := 114) dX6_readCover_114 sh134 (rfl) (by omega) (c5') (by decide) ?_
      refine J_iconst (pc := 115) (v := nI 1) dX6_readCover_115 (by decide) ?_
      refine J_iadd (pc := 116) dX6_readCover_116 (nI_add _ _) ?_
      refine J_iast (pc := 117) dX6_readCover_117 sh134 (rfl) (by omega) (by decide) ?_
      refine K_ret (pc := 118) dX6_readCover_118 rfl ?_
      have e5 : j_up (j_up h5 134 (12 + 5 * c + 4) x5) 134 37 (nI (c + 1)) 131 5 = h 131 5 := by
        rw [j_up_o (by omega), j_up_o (by omega), f5 131 5 (by omega), j_up_o (by omega), f4 131 5 (by omega), j_up_o (by omega), f3 131 5 (by omega), j_up_o (by omega), f2 131 5 (by omega), j_up_o (by omega), j_up_o (by omega), f1b 131 5 (by omega), f1 131 5 (by omega), j_up_o (by omega)]
      refine ⟨⟨(hs5.p).p, (Q5.tr qf_p).tr qf_p, fun z7 => ?_⟩, e5⟩
      have z6 := (sNum_0 (s := cov6 L t s D) z7).1
      have z6n := sNm_0n (u := sAdv L t (cov5 L t s D)) z6
      have z5 := (sNum_0 (s := cov5 L t s D) z6).1
      have z3 := sAdv_0 (sWea_0 (s := sAdv L t (cov3 L t s D)) z5).1
      have z2 := (sRef_0 (by decide) z3).1
      have z1 := (sNum_0 (s := cov1 L t s D) z2).1
      have e3 : cov3 L t s D = cov2 L t s D := (sRef_0 (by decide) z3).2.2
      have y2 : x2 = sVal (cov2 L t s D) := by
        have := ex2 z3
        rw [show sRef (decide (sVal (cov1 L t s D) = sVal (sNm (nI 0) (nI 3) (sAdv L t (cov1 L t s D))))) 3 (sNm (nI 0) (nI 3) (sAdv L t (cov1 L t s D))) = cov3 L t s D from rfl, e3] at this
        exact this
      rw [ex5 z7, show nI (c + 1) = nI c + nI 1 from (nI_add c 1).symm]
      rw [ex1 z1] at f1 f2
      rw [y2] at f2 f3
      rw [ex3 z6n] at f4
      rw [ex4 z6] at f5
      refine ⟨fun hG => ?_, ?_, ?_, ?_⟩
      · have G1 := ((((hG.u (k := 6) (x := mxI (sVal (cov1 L t s D)) (h 131 6))).rf f1).rf f1b).up (k := 12 + 5 * c) (x := sVal (cov1 L t s D)))
        have G2 := (((G1.u (k := 6) (x := mxI (sVal (cov2 L t s D)) _)).rf f2).up (k := 12 + 5 * c + 1) (x := sVal (cov2 L t s D)))
        have G3 := (G2.rf f3).up (k := 12 + 5 * c + 2) (x := sWv t (cov5 L t s D))
        have G4 := (G3.rf f4).up (k := 12 + 5 * c + 3) (x := sVal (cov6 L t s D))
        have G5 := (G4.rf f5).up (k := 12 + 5 * c + 4) (x := sVal (cov7 L t s D))
        exact G5.up (k := 37) (x := nI c + nI 1)
      · rw [j_up_o (by omega), j_up_o (by omega), f5 131 6 (by omega), j_up_o (by omega), f4 131 6 (by omega), j_up_o (by omega), f3 131 6 (by omega), j_up_o (by omega), f2 131 6 (by omega), j_up_s, j_up_o (by omega), f1b 131 6 (by omega), f1 131 6 (by omega), j_up_s]
      · rw [j_up_o (by omega), j_up_o (by omega), f5 131 4 (by omega), j_up_o (by omega), f4 131 4 (by omega), j_up_o (by omega), f3 131 4 (by omega), j_up_o (by omega), f2 131 4 (by omega), j_up_o (by omega), j_up_o (by omega), f1b 131 4 (by omega), f1 131 4 (by omega), j_up_o (by omega)]
      · rw [j_up_o (by omega), j_up_o (by omega), f5 131 5 (by omega), j_up_o (by omega), f4 131 5 (by omega), j_up_o (by omega), f3 131 5 (by omega), j_up_o (by omega), f2 131 5 (by omega), j_up_o (by omega), j_up_o (by omega), f1b 131 5 (by omega), f1 131 5 (by omega), j_up_o (by omega)]
    · skip
      refine J_aload_n (pc := 33) dX6_readCover_33 rfl ?_
      refine J_getI (pc := 34) dX6_readCover_34 fX6_82 sh131 rfl (rfl) ?_
      refine J_iload_n (pc := 37) dX6_readCover_37 rfl ?_
      refine J_icmp_ne (pc := 38) (tgt := 46) dX6_readCover_38 (by decide) (fun c38 => ?_) (fun c38 => ?_)
      · skip
        have kb : (sAdv L t (cov1 L t s D)).2.2.2.1 ≤ 4 := by have := hs1.2.2.1.2.2.2; rw [nrm_2] at this; exact this
        have z1 : (nrm (sAdv L t (cov1 L t s D))).1 = 0 := (nI0e hs1.b).mp c22
        have k2 : (sAdv L t (cov1 L t s D)).2.2.2.1 = 2 := (nIe (by omega) (by omega)).mp (by rw [nrm_2] at c30; exact c30)
        have v2 : h1 131 15 = (sAdv L t (cov1 L t s D)).2.2.2.2 := by have := (hs1.2.2.2.2.2.1 z1).2.1; rw [nrm_2] at this; exact this k2
        have w2 := ex1 (sAdv_0 (nrm_0 z1).1)
        have H1 : RT L (sRef (decide ((sAdv L t (cov1 L t s D)).2.2.2.1 = 2 ∧ (sAdv L t (cov1 L t s D)).2.2.2.2 = sVal (cov1 L t s D))) 3 (nrm (sAdv L t (cov1 L t s D)))) h1 := by
          rw [sRef_n (fun z => c38 (by rw [v2, w2]; exact (of_decide_eq_true z).2))]; exact hs1
        have f1b : rfm h1 h1 := rfm.rf
        have nrmV : nrm (sRef (decide ((sAdv L t (cov1 L t s D)).2.2.2.1 = 2 ∧ (sAdv L t (cov1 L t s D)).2.2.2.2 = sVal (cov1 L t s D))) 3 (nrm (sAdv L t (cov1 L t s D)))) = (sRef (decide ((sAdv L t (cov1 L t s D)).2.2.2.1 = 2 ∧ (sAdv L t (cov1 L t s D)).2.2.2.2 = sVal (cov1 L t s D))) 3 (nrm (sAdv L t (cov1 L t s D)))) := by
          by_cases z : (sRef (decide ((sAdv L t (cov1 L t s D)).2.2.2.1 = 2 ∧ (sAdv L t (cov1 L t s D)).2.2.2.2 = sVal (cov1 L t s D))) 3 (nrm (sAdv L t (cov1 L t s D)))).1 = 0
          · have q := sRef_0 (by decide) z
            rw [nrm_g]
            rw [sRef_2, nrm_2]
            exact (nrm_0 q.1).2.1
          · exact nrm_f z
        refine J_aload_n (pc := 46) dX6_readCover_46 rfl ?_
        refine J_getR (pc := 47) dX6_readCover_47 fX6_16 sh131 rfl ?_
        refine J_iload_n (pc := 50) dX6_readCover_50 rfl ?_
        refine J_iload_n (pc := 51) dX6_readCover_51 rfl ?_
        refine J_iast (pc := 52) dX6_readCover_52 sh134 (rfl) (by omega) (by decide) ?_
        refine J_aload_n (pc := 53) dX6_readCover_53 rfl ?_
        refine J_getR (pc := 54) dX6_readCover_54 fX6_16 sh131 rfl ?_
        refine J_iload_n (pc := 57) dX6_readCover_57 rfl ?_
        refine J_iconst (pc := 58) (v := nI 1) dX6_readCover_58 (by decide) ?_
        refine J_iadd (pc := 59) dX6_readCover_59 (nI_add _ _) ?_
        refine J_aload_n (pc := 60) dX6_readCover_60 rfl ?_
        refine K_Vi0 (pc := 61) (Y' := YX6_oneHere) dX6_readCover_61 lX6_113 mX6_oneHere vX6_oneHere ⟨_, _, rfl⟩ sh131 (Nat.le_of_ble_eq_true rfl) (c6_oneHere (L := L) (t := t) (u := (sRef (decide ((sAdv L t (cov1 L t s D)).2.2.2.1 = 2 ∧ (sAdv L t (cov1 L t s D)).2.2.2.2 = sVal (cov1 L t s D))) 3 (nrm (sAdv L t (cov1 L t s D))))) (h := (j_up h1 134 (12 + 5 * c) x1)) ((((hT.qf (qf_6 (k := 6) (by omega) (by omega))).rf f1).rf f1b).qf qf_p) (by rw [nrmV]; exact H1.p)) ?_
        rintro x2 h2 ⟨hs2, f2, ex2⟩
        rw [cov3_eq b1] at hs2 ex2
        have hs2 : RT L (nrm (sAdv L t (cov3 L t s D))) h2 := hs2
        have Q2 : qf h h2 := ((((qf_6 (k := 6) (by omega) (by omega)).tr f1.qf).tr f1b.qf).tr (qf_p.tr (qf_6 (k := 6) (by omega) (by omega)))).tr f2.qf
        refine J_iast (pc := 64) dX6_readCover_64 sh134 (rfl) (by omega) (by decide) ?_
        refine J_aload_n (pc := 65) dX6_readCover_65 rfl ?_
        refine J_getR (pc := 66) dX6_readCover_66 fX6_16 sh131 rfl ?_
        refine J_iload_n (pc := 69) dX6_readCover_69 rfl ?_
        refine J_iconst (pc := 70) (v := nI 2) dX6_readCover_70 (by decide) ?_
        refine J_iadd (pc := 71) dX6_readCover_71 (nI_add _ _) ?_
        refine J_aload_n (pc := 72) dX6_readCover_72 rfl ?_
        refine K_Vi0 (pc := 73) (Y' := YX6_weatherHere) dX6_readCover_73 lX6_116 mX6_weatherHere vX6_weatherHere ⟨_, _, rfl⟩ sh131 (Nat.le_of_ble_eq_true rfl) (c6_weatherHere (L := L) (t := t) (u := sAdv L t (cov3 L t s D)) (hT.qf (Q2.tr qf_p)) hs2.p (hW.qf (Q2.tr qf_p))) ?_
        rintro x3 h3 ⟨hs3, f3, ex3⟩
        have hs3 : RT L (nrm (sAdv L t (cov5 L t s D))) h3 := hs3
        have ex3 : (nrm (sAdv L t (cov5 L t s D))).1 = 0 → x3 = sWv t (cov5 L t s D) := ex3
        have Q3 := (Q2.tr qf_p).tr f3.qf
        refine J_iast (pc := 76) dX6_readCover_76 sh134 (rfl) (by omega) (by decide) ?_
        refine J_aload_n (pc := 77) dX6_readCover_77 rfl ?_
        refine J_getR (pc := 78) dX6_readCover_78 fX6_16 sh131 rfl ?_
        refine J_iload_n (pc := 81) dX6_readCover_81 rfl ?_
        refine J_iconst (pc := 82) (v := nI 3) dX6_readCover_82 (by decide) ?_
        refine J_iadd (pc := 83) dX6_readCover_83 (nI_add _ _) ?_
        refine J_aload_n (pc := 84) dX6_readCover_84 rfl ?_
        refine J_iconst (pc := 85) (v := nI 0) dX6_readCover_85 (by decide) ?_
        refine J_bipush (pc := 86) (v := nI 20) dX6_readCover_86 (by decide) ?_
        refine K_Vi2 (pc := 88) (Y' := YX6_number) dX6_readCover_88 lX6_100 mX6_number vX6_number ⟨_, _, rfl⟩ sh131 (Nat.le_of_ble_eq_true rfl) (c6_number (L := L) (t := t) (u := sAdv L t (cov5 L t s D)) (lo := nI 0) (hi := nI 20) (hT.qf (Q3.tr qf_p)) hs3.p) ?_
        rintro x4 h4 ⟨hs4, f4, ex4⟩
        have hs4 : RT L (nrm (sAdv L t (cov6 L t s D))) h4 := hs4
        have ex4 : (cov6 L t s D).1 = 0 → x4 = sVal (cov6 L t s D) := ex4
        have Q4 := (Q3.tr qf_p).tr f4.qf
        refine J_iast (pc := 91) dX6_readCover_91 sh134 (rfl) (by omega) (by decide) ?_
        refine J_aload_n (pc := 92) dX6_readCover_92 rfl ?_
        refine J_getR (pc := 93) dX6_readCover_93 fX6_16 sh131 rfl ?_
        refine J_iload_n (pc := 96) dX6_readCover_96 rfl ?_
        refine J_iconst (pc := 97) (v := nI 4) dX6_readCover_97 (by decide) ?_
        refine J_iadd (pc := 98) dX6_readCover_98 (nI_add _ _) ?_
        refine J_aload_n (pc := 99) dX6_readCover_99 rfl ?_
        refine J_iconst (pc := 100) (v := nI 0) dX6_readCover_100 (by decide) ?_
        refine J_bipush (pc := 101) (v := nI 9) dX6_readCover_101 (by decide) ?_
        refine K_Vi2 (pc := 103) (Y' := YX6_number) dX6_readCover_103 lX6_100 mX6_number vX6_number ⟨_, _, rfl⟩ sh131 (Nat.le_of_ble_eq_true rfl) (c6_number (L := L) (t := t) (u := sAdv L t (cov6 L t s D)) (lo := nI 0) (hi := nI 9) (hT.qf (Q4.tr qf_p)) hs4.p) ?_
        rintro x5 h5 ⟨hs5, f5, ex5⟩
        have hs5 : RT L (nrm (sAdv L t (cov7 L t s D))) h5 := hs5
        have ex5 : (cov7 L t s D).1 = 0 → x5 = sVal (cov7 L t s D) := ex5
        have Q5 := (Q4.tr qf_p).tr f5.qf
        have c5' : j_up h5 134 (12 + 5 * c + 4) x5 134 37 = nI c := (j_up_o (by omega)).trans ((f5 134 37 (by omega)).trans ((j_up_o (by omega)).trans ((f4 134 37 (by omega)).trans ((j_up_o (by omega)).trans ((f3 134 37 (by omega)).trans ((j_up_o (by omega)).trans ((f2 134 37 (by omega)).trans ((j_up_o (by omega)).trans ((j_up_o (by omega)).trans ((f1b 134 37 (by omega)).trans c1'))))))))))
        refine J_iast (pc := 106) dX6_readCover_106 sh134 (rfl) (by omega) (by decide) ?_
        refine J_aload_n (pc := 107) dX6_readCover_107 rfl ?_
        refine J_getR (pc := 108) dX6_readCover_108 fX6_16 sh131 rfl ?_
        refine J_bipush (pc := 111) (v := nI 37) dX6_readCover_111 (by decide) ?_
        refine J_dup2 (pc := 113) dX6_readCover_113 rfl rfl ?_
        refine J_iald (pc := 114) dX6_readCover_114 sh134 (rfl) (by omega) (c5') (by decide) ?_
        refine J_iconst (pc := 115) (v := nI 1) dX6_readCover_115 (by decide) ?_
        refine J_iadd (pc := 116) dX6_readCover_116 (nI_add _ _) ?_
        refine J_iast (pc := 117) dX6_readCover_117 sh134 (rfl) (by omega) (by decide) ?_
        refine K_ret (pc := 118) dX6_readCover_118 rfl ?_
        have e5 : j_up (j_up h5 134 (12 + 5 * c + 4) x5) 134 37 (nI (c + 1)) 131 5 = h 131 5 := by
          rw [j_up_o (by omega), j_up_o (by omega), f5 131 5 (by omega), j_up_o (by omega), f4 131 5 (by omega), j_up_o (by omega), f3 131 5 (by omega), j_up_o (by omega), f2 131 5 (by omega), j_up_o (by omega), j_up_o (by omega), f1b 131 5 (by omega), f1 131 5 (by omega), j_up_o (by omega)]
        refine ⟨⟨(hs5.p).p, (Q5.tr qf_p).tr qf_p, fun z7 => ?_⟩, e5⟩
        have z6 := (sNum_0 (s := cov6 L t s D) z7).1
        have z6n := sNm_0n (u := sAdv L t (cov5 L t s D)) z6
        have z5 := (sNum_0 (s := cov5 L t s D) z6).1
        have z3 := sAdv_0 (sWea_0 (s := sAdv L t (cov3 L t s D)) z5).1
        have z2 := (sRef_0 (by decide) z3).1
        have z1 := (sNum_0 (s := cov1 L t s D) z2).1
        have e3 : cov3 L t s D = cov2 L t s D := (sRef_0 (by decide) z3).2.2
        have y2 : x2 = sVal (cov2 L t s D) := by
          have := ex2 z3
          rw [show sRef (decide (sVal (cov1 L t s D) = sVal (sNm (nI 0) (nI 3) (sAdv L t (cov1 L t s D))))) 3 (sNm (nI 0) (nI 3) (sAdv L t (cov1 L t s D))) = cov3 L t s D from rfl, e3] at this
          exact this
        rw [ex5 z7, show nI (c + 1) = nI c + nI 1 from (nI_add c 1).symm]
        rw [ex1 z1] at f1 f2
        rw [y2] at f2 f3
        rw [ex3 z6n] at f4
        rw [ex4 z6] at f5
        refine ⟨fun hG => ?_, ?_, ?_, ?_⟩
        · have G1 := ((((hG.u (k := 6) (x := mxI (sVal (cov1 L t s D)) (h 131 6))).rf f1).rf f1b).up (k := 12 + 5 * c) (x := sVal (cov1 L t s D)))
          have G2 := (((G1.u (k := 6) (x := mxI (sVal (cov2 L t s D)) _)).rf f2).up (k := 12 + 5 * c + 1) (x := sVal (cov2 L t s D)))
          have G3 := (G2.rf f3).up (k := 12 + 5 * c + 2) (x := sWv t (cov5 L t s D))
          have G4 := (G3.rf f4).up (k := 12 + 5 * c + 3) (x := sVal (cov6 L t s D))
          have G5 := (G4.rf f5).up (k := 12 + 5 * c + 4) (x := sVal (cov7 L t s D))
          exact G5.up (k := 37) (x := nI c + nI 1)
        · rw [j_up_o (by omega), j_up_o (by omega), f5 131 6 (by omega), j_up_o (by omega), f4 131 6 (by omega), j_up_o (by omega), f3 131 6 (by omega), j_up_o (by omega), f2 131 6 (by omega), j_up_s, j_up_o (by omega), f1b 131 6 (by omega), f1 131 6 (by omega), j_up_s]
        · rw [j_up_o (by omega), j_up_o (by omega), f5 131 4 (by omega), j_up_o (by omega), f4 131 4 (by omega), j_up_o (by omega), f3 131 4 (by omega), j_up_o (by omega), f2 131 4 (by omega), j_up_o (by omega), j_up_o (by omega), f1b 131 4 (by omega), f1 131 4 (by omega), j_up_o (by omega)]
        · rw [j_up_o (by omega), j_up_o (by omega), f5 131 5 (by omega), j_up_o (by omega), f4 131 5 (by omega), j_up_o (by omega), f3 131 5 (by omega), j_up_o (by omega), f2 131 5 (by omega), j_up_o (by omega), j_up_o (by omega), f1b 131 5 (by omega), f1 131 5 (by omega), j_up_o (by omega)]
      · skip
        refine J_aload_n (pc := 41) dX6_readCover_41 rfl ?_
        refine J_iconst (pc := 42) (v := nI 3) dX6_readCover_42 (by decide) ?_
        refine K_Vv1 (pc := 43) (Y' := YX6_fails) dX6_readCover_43 lX6_93 mX6_fails vX6_fails ⟨_, _, rfl⟩ sh131 (Nat.le_of_ble_eq_true rfl) (c6_fails (c := 3)) ?_
        rintro hz rfl
        have kb : (sAdv L t (cov1 L t s D)).2.2.2.1 ≤ 4 := by have := hs1.2.2.1.2.2.2; rw [nrm_2] at this; exact this
        have z1 : (nrm (sAdv L t (cov1 L t s D))).1 = 0 := (nI0e hs1.b).mp c22
        have k2 : (sAdv L t (cov1 L t s D)).2.2.2.1 = 2 := (nIe (by omega) (by omega)).mp (by rw [nrm_2] at c30; exact c30)
        have v2 : h1 131 15 = (sAdv L t (cov1 L t s D)).2.2.2.2 := by have := (hs1.2.2.2.2.2.1 z1).2.1; rw [nrm_2] at this; exact this k2
        have w2 := ex1 (sAdv_0 (nrm_0 z1).1)
        have H1 : RT L (sRef (decide ((sAdv L t (cov1 L t s D)).2.2.2.1 = 2 ∧ (sAdv L t (cov1 L t s D)).2.2.2.2 = sVal (cov1 L t s D))) 3 (nrm (sAdv L t (cov1 L t s D)))) (flH h1 3) := by
          rw [decide_eq_true (⟨k2, by rw [← v2, ← w2]; exact c38⟩ : (sAdv L t (cov1 L t s D)).2.2.2.1 = 2 ∧ (sAdv L t (cov1 L t s D)).2.2.2.2 = sVal (cov1 L t s D))]
          exact RT_fl hs1 (by omega) (by omega)
        have f1b : rfm h1 (flH h1 3) := flH_rf
        have nrmV : nrm (sRef (decide ((sAdv L t (cov1 L t s D)).2.2.2.1 = 2 ∧ (sAdv L t (cov1 L t s D)).2.2.2.2 = sVal (cov1 L t s D))) 3 (nrm (sAdv L t (cov1 L t s D)))) = (sRef (decide ((sAdv L t (cov1 L t s D)).2.2.2.1 = 2 ∧ (sAdv L t (cov1 L t s D)).2.2.2.2 = sVal (cov1 L t s D))) 3 (nrm (sAdv L t (cov1 L t s D)))) := by
          by_cases z : (sRef (decide ((sAdv L t (cov1 L t s D)).2.2.2.1 = 2 ∧ (sAdv L t (cov1 L t s D)).2.2.2.2 = sVal (cov1 L t s D))) 3 (nrm (sAdv L t (cov1 L t s D)))).1 = 0
          · have q := sRef_0 (by decide) z
            rw [nrm_g]
            rw [sRef_2, nrm_2]
            exact (nrm_0 q.1).2.1
          · exact nrm_f z
        refine J_aload_n (pc := 46) dX6_readCover_46 rfl ?_
        refine J_getR (pc := 47) dX6_readCover_47 fX6_16 sh131 rfl ?_
        refine J_iload_n (pc := 50) dX6_readCover_50 rfl ?_
        refine J_iload_n (pc := 51) dX6_readCover_51 rfl ?_
        refine J_iast (pc := 52) dX6_readCover_52 sh134 (rfl) (by omega) (by decide) ?_
        refine J_aload_n (pc := 53) dX6_readCover_53 rfl ?_
        refine J_getR (pc := 54) dX6_readCover_54 fX6_16 sh131 rfl ?_
        refine J_iload_n (pc := 57) dX6_readCover_57 rfl ?_
        refine J_iconst (pc := 58) (v := nI 1) dX6_readCover_58 (by decide) ?_
        refine J_iadd (pc := 59) dX6_readCover_59 (nI_add _ _) ?_
        refine J_aload_n (pc := 60) dX6_readCover_60 rfl ?_
        refine K_Vi0 (pc := 61) (Y' := YX6_oneHere) dX6_readCover_61 lX6_113 mX6_oneHere vX6_oneHere ⟨_, _, rfl⟩ sh131 (Nat.le_of_ble_eq_true rfl) (c6_oneHere (L := L) (t := t) (u := (sRef (decide ((sAdv L t (cov1 L t s D)).2.2.2.1 = 2 ∧ (sAdv L t (cov1 L t s D)).2.2.2.2 = sVal (cov1 L t s D))) 3 (nrm (sAdv L t (cov1 L t s D))))) (h := (j_up (flH h1 3) 134 (12 + 5 * c) x1)) ((((hT.qf (qf_6 (k := 6) (by omega) (by omega))).rf f1).rf f1b).qf qf_p) (by rw [nrmV]; exact H1.p)) ?_
        rintro x2 h2 ⟨hs2, f2, ex2⟩
        rw [cov3_eq b1] at hs2 ex2
        have hs2 : RT L (nrm (sAdv L t (cov3 L t s D))) h2 := hs2
        have Q2 : qf h h2 := ((((qf_6 (k := 6) (by omega) (by omega)).tr f1.qf).tr f1b.qf).tr (qf_p.tr (qf_6 (k := 6) (by omega) (by omega)))).tr f2.qf
        refine J_iast (pc := 64) dX6_readCover_64 sh134 (rfl) (by omega) (by decide) ?_
        refine J_aload_n (pc := 65) dX6_readCover_65 rfl ?_
        refine J_getR (pc := 66) dX6_readCover_66 fX6_16 sh131 rfl ?_
        refine J_iload_n (pc := 69) dX6_readCover_69 rfl ?_
        refine J_iconst (pc := 70) (v := nI 2) dX6_readCover_70 (by decide) ?_
        refine J_iadd (pc := 71) dX6_readCover_71 (nI_add _ _) ?_
        refine J_aload_n (pc := 72) dX6_readCover_72 rfl ?_
        refine K_Vi0 (pc := 73) (Y' := YX6_weatherHere) dX6_readCover_73 lX6_116 mX6_weatherHere vX6_weatherHere ⟨_, _, rfl⟩ sh131 (Nat.le_of_ble_eq_true rfl) (c6_weatherHere (L := L) (t := t) (u := sAdv L t (cov3 L t s D)) (hT.qf (Q2.tr qf_p)) hs2.p (hW.qf (Q2.tr qf_p))) ?_
        rintro x3 h3 ⟨hs3, f3, ex3⟩
        have hs3 : RT L (nrm (sAdv L t (cov5 L t s D))) h3 := hs3
        have ex3 : (nrm (sAdv L t (cov5 L t s D))).1 = 0 → x3 = sWv t (cov5 L t s D) := ex3
        have Q3 := (Q2.tr qf_p).tr f3.qf
        refine J_iast (pc := 76) dX6_readCover_76 sh134 (rfl) (by omega) (by decide) ?_
        refine J_aload_n (pc := 77) dX6_readCover_77 rfl ?_
        refine J_getR (pc := 78) dX6_readCover_78 fX6_16 sh131 rfl ?_
        refine J_iload_n (pc := 81) dX6_readCover_81 rfl ?_
        refine J_iconst (pc := 82) (v := nI 3) dX6_readCover_82 (by decide) ?_
        refine J_iadd (pc := 83) dX6_readCover_83 (nI_add _ _) ?_
        refine J_aload_n (pc := 84) dX6_readCover_84 rfl ?_
        refine J_iconst (pc := 85) (v := nI 0) dX6_readCover_85 (by decide) ?_
        refine J_bipush (pc := 86) (v := nI 20) dX6_readCover_86 (by decide) ?_
        refine K_Vi2 (pc := 88) (Y' := YX6_number) dX6_readCover_88 lX6_100 mX6_number vX6_number ⟨_, _, rfl⟩ sh131 (Nat.le_of_ble_eq_true rfl) (c6_number (L := L) (t := t) (u := sAdv L t (cov5 L t s D)) (lo := nI 0) (hi := nI 20) (hT.qf (Q3.tr qf_p)) hs3.p) ?_
        rintro x4 h4 ⟨hs4, f4, ex4⟩
        have hs4 : RT L (nrm (sAdv L t (cov6 L t s D))) h4 := hs4
        have ex4 : (cov6 L t s D).1 = 0 → x4 = sVal (cov6 L t s D) := ex4
        have Q4 := (Q3.tr qf_p).tr f4.qf
        refine J_iast (pc := 91) dX6_readCover_91 sh134 (rfl) (by omega) (by decide) ?_
        refine J_aload_n (pc := 92) dX6_readCover_92 rfl ?_
        refine J_getR (pc := 93) dX6_readCover_93 fX6_16 sh131 rfl ?_
        refine J_iload_n (pc := 96) dX6_readCover_96 rfl ?_
        refine J_iconst (pc := 97) (v := nI 4) dX6_readCover_97 (by decide) ?_
        refine J_iadd (pc := 98) dX6_readCover_98 (nI_add _ _) ?_
        refine J_aload_n (pc := 99) dX6_readCover_99 rfl ?_
        refine J_iconst (pc := 100) (v := nI 0) dX6_readCover_100 (by decide) ?_
        refine J_bipush (pc := 101) (v := nI 9) dX6_readCover_101 (by decide) ?_
        refine K_Vi2 (pc := 103) (Y' := YX6_number) dX6_readCover_103 lX6_100 mX6_number vX6_number ⟨_, _, rfl⟩ sh131 (Nat.le_of_ble_eq_true rfl) (c6_number (L := L) (t := t) (u := sAdv L t (cov6 L t s D)) (lo := nI 0) (hi := nI 9) (hT.qf (Q4.tr qf_p)) hs4.p) ?_
        rintro x5 h5 ⟨hs5, f5, ex5⟩
        have hs5 : RT L (nrm (sAdv L t (cov7 L t s D))) h5 := hs5
        have ex5 : (cov7 L t s D).1 = 0 → x5 = sVal (cov7 L t s D) := ex5
        have Q5 := (Q4.tr qf_p).tr f5.qf
        have c5' : j_up h5 134 (12 + 5 * c + 4) x5 134 37 = nI c := (j_up_o (by omega)).trans ((f5 134 37 (by omega)).trans ((j_up_o (by omega)).trans ((f4 134 37 (by omega)).trans ((j_up_o (by omega)).trans ((f3 134 37 (by omega)).trans ((j_up_o (by omega)).trans ((f2 134 37 (by omega)).trans ((j_up_o (by omega)).trans ((j_up_o (by omega)).trans ((f1b 134 37 (by omega)).trans c1'))))))))))
        refine J_iast (pc := 106) dX6_readCover_106 sh134 (rfl) (by omega) (by decide) ?_
        refine J_aload_n (pc := 107) dX6_readCover_107 rfl ?_
        refine J_getR (pc := 108) dX6_readCover_108 fX6_16 sh131 rfl ?_
        refine J_bipush (pc := 111) (v := nI 37) dX6_readCover_111 (by decide) ?_
        refine J_dup2 (pc := 113) dX6_readCover_113 rfl rfl ?_
        refine J_iald (pc := 114) dX6_readCover_114 sh134 (rfl) (by omega) (c5') (by decide) ?_
        refine J_iconst (pc := 115) (v := nI 1) dX6_readCover_115 (by decide) ?_
        refine J_iadd (pc := 116) dX6_readCover_116 (nI_add _ _) ?_
        refine J_iast (pc := 117) dX6_readCover_117 sh134 (rfl) (by omega) (by decide) ?_
        refine K_ret (pc := 118) dX6_readCover_118 rfl ?_
        have e5 : j_up (j_up h5 134 (12 + 5 * c + 4) x5) 134 37 (nI (c + 1)) 131 5 = h 131 5 := by
          rw [j_up_o (by omega), j_up_o (by omega), f5 131 5 (by omega), j_up_o (by omega), f4 131 5 (by omega), j_up_o (by omega), f3 131 5 (by omega), j_up_o (by omega), f2 131 5 (by omega), j_up_o (by omega), j_up_o (by omega), f1b 131 5 (by omega), f1 131 5 (by omega), j_up_o (by omega)]
        refine ⟨⟨(hs5.p).p, (Q5.tr qf_p).tr qf_p, fun z7 => ?_⟩, e5⟩
        have z6 := (sNum_0 (s := cov6 L t s D) z7).1
        have z6n := sNm_0n (u := sAdv L t (cov5 L t s D)) z6
        have z5 := (sNum_0 (s := cov5 L t s D) z6).1
        have z3 := sAdv_0 (sWea_0 (s := sAdv L t (cov3 L t s D)) z5).1
        have z2 := (sRef_0 (by decide) z3).1
        have z1 := (sNum_0 (s := cov1 L t s D) z2).1
        have e3 : cov3 L t s D = cov2 L t s D := (sRef_0 (by decide) z3).2.2
        have y2 : x2 = sVal (cov2 L t s D) := by
          have := ex2 z3
          rw [show sRef (decide (sVal (cov1 L t s D) = sVal (sNm (nI 0) (nI 3) (sAdv L t (cov1 L t s D))))) 3 (sNm (nI 0) (nI 3) (sAdv L t (cov1 L t s D))) = cov3 L t s D from rfl, e3] at this
          exact this
        rw [ex5 z7, show nI (c + 1) = nI c + nI 1 from (nI_add c 1).symm]
        rw [ex1 z1] at f1 f2
        rw [y2] at f2 f3
        rw [ex3 z6n] at f4
        rw [ex4 z6] at f5
        refine ⟨fun hG => ?_, ?_, ?_, ?_⟩
        · have G1 := ((((hG.u (k := 6) (x := mxI (sVal (cov1 L t s D)) (h 131 6))).rf f1).rf f1b).up (k := 12 + 5 * c) (x := sVal (cov1 L t s D)))
          have G2 := (((G1.u (k := 6) (x := mxI (sVal (cov2 L t s D)) _)).rf f2).up (k := 12 + 5 * c + 1) (x := sVal (cov2 L t s D)))
          have G3 := (G2.rf f3).up (k := 12 + 5 * c + 2) (x := sWv t (cov5 L t s D))
          have G4 := (G3.rf f4).up (k := 12 + 5 * c + 3) (x := sVal (cov6 L t s D))
          have G5 := (G4.rf f5).up (k := 12 + 5 * c + 4) (x := sVal (cov7 L t s D))
          exact G5.up (k := 37) (x := nI c + nI 1)
        · rw [j_up_o (by omega), j_up_o (by omega), f5 131 6 (by omega), j_up_o (by omega), f4 131 6 (by omega), j_up_o (by omega), f3 131 6 (by omega), j_up_o (by omega), f2 131 6 (by omega), j_up_s, j_up_o (by omega), f1b 131 6 (by omega), f1 131 6 (by omega), j_up_s]
        · rw [j_up_o (by omega), j_up_o (by omega), f5 131 4 (by omega), j_up_o (by omega), f4 131 4 (by omega), j_up_o (by omega), f3 131 4 (by omega), j_up_o (by omega), f2 131 4 (by omega), j_up_o (by omega), j_up_o (by omega), f1b 131 4 (by omega), f1 131 4 (by omega), j_up_o (by omega)]
        · rw [j_up_o (by omega), j_up_o (by omega), f5 131 5 (by omega), j_up_o (by omega), f4 131 5 (by omega), j_up_o (by omega), f3 131 5 (by omega), j_up_o (by omega), f2 131 5 (by omega), j_up_o (by omega), j_up_o (by omega), f1b 131 5 (by omega), f1 131 5 (by omega), j_up_o (by omega)]
