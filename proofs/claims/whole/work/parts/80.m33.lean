set_option maxHeartbeats 400000 in
theorem c6_readOdds {g : jG} {d : Nat} {h : jH} {L : Nat} {t : Nat → Int32} {s : sS} {D : sD} (hT : RP L t h) (hs : RT L (nrm (sAdv L t s)) h) (h0 : odd0 s D = s) (hA : RDa D h) (hG : IG D) : Mv g (d + 3) YX6_readOdds h [.ref 131] (fun h' => RM L (lOdd L t s D) h h') := by
  refine M.of (by decide) rfl (Nat.le_of_ble_eq_true rfl) ?_
  refine J_bipush (pc := 0) (v := nI 10) dX6_readOdds_0 (by decide) ?_
  refine J_istore_n (pc := 2) dX6_readOdds_2 (by decide) ?_
  refine J_iconst (pc := 3) (v := nI 0) dX6_readOdds_3 (by decide) ?_
  refine J_istore_n (pc := 4) dX6_readOdds_4 (by decide) ?_
  refine J_iload_n (pc := 5) dX6_readOdds_5 rfl ?_
  refine J_iconst (pc := 6) (v := nI 4) dX6_readOdds_6 (by decide) ?_
  refine J_icmp_ge (pc := 7) (tgt := 51) dX6_readOdds_7 (by decide) (fun c => absurd c (by decide)) (fun _ => ?_)
  refine J_aload_n (pc := 10) dX6_readOdds_10 rfl ?_
  refine J_iload_n (pc := 11) dX6_readOdds_11 rfl ?_
  refine J_iconst (pc := 12) (v := nI 3) dX6_readOdds_12 (by decide) ?_
  refine J_icmp_ne (pc := 13) (tgt := 20) dX6_readOdds_13 (by decide) (fun _ => ?_) (fun c => absurd c (by decide))
  refine J_iconst (pc := 20) (v := nI 0) dX6_readOdds_20 (by decide) ?_
  refine J_iload_n (pc := 21) dX6_readOdds_21 rfl ?_
  refine K_Vi2 (pc := 22) (Y' := YX6_number) dX6_readOdds_22 lX6_100 mX6_number vX6_number ⟨_, _, rfl⟩ sh131 (Nat.le_of_ble_eq_true rfl) (c6_number (L := L) (t := t) (u := sAdv L t s) (hT) hs) ?_
  rintro x1 h1 ⟨hs1, f1, ex1⟩
  have e1 : sNm (nI 0) (nI 10) (sAdv L t s) = odd1 L t s D := by rw [odd1, h0, sNum]
  rw [e1] at hs1 ex1
  refine J_istore_n (pc := 25) dX6_readOdds_25 (by decide) ?_
  refine J_aload_n (pc := 26) dX6_readOdds_26 rfl ?_
  refine J_getR (pc := 27) dX6_readOdds_27 fX6_16 sh131 rfl ?_
  refine J_bipush (pc := 30) (v := nI 38) dX6_readOdds_30 (by decide) ?_
  refine J_iload_n (pc := 32) dX6_readOdds_32 rfl ?_
  refine J_iadd (pc := 33) dX6_readOdds_33 (nI_add _ _) ?_
  refine J_iload_n (pc := 34) dX6_readOdds_34 rfl ?_
  refine J_iload_n (pc := 35) dX6_readOdds_35 rfl ?_
  refine K_Si1 (pc := 36) (Y' := YX6_firstOdds) dX6_readOdds_36 lX6_119 mX6_firstOdds sX6_firstOdds (Nat.le_of_ble_eq_true rfl) (c6_firstOdds (by omega)) ?_
  rintro y hy ⟨e0, e1⟩
  rw [e0, e1]
  clear e0 e1 hy
  refine J_isub (pc := 39) dX6_readOdds_39 (rfl) ?_
  refine J_iast (pc := 40) dX6_readOdds_40 sh134 (rfl) (by omega) (by decide) ?_
  have H1 : RT L (nrm (sAdv L t (odd1 L t s D))) (j_up h1 134 (38 + 0) (x1 - nI (if 0 = 3 then 1 else 3))) := hs1.p
  have Q1 : qf h (j_up h1 134 (38 + 0) (x1 - nI (if 0 = 3 then 1 else 3))) := (f1.qf).tr qf_p
  refine J_iload_n (pc := 41) dX6_readOdds_41 rfl ?_
  refine J_iload_n (pc := 42) dX6_readOdds_42 rfl ?_
  refine J_isub (pc := 43) dX6_readOdds_43 (rfl) ?_
  refine J_istore_n (pc := 44) dX6_readOdds_44 (by decide) ?_
  refine J_iinc (pc := 45) dX6_readOdds_45 rfl (v := nI 1) (by decide) (by decide) ?_
  refine J_goto (pc := 48) (tgt := 5) dX6_readOdds_48 (by decide) ?_
  refine J_iload_n (pc := 5) dX6_readOdds_5 rfl ?_
  refine J_iconst (pc := 6) (v := nI 4) dX6_readOdds_6 (by decide) ?_
  refine J_icmp_ge (pc := 7) (tgt := 51) dX6_readOdds_7 (by decide) (fun c => absurd c (by decide)) (fun _ => ?_)
  refine J_aload_n (pc := 10) dX6_readOdds_10 rfl ?_
  refine J_iload_n (pc := 11) dX6_readOdds_11 rfl ?_
  refine J_iconst (pc := 12) (v := nI 3) dX6_readOdds_12 (by decide) ?_
  refine J_icmp_ne (pc := 13) (tgt := 20) dX6_readOdds_13 (by decide) (fun _ => ?_) (fun c => absurd c (by decide))
  refine J_iconst (pc := 20) (v := nI 0) dX6_readOdds_20 (by decide) ?_
  refine J_iload_n (pc := 21) dX6_readOdds_21 rfl ?_
  refine K_Vi2 (pc := 22) (Y' := YX6_number) dX6_readOdds_22 lX6_100 mX6_number vX6_number ⟨_, _, rfl⟩ sh131 (Nat.le_of_ble_eq_true rfl) (c6_number (L := L) (t := t) (u := sAdv L t (odd1 L t s D)) (hT.qf Q1) H1) ?_
  rintro x2 h2 ⟨hs2, f2, ex2⟩
  have e2 : sNm (nI 0) (nI 10 - x1) (sAdv L t (odd1 L t s D)) = odd2 L t s D := by
    by_cases z : (odd1 L t s D).1 = 0
    · rw [ex1 z]; rfl
    · exact sNm_any (by rw [sAdv_f z]; exact z)
  rw [e2] at hs2 ex2
  refine J_istore_n (pc := 25) dX6_readOdds_25 (by decide) ?_
  refine J_aload_n (pc := 26) dX6_readOdds_26 rfl ?_
  refine J_getR (pc := 27) dX6_readOdds_27 fX6_16 sh131 rfl ?_
  refine J_bipush (pc := 30) (v := nI 38) dX6_readOdds_30 (by decide) ?_
  refine J_iload_n (pc := 32) dX6_readOdds_32 rfl ?_
  refine J_iadd (pc := 33) dX6_readOdds_33 (nI_add _ _) ?_
  refine J_iload_n (pc := 34) dX6_readOdds_34 rfl ?_
  refine J_iload_n (pc := 35) dX6_readOdds_35 rfl ?_
  refine K_Si1 (pc := 36) (Y' := YX6_firstOdds) dX6_readOdds_36 lX6_119 mX6_firstOdds sX6_firstOdds (Nat.le_of_ble_eq_true rfl) (c6_firstOdds (by omega)) ?_
  rintro y hy ⟨e0, e1⟩
  rw [e0, e1]
  clear e0 e1 hy
  refine J_isub (pc := 39) dX6_readOdds_39 (rfl) ?_
  refine J_iast (pc := 40) dX6_readOdds_40 sh134 (rfl) (by omega) (by decide) ?_
  have H2 : RT L (nrm (sAdv L t (odd2 L t s D))) (j_up h2 134 (38 + 1) (x2 - nI (if 1 = 3 then 1 else 3))) := hs2.p
  have Q2 : qf h (j_up h2 134 (38 + 1) (x2 - nI (if 1 = 3 then 1 else 3))) := (Q1.tr f2.qf).tr qf_p
  refine J_iload_n (pc := 41) dX6_readOdds_41 rfl ?_
  refine J_iload_n (pc := 42) dX6_readOdds_42 rfl ?_
  refine J_isub (pc := 43) dX6_readOdds_43 (rfl) ?_
  refine J_istore_n (pc := 44) dX6_readOdds_44 (by decide) ?_
  refine J_iinc (pc := 45) dX6_readOdds_45 rfl (v := nI 2) (by decide) (by decide) ?_
  refine J_goto (pc := 48) (tgt := 5) dX6_readOdds_48 (by decide) ?_
  refine J_iload_n (pc := 5) dX6_readOdds_5 rfl ?_
  refine J_iconst (pc := 6) (v := nI 4) dX6_readOdds_6 (by decide) ?_
  refine J_icmp_ge (pc := 7) (tgt := 51) dX6_readOdds_7 (by decide) (fun c => absurd c (by decide)) (fun _ => ?_)
  refine J_aload_n (pc := 10) dX6_readOdds_10 rfl ?_
  refine J_iload_n (pc := 11) dX6_readOdds_11 rfl ?_
  refine J_iconst (pc := 12) (v := nI 3) dX6_readOdds_12 (by decide) ?_
  refine J_icmp_ne (pc := 13) (tgt := 20) dX6_readOdds_13 (by decide) (fun _ => ?_) (fun c => absurd c (by decide))
  refine J_iconst (pc := 20) (v := nI 0) dX6_readOdds_20 (by decide) ?_
  refine J_iload_n (pc := 21) dX6_readOdds_21 rfl ?_
  refine K_Vi2 (pc := 22) (Y' := YX6_number) dX6_readOdds_22 lX6_100 mX6_number vX6_number ⟨_, _, rfl⟩ sh131 (Nat.le_of_ble_eq_true rfl) (c6_number (L := L) (t := t) (u := sAdv L t (odd2 L t s D)) (hT.qf Q2) H2) ?_
  rintro x3 h3 ⟨hs3, f3, ex3⟩
  have e3 : sNm (nI 0) (nI 10 - x1 - x2) (sAdv L t (odd2 L t s D)) = odd3 L t s D := by
    by_cases z : (odd2 L t s D).1 = 0
    · rw [ex1 (sNum_0 (s := odd1 L t s D) z).1, ex2 z]; rfl
    · exact sNm_any (by rw [sAdv_f z]; exact z)
  rw [e3] at hs3 ex3
  refine J_istore_n (pc := 25) dX6_readOdds_25 (by decide) ?_
  refine J_aload_n (pc := 26) dX6_readOdds_26 rfl ?_
  refine J_getR (pc := 27) dX6_readOdds_27 fX6_16 sh131 rfl ?_
  refine J_bipush (pc := 30) (v := nI 38) dX6_readOdds_30 (by decide) ?_
  refine J_iload_n (pc := 32) dX6_readOdds_32 rfl ?_
  refine J_iadd (pc := 33) dX6_readOdds_33 (nI_add _ _) ?_
  refine J_iload_n (pc := 34) dX6_readOdds_34 rfl ?_
  refine J_iload_n (pc := 35) dX6_readOdds_35 rfl ?_
  refine K_Si1 (pc := 36) (Y' := YX6_firstOdds) dX6_readOdds_36 lX6_119 mX6_firstOdds sX6_firstOdds (Nat.le_of_ble_eq_true rfl) (c6_firstOdds (by omega)) ?_
  rintro y hy ⟨e0, e1⟩
  rw [e0, e1]
  clear e0 e1 hy
  refine J_isub (pc := 39) dX6_readOdds_39 (rfl) ?_
  refine J_iast (pc := 40) dX6_readOdds_40 sh134 (rfl) (by omega) (by decide) ?_
  have H3 : RT L (nrm (sAdv L t (odd3 L t s D))) (j_up h3 134 (38 + 2) (x3 - nI (if 2 = 3 then 1 else 3))) := hs3.p
  have Q3 : qf h (j_up h3 134 (38 + 2) (x3 - nI (if 2 = 3 then 1 else 3))) := (Q2.tr f3.qf).tr qf_p
  refine J_iload_n (pc := 41) dX6_readOdds_41 rfl ?_
  refine J_iload_n (pc := 42) dX6_readOdds_42 rfl ?_
  refine J_isub (pc := 43) dX6_readOdds_43 (rfl) ?_
  refine J_istore_n (pc := 44) dX6_readOdds_44 (by decide) ?_
  refine J_iinc (pc := 45) dX6_readOdds_45 rfl (v := nI 3) (by decide) (by decide) ?_
  refine J_goto (pc := 48) (tgt := 5) dX6_readOdds_48 (by decide) ?_
  refine J_iload_n (pc := 5) dX6_readOdds_5 rfl ?_
  refine J_iconst (pc := 6) (v := nI 4) dX6_readOdds_6 (by decide) ?_
  refine J_icmp_ge (pc := 7) (tgt := 51) dX6_readOdds_7 (by decide) (fun c => absurd c (by decide)) (fun _ => ?_)
  refine J_aload_n (pc := 10) dX6_readOdds_10 rfl ?_
  refine J_iload_n (pc := 11) dX6_readOdds_11 rfl ?_
  refine J_iconst (pc := 12) (v := nI 3) dX6_readOdds_12 (by decide) ?_
  refine J_icmp_ne (pc := 13) (tgt := 20) dX6_readOdds_13 (by decide) (fun c => absurd c (by decide)) (fun _ => ?_)
  refine J_iload_n (pc := 16) dX6_readOdds_16 rfl ?_
  refine J_goto (pc := 17) (tgt := 21) dX6_readOdds_17 (by decide) ?_
  refine J_iload_n (pc := 21) dX6_readOdds_21 rfl ?_
  refine K_Vi2 (pc := 22) (Y' := YX6_number) dX6_readOdds_22 lX6_100 mX6_number vX6_number ⟨_, _, rfl⟩ sh131 (Nat.le_of_ble_eq_true rfl) (c6_number (L := L) (t := t) (u := sAdv L t (odd3 L t s D)) (hT.qf Q3) H3) ?_
  rintro x4 h4 ⟨hs4, f4, ex4⟩
  have e4 : sNm (nI 10 - x1 - x2 - x3) (nI 10 - x1 - x2 - x3) (sAdv L t (odd3 L t s D)) = odd4 L t s D := by
    by_cases z : (odd3 L t s D).1 = 0
    · have z2 := (sNum_0 (s := odd2 L t s D) z).1
      rw [ex1 (sNum_0 (s := odd1 L t s D) z2).1, ex2 z2, ex3 z]; rfl
    · exact sNm_any (by rw [sAdv_f z]; exact z)
  rw [e4] at hs4 ex4
  refine J_istore_n (pc := 25) dX6_readOdds_25 (by decide) ?_
  refine J_aload_n (pc := 26) dX6_readOdds_26 rfl ?_
  refine J_getR (pc := 27) dX6_readOdds_27 fX6_16 sh131 rfl ?_
  refine J_bipush (pc := 30) (v := nI 38) dX6_readOdds_30 (by decide) ?_
  refine J_iload_n (pc := 32) dX6_readOdds_32 rfl ?_
  refine J_iadd (pc := 33) dX6_readOdds_33 (nI_add _ _) ?_
  refine J_iload_n (pc := 34) dX6_readOdds_34 rfl ?_
  refine J_iload_n (pc := 35) dX6_readOdds_35 rfl ?_
  refine K_Si1 (pc := 36) (Y' := YX6_firstOdds) dX6_readOdds_36 lX6_119 mX6_firstOdds sX6_firstOdds (Nat.le_of_ble_eq_true rfl) (c6_firstOdds (by omega)) ?_
  rintro y hy ⟨e0, e1⟩
  rw [e0, e1]
  clear e0 e1 hy
  refine J_isub (pc := 39) dX6_readOdds_39 (rfl) ?_
  refine J_iast (pc := 40) dX6_readOdds_40 sh134 (rfl) (by omega) (by decide) ?_
  have H4 : RT L (nrm (sAdv L t (odd4 L t s D))) (j_up h4 134 (38 + 3) (x4 - nI (if 3 = 3 then 1 else 3))) := hs4.p
  have Q4 : qf h (j_up h4 134 (38 + 3) (x4 - nI (if 3 = 3 then 1 else 3))) := (Q3.tr f4.qf).tr qf_p
  refine J_iload_n (pc := 41) dX6_readOdds_41 rfl ?_
  refine J_iload_n (pc := 42) dX6_readOdds_42 rfl ?_
  refine J_isub (pc := 43) dX6_readOdds_43 (rfl) ?_
  refine J_istore_n (pc := 44) dX6_readOdds_44 (by decide) ?_
  refine J_iinc (pc := 45) dX6_readOdds_45 rfl (v := nI 4) (by decide) (by decide) ?_
  refine J_goto (pc := 48) (tgt := 5) dX6_readOdds_48 (by decide) ?_
  refine J_iload_n (pc := 5) dX6_readOdds_5 rfl ?_
  refine J_iconst (pc := 6) (v := nI 4) dX6_readOdds_6 (by decide) ?_
  refine J_icmp_ge (pc := 7) (tgt := 51) dX6_readOdds_7 (by decide) (fun _ => ?_) (fun c => absurd c (by decide))
  refine K_ret (pc := 51) dX6_readOdds_51 rfl ?_
  refine ⟨_, H4, sSem_e, Q4, ?_, fun z => ?_⟩
  · rw [j_up_o (by omega), f4 131 5 (by omega), j_up_o (by omega), f3 131 5 (by omega), j_up_o (by omega), f2 131 5 (by omega), j_up_o (by omega), f1 131 5 (by omega)]
  have z4 := sSem_0 (s := odd4 L t s D) z
  have z3 := (sNum_0 (s := odd3 L t s D) z4).1
  have z2 := (sNum_0 (s := odd2 L t s D) z3).1
  have z1 := (sNum_0 (s := odd1 L t s D) z2).1
  have y1 := ex1 z1
  have y2 := ex2 z2
  have y3 := ex3 z3
  have y4 := ex4 z4
  refine ⟨?_, ?_, ?_⟩
  · have G1 := (hA.1.rf f1).up (k := 38 + 0) (x := x1 - nI (if 0 = 3 then 1 else 3))
    have G2 := (G1.rf f2).up (k := 38 + 1) (x := x2 - nI (if 1 = 3 then 1 else 3))
    have G3 := (G2.rf f3).up (k := 38 + 2) (x := x3 - nI (if 2 = 3 then 1 else 3))
    have G4 := (G3.rf f4).up (k := 38 + 3) (x := x4 - nI (if 3 = 3 then 1 else 3))
    intro k hk
    refine (G4 k hk).trans ?_
    rw [y1, y2, y3, y4]
    rfl
  · rw [j_up_o (by omega), f4 131 4 (by omega), j_up_o (by omega), f3 131 4 (by omega), j_up_o (by omega), f2 131 4 (by omega), j_up_o (by omega), f1 131 4 (by omega)]; exact hA.2.1
  · rw [j_up_o (by omega), f4 131 6 (by omega), j_up_o (by omega), f3 131 6 (by omega), j_up_o (by omega), f2 131 6 (by omega), j_up_o (by omega), f1 131 6 (by omega)]
    refine HI_congr hA.2.2 hG.2.2.1.1.2 (fun k h1 h2 => ?_)
    show upd _ _ _ _ = _
    rw [upd_ne (by omega)]
    show upd _ _ _ _ = _
    rw [upd_ne (by omega)]
    show upd _ _ _ _ = _
    rw [upd_ne (by omega)]
    show upd _ _ _ _ = _
    rw [upd_ne (by omega)]
    rfl
set_option maxHeartbeats 1000000 in
theorem l6_skyE {g : jG} {d : Nat} {L : Nat} {v : sS} {h : jH} {Q : jH → Prop} (hv : RT L v h) (hv0 : v.1 ≠ 0) (hq : Q h) : K g d YX6_readSky h 0 [(0, .ref 131)] [] (fun r h' => r = none ∧ Q h') := by
  refine J_aload_n (pc := 0) dX6_readSky_0 rfl ?_
  refine J_getI (pc := 1) dX6_readSky_1 fX6_63 sh131 rfl (hv.2.2.2.2.1) ?_
  refine J_if_ne (pc := 4) (tgt := 68) dX6_readSky_4 (by decide) (fun c4 => ?_) (fun c4 => ?_)
  · skip
    refine K_ret (pc := 68) dX6_readSky_68 rfl ?_
    exact hq
  · skip
    exact absurd ((nI0e hv.b).mp c4) hv0
set_option maxHeartbeats 1000000 in
theorem l6_rsky {g : jG} {d : Nat} {L : Nat} {t : Nat → Int32} : ∀ (m j : Nat) (s : sS) (D : sD) (h h0 : jH), j + m = 9 → 1 ≤ m → RP L t h → RW h → s.1 = 0 → RT L (nrm (sAdv L t s)) h → ((nrm (sAdv L t s)).1 = 0 → RDa D h) → D.2.1 51 = nI j → h 134 51 = nI j → ix (D.2.1 37) < 6 → qf h0 h → h 131 5 = h0 131 5 → K g (d + 3) YX6_readSky h 0 [(0, .ref 131)] [] (fun r h' => r = none ∧ RM L (skF L t m s D) h0 h')
  | 0, j, s, D, h, h0, hm, h1, hT, hW, s0, hv, hA, hP, hj, h37, q0, q5 => by omega
  | m + 1, j, s, D, h, h0, hm, hm1, hT, hW, s0, hv, hA, hP, hj, h37, q0, q5 => by
    refine J_aload_n (pc := 0) dX6_readSky_0 rfl ?_
    refine J_getI (pc := 1) dX6_readSky_1 fX6_63 sh131 rfl (hv.2.2.2.2.1) ?_
    refine J_if_ne (pc := 4) (tgt := 68) dX6_readSky_4 (by decide) (fun c4 => ?_) (fun c4 => ?_)
    · skip
      refine K_ret (pc := 68) dX6_readSky_68 rfl ?_
      have zn : (nrm (sAdv L t s)).1 ≠ 0 := fun z => c4 (by rw [z]; rfl)
      refine ⟨_, hv, ?_, q0, q5, fun z => ?_⟩
      · rw [sRef_f zn, sky_f s0 zn]
      · rw [sky_f s0 zn] at z; exact absurd z zn
    · skip
      refine J_aload_n (pc := 7) dX6_readSky_7 rfl ?_
      refine J_getI (pc := 8) dX6_readSky_8 fX6_72 sh131 rfl ((hv.2.2.2.2.2.1 ((nI0e hv.b).mp c4)).1) ?_
      refine J_iconst (pc := 11) (v := nI 1) dX6_readSky_11 (by decide) ?_
      refine J_icmp_ne (pc := 12) (tgt := 68) dX6_readSky_12 (by decide) (fun c12 => ?_) (fun c12 => ?_)
      · skip
        refine K_ret (pc := 68) dX6_readSky_68 rfl ?_
        have zn : (nrm (sAdv L t s)).1 = 0 := (nI0e hv.b).mp c4
        obtain ⟨y1, y2, y3⟩ := nrm_0 zn
        have k1 : (sAdv L t s).2.2.2.1 ≠ 1 := fun z => c12 (congrArg nI (by rw [nrm_2]; exact z))
        rw [y3] at hv hA
        by_cases k3 : (sAdv L t s).2.2.2.1 = 3
        · have e : skF L t (m + 1) s D = (sAdv L t s, D) := by rw [skF, if_pos s0, if_pos k3]
          rw [e]
          exact ⟨_, hv, sRef_n (by simp [k3]), q0, q5, fun _ => hA y1⟩
        · have e3 : sky3 L t s D = (2, (sAdv L t s).2) := by
            have q : sExp 1 (sAdv L t s) = (2, (sAdv L t s).2) := by rw [sExp_e, y3, sRef_y (decide_eq_true k1) y1]
            rw [sky3, q, sRef_f (by show (2 : Nat) ≠ 0; decide), sWea_f (by show (2 : Nat) ≠ 0; decide)]
          have e : (skF L t (m + 1) s D).1 = (2, (sAdv L t s).2) := by rw [skF, if_pos s0, if_neg k3, e3, skF_f (by show (2 : Nat) ≠ 0; decide)]
          rw [RM, e]
          exact ⟨_, hv, sRef_y (decide_eq_true k3) y1, q0, q5, fun z => absurd z (by show ¬ (2 : Nat) = 0; decide)⟩
      · skip
        refine J_aload_n (pc := 15) dX6_readSky_15 rfl ?_
        refine J_getR (pc := 16) dX6_readSky_16 fX6_16 sh131 rfl ?_
        refine J_bipush (pc := 19) (v := nI 51) dX6_readSky_19 (by decide) ?_
        refine J_iald (pc := 21) dX6_readSky_21 sh134 (rfl) (by omega) (hj) (by decide) ?_
        refine J_bipush (pc := 22) (v := nI 8) dX6_readSky_22 (by decide) ?_
        refine J_icmp_ne (pc := 24) (tgt := 35) dX6_readSky_24 (by decide) (fun c24 => ?_) (fun c24 => ?_)
        · skip
          have j8 : j ≠ 8 := fun z => c24 (congrArg nI z)
          refine J_aload_n (pc := 35) dX6_readSky_35 rfl ?_
          refine J_getR (pc := 36) dX6_readSky_36 fX6_16 sh131 rfl ?_
          refine J_bipush (pc := 39) (v := nI 43) dX6_readSky_39 (by decide) ?_
          refine J_aload_n (pc := 41) dX6_readSky_41 rfl ?_
          refine J_getR (pc := 42) dX6_readSky_42 fX6_16 sh131 rfl ?_
          refine J_bipush (pc := 45) (v := nI 51) dX6_readSky_45 (by decide) ?_
          refine J_iald (pc := 47) dX6_readSky_47 sh134 (rfl) (by omega) (hj) (by decide) ?_
          refine J_iadd (pc := 48) dX6_readSky_48 (nI_add _ _) ?_
          refine J_aload_n (pc := 49) dX6_readSky_49 rfl ?_
          refine K_Vi0 (pc := 50) (Y' := YX6_weatherHere) dX6_readSky_50 lX6_116 mX6_weatherHere vX6_weatherHere ⟨_, _, rfl⟩ sh131 (Nat.le_of_ble_eq_true rfl) (c6_weatherHere (L := L) (t := t) (u := sAdv L t s) hT hv hW) ?_
          rintro x1 h1 ⟨hs1, f1, ex1⟩
          refine J_iast (pc := 53) dX6_readSky_53 sh134 (rfl) (by omega) (by decide) ?_
          refine J_aload_n (pc := 54) dX6_readSky_54 rfl ?_
          refine J_getR (pc := 55) dX6_readSky_55 fX6_16 sh131 rfl ?_
          refine J_bipush (pc := 58) (v := nI 51) dX6_readSky_58 (by decide) ?_
          refine J_dup2 (pc := 60) dX6_readSky_60 rfl rfl ?_
          refine J_iald (pc := 61) dX6_readSky_61 sh134 (rfl) (by omega) ((j_up_o (by omega)).trans ((f1 134 51 (by omega)).trans hj)) (by decide) ?_
          refine J_iconst (pc := 62) (v := nI 1) dX6_readSky_62 (by decide) ?_
          refine J_iadd (pc := 63) dX6_readSky_63 (nI_add _ _) ?_
          refine J_iast (pc := 64) dX6_readSky_64 sh134 (rfl) (by omega) (by decide) ?_
          refine J_goto (pc := 65) (tgt := 0) dX6_readSky_65 (by decide) ?_
          have zn : (nrm (sAdv L t s)).1 = 0 := (nI0e hv.b).mp c4
          obtain ⟨y1, y2, y3⟩ := nrm_0 zn
          have kb := hv.2.2.1.2.2.2
          rw [nrm_2] at kb c12
          have k1 : (sAdv L t s).2.2.2.1 = 1 := (nIe (by omega) (by omega)).mp c12
          have ee : sExp 1 (sAdv L t s) = sAdv L t s := by rw [sExp_e, y3, sRef_n (by simp [k1])]
          have ip : ix (D.2.1 51) = j := by rw [hP]; exact ix_nI (by omega)
          have e3 : sky3 L t s D = sWea t (sAdv L t s) := by rw [sky3, ee, sRef_n (fun z => by have := of_decide_eq_true z; omega)]
          have Q1 : qf h0 (j_up (j_up h1 134 (43 + j) x1) 134 51 (nI (j + 1))) := ((q0.tr f1.qf).tr qf_p).tr qf_p
          have eS : skF L t (m + 1) s D = skF L t m (sky3 L t s D) (dPln (sWv t (sky3 L t s D)) D) := by rw [skF, if_pos s0, if_neg (by omega)]
          rw [eS]
          rw [← e3] at hs1 ex1
          have H1 : RT L (nrm (sAdv L t (sky3 L t s D))) (j_up (j_up h1 134 (43 + j) x1) 134 51 (nI (j + 1))) := hs1.p.p
          have g5 : j_up (j_up h1 134 (43 + j) x1) 134 51 (nI (j + 1)) 131 5 = h0 131 5 := (j_up_o (by omega)).trans ((j_up_o (by omega)).trans ((f1 131 5 (by omega)).trans q5))
          by_cases z3 : (sky3 L t s D).1 = 0
          · refine l6_rsky m (j + 1) _ _ _ _ (by omega) (by omega) (hT.qf ((f1.qf.tr qf_p).tr qf_p)) (hW.qf ((f1.qf.tr qf_p).tr qf_p)) z3 H1 (fun zn2 => ?_) ?_ ?_ ?_ Q1 g5
            · have hA0 := hA zn
              have e1 := ex1 zn2
              rw [dPln, if_pos (by omega)]
              refine ⟨?_, ?_, ?_⟩
              · have G := ((hA0.1.rf f1).up (k := 43 + j) (x := x1)).up (k := 51) (x := nI (j + 1))
                rw [e1] at G ⊢
                intro k hk
                refine (G k hk).trans ?_
                dsimp only
                rw [planP, ip, show D.2.1 51 + nI 1 = nI (j + 1) from by rw [hP]; exact nI_add _ _]
              · rw [j_up_o (by omega), j_up_o (by omega), f1 131 4 (by omega)]; exact hA0.2.1
              · rw [j_up_o (by omega), j_up_o (by omega), f1 131 6 (by omega)]
                refine HI_congr hA0.2.2 h37 (fun k h1 h2 => ?_)
                dsimp only
                rw [planP, upd_ne (by omega), upd_ne (by omega)]
            · rw [dPln, if_pos (by omega)]
              dsimp only
              rw [planP, upd_at, hP]; exact nI_add _ _
            · exact j_up_s
            · rw [dPln, if_pos (by omega)]
              dsimp only
              rw [planP, upd_ne (by omega), upd_ne (by omega)]; exact h37
          · rw [sAdv_f z3, nrm_f z3] at H1
            refine l6_skyE H1 z3 ?_
            rw [skF_f z3, RM]
            exact ⟨_, H1, sRef_f z3, Q1, g5, fun z => absurd z z3⟩
        · skip
          refine J_aload_n (pc := 27) dX6_readSky_27 rfl ?_
          refine J_iconst (pc := 28) (v := nI 5) dX6_readSky_28 (by decide) ?_
          refine K_Vv1 (pc := 29) (Y' := YX6_fails) dX6_readSky_29 lX6_93 mX6_fails vX6_fails ⟨_, _, rfl⟩ sh131 (Nat.le_of_ble_eq_true rfl) (c6_fails (c := 5)) ?_
          rintro hz rfl
          refine J_goto (pc := 32) (tgt := 0) dX6_readSky_32 (by decide) ?_
          have zn : (nrm (sAdv L t s)).1 = 0 := (nI0e hv.b).mp c4
          obtain ⟨y1, y2, y3⟩ := nrm_0 zn
          have kb := hv.2.2.1.2.2.2
          rw [nrm_2] at kb c12
          have k1 : (sAdv L t s).2.2.2.1 = 1 := (nIe (by omega) (by omega)).mp c12
          have ee : sExp 1 (sAdv L t s) = sAdv L t s := by rw [sExp_e, y3, sRef_n (by simp [k1])]
          have j8 : j = 8 := (nIe (by omega) (by omega)).mp c24
          subst j8
          have e3 : sky3 L t s D = (5, (sAdv L t s).2) := by
            rw [sky3, ee, sRef_y (decide_eq_true (by rw [hP]; exact Nat.le_of_eq (ix_nI (by omega)).symm)) y1, sWea_f (by show (5 : Nat) ≠ 0; decide)]
          have e : (skF L t (m + 1) s D).1 = (5, (sAdv L t s).2) := by rw [skF, if_pos s0, if_neg (by omega), e3, skF_f (by show (5 : Nat) ≠ 0; decide)]
          have H5 : RT L (5, (sAdv L t s).2) (flH h 5) := by
            have := RT_fl (c := 5) hv (by omega) (by omega)
            rw [y3, sRef_y rfl y1] at this
            exact this
          refine l6_skyE H5 (by show (5 : Nat) ≠ 0; decide) ?_
          rw [RM, e]
          exact ⟨_, H5, sRef_f (by show (5 : Nat) ≠ 0; decide), q0.tr flH_rf.qf, (flH_rf 131 5 (by omega)).trans q5, fun z => absurd z (by show ¬ (5 : Nat) = 0; decide)⟩
set_option maxHeartbeats 1000000 in
theorem c6_readSky {g : jG} {d : Nat} {h : jH} {L : Nat} {t : Nat → Int32} {s : sS} {D : sD} (hT : RP L t h) (hW : RW h) (s0 : s.1 = 0) (hs : RT L (nrm (sAdv L t s)) h) (hA : RDa D h) (hG : IG D) (hf : D.2.2.2.2 = false) : Mv g (d + 3) YX6_readSky h [.ref 131] (fun h' => RM L (lSky L t s D) h h') := by
  refine M.of (by decide) rfl (Nat.le_of_ble_eq_true rfl) ?_
  have e : lSky L t s D = skF L t 9 s (dTs D) := by rw [lSky, hf, sRef_n (by decide)]
  rw [e]
  have e51 : D.2.1 51 = nI 0 := hG.2.2.2.2.2.2.2 hf
  exact l6_rsky 9 0 s (dTs D) h h (by omega) (by omega) hT hW s0 hs (fun _ => hA) e51 ((hA.1 51 (by omega)).trans e51) hG.2.2.1.1.2 qf.rf rfl
