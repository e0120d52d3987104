theorem K_mono {g : jG} {d : Nat} {Y : jY} {h : jH} {pc : Nat} {ls : List (Nat × Value)} {st : List Value} {Q Q' : kQ} (k : K g d Y h pc ls st Q) (hq : ∀ r h', Q r h' → Q' r h') : K g d Y h pc ls st Q' := by
  intro p e R s m args below meth c Qw C H locs cells slots lsA hc hs hP hS hl
  obtain ⟨c1, c2, c3, c4, c5, c6, c7, c8, c9, c10, c11⟩ := C
  exact k p e R s m args below meth c Qw ⟨c1, c2, c3, c4, c5, c6, c7, c8, c9, c10, fun pc lsA r σ h H locs cells slots z1 z2 => c11 pc lsA r σ h H locs cells slots z1 ⟨z2.1, hq r h z2.2⟩⟩ H locs cells slots lsA hc hs hP hS hl
theorem c6_readCover5 {g : jG} {d : Nat} {h : jH} {L c : Nat} {t : Nat → Int32} {s : sS} {D : sD} {P : Nat → Int32} (hT : RP L t h) (hW : RW h) (hs : RT L (nrm (sAdv L t s)) h) (h0 : cov0 s D = s) (hc : h 134 37 = nI c) (hc5 : c < 5) : Mv g (d + 4) YX6_readCover h [.ref 131] (fun h' => (RT L (nrm (sAdv L t (cov7 L t s D))) h' ∧ qf h h' ∧ ((cov7 L t s D).1 = 0 → (RG P h → RG (addP c (sVal (cov1 L t s D)) (sVal (cov2 L t s D)) (sWv t (cov5 L t s D)) (sVal (cov6 L t s D)) (sVal (cov7 L t s D)) P) h') ∧ h' 131 6 = mxI (sVal (cov2 L t s D)) (mxI (sVal (cov1 L t s D)) (h 131 6)) ∧ h' 131 4 = h 131 4 ∧ h' 131 5 = h 131 5)) ∧ h' 131 5 = h 131 5) := c6_readCover hT hW hs h0 hc hc5
set_option maxHeartbeats 1000000 in
theorem c6_more_one {g : jG} {d : Nat} {h : jH} {L : Nat} {t : Nat → Int32} {s : sS} {D : sD} (hT : RP L t h) (hW : RW h) (s0 : s.1 = 0) (hs : RT L (nrm (sAdv L t s)) h) (hA : RDa D h) (hG : IG D) {w : Nat} (hw : w < 4) (hn : D.1 < 4) (h0 : one0 s D = s) : Mv g (d + 5) YX6_readMore h [.ref 131, .int (nI w)] (fun h' => RM L (lOne L t (nI w) s D) h h') := by
  refine M.of (by decide) rfl (Nat.le_of_ble_eq_true rfl) ?_
  refine J_iload_n (pc := 0) dX6_readMore_0 rfl ?_
  refine J_iconst (pc := 1) (v := nI 3) dX6_readMore_1 (by decide) ?_
  refine J_icmp_gt (pc := 2) (tgt := 64) dX6_readMore_2 (by decide) (fun c2 => ?_) (fun c2 => ?_)
  · skip
    exact absurd ((nIlt (by omega) (by omega)).mp c2) (by omega)
  · skip
    refine J_aload_n (pc := 5) dX6_readMore_5 rfl ?_
    refine J_getR (pc := 6) dX6_readMore_6 fX6_16 sh131 rfl ?_
    refine J_aload_n (pc := 9) dX6_readMore_9 rfl ?_
    refine J_getI (pc := 10) dX6_readMore_10 fX6_122 sh131 rfl (hA.2.1) ?_
    refine J_iload_n (pc := 13) dX6_readMore_13 rfl ?_
    refine J_iast (pc := 14) dX6_readMore_14 sh134 (rfl) (by omega) (by decide) ?_
    refine J_aload_n (pc := 15) dX6_readMore_15 rfl ?_
    refine J_getR (pc := 16) dX6_readMore_16 fX6_16 sh131 rfl ?_
    refine J_iconst (pc := 19) (v := nI 4) dX6_readMore_19 (by decide) ?_
    refine J_aload_n (pc := 20) dX6_readMore_20 rfl ?_
    refine J_getI (pc := 21) dX6_readMore_21 fX6_122 sh131 rfl ((j_up_o (by omega)).trans hA.2.1) ?_
    refine J_iadd (pc := 24) dX6_readMore_24 (nI_add _ _) ?_
    refine J_aload_n (pc := 25) dX6_readMore_25 rfl ?_
    refine J_iconst (pc := 26) (v := nI 1) dX6_readMore_26 (by decide) ?_
    refine J_iconst (pc := 27) (v := nI 5) dX6_readMore_27 (by decide) ?_
    refine K_Vi2 (pc := 28) (Y' := YX6_number) dX6_readMore_28 lX6_100 mX6_number vX6_number ⟨_, _, rfl⟩ sh131 (Nat.le_of_ble_eq_true rfl) (c6_number (L := L) (t := t) (u := sAdv L t s) (lo := nI 1) (hi := nI 5) (hT.qf qf_p) hs.p) ?_
    rintro x1 h1 ⟨hs1, f1, ex1⟩
    have e1 : sNm (nI 1) (nI 5) (sAdv L t s) = one1 L t s D := by rw [one1, h0, sNum]
    rw [e1] at hs1 ex1
    refine J_iast (pc := 31) dX6_readMore_31 sh134 (rfl) (by omega) (by decide) ?_
    refine J_aload_n (pc := 32) dX6_readMore_32 rfl ?_
    refine J_getR (pc := 33) dX6_readMore_33 fX6_16 sh131 rfl ?_
    refine J_bipush (pc := 36) (v := nI 8) dX6_readMore_36 (by decide) ?_
    refine J_aload_n (pc := 38) dX6_readMore_38 rfl ?_
    refine J_getI (pc := 39) dX6_readMore_39 fX6_122 sh131 rfl ((j_up_o (by omega)).trans ((f1 131 4 (by omega)).trans ((j_up_o (by omega)).trans hA.2.1))) ?_
    refine J_iadd (pc := 42) dX6_readMore_42 (nI_add _ _) ?_
    refine J_aload_n (pc := 43) dX6_readMore_43 rfl ?_
    refine J_iconst (pc := 44) (v := nI 0) dX6_readMore_44 (by decide) ?_
    refine J_bipush (pc := 45) (v := nI 99) dX6_readMore_45 (by decide) ?_
    refine K_Vi2 (pc := 47) (Y' := YX6_number) dX6_readMore_47 lX6_100 mX6_number vX6_number ⟨_, _, rfl⟩ sh131 (Nat.le_of_ble_eq_true rfl) (c6_number (L := L) (t := t) (u := sAdv L t (one1 L t s D)) (lo := nI 0) (hi := nI 99) (hT.qf ((qf_p.tr f1.qf).tr qf_p)) hs1.p) ?_
    rintro x2 h2 ⟨hs2, f2, ex2⟩
    have hs2 : RT L (nrm (sAdv L t (one2 L t s D))) h2 := hs2
    have ex2 : (one2 L t s D).1 = 0 → x2 = sVal (one2 L t s D) := ex2
    refine J_iast (pc := 50) dX6_readMore_50 sh134 (rfl) (by omega) (by decide) ?_
    refine J_aload_n (pc := 51) dX6_readMore_51 rfl ?_
    refine J_dup (pc := 52) dX6_readMore_52 rfl ?_
    refine J_getI (pc := 53) dX6_readMore_53 fX6_122 sh131 rfl ((j_up_o (by omega)).trans ((f2 131 4 (by omega)).trans ((j_up_o (by omega)).trans ((f1 131 4 (by omega)).trans ((j_up_o (by omega)).trans hA.2.1))))) ?_
    refine J_iconst (pc := 56) (v := nI 1) dX6_readMore_56 (by decide) ?_
    refine J_iadd (pc := 57) dX6_readMore_57 (nI_add _ _) ?_
    refine J_putI (pc := 58) dX6_readMore_58 fX6_122 sh131 rfl ?_
    refine J_goto (pc := 61) (tgt := 117) dX6_readMore_61 (by decide) ?_
    refine K_ret (pc := 117) dX6_readMore_117 rfl ?_
    refine ⟨_, ((hs2.p).u (by omega)), sSem_e, (((qf_p.tr f1.qf).tr qf_p).tr f2.qf).tr (qf_p.tr (qf_6 (by omega) (by omega))), ?_, fun z => ?_⟩
    · rw [j_up_o (by omega), j_up_o (by omega), f2 131 5 (by omega), j_up_o (by omega), f1 131 5 (by omega), j_up_o (by omega)]
    have z2 := sSem_0 (s := one2 L t s D) z
    have z1 := (sNum_0 (s := one1 L t s D) z2).1
    have y1 := ex1 z1
    have y2 := ex2 z2
    have ed : (lOne L t (nI w) s D).2 = (D.1 + 1, upd (upd (upd D.2.1 D.1 (nI w)) (4 + D.1) (sVal (one1 L t s D))) (8 + D.1) (sVal (one2 L t s D)), D.2.2) := by
      show dOne _ _ _ D = _
      rw [dOne, if_pos hn]
    rw [ed]
    refine ⟨?_, j_up_s, ?_⟩
    · have G1 := ((hA.1.up (k := D.1) (x := nI w)).rf f1).up (k := 4 + D.1) (x := x1)
      have G2 := ((G1.rf f2).up (k := 8 + D.1) (x := x2)).u (k := 4) (x := nI (D.1 + 1))
      intro k hk
      refine (G2 k hk).trans ?_
      dsimp only
      rw [y1, y2]
    · rw [j_up_o (by omega), j_up_o (by omega), f2 131 6 (by omega), j_up_o (by omega), f1 131 6 (by omega), j_up_o (by omega)]
      refine HI_congr hA.2.2 hG.2.2.1.1.2 (fun k h1 h2 => ?_)
      dsimp only
      rw [upd_ne (by omega), upd_ne (by omega), upd_ne (by omega)]
set_option maxHeartbeats 1000000 in
theorem c6_more_cov {g : jG} {d : Nat} {h : jH} {L : Nat} {t : Nat → Int32} {s : sS} {D : sD} (hT : RP L t h) (hW : RW h) (s0 : s.1 = 0) (hs : RT L (nrm (sAdv L t s)) h) (hA : RDa D h) (hG : IG D) (hc5 : ix (D.2.1 37) < 5) (h0 : cov0 s D = s) : Mv g (d + 5) YX6_readMore h [.ref 131, .int (nI 4)] (fun h' => RM L (lCov L t s D) h h') := by
  refine M.of (by decide) rfl (Nat.le_of_ble_eq_true rfl) ?_
  refine J_iload_n (pc := 0) dX6_readMore_0 rfl ?_
  refine J_iconst (pc := 1) (v := nI 3) dX6_readMore_1 (by decide) ?_
  refine J_icmp_gt (pc := 2) (tgt := 64) dX6_readMore_2 (by decide) (fun _ => ?_) (fun c => absurd c (by decide))
  refine J_iload_n (pc := 64) dX6_readMore_64 rfl ?_
  refine J_iconst (pc := 65) (v := nI 4) dX6_readMore_65 (by decide) ?_
  refine J_icmp_ne (pc := 66) (tgt := 76) dX6_readMore_66 (by decide) (fun c => absurd c (by decide)) (fun _ => ?_)
  refine J_aload_n (pc := 69) dX6_readMore_69 rfl ?_
  refine K_Vv0 (pc := 70) (Y' := YX6_readCover) dX6_readMore_70 lX6_125 mX6_readCover vX6_readCover ⟨_, _, rfl⟩ sh131 (Nat.le_of_ble_eq_true rfl) (c6_readCover5 (c := ix (D.2.1 37)) (P := D.2.1) hT hW hs h0 ((hA.1 37 (by omega)).trans hG.2.2.1.1.1) hc5) ?_
  rintro h1 ⟨hk, q5⟩
  refine J_goto (pc := 73) (tgt := 117) dX6_readMore_73 (by decide) ?_
  refine K_ret (pc := 117) dX6_readMore_117 rfl ?_
  obtain ⟨k1, k2, k3⟩ := hk
  have cc : ix (D.2.1 37) < 5 := hc5
  refine ⟨_, k1, sSem_e, k2, ?_, fun z => ?_⟩
  · exact q5
  have z7 := sSem_0 (s := cov7 L t s D) z
  obtain ⟨g1, g2, g3, g4⟩ := k3 z7
  have z6 := (sNum_0 (s := cov6 L t s D) z7).1
  have z5 := (sNum_0 (s := cov5 L t s D) z6).1
  have z3 := sAdv_0 (sWea_0 (s := sAdv L t (cov3 L t s D)) z5).1
  have z2 := (sRef_0 (by decide) z3).1
  have v2 := (sNum_0 (s := cov1 L t s D) z2)
  have v1 := (sNum_0 (s := cov0 s D) v2.1).2
  have ed : (lCov L t s D).2 = (D.1, addP (ix (D.2.1 37)) (sVal (cov1 L t s D)) (sVal (cov2 L t s D)) (sWv t (cov5 L t s D)) (sVal (cov6 L t s D)) (sVal (cov7 L t s D)) D.2.1, D.2.2) := by
    show dCov _ _ _ _ _ D = _
    rw [dCov, if_pos hc5]
  rw [ed]
  refine ⟨g1 hA.1, g3.trans hA.2.1, ?_⟩
  rw [g2]
  exact HI_add hA.2.2 hG.2.2.1.1.1 hc5 (inb (n := 3) (by omega) v1) (inb (n := 3) (by omega) v2.2)
set_option maxHeartbeats 1000000 in
theorem c6_more_odd {g : jG} {d : Nat} {h : jH} {L : Nat} {t : Nat → Int32} {s : sS} {D : sD} (hT : RP L t h) (hW : RW h) (s0 : s.1 = 0) (hs : RT L (nrm (sAdv L t s)) h) (hA : RDa D h) (hG : IG D) (h0 : odd0 s D = s) : Mv g (d + 5) YX6_readMore h [.ref 131, .int (nI 5)] (fun h' => RM L (lOdd L t s D) h h') := by
  refine M.of (by decide) rfl (Nat.le_of_ble_eq_true rfl) ?_
  refine J_iload_n (pc := 0) dX6_readMore_0 rfl ?_
  refine J_iconst (pc := 1) (v := nI 3) dX6_readMore_1 (by decide) ?_
  refine J_icmp_gt (pc := 2) (tgt := 64) dX6_readMore_2 (by decide) (fun _ => ?_) (fun c => absurd c (by decide))
  refine J_iload_n (pc := 64) dX6_readMore_64 rfl ?_
  refine J_iconst (pc := 65) (v := nI 4) dX6_readMore_65 (by decide) ?_
  refine J_icmp_ne (pc := 66) (tgt := 76) dX6_readMore_66 (by decide) (fun _ => ?_) (fun c => absurd c (by decide))
  refine J_iload_n (pc := 76) dX6_readMore_76 rfl ?_
  refine J_iconst (pc := 77) (v := nI 5) dX6_readMore_77 (by decide) ?_
  refine J_icmp_ne (pc := 78) (tgt := 88) dX6_readMore_78 (by decide) (fun c => absurd c (by decide)) (fun _ => ?_)
  refine J_aload_n (pc := 81) dX6_readMore_81 rfl ?_
  refine K_Vv0 (pc := 82) (Y' := YX6_readOdds) dX6_readMore_82 lX6_128 mX6_readOdds vX6_readOdds ⟨_, _, rfl⟩ sh131 (Nat.le_of_ble_eq_true rfl) (c6_readOdds hT hs h0 hA hG) ?_
  rintro h1 hk
  refine J_goto (pc := 85) (tgt := 117) dX6_readMore_85 (by decide) ?_
  refine K_ret (pc := 117) dX6_readMore_117 rfl ?_
  exact hk
set_option maxHeartbeats 1000000 in
theorem c6_more_flo {g : jG} {d : Nat} {h : jH} {L : Nat} {t : Nat → Int32} {s : sS} {D : sD} (hT : RP L t h) (hW : RW h) (s0 : s.1 = 0) (hs : RT L (nrm (sAdv L t s)) h) (hA : RDa D h) (hG : IG D) (h0 : sRef D.2.2.2.1 4 s = s) : Mv g (d + 5) YX6_readMore h [.ref 131, .int (nI 6)] (fun h' => RM L (lFlo L t s D) h h') := by
  refine M.of (by decide) rfl (Nat.le_of_ble_eq_true rfl) ?_
  refine J_iload_n (pc := 0) dX6_readMore_0 rfl ?_
  refine J_iconst (pc := 1) (v := nI 3) dX6_readMore_1 (by decide) ?_
  refine J_icmp_gt (pc := 2) (tgt := 64) dX6_readMore_2 (by decide) (fun _ => ?_) (fun c => absurd c (by decide))
  refine J_iload_n (pc := 64) dX6_readMore_64 rfl ?_
  refine J_iconst (pc := 65) (v := nI 4) dX6_readMore_65 (by decide) ?_
  refine J_icmp_ne (pc := 66) (tgt := 76) dX6_readMore_66 (by decide) (fun _ => ?_) (fun c => absurd c (by decide))
  refine J_iload_n (pc := 76) dX6_readMore_76 rfl ?_
  refine J_iconst (pc := 77) (v := nI 5) dX6_readMore_77 (by decide) ?_
  refine J_icmp_ne (pc := 78) (tgt := 88) dX6_readMore_78 (by decide) (fun _ => ?_) (fun c => absurd c (by decide))
  refine J_iload_n (pc := 88) dX6_readMore_88 rfl ?_
  refine J_bipush (pc := 89) (v := nI 6) dX6_readMore_89 (by decide) ?_
  refine J_icmp_ne (pc := 91) (tgt := 113) dX6_readMore_91 (by decide) (fun c => absurd c (by decide)) (fun _ => ?_)
  refine J_aload_n (pc := 94) dX6_readMore_94 rfl ?_
  refine J_getR (pc := 95) dX6_readMore_95 fX6_16 sh131 rfl ?_
  refine J_bipush (pc := 98) (v := nI 42) dX6_readMore_98 (by decide) ?_
  refine J_aload_n (pc := 100) dX6_readMore_100 rfl ?_
  refine J_iconst (pc := 101) (v := nI 0) dX6_readMore_101 (by decide) ?_
  refine J_bipush (pc := 102) (v := nI 99) dX6_readMore_102 (by decide) ?_
  refine K_Vi2 (pc := 104) (Y' := YX6_number) dX6_readMore_104 lX6_100 mX6_number vX6_number ⟨_, _, rfl⟩ sh131 (Nat.le_of_ble_eq_true rfl) (c6_number (L := L) (t := t) (u := sAdv L t s) (lo := nI 0) (hi := nI 99) hT hs) ?_
  rintro x1 h1 ⟨hs1, f1, ex1⟩
  have e1 : sNm (nI 0) (nI 99) (sAdv L t s) = flo1 L t s D := by rw [flo1, h0, sNum]
  rw [e1] at hs1 ex1
  refine J_iconst (pc := 107) (v := nI 5) dX6_readMore_107 (by decide) ?_
  refine J_isub (pc := 108) dX6_readMore_108 (rfl) ?_
  refine J_iast (pc := 109) dX6_readMore_109 sh134 (rfl) (by omega) (by decide) ?_
  refine J_goto (pc := 110) (tgt := 117) dX6_readMore_110 (by decide) ?_
  refine K_ret (pc := 117) dX6_readMore_117 rfl ?_
  refine ⟨_, hs1.p, sSem_e, f1.qf.tr qf_p, (j_up_o (by omega)).trans (f1 131 5 (by omega)), fun z => ?_⟩
  have z1 := sSem_0 (s := flo1 L t s D) z
  have y1 := ex1 z1
  refine ⟨?_, (j_up_o (by omega)).trans ((f1 131 4 (by omega)).trans hA.2.1), ?_⟩
  · have G := (hA.1.rf f1).up (k := 42) (x := x1 - nI 5)
    intro k hk
    refine (G k hk).trans ?_
    rw [y1]
    rfl
  · rw [j_up_o (by omega), f1 131 6 (by omega)]
    refine HI_congr hA.2.2 hG.2.2.1.1.2 (fun k h1 h2 => ?_)
    exact upd_ne (by omega)
set_option maxHeartbeats 1000000 in
theorem c6_more_sky {g : jG} {d : Nat} {h : jH} {L : Nat} {t : Nat → Int32} {s : sS} {D : sD} (hT : RP L t h) (hW : RW h) (s0 : s.1 = 0) (hs : RT L (nrm (sAdv L t s)) h) (hA : RDa D h) (hG : IG D) (hf : D.2.2.2.2 = false) : Mv g (d + 5) YX6_readMore h [.ref 131, .int (nI 7)] (fun h' => RM L (lSky L t s D) h h') := by
  refine M.of (by decide) rfl (Nat.le_of_ble_eq_true rfl) ?_
  refine J_iload_n (pc := 0) dX6_readMore_0 rfl ?_
  refine J_iconst (pc := 1) (v := nI 3) dX6_readMore_1 (by decide) ?_
  refine J_icmp_gt (pc := 2) (tgt := 64) dX6_readMore_2 (by decide) (fun _ => ?_) (fun c => absurd c (by decide))
  refine J_iload_n (pc := 64) dX6_readMore_64 rfl ?_
  refine J_iconst (pc := 65) (v := nI 4) dX6_readMore_65 (by decide) ?_
  refine J_icmp_ne (pc := 66) (tgt := 76) dX6_readMore_66 (by decide) (fun _ => ?_) (fun c => absurd c (by decide))
  refine J_iload_n (pc := 76) dX6_readMore_76 rfl ?_
  refine J_iconst (pc := 77) (v := nI 5) dX6_readMore_77 (by decide) ?_
  refine J_icmp_ne (pc := 78) (tgt := 88) dX6_readMore_78 (by decide) (fun _ => ?_) (fun c => absurd c (by decide))
  refine J_iload_n (pc := 88) dX6_readMore_88 rfl ?_
  refine J_bipush (pc := 89) (v := nI 6) dX6_readMore_89 (by decide) ?_
  refine J_icmp_ne (pc := 91) (tgt := 113) dX6_readMore_91 (by decide) (fun _ => ?_) (fun c => absurd c (by decide))
  refine J_aload_n (pc := 113) dX6_readMore_113 rfl ?_
  refine K_Vv0 (pc := 114) (Y' := YX6_readSky) dX6_readMore_114 lX6_131 mX6_readSky vX6_readSky ⟨_, _, rfl⟩ sh131 (Nat.le_of_ble_eq_true rfl) (c6_readSky hT hW s0 hs hA hG hf) ?_
  rintro h1 hk
  refine K_ret (pc := 117) dX6_readMore_117 rfl ?_
  exact hk
def LE (L : Nat) (t : Nat → Int32) (r : sS × sD) (f : Bool × Bool × Bool) (h h' : jH) : Prop := RT L (nrm (sAdv L t r.1)) h' ∧ qf h h' ∧ (r.1.1 = 0 → RDa r.2 h' ∧ TB (h' 131 5) f)
set_option maxHeartbeats 1000000 in
theorem l6_lineE {g : jG} {d : Nat} {L : Nat} {t : Nat → Int32} {r : sS × sD} {f : Bool × Bool × Bool} {h0 h1 h : jH} {x : Value} (hT : RP L t h) (hm : RM L r h1 h) (hq : qf h0 h1) (hf : TB (h1 131 5) f) : K g (d + 6) YX6_readLine h 108 [(0, .ref 131), (1, x)] [] (fun z h' => z = none ∧ LE L t r f h0 h') := by
  obtain ⟨v, hv, ev, q1, e5, hd⟩ := hm
  have kb := hv.2.2.1.2.2.2
  have fin : ∀ h2 h3, RT L r.1 h2 → rfm h h2 → RT L (nrm (sAdv L t r.1)) h3 → rfm h2 h3 → LE L t r f h0 h3 := fun h2 h3 a b c e => by
    refine ⟨c, ((hq.tr q1).tr b.qf).tr e.qf, fun z => ?_⟩
    obtain ⟨g1, g2, g3⟩ := hd z
    have u : ∀ k, k < 10 → h3 131 k = h 131 k := fun k hk => (e 131 k (by omega)).trans (b 131 k (by omega))
    refine ⟨⟨(g1.rf b).rf e, (u 4 (by omega)).trans g2, ?_⟩, ?_⟩
    · rw [u 6 (by omega)]; exact g3
    · rw [u 5 (by omega), e5]; exact hf
  refine J_aload_n (pc := 108) dX6_readLine_108 rfl ?_
  refine J_getI (pc := 109) dX6_readLine_109 fX6_63 sh131 rfl (hv.2.2.2.2.1) ?_
  refine J_if_ne (pc := 112) (tgt := 128) dX6_readLine_112 (by decide) (fun c112 => ?_) (fun c112 => ?_)
  · skip
    have H2 : RT L r.1 h := by
      rw [← ev, sRef_f (fun z => c112 (by rw [z]; rfl))]; exact hv
    have f2 : rfm h h := rfm.rf
    refine J_aload_n (pc := 128) dX6_readLine_128 rfl ?_
    refine K_Vv0 (pc := 129) (Y' := YX6_step) dX6_readLine_129 lX6_97 mX6_step vX6_step ⟨_, _, rfl⟩ sh131 (Nat.le_of_ble_eq_true rfl) (c6_step (hT.rf f2) H2) ?_
    rintro h3 ⟨hs3, f3⟩
    refine K_ret (pc := 132) dX6_readLine_132 rfl ?_
    exact fin _ _ H2 f2 hs3 f3
  · skip
    refine J_aload_n (pc := 115) dX6_readLine_115 rfl ?_
    refine J_getI (pc := 116) dX6_readLine_116 fX6_72 sh131 rfl ((hv.2.2.2.2.2.1 ((nI0e hv.b).mp c112)).1) ?_
    refine J_iconst (pc := 119) (v := nI 3) dX6_readLine_119 (by decide) ?_
    refine J_icmp_eq (pc := 120) (tgt := 128) dX6_readLine_120 (by decide) (fun c120 => ?_) (fun c120 => ?_)
    · skip
      have H2 : RT L r.1 h := by
        rw [← ev, sRef_n (fun z => (of_decide_eq_true z) ((nIe (by omega) (by omega)).mp c120))]; exact hv
      have f2 : rfm h h := rfm.rf
      refine J_aload_n (pc := 128) dX6_readLine_128 rfl ?_
      refine K_Vv0 (pc := 129) (Y' := YX6_step) dX6_readLine_129 lX6_97 mX6_step vX6_step ⟨_, _, rfl⟩ sh131 (Nat.le_of_ble_eq_true rfl) (c6_step (hT.rf f2) H2) ?_
      rintro h3 ⟨hs3, f3⟩
      refine K_ret (pc := 132) dX6_readLine_132 rfl ?_
      exact fin _ _ H2 f2 hs3 f3
    · skip
      refine J_aload_n (pc := 123) dX6_readLine_123 rfl ?_
      refine J_iconst (pc := 124) (v := nI 2) dX6_readLine_124 (by decide) ?_
      refine K_Vv1 (pc := 125) (Y' := YX6_fails) dX6_readLine_125 lX6_93 mX6_fails vX6_fails ⟨_, _, rfl⟩ sh131 (Nat.le_of_ble_eq_true rfl) (c6_fails (c := 2)) ?_
      rintro hz rfl
      have H2 : RT L r.1 (flH h 2) := by
        rw [← ev, decide_eq_true (p := v.2.2.2.1 ≠ 3) (fun z => c120 (congrArg nI z))]; exact RT_fl hv (by omega) (by omega)
      have f2 : rfm h (flH h 2) := flH_rf
      refine J_aload_n (pc := 128) dX6_readLine_128 rfl ?_
      refine K_Vv0 (pc := 129) (Y' := YX6_step) dX6_readLine_129 lX6_97 mX6_step vX6_step ⟨_, _, rfl⟩ sh131 (Nat.le_of_ble_eq_true rfl) (c6_step (hT.rf f2) H2) ?_
      rintro h3 ⟨hs3, f3⟩
      refine K_ret (pc := 132) dX6_readLine_132 rfl ?_
      exact fin _ _ H2 f2 hs3 f3
theorem nm_in : ∀ w, w < 13 → ((nI 0 ≤ nmI w ∧ nmI w ≤ nI 7) ↔ (w < 4 ∨ (8 ≤ w ∧ w < 12))) := by decide +kernel
theorem dOne_f {k f p : Int32} {D : sD} : (dOne k f p D).2.2 = D.2.2 := by unfold dOne; split <;> rfl
theorem dCov_f {a b w x y : Int32} {D : sD} : (dCov a b w x y D).2.2 = D.2.2 := by unfold dCov; split <;> rfl
theorem dPln_f {w : Int32} {D : sD} : (dPln w D).2.2 = D.2.2 := by unfold dPln; split <;> rfl
theorem skF_g {L : Nat} {t : Nat → Int32} : ∀ (m : Nat) {s : sS} {D : sD}, (skF L t m s D).2.2.2 = D.2.2
  | 0, s, D => rfl
  | m + 1, s, D => by
    rw [skF]
    by_cases z : s.1 = 0
    · rw [if_pos z]
      by_cases z3 : (sAdv L t s).2.2.2.1 = 3
      · rw [if_pos z3]
      · rw [if_neg z3, skF_g m, dPln_f]
    · rw [if_neg z]
theorem lW_flags {L : Nat} {t : Nat → Int32} {s : sS} {D : sD} : ∀ w, w < 12 → (lWord L t w s D).2.2.2 = tbs (if w < 4 ∨ 8 ≤ w then rn w else 0) D.2.2
  | 0, _ => dOne_f
  | 1, _ => dOne_f
  | 2, _ => dOne_f
  | 3, _ => dOne_f
  | 4, _ => rfl
  | 5, _ => rfl
  | 6, _ => rfl
  | 7, _ => rfl
  | 8, _ => dCov_f
  | 9, _ => rfl
  | 10, _ => rfl
  | 11, _ => skF_g 9
  | w + 12, h => absurd h (by omega)
theorem LE.line {L : Nat} {t : Nat → Int32} {r : sS × sD} {f : Bool × Bool × Bool} {h h' : jH} (e : LE L t r f h h') (ef : f = r.2.2.2) : RT L (nrm (sAdv L t r.1)) h' ∧ qf h h' ∧ (r.1.1 = 0 → RD r.2 h') := ⟨e.1, e.2.1, fun z => ⟨(e.2.2 z).1, by rw [← ef]; exact (e.2.2 z).2⟩⟩
set_option maxHeartbeats 1000000 in
theorem c6_readLine {g : jG} {d : Nat} {h : jH} {L : Nat} {t : Nat → Int32} {s : sS} {D : sD} (hT : RP L t h) (hW : RW h) (hs : RT L (nrm s) h) (hn0 : (nrm s).1 = 0) (hD : RD D h) (hG : IG D) : Mv g (d + 6) YX6_readLine h [.ref 131] (fun h' => RT L (nrm (sAdv L t (lLine L t s D).1)) h' ∧ qf h h' ∧ ((lLine L t s D).1.1 = 0 → RD (lLine L t s D).2 h')) := by
  refine M.of (by decide) rfl (Nat.le_of_ble_eq_true rfl) ?_
  obtain ⟨z2, z3, z4⟩ := nrm_0 hn0
  rw [z4] at hs
  have tk1 := (hs.2.2.2.2.2.1 z2).1
  have k5 := hs.2.2.1.2.2.2
  have wl : wd t s.2 ≤ 12 := wd_le
  refine J_aload_n (pc := 0) dX6_readLine_0 rfl ?_
  refine K_Vi0 (pc := 1) (Y' := YX6_nameHere) dX6_readLine_1 lX6_107 mX6_nameHere vX6_nameHere ⟨_, _, rfl⟩ sh131 (Nat.le_of_ble_eq_true rfl) (c6_nameHere (u := s.2.2.2) hT hW hs.1 hs.2.1 hs.2.2.1.1 hs.2.2.1.2.1) ?_
  rintro x0 h0 ⟨e0, y1, y2⟩
  rw [e0]
  clear e0 h0
  refine J_istore_n (pc := 4) dX6_readLine_4 (by decide) ?_
  refine J_iload_n (pc := 5) dX6_readLine_5 rfl ?_
  refine J_i2l (pc := 6) dX6_readLine_6 (rfl) ?_
  refine J_lconst (pc := 7) (v := 0) dX6_readLine_7 (by decide) ?_
  refine J_ldc2 (pc := 8) dX6_readLine_8 kX6_134 ?_
  refine K_Si3 (pc := 11) (Y' := YX6_in) dX6_readLine_11 lX6_55 mX6_in sX6_in (Nat.le_of_ble_eq_true rfl) (c6_inI x0 (nI 0) (nI 7) rfl (by decide) (by decide)) ?_
  rintro x h0 ⟨e0, ⟨rfl, b11⟩ | ⟨rfl, b11⟩⟩ <;> rw [e0] <;> clear e0 h0
  · skip
    refine J_if_ne (pc := 14) (tgt := 23) dX6_readLine_14 (by decide) (fun _ => ?_) (fun c => absurd c (by decide))
    have k1 : s.2.2.2.1 = 1 := Classical.byContradiction (fun q => by
      rw [y2 (fun e => q ((nIe (by omega) (by omega)).mp (tk1.symm.trans e)))] at b11
      exact absurd b11.1 (by decide))
    have y1' := y1 (by rw [tk1, k1])
    rw [y1'] at b11
    have ww := (nm_in (wd t s.2) (by omega)).mp b11
    have se : sExp 1 s = s := by rw [sExp_e, z4, sRef_n (by simp [k1])]
    rcases (show wd t s.2 = 0 ∨ wd t s.2 = 1 ∨ wd t s.2 = 2 ∨ wd t s.2 = 3 ∨ wd t s.2 = 8 ∨ wd t s.2 = 9 ∨ wd t s.2 = 10 ∨ wd t s.2 = 11 by omega) with ew | ew | ew | ew | ew | ew | ew | ew
    · have eL : lLine L t s D = lWord L t 0 s D := by rw [lLine, if_pos (by rw [se]; exact z2), se, ew]
      have ex : x0 = nI 0 := by rw [y1', ew]; rfl
      subst ex
      rw [eL]
      refine J_iload_n (pc := 23) dX6_readLine_23 rfl ?_
      refine J_iconst (pc := 24) (v := nI 3) dX6_readLine_24 (by decide) ?_
      refine J_icmp_gt (pc := 25) (tgt := 36) dX6_readLine_25 (by decide) (fun c => absurd c (by decide)) (fun _ => ?_)
      refine J_aload_n (pc := 28) dX6_readLine_28 rfl ?_
      refine J_getI (pc := 29) dX6_readLine_29 fX6_122 sh131 rfl (hD.1.2.1) ?_
      refine J_iconst (pc := 32) (v := nI 4) dX6_readLine_32 (by decide) ?_
      refine J_icmp_eq (pc := 33) (tgt := 52) dX6_readLine_33 (by decide) (fun c33 => ?_) (fun c33 => ?_)
      · skip
        refine J_aload_n (pc := 52) dX6_readLine_52 rfl ?_
        refine J_iconst (pc := 53) (v := nI 5) dX6_readLine_53 (by decide) ?_
        refine K_Vv1 (pc := 54) (Y' := YX6_fails) dX6_readLine_54 lX6_93 mX6_fails vX6_fails ⟨_, _, rfl⟩ sh131 (Nat.le_of_ble_eq_true rfl) (c6_fails (c := 5)) ?_
        rintro hz rfl
        refine J_iload_n (pc := 57) dX6_readLine_57 rfl ?_
        refine J_iconst (pc := 58) (v := nI 5) dX6_readLine_58 (by decide) ?_
        refine J_icmp_lt (pc := 59) (tgt := 79) dX6_readLine_59 (by decide) (fun _ => ?_) (fun c => absurd c (by decide))
        have eC : one0 s D = (5, s.2) := sRef_y (decide_eq_true (show 4 ≤ D.1 by have := (nIe (by have := hG.1; omega) (by omega)).mp c33; omega)) z2
        have H1 : RT L (one0 s D) (flH h 5) := by
          have := RT_fl (c := 5) hs (by omega) (by omega)
          rw [sRef_y rfl z2] at this
          rw [eC]; exact this
        have f1 : rfm h (flH h 5) := flH_rf
        have H1b := H1.u (k := 5) (x := (flH h 5) 131 5 ||| (nI 1 <<< (nI 0 &&& 31))) (by omega)
        refine J_aload_n (pc := 79) dX6_readLine_79 rfl ?_
        refine J_dup (pc := 80) dX6_readLine_80 rfl ?_
        refine J_getI (pc := 81) dX6_readLine_81 fX6_136 sh131 rfl (rfl) ?_
        refine J_iconst (pc := 84) (v := nI 1) dX6_readLine_84 (by decide) ?_
        refine J_iload_n (pc := 85) dX6_readLine_85 rfl ?_
        refine J_ishl (pc := 86) dX6_readLine_86 (rfl) ?_
        refine J_ior (pc := 87) dX6_readLine_87 (rfl) ?_
        refine J_putI (pc := 88) dX6_readLine_88 fX6_136 sh131 rfl ?_
        refine J_aload_n (pc := 91) dX6_readLine_91 rfl ?_
        refine K_Vv0 (pc := 92) (Y' := YX6_step) dX6_readLine_92 lX6_97 mX6_step vX6_step ⟨_, _, rfl⟩ sh131 (Nat.le_of_ble_eq_true rfl) (c6_step (L := L) (t := t) (s := one0 s D) (hT.qf (f1.qf.tr (qf_6 (by omega) (by omega)))) H1b) ?_
        rintro h2 ⟨hs2, f2⟩
        have Q2 : qf h h2 := (f1.qf.tr (qf_6 (by omega) (by omega))).tr f2.qf
        refine J_aload_n (pc := 95) dX6_readLine_95 rfl ?_
        refine J_getI (pc := 96) dX6_readLine_96 fX6_63 sh131 rfl (hs2.2.2.2.2.1) ?_
        refine J_if_le (pc := 99) (tgt := 103) dX6_readLine_99 (by decide) (fun c99 => ?_) (fun c99 => ?_)
        · skip
          exact absurd ((nI_leI (b := 0) (by have := hs2.2.2.2.1; omega) (by omega)).mp c99) (by rw [eC, sAdv_f (by show (5 : Nat) ≠ 0; decide), nrm_f (by show (5 : Nat) ≠ 0; decide)]; show ¬ (5 : Nat) ≤ 0; decide)
        · skip
          have zz : (nrm (sAdv L t (one0 s D))).1 ≠ 0 := fun z => c99 (by rw [z]; decide)
          refine K_ret (pc := 102) dX6_readLine_102 rfl ?_
          have el := lOne_f (L := L) (t := t) (k := nI 0) (s := s) (D := D) zz
          refine ⟨?_, Q2, fun z => absurd ((congrArg Prod.fst el).symm.trans z) zz⟩
          show RT L (nrm (sAdv L t (lWord L t 0 s D).1)) h2
          rw [show (lWord L t 0 s D).1 = _ from el, sAdv_f zz, nrm_f zz]; exact hs2
      · skip
        refine J_iload_n (pc := 36) dX6_readLine_36 rfl ?_
        refine J_iconst (pc := 37) (v := nI 4) dX6_readLine_37 (by decide) ?_
        refine J_icmp_ne (pc := 38) (tgt := 57) dX6_readLine_38 (by decide) (fun _ => ?_) (fun c => absurd c (by decide))
        refine J_iload_n (pc := 57) dX6_readLine_57 rfl ?_
        refine J_iconst (pc := 58) (v := nI 5) dX6_readLine_58 (by decide) ?_
        refine J_icmp_lt (pc := 59) (tgt := 79) dX6_readLine_59 (by decide) (fun _ => ?_) (fun c => absurd c (by decide))
        have eC : one0 s D = s := sRef_n (fun z => c33 (congrArg nI (show D.1 = 4 by have := of_decide_eq_true z; have := hG.1; omega)))
        have H1 : RT L (one0 s D) h := by rw [eC]; exact hs
        have f1 : rfm h h := rfm.rf
        have H1b := H1.u (k := 5) (x := h 131 5 ||| (nI 1 <<< (nI 0 &&& 31))) (by omega)
        refine J_aload_n (pc := 79) dX6_readLine_79 rfl ?_
        refine J_dup (pc := 80) dX6_readLine_80 rfl ?_
        refine J_getI (pc := 81) dX6_readLine_81 fX6_136 sh131 rfl (rfl) ?_
        refine J_iconst (pc := 84) (v := nI 1) dX6_readLine_84 (by decide) ?_
        refine J_iload_n (pc := 85) dX6_readLine_85 rfl ?_
        refine J_ishl (pc := 86) dX6_readLine_86 (rfl) ?_
        refine J_ior (pc := 87) dX6_readLine_87 (rfl) ?_
        refine J_putI (pc := 88) dX6_readLine_88 fX6_136 sh131 rfl ?_
        refine J_aload_n (pc := 91) dX6_readLine_91 rfl ?_
        refine K_Vv0 (pc := 92) (Y' := YX6_step) dX6_readLine_92 lX6_97 mX6_step vX6_step ⟨_, _, rfl⟩ sh131 (Nat.le_of_ble_eq_true rfl) (c6_step (L := L) (t := t) (s := one0 s D) (hT.qf (f1.qf.tr (qf_6 (by omega) (by omega)))) H1b) ?_
        rintro h2 ⟨hs2, f2⟩
        have Q2 : qf h h2 := (f1.qf.tr (qf_6 (by omega) (by omega))).tr f2.qf
        refine J_aload_n (pc := 95) dX6_readLine_95 rfl ?_
        refine J_getI (pc := 96) dX6_readLine_96 fX6_63 sh131 rfl (hs2.2.2.2.2.1) ?_
        refine J_if_le (pc := 99) (tgt := 103) dX6_readLine_99 (by decide) (fun c99 => ?_) (fun c99 => ?_)
        · skip
          have zz : (nrm (sAdv L t (one0 s D))).1 = 0 := by have := (nI_leI (b := 0) (by have := hs2.2.2.2.1; omega) (by omega)).mp c99; omega
          rw [eC] at zz hs2
          have A2 : RDa D h2 := ⟨((hD.1.1.u (k := 5) (x := h 131 5 ||| (nI 1 <<< (nI 0 &&& 31)))).rf f2), (f2 131 4 (by omega)).trans ((j_up_o (by omega)).trans hD.1.2.1), by rw [f2 131 6 (by omega), j_up_o (by omega)]; exact hD.1.2.2⟩
          have B2 : TB (h2 131 5) (tbs 0 D.2.2) := by rw [f2 131 5 (by omega), j_up_s]; exact TB_set hD.2 (by omega)
          refine J_aload_n (pc := 103) dX6_readLine_103 rfl ?_
          refine J_iload_n (pc := 104) dX6_readLine_104 rfl ?_
          refine K_Vv1 (pc := 105) (Y' := YX6_readMore) dX6_readLine_105 lX6_139 mX6_readMore vX6_readMore ⟨_, _, rfl⟩ sh131 (Nat.le_of_ble_eq_true rfl) (c6_more_one (w := 0) (L := L) (t := t) (s := s) (D := D) (hT.qf Q2) (hW.qf Q2) z2 hs2 A2 hG (by omega) (by have := hG.1; have z : D.1 ≠ 4 := fun z => c33 (congrArg nI z); omega) eC) ?_
          rintro h3 hm3
          have T3 := (hT.qf Q2).qf hm3.choose_spec.2.2.1
          refine (J_ls (ls' := [(0, .ref 131), (1, .int (nI 0))]) ⟨rfl, rfl, trivial⟩ ?_)
          have kk := l6_lineE (g := g) (d := d) (r := lWord L t 0 s D) (f := tbs 0 D.2.2) (x := .int (nI 0)) T3 hm3 Q2 B2
          exact K_mono kk (fun r h' z => ⟨z.1, z.2.line (lW_flags (L := L) (t := t) (s := s) (D := D) 0 (by omega)).symm⟩)
        · skip
          have zz : (nrm (sAdv L t (one0 s D))).1 ≠ 0 := fun z => c99 (by rw [z]; decide)
          refine K_ret (pc := 102) dX6_readLine_102 rfl ?_
          have el := lOne_f (L := L) (t := t) (k := nI 0) (s := s) (D := D) zz
          refine ⟨?_, Q2, fun z => absurd ((congrArg Prod.fst el).symm.trans z) zz⟩
          show RT L (nrm (sAdv L t (lWord L t 0 s D).1)) h2
          rw [show (lWord L t 0 s D).1 = _ from el, sAdv_f zz, nrm_f zz]; exact hs2
    · have eL : lLine L t s D = lWord L t 1 s D := by rw [lLine, if_pos (by rw [se]; exact z2), se, ew]
      have ex : x0 = nI 1 := by rw [y1', ew]; rfl
      subst ex
      rw [eL]
      refine J_iload_n (pc := 23) dX6_readLine_23 rfl ?_
      refine J_iconst (pc := 24) (v := nI 3) dX6_readLine_24 (by decide) ?_
      refine J_icmp_gt (pc := 25) (tgt := 36) dX6_readLine_25 (by decide) (fun c => absurd c (by decide)) (fun _ => ?_)
      refine J_aload_n (pc := 28) dX6_readLine_28 rfl ?_
      refine J_getI (pc := 29) dX6_readLine_29 fX6_122 sh131 rfl (hD.1.2.1) ?_
      refine J_iconst (pc := 32) (v := nI 4) dX6_readLine_32 (by decide) ?_
      refine J_icmp_eq (pc := 33) (tgt := 52) dX6_readLine_33 (by decide) (fun c33 => ?_) (fun c33 => ?_)
      · skip
        refine J_aload_n (pc := 52) dX6_readLine_52 rfl ?_
        refine J_iconst (pc := 53) (v := nI 5) dX6_readLine_53 (by decide) ?_
        refine K_Vv1 (pc := 54) (Y' := YX6_fails) dX6_readLine_54 lX6_93 mX6_fails vX6_fails ⟨_, _, rfl⟩ sh131 (Nat.le_of_ble_eq_true rfl) (c6_fails (c := 5)) ?_
        rintro hz rfl
        refine J_iload_n (pc := 57) dX6_readLine_57 rfl ?_
        refine J_iconst (pc := 58) (v := nI 5) dX6_readLine_58 (by decide) ?_
        refine J_icmp_lt (pc := 59) (tgt := 79) dX6_readLine_59 (by decide) (fun _ => ?_) (fun c => absurd c (by decide))
        have eC : one0 s D = (5, s.2) := sRef_y (decide_eq_true (show 4 ≤ D.1 by have := (nIe (by have := hG.1; omega) (by omega)).mp c33; omega)) z2
        have H1 : RT L (one0 s D) (flH h 5) := by
          have := RT_fl (c := 5) hs (by omega) (by omega)
          rw [sRef_y rfl z2] at this
          rw [eC]; exact this
        have f1 : rfm h (flH h 5) := flH_rf
        have H1b := H1.u (k := 5) (x := (flH h 5) 131 5 ||| (nI 1 <<< (nI 1 &&& 31))) (by omega)
        refine J_aload_n (pc := 79) dX6_readLine_79 rfl ?_
        refine J_dup (pc := 80) dX6_readLine_80 rfl ?_
        refine J_getI (pc := 81) dX6_readLine_81 fX6_136 sh131 rfl (rfl) ?_
        refine J_iconst (pc := 84) (v := nI 1) dX6_readLine_84 (by decide) ?_
        refine J_iload_n (pc := 85) dX6_readLine_85 rfl ?_
        refine J_ishl (pc := 86) dX6_readLine_86 (rfl) ?_
        refine J_ior (pc := 87) dX6_readLine_87 (rfl) ?_
        refine J_putI (pc := 88) dX6_readLine_88 fX6_136 sh131 rfl ?_
        refine J_aload_n (pc := 91) dX6_readLine_91 rfl ?_
        refine K_Vv0 (pc := 92) (Y' := YX6_step) dX6_readLine_92 lX6_97 mX6_step vX6_step ⟨_, _, rfl⟩ sh131 (Nat.le_of_ble_eq_true rfl) (c6_step (L := L) (t := t) (s := one0 s D) (hT.qf (f1.qf.tr (qf_6 (by omega) (by omega)))) H1b) ?_
        rintro h2 ⟨hs2, f2⟩
        have Q2 : qf h h2 := (f1.qf.tr (qf_6 (by omega) (by omega))).tr f2.qf
        refine J_aload_n (pc := 95) dX6_readLine_95 rfl ?_
        refine J_getI (pc := 96) dX6_readLine_96 fX6_63 sh131 rfl (hs2.2.2.2.2.1) ?_
        refine J_if_le (pc := 99) (tgt := 103) dX6_readLine_99 (by decide) (fun c99 => ?_) (fun c99 => ?_)
        · skip
          exact absurd ((nI_leI (b := 0) (by have := hs2.2.2.2.1; omega) (by omega)).mp c99) (by rw [eC, sAdv_f (by show (5 : Nat) ≠ 0; decide), nrm_f (by show (5 : Nat) ≠ 0; decide)]; show ¬ (5 : Nat) ≤ 0; decide)
        · skip
          have zz : (nrm (sAdv L t (one0 s D))).1 ≠ 0 := fun z => c99 (by rw [z]; decide)
          refine K_ret (pc := 102) dX6_readLine_102 rfl ?_
          have el := lOne_f (L := L) (t := t) (k := nI 1) (s := s) (D := D) zz
          refine ⟨?_, Q2, fun z => absurd ((congrArg Prod.fst el).symm.trans z) zz⟩
          show RT L (nrm (sAdv L t (lWord L t 1 s D).1)) h2
          rw [show (lWord L t 1 s D).1 = _ from el, sAdv_f zz, nrm_f zz]; exact hs2
      · skip
        refine J_iload_n (pc := 36) dX6_readLine_36 rfl ?_
        refine J_iconst (pc := 37) (v := nI 4) dX6_readLine_37 (by decide) ?_
        refine J_icmp_ne (pc := 38) (tgt := 57) dX6_readLine_38 (by decide) (fun _ => ?_) (fun c => absurd c (by decide))
        refine J_iload_n (pc := 57) dX6_readLine_57 rfl ?_
        refine J_iconst (pc := 58) (v := nI 5) dX6_readLine_58 (by decide) ?_
        refine J_icmp_lt (pc := 59) (tgt := 79) dX6_readLine_59 (by decide) (fun _ => ?_) (fun c => absurd c (by decide))
        have eC : one0 s D = s := sRef_n (fun z => c33 (congrArg nI (show D.1 = 4 by have := of_decide_eq_true z; have := hG.1; omega)))
        have H1 : RT L (one0 s D) h := by rw [eC]; exact hs
        have f1 : rfm h h := rfm.rf
        have H1b := H1.u (k := 5) (x := h 131 5 ||| (nI 1 <<< (nI 1 &&& 31))) (by omega)
        refine J_aload_n (pc := 79) dX6_readLine_79 rfl ?_
        refine J_dup (pc := 80) dX6_readLine_80 rfl ?_
        refine J_getI (pc := 81) dX6_readLine_81 fX6_136 sh131 rfl (rfl) ?_
        refine J_iconst (pc := 84) (v := nI 1) dX6_readLine_84 (by decide) ?_
        refine J_iload_n (pc := 85) dX6_readLine_85 rfl ?_
        refine J_ishl (pc := 86) dX6_readLine_86 (rfl) ?_
        refine J_ior (pc := 87) dX6_readLine_87 (rfl) ?_
        refine J_putI (pc := 88) dX6_readLine_88 fX6_136 sh131 rfl ?_
        refine J_aload_n (pc := 91) dX6_readLine_91 rfl ?_
        refine K_Vv0 (pc := 92) (Y' := YX6_step) dX6_readLine_92 lX6_97 mX6_step vX6_step ⟨_, _, rfl⟩ sh131 (Nat.le_of_ble_eq_true rfl) (c6_step (L := L) (t := t) (s := one0 s D) (hT.qf (f1.qf.tr (qf_6 (by omega) (by omega)))) H1b) ?_
        rintro h2 ⟨hs2, f2⟩
        have Q2 : qf h h2 := (f1.qf.tr (qf_6 (by omega) (by omega))).tr f2.qf
        refine J_aload_n (pc := 95) dX6_readLine_95 rfl ?_
        refine J_getI (pc := 96) dX6_readLine_96 fX6_63 sh131 rfl (hs2.2.2.2.2.1) ?_
        refine J_if_le (pc := 99) (tgt := 103) dX6_readLine_99 (by decide) (fun c99 => ?_) (fun c99 => ?_)
        · skip
          have zz : (nrm (sAdv L t (one0 s D))).1 = 0 := by have := (nI_leI (b := 0) (by have := hs2.2.2.2.1; omega) (by omega)).mp c99; omega
          rw [eC] at zz hs2
          have A2 : RDa D h2 := ⟨((hD.1.1.u (k := 5) (x := h 131 5 ||| (nI 1 <<< (nI 1 &&& 31)))).rf f2), (f2 131 4 (by omega)).trans ((j_up_o (by omega)).trans hD.1.2.1), by rw [f2 131 6 (by omega), j_up_o (by omega)]; exact hD.1.2.2⟩
          have B2 : TB (h2 131 5) (tbs 1 D.2.2) := by rw [f2 131 5 (by omega), j_up_s]; exact TB_set hD.2 (by omega)
          refine J_aload_n (pc := 103) dX6_readLine_103 rfl ?_
          refine J_iload_n (pc := 104) dX6_readLine_104 rfl ?_
          refine K_Vv1 (pc := 105) (Y' := YX6_readMore) dX6_readLine_105 lX6_139 mX6_readMore vX6_readMore ⟨_, _, rfl⟩ sh131 (Nat.le_of_ble_eq_true rfl) (c6_more_one (w := 1) (L := L) (t := t) (s := s) (D := D) (hT.qf Q2) (hW.qf Q2) z2 hs2 A2 hG (by omega) (by have := hG.1; have z : D.1 ≠ 4 := fun z => c33 (congrArg nI z); omega) eC) ?_
          rintro h3 hm3
          have T3 := (hT.qf Q2).qf hm3.choose_spec.2.2.1
          refine (J_ls (ls' := [(0, .ref 131), (1, .int (nI 1))]) ⟨rfl, rfl, trivial⟩ ?_)
          have kk := l6_lineE (g := g) (d := d) (r := lWord L t 1 s D) (f := tbs 1 D.2.2) (x := .int (nI 1)) T3 hm3 Q2 B2
          exact K_mono kk (fun r h' z => ⟨z.1, z.2.line (lW_flags (L := L) (t := t) (s := s) (D := D) 1 (by omega)).symm⟩)
        · skip
          have zz : (nrm (sAdv L t (one0 s D))).1 ≠ 0 := fun z => c99 (by rw [z]; decide)
          refine K_ret (pc := 102) dX6_readLine_102 rfl ?_
          have el := lOne_f (L := L) (t := t) (k := nI 1) (s := s) (D := D) zz
          refine ⟨?_, Q2, fun z => absurd ((congrArg Prod.fst el).symm.trans z) zz⟩
          show RT L (nrm (sAdv L t (lWord L t 1 s D).1)) h2
          rw [show (lWord L t 1 s D).1 = _ from el, sAdv_f zz, nrm_f zz]; exact hs2
    · have eL : lLine L t s D = lWord L t 2 s D := by rw [lLine, if_pos (by rw [se]; exact z2), se, ew]
      have ex : x0 = nI 2 := by rw [y1', ew]; rfl
      subst ex
      rw [eL]
      refine J_iload_n (pc := 23) dX6_readLine_23 rfl ?_
      refine J_iconst (pc := 24) (v := nI 3) dX6_readLine_24 (by decide) ?_
      refine J_icmp_gt (pc := 25) (tgt := 36) dX6_readLine_25 (by decide) (fun c => absurd c (by decide)) (fun _ => ?_)
      refine J_aload_n (pc := 28) dX6_readLine_28 rfl ?_
      refine J_getI (pc := 29) dX6_readLine_29 fX6_122 sh131 rfl (hD.1.2.1) ?_
      refine J_iconst (pc := 32) (v := nI 4) dX6_readLine_32 (by decide) ?_
      refine J_icmp_eq (pc := 33) (tgt := 52) dX6_readLine_33 (by decide) (fun c33 => ?_) (fun c33 => ?_)
      · skip
        refine J_aload_n (pc := 52) dX6_readLine_52 rfl ?_
        refine J_iconst (pc := 53) (v := nI 5) dX6_readLine_53 (by decide) ?_
        refine K_Vv1 (pc := 54) (Y' := YX6_fails) dX6_readLine_54 lX6_93 mX6_fails vX6_fails ⟨_, _, rfl⟩ sh131 (Nat.le_of_ble_eq_true rfl) (c6_fails (c := 5)) ?_
        rintro hz rfl
        refine J_iload_n (pc := 57) dX6_readLine_57 rfl ?_
        refine J_iconst (pc := 58) (v := nI 5) dX6_readLine_58 (by decide) ?_
        refine J_icmp_lt (pc := 59) (tgt := 79) dX6_readLine_59 (by decide) (fun _ => ?_) (fun c => absurd c (by decide))
        have eC : one0 s D = (5, s.2) := sRef_y (decide_eq_true (show 4 ≤ D.1 by have := (nIe (by have := hG.1; omega) (by omega)).mp c33; omega)) z2
        have H1 : RT L (one0 s D) (flH h 5) := by
          have := RT_fl (c := 5) hs (by omega) (by omega)
          rw [sRef_y rfl z2] at this
          rw [eC]; exact this
        have f1 : rfm h (flH h 5) := flH_rf
        have H1b := H1.u (k := 5) (x := (flH h 5) 131 5 ||| (nI 1 <<< (nI 2 &&& 31))) (by omega)
        refine J_aload_n (pc := 79) dX6_readLine_79 rfl ?_
        refine J_dup (pc := 80) dX6_readLine_80 rfl ?_
        refine J_getI (pc := 81) dX6_readLine_81 fX6_136 sh131 rfl (rfl) ?_
        refine J_iconst (pc := 84) (v := nI 1) dX6_readLine_84 (by decide) ?_
        refine J_iload_n (pc := 85) dX6_readLine_85 rfl ?_
        refine J_ishl (pc := 86) dX6_readLine_86 (rfl) ?_
        refine J_ior (pc := 87) dX6_readLine_87 (rfl) ?_
        refine J_putI (pc := 88) dX6_readLine_88 fX6_136 sh131 rfl ?_
        refine J_aload_n (pc := 91) dX6_readLine_91 rfl ?_
        refine K_Vv0 (pc := 92) (Y' := YX6_step) dX6_readLine_92 lX6_97 mX6_step vX6_step ⟨_, _, rfl⟩ sh131 (Nat.le_of_ble_eq_true rfl) (c6_step (L := L) (t := t) (s := one0 s D) (hT.qf (f1.qf.tr (qf_6 (by omega) (by omega)))) H1b) ?_
        rintro h2 ⟨hs2, f2⟩
        have Q2 : qf h h2 := (f1.qf.tr (qf_6 (by omega) (by omega))).tr f2.qf
        refine J_aload_n (pc := 95) dX6_readLine_95 rfl ?_
        refine J_getI (pc := 96) dX6_readLine_96 fX6_63 sh131 rfl (hs2.2.2.2.2.1) ?_
        refine J_if_le (pc := 99) (tgt := 103) dX6_readLine_99 (by decide) (fun c99 => ?_) (fun c99 => ?_)
        · skip
          exact absurd ((nI_leI (b := 0) (by have := hs2.2.2.2.1; omega) (by omega)).mp c99) (by rw [eC, sAdv_f (by show (5 : Nat) ≠ 0; decide), nrm_f (by show (5 : Nat) ≠ 0; decide)]; show ¬ (5 : Nat) ≤ 0; decide)
        · skip
          have zz : (nrm (sAdv L t (one0 s D))).1 ≠ 0 := fun z => c99 (by rw [z]; decide)
          refine K_ret (pc := 102) dX6_readLine_102 rfl ?_
          have el := lOne_f (L := L) (t := t) (k := nI 2) (s := s) (D := D) zz
          refine ⟨?_, Q2, fun z => absurd ((congrArg Prod.fst el).symm.trans z) zz⟩
          show RT L (nrm (sAdv L t (lWord L t 2 s D).1)) h2
          rw [show (lWord L t 2 s D).1 = _ from el, sAdv_f zz, nrm_f zz]; exact hs2
      · skip
        refine J_iload_n (pc := 36) dX6_readLine_36 rfl ?_
        refine J_iconst (pc := 37) (v := nI 4) dX6_readLine_37 (by decide) ?_
        refine J_icmp_ne (pc := 38) (tgt := 57) dX6_readLine_38 (by decide) (fun _ => ?_) (fun c => absurd c (by decide))
        refine J_iload_n (pc := 57) dX6_readLine_57 rfl ?_
        refine J_iconst (pc := 58) (v := nI 5) dX6_readLine_58 (by decide) ?_
        refine J_icmp_lt (pc := 59) (tgt := 79) dX6_readLine_59 (by decide) (fun _ => ?_) (fun c => absurd c (by decide))
        have eC : one0 s D = s := sRef_n (fun z => c33 (congrArg nI (show D.1 = 4 by have := of_decide_eq_true z; have := hG.1; omega)))
        have H1 : RT L (one0 s D) h := by rw [eC]; exact hs
        have f1 : rfm h h := rfm.rf
        have H1b := H1.u (k := 5) (x := h 131 5 ||| (nI 1 <<< (nI 2 &&& 31))) (by omega)
        refine J_aload_n (pc := 79) dX6_readLine_79 rfl ?_
        refine J_dup (pc := 80) dX6_readLine_80 rfl ?_
        refine J_getI (pc := 81) dX6_readLine_81 fX6_136 sh131 rfl (rfl) ?_
        refine J_iconst (pc := 84) (v := nI 1) dX6_readLine_84 (by decide) ?_
        refine J_iload_n (pc := 85) dX6_readLine_85 rfl ?_
        refine J_ishl (pc := 86) dX6_readLine_86 (rfl) ?_
        refine J_ior (pc := 87) dX6_readLine_87 (rfl) ?_
        refine J_putI (pc := 88) dX6_readLine_88 fX6_136 sh131 rfl ?_
        refine J_aload_n (pc := 91) dX6_readLine_91 rfl ?_
        refine K_Vv0 (pc := 92) (Y' := YX6_step) dX6_readLine_92 lX6_97 mX6_step vX6_step ⟨_, _, rfl⟩ sh131 (Nat.le_of_ble_eq_true rfl) (c6_step (L := L) (t := t) (s := one0 s D) (hT.qf (f1.qf.tr (qf_6 (by omega) (by omega)))) H1b) ?_
        rintro h2 ⟨hs2, f2⟩
        have Q2 : qf h h2 := (f1.qf.tr (qf_6 (by omega) (by omega))).tr f2.qf
        refine J_aload_n (pc := 95) dX6_readLine_95 rfl ?_
        refine J_getI (pc := 96) dX6_readLine_96 fX6_63 sh131 rfl (hs2.2.2.2.2.1) ?_
        refine J_if_le (pc := 99) (tgt := 103) dX6_readLine_99 (by decide) (fun c99 => ?_) (fun c99 => ?_)
        · skip
          have zz : (nrm (sAdv L t (one0 s D))).1 = 0 := by have := (nI_leI (b := 0) (by have := hs2.2.2.2.1; omega) (by omega)).mp c99; omega
          rw [eC] at zz hs2
          have A2 : RDa D h2 := ⟨((hD.1.1.u (k := 5) (x := h 131 5 ||| (nI 1 <<< (nI 2 &&& 31)))).rf f2), (f2 131 4 (by omega)).trans ((j_up_o (by omega)).trans hD.1.2.1), by rw [f2 131 6 (by omega), j_up_o (by omega)]; exact hD.1.2.2⟩
          have B2 : TB (h2 131 5) (tbs 2 D.2.2) := by rw [f2 131 5 (by omega), j_up_s]; exact TB_set hD.2 (by omega)
          refine J_aload_n (pc := 103) dX6_readLine_103 rfl ?_
          refine J_iload_n (pc := 104) dX6_readLine_104 rfl ?_
          refine K_Vv1 (pc := 105) (Y' := YX6_readMore) dX6_readLine_105 lX6_139 mX6_readMore vX6_readMore ⟨_, _, rfl⟩ sh131 (Nat.le_of_ble_eq_true rfl) (c6_more_one (w := 2) (L := L) (t := t) (s := s) (D := D) (hT.qf Q2) (hW.qf Q2) z2 hs2 A2 hG (by omega) (by have := hG.1; have z : D.1 ≠ 4 := fun z => c33 (congrArg nI z); omega) eC) ?_
          rintro h3 hm3
          have T3 := (hT.qf Q2).qf hm3.choose_spec.2.2.1
          refine (J_ls (ls' := [(0, .ref 131), (1, .int (nI 2))]) ⟨rfl, rfl, trivial⟩ ?_)
          have kk := l6_lineE (g := g) (d := d) (r := lWord L t 2 s D) (f := tbs 2 D.2.2) (x := .int (nI 2)) T3 hm3 Q2 B2
          exact K_mono kk (fun r h' z => ⟨z.1, z.2.line (lW_flags (L := L) (t := t) (s := s) (D := D) 2 (by omega)).symm⟩)
        · skip
          have zz : (nrm (sAdv L t (one0 s D))).1 ≠ 0 := fun z => c99 (by rw [z]; decide)
          refine K_ret (pc := 102) dX6_readLine_102 rfl ?_
          have el := lOne_f (L := L) (t := t) (k := nI 2) (s := s) (D := D) zz
          refine ⟨?_, Q2, fun z => absurd ((congrArg Prod.fst el).symm.trans z) zz⟩
          show RT L (nrm (sAdv L t (lWord L t 2 s D).1)) h2
          rw [show (lWord L t 2 s D).1 = _ from el, sAdv_f zz, nrm_f zz]; exact hs2
    · have eL : lLine L t s D = lWord L t 3 s D := by rw [lLine, if_pos (by rw [se]; exact z2), se, ew]
      have ex : x0 = nI 3 := by rw [y1', ew]; rfl
      subst ex
      rw [eL]
      refine J_iload_n (pc := 23) dX6_readLine_23 rfl ?_
      refine J_iconst (pc := 24) (v := nI 3) dX6_readLine_24 (by decide) ?_
      refine J_icmp_gt (pc := 25) (tgt := 36) dX6_readLine_25 (by decide) (fun c => absurd c (by decide)) (fun _ => ?_)
      refine J_aload_n (pc := 28) dX6_readLine_28 rfl ?_
      refine J_getI (pc := 29) dX6_readLine_29 fX6_122 sh131 rfl (hD.1.2.1) ?_
      refine J_iconst (pc := 32) (v := nI 4) dX6_readLine_32 (by decide) ?_
      refine J_icmp_eq (pc := 33) (tgt := 52) dX6_readLine_33 (by decide) (fun c33 => ?_) (fun c33 => ?_)
      · skip
        refine J_aload_n (pc := 52) dX6_readLine_52 rfl ?_
        refine J_iconst (pc := 53) (v := nI 5) dX6_readLine_53 (by decide) ?_
        refine K_Vv1 (pc := 54) (Y' := YX6_fails) dX6_readLine_54 lX6_93 mX6_fails vX6_fails ⟨_, _, rfl⟩ sh131 (Nat.le_of_ble_eq_true rfl) (c6_fails (c := 5)) ?_
        rintro hz rfl
        refine J_iload_n (pc := 57) dX6_readLine_57 rfl ?_
        refine J_iconst (pc := 58) (v := nI 5) dX6_readLine_58 (by decide) ?_
        refine J_icmp_lt (pc := 59) (tgt := 79) dX6_readLine_59 (by decide) (fun _ => ?_) (fun c => absurd c (by decide))
        have eC : one0 s D = (5, s.2) := sRef_y (decide_eq_true (show 4 ≤ D.1 by have := (nIe (by have := hG.1; omega) (by omega)).mp c33; omega)) z2
        have H1 : RT L (one0 s D) (flH h 5) := by
          have := RT_fl (c := 5) hs (by omega) (by omega)
          rw [sRef_y rfl z2] at this
          rw [eC]; exact this
        have f1 : rfm h (flH h 5) := flH_rf
        have H1b := H1.u (k := 5) (x := (flH h 5) 131 5 ||| (nI 1 <<< (nI 3 &&& 31))) (by omega)
        refine J_aload_n (pc := 79) dX6_readLine_79 rfl ?_
        refine J_dup (pc := 80) dX6_readLine_80 rfl ?_
        refine J_getI (pc := 81) dX6_readLine_81 fX6_136 sh131 rfl (rfl) ?_
        refine J_iconst (pc := 84) (v := nI 1) dX6_readLine_84 (by decide) ?_
        refine J_iload_n (pc := 85) dX6_readLine_85 rfl ?_
        refine J_ishl (pc := 86) dX6_readLine_86 (rfl) ?_
        refine J_ior (pc := 87) dX6_readLine_87 (rfl) ?_
        refine J_putI (pc := 88) dX6_readLine_88 fX6_136 sh131 rfl ?_
        refine J_aload_n (pc := 91) dX6_readLine_91 rfl ?_
        refine K_Vv0 (pc := 92) (Y' := YX6_step) dX6_readLine_92 lX6_97 mX6_step vX6_step ⟨_, _, rfl⟩ sh131 (Nat.le_of_ble_eq_true rfl) (c6_step (L := L) (t := t) (s := one0 s D) (hT.qf (f1.qf.tr (qf_6 (by omega) (by omega)))) H1b) ?_
        rintro h2 ⟨hs2, f2⟩
        have Q2 : qf h h2 := (f1.qf.tr (qf_6 (by omega) (by omega))).tr f2.qf
        refine J_aload_n (pc := 95) dX6_readLine_95 rfl ?_
        refine J_getI (pc := 96) dX6_readLine_96 fX6_63 sh131 rfl (hs2.2.2.2.2.1) ?_
        refine J_if_le (pc := 99) (tgt := 103) dX6_readLine_99 (by decide) (fun c99 => ?_) (fun c99 => ?_)
        · skip
          exact absurd ((nI_leI (b := 0) (by have := hs2.2.2.2.1; omega) (by omega)).mp c99) (by rw [eC, sAdv_f (by show (5 : Nat) ≠ 0; decide), nrm_f (by show (5 : Nat) ≠ 0; decide)]; show ¬ (5 : Nat) ≤ 0; decide)
        · skip
          have zz : (nrm (sAdv L t (one0 s D))).1 ≠ 0 := fun z => c99 (by rw [z]; decide)
          refine K_ret (pc := 102) dX6_readLine_102 rfl ?_
          have el := lOne_f (L := L) (t := t) (k := nI 3) (s := s) (D := D) zz
          refine ⟨?_, Q2, fun z => absurd ((congrArg Prod.fst el).symm.trans z) zz⟩
          show RT L (nrm (sAdv L t (lWord L t 3 s D).1)) h2
          rw [show (lWord L t 3 s D).1 = _ from el, sAdv_f zz, nrm_f zz]; exact hs2
      · skip
        refine J_iload_n (pc := 36) dX6_readLine_36 rfl ?_
        refine J_iconst (pc := 37) (v := nI 4) dX6_readLine_37 (by decide) ?_
        refine J_icmp_ne (pc := 38) (tgt := 57) dX6_readLine_38 (by decide) (fun _ => ?_) (fun c => absurd c (by decide))
        refine J_iload_n (pc := 57) dX6_readLine_57 rfl ?_
        refine J_iconst (pc := 58) (v := nI 5) dX6_readLine_58 (by decide) ?_
        refine J_icmp_lt (pc := 59) (tgt := 79) dX6_readLine_59 (by decide) (fun _ => ?_) (fun c => absurd c (by decide))
        have eC : one0 s D = s := sRef_n (fun z => c33 (congrArg nI (show D.1 = 4 by have := of_decide_eq_true z; have := hG.1; omega)))
        have H1 : RT L (one0 s D) h := by rw [eC]; exact hs
        have f1 : rfm h h := rfm.rf
        have H1b := H1.u (k := 5) (x := h 131 5 ||| (nI 1 <<< (nI 3 &&& 31))) (by omega)
        refine J_aload_n (pc := 79) dX6_readLine_79 rfl ?_
        refine J_dup (pc := 80) dX6_readLine_80 rfl ?_
        refine J_getI (pc := 81) dX6_readLine_81 fX6_136 sh131 rfl (rfl) ?_
        refine J_iconst (pc := 84) (v := nI 1) dX6_readLine_84 (by decide) ?_
        refine J_iload_n (pc := 85) dX6_readLine_85 rfl ?_
        refine J_ishl (pc := 86) dX6_readLine_86 (rfl) ?_
        refine J_ior (pc := 87) dX6_readLine_87 (rfl) ?_
        refine J_putI (pc := 88) dX6_readLine_88 fX6_136 sh131 rfl ?_
        refine J_aload_n (pc := 91) dX6_readLine_91 rfl ?_
        refine K_Vv0 (pc := 92) (Y' := YX6_step) dX6_readLine_92 lX6_97 mX6_step vX6_step ⟨_, _, rfl⟩ sh131 (Nat.le_of_ble_eq_true rfl) (c6_step (L := L) (t := t) (s := one0 s D) (hT.qf (f1.qf.tr (qf_6 (by omega) (by omega)))) H1b) ?_
        rintro h2 ⟨hs2, f2⟩
        have Q2 : qf h h2 := (f1.qf.tr (qf_6 (by omega) (by omega))).tr f2.qf
        refine J_aload_n (pc := 95) dX6_readLine_95 rfl ?_
        refine J_getI (pc := 96) dX6_readLine_96 fX6_63 sh131 rfl (hs2.2.2.2.2.1) ?_
        refine J_if_le (pc := 99) (tgt := 103) dX6_readLine_99 (by decide) (fun c99 => ?_) (fun c99 => ?_)
        · skip
          have zz : (nrm (sAdv L t (one0 s D))).1 = 0 := by have := (nI_leI (b := 0) (by have := hs2.2.2.2.1; omega) (by omega)).mp c99; omega
          rw [eC] at zz hs2
          have A2 : RDa D h2 := ⟨((hD.1.1.u (k := 5) (x := h 131 5 ||| (nI 1 <<< (nI 3 &&& 31)))).rf f2), (f2 131 4 (by omega)).trans ((j_up_o (by omega)).trans hD.1.2.1), by rw [f2 131 6 (by omega), j_up_o (by omega)]; exact hD.1.2.2⟩
          have B2 : TB (h2 131 5) (tbs 3 D.2.2) := by rw [f2 131 5 (by omega), j_up_s]; exact TB_set hD.2 (by omega)
          refine J_aload_n (pc := 103) dX6_readLine_103 rfl ?_
          refine J_iload_n (pc := 104) dX6_readLine_104 rfl ?_
          refine K_Vv1 (pc := 105) (Y' := YX6_readMore) dX6_readLine_105 lX6_139 mX6_readMore vX6_readMore ⟨_, _, rfl⟩ sh131 (Nat.le_of_ble_eq_true rfl) (c6_more_one (w := 3) (L := L) (t := t) (s := s) (D := D) (hT.qf Q2) (hW.qf Q2) z2 hs2 A2 hG (by omega) (by have := hG.1; have z : D.1 ≠ 4 := fun z => c33 (congrArg nI z); omega) eC) ?_
          rintro h3 hm3
          have T3 := (hT.qf Q2).qf hm3.choose_spec.2.2.1
          refine (J_ls (ls' := [(0, .ref 131), (1, .int (nI 3))]) ⟨rfl, rfl, trivial⟩ ?_)
          have kk := l6_lineE (g := g) (d := d) (r := lWord L t 3 s D) (f := tbs 3 D.2.2) (x := .int (nI 3)) T3 hm3 Q2 B2
          exact K_mono kk (fun r h' z => ⟨z.1, z.2.line (lW_flags (L := L) (t := t) (s := s) (D := D) 3 (by omega)).symm⟩)
        · skip
          have zz : (nrm (sAdv L t (one0 s D))).1 ≠ 0 := fun z => c99 (by rw [z]; decide)
          refine K_ret (pc := 102) dX6_readLine_102 rfl ?_
          have el := lOne_f (L := L) (t := t) (k := nI 3) (s := s) (D := D) zz
          refine ⟨?_, Q2, fun z => absurd ((congrArg Prod.fst el).symm.trans z) zz⟩
          show RT L (nrm (sAdv L t (lWord L t 3 s D).1)) h2
          rw [show (lWord L t 3 s D).1 = _ from el, sAdv_f zz, nrm_f zz]; exact hs2
    · have eL : lLine L t s D = lWord L t 8 s D := by rw [lLine, if_pos (by rw [se]; exact z2), se, ew]
      have ex : x0 = nI 4 := by rw [y1', ew]; rfl
      subst ex
      rw [eL]
      refine J_iload_n (pc := 23) dX6_readLine_23 rfl ?_
      refine J_iconst (pc := 24) (v := nI 3) dX6_readLine_24 (by decide) ?_
      refine J_icmp_gt (pc := 25) (tgt := 36) dX6_readLine_25 (by decide) (fun _ => ?_) (fun c => absurd c (by decide))
      refine J_iload_n (pc := 36) dX6_readLine_36 rfl ?_
      refine J_iconst (pc := 37) (v := nI 4) dX6_readLine_37 (by decide) ?_
      refine J_icmp_ne (pc := 38) (tgt := 57) dX6_readLine_38 (by decide) (fun c => absurd c (by decide)) (fun _ => ?_)
      refine J_aload_n (pc := 41) dX6_readLine_41 rfl ?_
      refine J_getR (pc := 42) dX6_readLine_42 fX6_16 sh131 rfl ?_
      refine J_bipush (pc := 45) (v := nI 37) dX6_readLine_45 (by decide) ?_
      refine J_iald (pc := 47) dX6_readLine_47 sh134 (rfl) (by omega) ((hD.1.1 37 (by omega)).trans hG.2.2.1.1.1) (by decide) ?_
      refine J_iconst (pc := 48) (v := nI 5) dX6_readLine_48 (by decide) ?_
      refine J_icmp_ne (pc := 49) (tgt := 57) dX6_readLine_49 (by decide) (fun c49 => ?_) (fun c49 => ?_)
      · skip
        refine J_iload_n (pc := 57) dX6_readLine_57 rfl ?_
        refine J_iconst (pc := 58) (v := nI 5) dX6_readLine_58 (by decide) ?_
        refine J_icmp_lt (pc := 59) (tgt := 79) dX6_readLine_59 (by decide) (fun _ => ?_) (fun c => absurd c (by decide))
        have eC : cov0 s D = s := sRef_n (fun z => c49 (congrArg nI (show ix (D.2.1 37) = 5 by have := of_decide_eq_true z; have := hG.2.2.1.1.2; omega)))
        have H1 : RT L (cov0 s D) h := by rw [eC]; exact hs
        have f1 : rfm h h := rfm.rf
        have H1b := H1.u (k := 5) (x := h 131 5 ||| (nI 1 <<< (nI 4 &&& 31))) (by omega)
        refine J_aload_n (pc := 79) dX6_readLine_79 rfl ?_
        refine J_dup (pc := 80) dX6_readLine_80 rfl ?_
        refine J_getI (pc := 81) dX6_readLine_81 fX6_136 sh131 rfl (rfl) ?_
        refine J_iconst (pc := 84) (v := nI 1) dX6_readLine_84 (by decide) ?_
        refine J_iload_n (pc := 85) dX6_readLine_85 rfl ?_
        refine J_ishl (pc := 86) dX6_readLine_86 (rfl) ?_
        refine J_ior (pc := 87) dX6_readLine_87 (rfl) ?_
        refine J_putI (pc := 88) dX6_readLine_88 fX6_136 sh131 rfl ?_
        refine J_aload_n (pc := 91) dX6_readLine_91 rfl ?_
        refine K_Vv0 (pc := 92) (Y' := YX6_step) dX6_readLine_92 lX6_97 mX6_step vX6_step ⟨_, _, rfl⟩ sh131 (Nat.le_of_ble_eq_true rfl) (c6_step (L := L) (t := t) (s := cov0 s D) (hT.qf (f1.qf.tr (qf_6 (by omega) (by omega)))) H1b) ?_
        rintro h2 ⟨hs2, f2⟩
        have Q2 : qf h h2 := (f1.qf.tr (qf_6 (by omega) (by omega))).tr f2.qf
        refine J_aload_n (pc := 95) dX6_readLine_95 rfl ?_
        refine J_getI (pc := 96) dX6_readLine_96 fX6_63 sh131 rfl (hs2.2.2.2.2.1) ?_
        refine J_if_le (pc := 99) (tgt := 103) dX6_readLine_99 (by decide) (fun c99 => ?_) (fun c99 => ?_)
        · skip
          have zz : (nrm (sAdv L t (cov0 s D))).1 = 0 := by have := (nI_leI (b := 0) (by have := hs2.2.2.2.1; omega) (by omega)).mp c99; omega
          rw [eC] at zz hs2
          have A2 : RDa D h2 := ⟨((hD.1.1.u (k := 5) (x := h 131 5 ||| (nI 1 <<< (nI 4 &&& 31)))).rf f2), (f2 131 4 (by omega)).trans ((j_up_o (by omega)).trans hD.1.2.1), by rw [f2 131 6 (by omega), j_up_o (by omega)]; exact hD.1.2.2⟩
          have B2 : TB (h2 131 5) (tbs 4 D.2.2) := by rw [f2 131 5 (by omega), j_up_s]; exact TB_set hD.2 (by omega)
          refine J_aload_n (pc := 103) dX6_readLine_103 rfl ?_
          refine J_iload_n (pc := 104) dX6_readLine_104 rfl ?_
          refine K_Vv1 (pc := 105) (Y' := YX6_readMore) dX6_readLine_105 lX6_139 mX6_readMore vX6_readMore ⟨_, _, rfl⟩ sh131 (Nat.le_of_ble_eq_true rfl) (c6_more_cov (L := L) (t := t) (s := s) (D := D) (hT.qf Q2) (hW.qf Q2) z2 hs2 A2 hG (by have := hG.2.2.1.1.2; have z : ix (D.2.1 37) ≠ 5 := fun z => c49 (congrArg nI z); omega) eC) ?_
          rintro h3 hm3
          have T3 := (hT.qf Q2).qf hm3.choose_spec.2.2.1
          refine (J_ls (ls' := [(0, .ref 131), (1, .int (nI 4))]) ⟨rfl, rfl, trivial⟩ ?_)
          have kk := l6_lineE (g := g) (d := d) (r := lWord L t 8 s D) (f := tbs 4 D.2.2) (x := .int (nI 4)) T3 hm3 Q2 B2
          exact K_mono kk (fun r h' z => ⟨z.1, z.2.line (lW_flags (L := L) (t := t) (s := s) (D := D) 8 (by omega)).symm⟩)
        · skip
          have zz : (nrm (sAdv L t (cov0 s D))).1 ≠ 0 := fun z => c99 (by rw [z]; decide)
          refine K_ret (pc := 102) dX6_readLine_102 rfl ?_
          have el := lCov_f (L := L) (t := t) (s := s) (D := D) zz
          refine ⟨?_, Q2, fun z => absurd ((congrArg Prod.fst el).symm.trans z) zz⟩
          show RT L (nrm (sAdv L t (lWord L t 8 s D).1)) h2
          rw [show (lWord L t 8 s D).1 = _ from el, sAdv_f zz, nrm_f zz]; exact hs2
      · skip
        refine J_aload_n (pc := 52) dX6_readLine_52 rfl ?_
        refine J_iconst (pc := 53) (v := nI 5) dX6_readLine_53 (by decide) ?_
        refine K_Vv1 (pc := 54) (Y' := YX6_fails) dX6_readLine_54 lX6_93 mX6_fails vX6_fails ⟨_, _, rfl⟩ sh131 (Nat.le_of_ble_eq_true rfl) (c6_fails (c := 5)) ?_
        rintro hz rfl
        refine J_iload_n (pc := 57) dX6_readLine_57 rfl ?_
        refine J_iconst (pc := 58) (v := nI 5) dX6_readLine_58 (by decide) ?_
        refine J_icmp_lt (pc := 59) (tgt := 79) dX6_readLine_59 (by decide) (fun _ => ?_) (fun c => absurd c (by decide))
        have eC : cov0 s D = (5, s.2) := sRef_y (decide_eq_true (show 5 ≤ ix (D.2.1 37) by have := (nIe (by have := hG.2.2.1.1.2; omega) (by omega)).mp c49; omega)) z2
        have H1 : RT L (cov0 s D) (flH h 5) := by
          have := RT_fl (c := 5) hs (by omega) (by omega)
          rw [sRef_y rfl z2] at this
          rw [eC]; exact this
        have f1 : rfm h (flH h 5) := flH_rf
        have H1b := H1.u (k := 5) (x := (flH h 5) 131 5 ||| (nI 1 <<< (nI 4 &&& 31))) (by omega)
        refine J_aload_n (pc := 79) dX6_readLine_79 rfl ?_
        refine J_dup (pc := 80) dX6_readLine_80 rfl ?_
        refine J_getI (pc := 81) dX6_readLine_81 fX6_136 sh131 rfl (rfl) ?_
        refine J_iconst (pc := 84) (v := nI 1) dX6_readLine_84 (by decide) ?_
        refine J_iload_n (pc := 85) dX6_readLine_85 rfl ?_
        refine J_ishl (pc := 86) dX6_readLine_86 (rfl) ?_
        refine J_ior (pc := 87) dX6_readLine_87 (rfl) ?_
        refine J_putI (pc := 88) dX6_readLine_88 fX6_136 sh131 rfl ?_
        refine J_aload_n (pc := 91) dX6_readLine_91 rfl ?_
        refine K_Vv0 (pc := 92) (Y' := YX6_step) dX6_readLine_92 lX6_97 mX6_step vX6_step ⟨_, _, rfl⟩ sh131 (Nat.le_of_ble_eq_true rfl) (c6_step (L := L) (t := t) (s := cov0 s D) (hT.qf (f1.qf.tr (qf_6 (by omega) (by omega)))) H1b) ?_
        rintro h2 ⟨hs2, f2⟩
        have Q2 : qf h h2 := (f1.qf.tr (qf_6 (by omega) (by omega))).tr f2.qf
        refine J_aload_n (pc := 95) dX6_readLine_95 rfl ?_
        refine J_getI (pc := 96) dX6_readLine_96 fX6_63 sh131 rfl (hs2.2.2.2.2.1) ?_
        refine J_if_le (pc := 99) (tgt := 103) dX6_readLine_99 (by decide) (fun c99 => ?_) (fun c99 => ?_)
        · skip
          exact absurd ((nI_leI (b := 0) (by have := hs2.2.2.2.1; omega) (by omega)).mp c99) (by rw [eC, sAdv_f (by show (5 : Nat) ≠ 0; decide), nrm_f (by show (5 : Nat) ≠ 0; decide)]; show ¬ (5 : Nat) ≤ 0; decide)
        · skip
          have zz : (nrm (sAdv L t (cov0 s D))).1 ≠ 0 := fun z => c99 (by rw [z]; decide)
          refine K_ret (pc := 102) dX6_readLine_102 rfl ?_
          have el := lCov_f (L := L) (t := t) (s := s) (D := D) zz
          refine ⟨?_, Q2, fun z => absurd ((congrArg Prod.fst el).symm.trans z) zz⟩
          show RT L (nrm (sAdv L t (lWord L t 8 s D).1)) h2
          rw [show (lWord L t 8 s D).1 = _ from el, sAdv_f zz, nrm_f zz]; exact hs2
    · have eL : lLine L t s D = lWord L t 9 s D := by rw [lLine, if_pos (by rw [se]; exact z2), se, ew]
      have ex : x0 = nI 5 := by rw [y1', ew]; rfl
      subst ex
      rw [eL]
      refine J_iload_n (pc := 23) dX6_readLine_23 rfl ?_
      refine J_iconst (pc := 24) (v := nI 3) dX6_readLine_24 (by decide) ?_
      refine J_icmp_gt (pc := 25) (tgt := 36) dX6_readLine_25 (by decide) (fun _ => ?_) (fun c => absurd c (by decide))
      refine J_iload_n (pc := 36) dX6_readLine_36 rfl ?_
      refine J_iconst (pc := 37) (v := nI 4) dX6_readLine_37 (by decide) ?_
      refine J_icmp_ne (pc := 38) (tgt := 57) dX6_readLine_38 (by decide) (fun _ => ?_) (fun c => absurd c (by decide))
      refine J_iload_n (pc := 57) dX6_readLine_57 rfl ?_
      refine J_iconst (pc := 58) (v := nI 5) dX6_readLine_58 (by decide) ?_
      refine J_icmp_lt (pc := 59) (tgt := 79) dX6_readLine_59 (by decide) (fun c => absurd c (by decide)) (fun _ => ?_)
      refine J_aload_n (pc := 62) dX6_readLine_62 rfl ?_
      refine J_getI (pc := 63) dX6_readLine_63 fX6_136 sh131 rfl (rfl) ?_
      refine J_iload_n (pc := 66) dX6_readLine_66 rfl ?_
      refine J_ishr (pc := 67) dX6_readLine_67 (rfl) ?_
      refine J_iconst (pc := 68) (v := nI 1) dX6_readLine_68 (by decide) ?_
      refine J_iand (pc := 69) dX6_readLine_69 (rfl) ?_
      refine J_iconst (pc := 70) (v := nI 1) dX6_readLine_70 (by decide) ?_
      refine J_icmp_ne (pc := 71) (tgt := 79) dX6_readLine_71 (by decide) (fun c71 => ?_) (fun c71 => ?_)
      · skip
        have eC : odd0 s D = s := sRef_n (fun z => c71 ((TB_5 hD.2).mpr z))
        have H1 : RT L (odd0 s D) h := by rw [eC]; exact hs
        have f1 : rfm h h := rfm.rf
        have H1b := H1.u (k := 5) (x := h 131 5 ||| (nI 1 <<< (nI 5 &&& 31))) (by omega)
        refine J_aload_n (pc := 79) dX6_readLine_79 rfl ?_
        refine J_dup (pc := 80) dX6_readLine_80 rfl ?_
        refine J_getI (pc := 81) dX6_readLine_81 fX6_136 sh131 rfl (rfl) ?_
        refine J_iconst (pc := 84) (v := nI 1) dX6_readLine_84 (by decide) ?_
        refine J_iload_n (pc := 85) dX6_readLine_85 rfl ?_
        refine J_ishl (pc := 86) dX6_readLine_86 (rfl) ?_
        refine J_ior (pc := 87) dX6_readLine_87 (rfl) ?_
        refine J_putI (pc := 88) dX6_readLine_88 fX6_136 sh131 rfl ?_
        refine J_aload_n (pc := 91) dX6_readLine_91 rfl ?_
        refine K_Vv0 (pc := 92) (Y' := YX6_step) dX6_readLine_92 lX6_97 mX6_step vX6_step ⟨_, _, rfl⟩ sh131 (Nat.le_of_ble_eq_true rfl) (c6_step (L := L) (t := t) (s := odd0 s D) (hT.qf (f1.qf.tr (qf_6 (by omega) (by omega)))) H1b) ?_
        rintro h2 ⟨hs2, f2⟩
        have Q2 : qf h h2 := (f1.qf.tr (qf_6 (by omega) (by omega))).tr f2.qf
        refine J_aload_n (pc := 95) dX6_readLine_95 rfl ?_
        refine J_getI (pc := 96) dX6_readLine_96 fX6_63 sh131 rfl (hs2.2.2.2.2.1) ?_
        refine J_if_le (pc := 99) (tgt := 103) dX6_readLine_99 (by decide) (fun c99 => ?_) (fun c99 => ?_)
        · skip
          have zz : (nrm (sAdv L t (odd0 s D))).1 = 0 := by have := (nI_leI (b := 0) (by have := hs2.2.2.2.1; omega) (by omega)).mp c99; omega
          rw [eC] at zz hs2
          have A2 : RDa D h2 := ⟨((hD.1.1.u (k := 5) (x := h 131 5 ||| (nI 1 <<< (nI 5 &&& 31)))).rf f2), (f2 131 4 (by omega)).trans ((j_up_o (by omega)).trans hD.1.2.1), by rw [f2 131 6 (by omega), j_up_o (by omega)]; exact hD.1.2.2⟩
          have B2 : TB (h2 131 5) (tbs 5 D.2.2) := by rw [f2 131 5 (by omega), j_up_s]; exact TB_set hD.2 (by omega)
          refine J_aload_n (pc := 103) dX6_readLine_103 rfl ?_
          refine J_iload_n (pc := 104) dX6_readLine_104 rfl ?_
          refine K_Vv1 (pc := 105) (Y' := YX6_readMore) dX6_readLine_105 lX6_139 mX6_readMore vX6_readMore ⟨_, _, rfl⟩ sh131 (Nat.le_of_ble_eq_true rfl) (c6_more_odd (L := L) (t := t) (s := s) (D := D) (hT.qf Q2) (hW.qf Q2) z2 hs2 A2 hG eC) ?_
          rintro h3 hm3
          have T3 := (hT.qf Q2).qf hm3.choose_spec.2.2.1
          refine (J_ls (ls' := [(0, .ref 131), (1, .int (nI 5))]) ⟨rfl, rfl, trivial⟩ ?_)
          have kk := l6_lineE (g := g) (d := d) (r := lWord L t 9 s D) (f := tbs 5 D.2.2) (x := .int (nI 5)) T3 hm3 Q2 B2
          exact K_mono kk (fun r h' z => ⟨z.1, z.2.line (lW_flags (L := L) (t := t) (s := s) (D := D) 9 (by omega)).symm⟩)
        · skip
          have zz : (nrm (sAdv L t (odd0 s D))).1 ≠ 0 := fun z => c99 (by rw [z]; decide)
          refine K_ret (pc := 102) dX6_readLine_102 rfl ?_
          have el := lOdd_f (L := L) (t := t) (s := s) (D := D) zz
          refine ⟨?_, Q2, fun z => absurd ((congrArg Prod.fst el).symm.trans z) zz⟩
          show RT L (nrm (sAdv L t (lWord L t 9 s D).1)) h2
          rw [show (lWord L t 9 s D).1 = _ from el, sAdv_f zz, nrm_f zz]; exact hs2
      · skip
        refine J_aload_n (pc := 74) dX6_readLine_74 rfl ?_
        refine J_iconst (pc := 75) (v := nI 4) dX6_readLine_75 (by decide) ?_
        refine K_Vv1 (pc := 76) (Y' := YX6_fails) dX6_readLine_76 lX6_93 mX6_fails vX6_fails ⟨_, _, rfl⟩ sh131 (Nat.le_of_ble_eq_true rfl) (c6_fails (c := 4)) ?_
        rintro hz rfl
        have eC : odd0 s D = (4, s.2) := sRef_y (TB_5 hD.2 |>.mp c71) z2
        have H1 : RT L (odd0 s D) (flH h 4) := by
          have := RT_fl (c := 4) hs (by omega) (by omega)
          rw [sRef_y rfl z2] at this
          rw [eC]; exact this
        have f1 : rfm h (flH h 4) := flH_rf
        have H1b := H1.u (k := 5) (x := (flH h 4) 131 5 ||| (nI 1 <<< (nI 5 &&& 31))) (by omega)
        refine J_aload_n (pc := 79) dX6_readLine_79 rfl ?_
        refine J_dup (pc := 80) dX6_readLine_80 rfl ?_
        refine J_getI (pc := 81) dX6_readLine_81 fX6_136 sh131 rfl (rfl) ?_
        refine J_iconst (pc := 84) (v := nI 1) dX6_readLine_84 (by decide) ?_
        refine J_iload_n (pc := 85) dX6_readLine_85 rfl ?_
        refine J_ishl (pc := 86) dX6_readLine_86 (rfl) ?_
        refine J_ior (pc := 87) dX6_readLine_87 (rfl) ?_
        refine J_putI (pc := 88) dX6_readLine_88 fX6_136 sh131 rfl ?_
        refine J_aload_n (pc := 91) dX6_readLine_91 rfl ?_
        refine K_Vv0 (pc := 92) (Y' := YX6_step) dX6_readLine_92 lX6_97 mX6_step vX6_step ⟨_, _, rfl⟩ sh131 (Nat.le_of_ble_eq_true rfl) (c6_step (L := L) (t := t) (s := odd0 s D) (hT.qf (f1.qf.tr (qf_6 (by omega) (by omega)))) H1b) ?_
        rintro h2 ⟨hs2, f2⟩
        have Q2 : qf h h2 := (f1.qf.tr (qf_6 (by omega) (by omega))).tr f2.qf
        refine J_aload_n (pc := 95) dX6_readLine_95 rfl ?_
        refine J_getI (pc := 96) dX6_readLine_96 fX6_63 sh131 rfl (hs2.2.2.2.2.1) ?_
        refine J_if_le (pc := 99) (tgt := 103) dX6_readLine_99 (by decide) (fun c99 => ?_) (fun c99 => ?_)
        · skip
          exact absurd ((nI_leI (b := 0) (by have := hs2.2.2.2.1; omega) (by omega)).mp c99) (by rw [eC, sAdv_f (by show (4 : Nat) ≠ 0; decide), nrm_f (by show (4 : Nat) ≠ 0; decide)]; show ¬ (4 : Nat) ≤ 0; decide)
        · skip
          have zz : (nrm (sAdv L t (odd0 s D))).1 ≠ 0 := fun z => c99 (by rw [z]; decide)
          refine K_ret (pc := 102) dX6_readLine_102 rfl ?_
          have el := lOdd_f (L := L) (t := t) (s := s) (D := D) zz
          refine ⟨?_, Q2, fun z => absurd ((congrArg Prod.fst el).symm.trans z) zz⟩
          show RT L (nrm (sAdv L t (lWord L t 9 s D).1)) h2
          rw [show (lWord L t 9 s D).1 = _ from el, sAdv_f zz, nrm_f zz]; exact hs2
    · have eL : lLine L t s D = lWord L t 10 s D := by rw [lLine, if_pos (by rw [se]; exact z2), se, ew]
      have ex : x0 = nI 6 := by rw [y1', ew]; rfl
      subst ex
      rw [eL]
      refine J_iload_n (pc := 23) dX6_readLine_23 rfl ?_
      refine J_iconst (pc := 24) (v := nI 3) dX6_readLine_24 (by decide) ?_
      refine J_icmp_gt (pc := 25) (tgt := 36) dX6_readLine_25 (by decide) (fun _ => ?_) (fun c => absurd c (by decide))
      refine J_iload_n (pc := 36) dX6_readLine_36 rfl ?_
      refine J_iconst (pc := 37) (v := nI 4) dX6_readLine_37 (by decide) ?_
      refine J_icmp_ne (pc := 38) (tgt := 57) dX6_readLine_38 (by decide) (fun _ => ?_) (fun c => absurd c (by decide))
      refine J_iload_n (pc := 57) dX6_readLine_57 rfl ?_
      refine J_iconst (pc := 58) (v := nI 5) dX6_readLine_58 (by decide) ?_
      refine J_icmp_lt (pc := 59) (tgt := 79) dX6_readLine_59 (by decide) (fun c => absurd c (by decide)) (fun _ => ?_)
      refine J_aload_n (pc := 62) dX6_readLine_62 rfl ?_
      refine J_getI (pc := 63) dX6_readLine_63 fX6_136 sh131 rfl (rfl) ?_
      refine J_iload_n (pc := 66) dX6_readLine_66 rfl ?_
      refine J_ishr (pc := 67) dX6_readLine_67 (rfl) ?_
      refine J_iconst (pc := 68) (v := nI 1) dX6_readLine_68 (by decide) ?_
      refine J_iand (pc := 69) dX6_readLine_69 (rfl) ?_
      refine J_iconst (pc := 70) (v := nI 1) dX6_readLine_70 (by decide) ?_
      refine J_icmp_ne (pc := 71) (tgt := 79) dX6_readLine_71 (by decide) (fun c71 => ?_) (fun c71 => ?_)
      · skip
        have eC : sRef D.2.2.2.1 4 s = s := sRef_n (fun z => c71 ((TB_6 hD.2).mpr z))
        have H1 : RT L (sRef D.2.2.2.1 4 s) h := by rw [eC]; exact hs
        have f1 : rfm h h := rfm.rf
        have H1b := H1.u (k := 5) (x := h 131 5 ||| (nI 1 <<< (nI 6 &&& 31))) (by omega)
        refine J_aload_n (pc := 79) dX6_readLine_79 rfl ?_
        refine J_dup (pc := 80) dX6_readLine_80 rfl ?_
        refine J_getI (pc := 81) dX6_readLine_81 fX6_136 sh131 rfl (rfl) ?_
        refine J_iconst (pc := 84) (v := nI 1) dX6_readLine_84 (by decide) ?_
        refine J_iload_n (pc := 85) dX6_readLine_85 rfl ?_
        refine J_ishl (pc := 86) dX6_readLine_86 (rfl) ?_
        refine J_ior (pc := 87) dX6_readLine_87 (rfl) ?_
        refine J_putI (pc := 88) dX6_readLine_88 fX6_136 sh131 rfl ?_
        refine J_aload_n (pc := 91) dX6_readLine_91 rfl ?_
        refine K_Vv0 (pc := 92) (Y' := YX6_step) dX6_readLine_92 lX6_97 mX6_step vX6_step ⟨_, _, rfl⟩ sh131 (Nat.le_of_ble_eq_true rfl) (c6_step (L := L) (t := t) (s := sRef D.2.2.2.1 4 s) (hT.qf (f1.qf.tr (qf_6 (by omega) (by omega)))) H1b) ?_
        rintro h2 ⟨hs2, f2⟩
        have Q2 : qf h h2 := (f1.qf.tr (qf_6 (by omega) (by omega))).tr f2.qf
        refine J_aload_n (pc := 95) dX6_readLine_95 rfl ?_
        refine J_getI (pc := 96) dX6_readLine_96 fX6_63 sh131 rfl (hs2.2.2.2.2.1) ?_
        refine J_if_le (pc := 99) (tgt := 103) dX6_readLine_99 (by decide) (fun c99 => ?_) (fun c99 => ?_)
        · skip
          have zz : (nrm (sAdv L t (sRef D.2.2.2.1 4 s))).1 = 0 := by have := (nI_leI (b := 0) (by have := hs2.2.2.2.1; omega) (by omega)).mp c99; omega
          rw [eC] at zz hs2
          have A2 : RDa D h2 := ⟨((hD.1.1.u (k := 5) (x := h 131 5 ||| (nI 1 <<< (nI 6 &&& 31)))).rf f2), (f2 131 4 (by omega)).trans ((j_up_o (by omega)).trans hD.1.2.1), by rw [f2 131 6 (by omega), j_up_o (by omega)]; exact hD.1.2.2⟩
          have B2 : TB (h2 131 5) (tbs 6 D.2.2) := by rw [f2 131 5 (by omega), j_up_s]; exact TB_set hD.2 (by omega)
          refine J_aload_n (pc := 103) dX6_readLine_103 rfl ?_
          refine J_iload_n (pc := 104) dX6_readLine_104 rfl ?_
          refine K_Vv1 (pc := 105) (Y' := YX6_readMore) dX6_readLine_105 lX6_139 mX6_readMore vX6_readMore ⟨_, _, rfl⟩ sh131 (Nat.le_of_ble_eq_true rfl) (c6_more_flo (L := L) (t := t) (s := s) (D := D) (hT.qf Q2) (hW.qf Q2) z2 hs2 A2 hG eC) ?_
          rintro h3 hm3
          have T3 := (hT.qf Q2).qf hm3.choose_spec.2.2.1
          refine (J_ls (ls' := [(0, .ref 131), (1, .int (nI 6))]) ⟨rfl, rfl, trivial⟩ ?_)
          have kk := l6_lineE (g := g) (d := d) (r := lWord L t 10 s D) (f := tbs 6 D.2.2) (x := .int (nI 6)) T3 hm3 Q2 B2
          exact K_mono kk (fun r h' z => ⟨z.1, z.2.line (lW_flags (L := L) (t := t) (s := s) (D := D) 10 (by omega)).symm⟩)
        · skip
          have zz : (nrm (sAdv L t (sRef D.2.2.2.1 4 s))).1 ≠ 0 := fun z => c99 (by rw [z]; decide)
          refine K_ret (pc := 102) dX6_readLine_102 rfl ?_
          have el := lFlo_f (L := L) (t := t) (s := s) (D := D) zz
          refine ⟨?_, Q2, fun z => absurd ((congrArg Prod.fst el).symm.trans z) zz⟩
          show RT L (nrm (sAdv L t (lWord L t 10 s D).1)) h2
          rw [show (lWord L t 10 s D).1 = _ from el, sAdv_f zz, nrm_f zz]; exact hs2
      · skip
        refine J_aload_n (pc := 74) dX6_readLine_74 rfl ?_
        refine J_iconst (pc := 75) (v := nI 4) dX6_readLine_75 (by decide) ?_
        refine K_Vv1 (pc := 76) (Y' := YX6_fails) dX6_readLine_76 lX6_93 mX6_fails vX6_fails ⟨_, _, rfl⟩ sh131 (Nat.le_of_ble_eq_true rfl) (c6_fails (c := 4)) ?_
        rintro hz rfl
        have eC : sRef D.2.2.2.1 4 s = (4, s.2) := sRef_y (TB_6 hD.2 |>.mp c71) z2
        have H1 : RT L (sRef D.2.2.2.1 4 s) (flH h 4) := by
          have := RT_fl (c := 4) hs (by omega) (by omega)
          rw [sRef_y rfl z2] at this
          rw [eC]; exact this
        have f1 : rfm h (flH h 4) := flH_rf
        have H1b := H1.u (k := 5) (x := (flH h 4) 131 5 ||| (nI 1 <<< (nI 6 &&& 31))) (by omega)
        refine J_aload_n (pc := 79) dX6_readLine_79 rfl ?_
        refine J_dup (pc := 80) dX6_readLine_80 rfl ?_
        refine J_getI (pc := 81) dX6_readLine_81 fX6_136 sh131 rfl (rfl) ?_
        refine J_iconst (pc := 84) (v := nI 1) dX6_readLine_84 (by decide) ?_
        refine J_iload_n (pc := 85) dX6_readLine_85 rfl ?_
        refine J_ishl (pc := 86) dX6_readLine_86 (rfl) ?_
        refine J_ior (pc := 87) dX6_readLine_87 (rfl) ?_
        refine J_putI (pc := 88) dX6_readLine_88 fX6_136 sh131 rfl ?_
        refine J_aload_n (pc := 91) dX6_readLine_91 rfl ?_
        refine K_Vv0 (pc := 92) (Y' := YX6_step) dX6_readLine_92 lX6_97 mX6_step vX6_step ⟨_, _, rfl⟩ sh131 (Nat.le_of_ble_eq_true rfl) (c6_step (L := L) (t := t) (s := sRef D.2.2.2.1 4 s) (hT.qf (f1.qf.tr (qf_6 (by omega) (by omega)))) H1b) ?_
        rintro h2 ⟨hs2, f2⟩
        have Q2 : qf h h2 := (f1.qf.tr (qf_6 (by omega) (by omega))).tr f2.qf
        refine J_aload_n (pc := 95) dX6_readLine_95 rfl ?_
        refine J_getI (pc := 96) dX6_readLine_96 fX6_63 sh131 rfl (hs2.2.2.2.2.1) ?_
        refine J_if_le (pc := 99) (tgt := 103) dX6_readLine_99 (by decide) (fun c99 => ?_) (fun c99 => ?_)
        · skip
          exact absurd ((nI_leI (b := 0) (by have := hs2.2.2.2.1; omega) (by omega)).mp c99) (by rw [eC, sAdv_f (by show (4 : Nat) ≠ 0; decide), nrm_f (by show (4 : Nat) ≠ 0; decide)]; show ¬ (4 : Nat) ≤ 0; decide)
        · skip
          have zz : (nrm (sAdv L t (sRef D.2.2.2.1 4 s))).1 ≠ 0 := fun z => c99 (by rw [z]; decide)
          refine K_ret (pc := 102) dX6_readLine_102 rfl ?_
          have el := lFlo_f (L := L) (t := t) (s := s) (D := D) zz
          refine ⟨?_, Q2, fun z => absurd ((congrArg Prod.fst el).symm.trans z) zz⟩
          show RT L (nrm (sAdv L t (lWord L t 10 s D).1)) h2
          rw [show (lWord L t 10 s D).1 = _ from el, sAdv_f zz, nrm_f zz]; exact hs2
    · have eL : lLine L t s D = lWord L t 11 s D := by rw [lLine, if_pos (by rw [se]; exact z2), se, ew]
      have ex : x0 = nI 7 := by rw [y1', ew]; rfl
      subst ex
      rw [eL]
      refine J_iload_n (pc := 23) dX6_readLine_23 rfl ?_
      refine J_iconst (pc := 24) (v := nI 3) dX6_readLine_24 (by decide) ?_
      refine J_icmp_gt (pc := 25) (tgt := 36) dX6_readLine_25 (by decide) (fun _ => ?_) (fun c => absurd c (by decide))
      refine J_iload_n (pc := 36) dX6_readLine_36 rfl ?_
      refine J_iconst (pc := 37) (v := nI 4) dX6_readLine_37 (by decide) ?_
      refine J_icmp_ne (pc := 38) (tgt := 57) dX6_readLine_38 (by decide) (fun _ => ?_) (fun c => absurd c (by decide))
      refine J_iload_n (pc := 57) dX6_readLine_57 rfl ?_
      refine J_iconst (pc := 58) (v := nI 5) dX6_readLine_58 (by decide) ?_
      refine J_icmp_lt (pc := 59) (tgt := 79) dX6_readLine_59 (by decide) (fun c => absurd c (by decide)) (fun _ => ?_)
      refine J_aload_n (pc := 62) dX6_readLine_62 rfl ?_
      refine J_getI (pc := 63) dX6_readLine_63 fX6_136 sh131 rfl (rfl) ?_
      refine J_iload_n (pc := 66) dX6_readLine_66 rfl ?_
      refine J_ishr (pc := 67) dX6_readLine_67 (rfl) ?_
      refine J_iconst (pc := 68) (v := nI 1) dX6_readLine_68 (by decide) ?_
      refine J_iand (pc := 69) dX6_readLine_69 (rfl) ?_
      refine J_iconst (pc := 70) (v := nI 1) dX6_readLine_70 (by decide) ?_
      refine J_icmp_ne (pc := 71) (tgt := 79) dX6_readLine_71 (by decide) (fun c71 => ?_) (fun c71 => ?_)
      · skip
        have eC : sRef D.2.2.2.2 4 s = s := sRef_n (fun z => c71 ((TB_7 hD.2).mpr z))
        have H1 : RT L (sRef D.2.2.2.2 4 s) h := by rw [eC]; exact hs
        have f1 : rfm h h := rfm.rf
        have H1b := H1.u (k := 5) (x := h 131 5 ||| (nI 1 <<< (nI 7 &&& 31))) (by omega)
        refine J_aload_n (pc := 79) dX6_readLine_79 rfl ?_
        refine J_dup (pc := 80) dX6_readLine_80 rfl ?_
        refine J_getI (pc := 81) dX6_readLine_81 fX6_136 sh131 rfl (rfl) ?_
        refine J_iconst (pc := 84) (v := nI 1) dX6_readLine_84 (by decide) ?_
        refine J_iload_n (pc := 85) dX6_readLine_85 rfl ?_
        refine J_ishl (pc := 86) dX6_readLine_86 (rfl) ?_
        refine J_ior (pc := 87) dX6_readLine_87 (rfl) ?_
        refine J_putI (pc := 88) dX6_readLine_88 fX6_136 sh131 rfl ?_
        refine J_aload_n (pc := 91) dX6_readLine_91 rfl ?_
        refine K_Vv0 (pc := 92) (Y' := YX6_step) dX6_readLine_92 lX6_97 mX6_step vX6_step ⟨_, _, rfl⟩ sh131 (Nat.le_of_ble_eq_true rfl) (c6_step (L := L) (t := t) (s := sRef D.2.2.2.2 4 s) (hT.qf (f1.qf.tr (qf_6 (by omega) (by omega)))) H1b) ?_
        rintro h2 ⟨hs2, f2⟩
        have Q2 : qf h h2 := (f1.qf.tr (qf_6 (by omega) (by omega))).tr f2.qf
        refine J_aload_n (pc := 95) dX6_readLine_95 rfl ?_
        refine J_getI (pc := 96) dX6_readLine_96 fX6_63 sh131 rfl (hs2.2.2.2.2.1) ?_
        refine J_if_le (pc := 99) (tgt := 103) dX6_readLine_99 (by decide) (fun c99 => ?_) (fun c99 => ?_)
        · skip
          have zz : (nrm (sAdv L t (sRef D.2.2.2.2 4 s))).1 = 0 := by have := (nI_leI (b := 0) (by have := hs2.2.2.2.1; omega) (by omega)).mp c99; omega
          rw [eC] at zz hs2
          have A2 : RDa D h2 := ⟨((hD.1.1.u (k := 5) (x := h 131 5 ||| (nI 1 <<< (nI 7 &&& 31)))).rf f2), (f2 131 4 (by omega)).trans ((j_up_o (by omega)).trans hD.1.2.1), by rw [f2 131 6 (by omega), j_up_o (by omega)]; exact hD.1.2.2⟩
          have B2 : TB (h2 131 5) (tbs 7 D.2.2) := by rw [f2 131 5 (by omega), j_up_s]; exact TB_set hD.2 (by omega)
          refine J_aload_n (pc := 103) dX6_readLine_103 rfl ?_
          refine J_iload_n (pc := 104) dX6_readLine_104 rfl ?_
          refine K_Vv1 (pc := 105) (Y' := YX6_readMore) dX6_readLine_105 lX6_139 mX6_readMore vX6_readMore ⟨_, _, rfl⟩ sh131 (Nat.le_of_ble_eq_true rfl) (c6_more_sky (L := L) (t := t) (s := s) (D := D) (hT.qf Q2) (hW.qf Q2) z2 hs2 A2 hG (by have z : ¬ D.2.2.2.2 = true := fun z => c71 ((TB_7 hD.2).mpr z); simpa using z)) ?_
          rintro h3 hm3
          have T3 := (hT.qf Q2).qf hm3.choose_spec.2.2.1
          refine (J_ls (ls' := [(0, .ref 131), (1, .int (nI 7))]) ⟨rfl, rfl, trivial⟩ ?_)
          have kk := l6_lineE (g := g) (d := d) (r := lWord L t 11 s D) (f := tbs 7 D.2.2) (x := .int (nI 7)) T3 hm3 Q2 B2
          exact K_mono kk (fun r h' z => ⟨z.1, z.2.line (lW_flags (L := L) (t := t) (s := s) (D := D) 11 (by omega)).symm⟩)
        · skip
          have zz : (nrm (sAdv L t (sRef D.2.2.2.2 4 s))).1 ≠ 0 := fun z => c99 (by rw [z]; decide)
          refine K_ret (pc := 102) dX6_readLine_102 rfl ?_
          have el := lSky_f (L := L) (t := t) (s := s) (D := D) zz
          refine ⟨?_, Q2, fun z => absurd ((congrArg Prod.fst el).symm.trans z) zz⟩
          show RT L (nrm (sAdv L t (lWord L t 11 s D).1)) h2
          rw [show (lWord L t 11 s D).1 = _ from el, sAdv_f zz, nrm_f zz]; exact hs2
      · skip
        refine J_aload_n (pc := 74) dX6_readLine_74 rfl ?_
        refine J_iconst (pc := 75) (v := nI 4) dX6_readLine_75 (by decide) ?_
        refine K_Vv1 (pc := 76) (Y' := YX6_fails) dX6_readLine_76 lX6_93 mX6_fails vX6_fails ⟨_, _, rfl⟩ sh131 (Nat.le_of_ble_eq_true rfl) (c6_fails (c := 4)) ?_
        rintro hz rfl
        have eC : sRef D.2.2.2.2 4 s = (4, s.2) := sRef_y (TB_7 hD.2 |>.mp c71) z2
        have H1 : RT L (sRef D.2.2.2.2 4 s) (flH h 4) := by
          have := RT_fl (c := 4) hs (by omega) (by omega)
          rw [sRef_y rfl z2] at this
          rw [eC]; exact this
        have f1 : rfm h (flH h 4) := flH_rf
        have H1b := H1.u (k := 5) (x := (flH h 4) 131 5 ||| (nI 1 <<< (nI 7 &&& 31))) (by omega)
        refine J_aload_n (pc := 79) dX6_readLine_79 rfl ?_
        refine J_dup (pc := 80) dX6_readLine_80 rfl ?_
        refine J_getI (pc := 81) dX6_readLine_81 fX6_136 sh131 rfl (rfl) ?_
        refine J_iconst (pc := 84) (v := nI 1) dX6_readLine_84 (by decide) ?_
        refine J_iload_n (pc := 85) dX6_readLine_85 rfl ?_
        refine J_ishl (pc := 86) dX6_readLine_86 (rfl) ?_
        refine J_ior (pc := 87) dX6_readLine_87 (rfl) ?_
        refine J_putI (pc := 88) dX6_readLine_88 fX6_136 sh131 rfl ?_
        refine J_aload_n (pc := 91) dX6_readLine_91 rfl ?_
        refine K_Vv0 (pc := 92) (Y' := YX6_step) dX6_readLine_92 lX6_97 mX6_step vX6_step ⟨_, _, rfl⟩ sh131 (Nat.le_of_ble_eq_true rfl) (c6_step (L := L) (t := t) (s := sRef D.2.2.2.2 4 s) (hT.qf (f1.qf.tr (qf_6 (by omega) (by omega)))) H1b) ?_
        rintro h2 ⟨hs2, f2⟩
        have Q2 : qf h h2 := (f1.qf.tr (qf_6 (by omega) (by omega))).tr f2.qf
        refine J_aload_n (pc := 95) dX6_readLine_95 rfl ?_
        refine J_getI (pc := 96) dX6_readLine_96 fX6_63 sh131 rfl (hs2.2.2.2.2.1) ?_
        refine J_if_le (pc := 99) (tgt := 103) dX6_readLine_99 (by decide) (fun c99 => ?_) (fun c99 => ?_)
        · skip
          exact absurd ((nI_leI (b := 0) (by have := hs2.2.2.2.1; omega) (by omega)).mp c99) (by rw [eC, sAdv_f (by show (4 : Nat) ≠ 0; decide), nrm_f (by show (4 : Nat) ≠ 0; decide)]; show ¬ (4 : Nat) ≤ 0; decide)
        · skip
          have zz : (nrm (sAdv L t (sRef D.2.2.2.2 4 s))).1 ≠ 0 := fun z => c99 (by rw [z]; decide)
          refine K_ret (pc := 102) dX6_readLine_102 rfl ?_
          have el := lSky_f (L := L) (t := t) (s := s) (D := D) zz
          refine ⟨?_, Q2, fun z => absurd ((congrArg Prod.fst el).symm.trans z) zz⟩
          show RT L (nrm (sAdv L t (lWord L t 11 s D).1)) h2
          rw [show (lWord L t 11 s D).1 = _ from el, sAdv_f zz, nrm_f zz]; exact hs2
  · skip
    refine J_if_ne (pc := 14) (tgt := 23) dX6_readLine_14 (by decide) (fun c => absurd c (by decide)) (fun _ => ?_)
    refine J_aload_n (pc := 17) dX6_readLine_17 rfl ?_
    refine J_iconst (pc := 18) (v := nI 2) dX6_readLine_18 (by decide) ?_
    refine K_Vv1 (pc := 19) (Y' := YX6_fails) dX6_readLine_19 lX6_93 mX6_fails vX6_fails ⟨_, _, rfl⟩ sh131 (Nat.le_of_ble_eq_true rfl) (c6_fails (c := 2)) ?_
    rintro hz rfl
    refine K_ret (pc := 22) dX6_readLine_22 rfl ?_
    have eL : (lLine L t s D).1 = (2, s.2) := by
      by_cases k1 : s.2.2.2.1 = 1
      · have se : sExp 1 s = s := by rw [sExp_e, z4, sRef_n (by simp [k1])]
        have y1' := y1 (by rw [tk1, k1])
        have nw : ¬ (wd t s.2 < 4 ∨ (8 ≤ wd t s.2 ∧ wd t s.2 < 12)) := fun q => b11 (by rw [y1']; exact (nm_in (wd t s.2) (by omega)).mpr q)
        rw [lLine, if_pos (by rw [se]; exact z2), se, lWord, if_neg (by omega), if_neg (by omega), if_neg (by omega), if_neg (by omega), if_neg (by omega)]
      · have se : sExp 1 s = (2, s.2) := by rw [sExp_e, z4, sRef_y (decide_eq_true k1) z2]
        rw [lLine, se, if_neg (by show ¬ (2 : Nat) = 0; decide)]
    have H2 : RT L (2, s.2) (flH h 2) := by
      have := RT_fl (c := 2) hs (by omega) (by omega)
      rw [sRef_y rfl z2] at this
      exact this
    rw [eL, sAdv_f (by show (2 : Nat) ≠ 0; decide), nrm_f (by show (2 : Nat) ≠ 0; decide)]
    exact ⟨H2, flH_rf.qf, fun z => absurd z (by show ¬ (2 : Nat) = 0; decide)⟩
