set_option maxHeartbeats 1000000 in
theorem l1_sky {g : jG} {d : Nat} {L : Nat} {t : Nat → Int32} : ∀ (m k : Nat) (s : sS) (D : sD) (h h0 : jH), k + m = 9 → TP L t h → CT L s h → CD D h → df h0 h → K g (d + 7) YX1_takeSky h 16 [(0, .ref 39), (1, .int (nI k))] [] (fun r h' => r = none ∧ LQ L (skF L t m s D) h0 h')
  | 0, k, s, D, h, h0, hk, hT, hs, hD, f0 => by
    have hk9 : k = 9 := by omega
    subst hk9
    refine J_iload_n (pc := 16) dX1_takeSky_16 rfl ?_
    refine J_bipush (pc := 17) (v := nI 8) dX1_takeSky_17 (by decide) ?_
    refine J_icmp_gt (pc := 19) (tgt := 86) dX1_takeSky_19 (by decide) (fun _ => ?_) (fun c => absurd c (by decide))
    refine K_ret (pc := 86) dX1_takeSky_86 rfl ?_
    exact ⟨hs, hD, f0⟩
  | m + 1, k, s, D, h, h0, hk, hT, hs, hD, f0 => by
    refine J_iload_n (pc := 16) dX1_takeSky_16 rfl ?_
    refine J_bipush (pc := 17) (v := nI 8) dX1_takeSky_17 (by decide) ?_
    refine J_icmp_gt (pc := 19) (tgt := 86) dX1_takeSky_19 (by decide) (fun c19 => ?_) (fun c19 => ?_)
    · skip
      exact absurd ((nIlt (by omega) (by omega)).mp c19) (by omega)
    · skip
      refine J_aload_n (pc := 22) dX1_takeSky_22 rfl ?_
      refine J_getI (pc := 23) dX1_takeSky_23 fX1_15 sh39 rfl (hs.2.2.2.2.1) ?_
      refine J_if_ne (pc := 26) (tgt := 86) dX1_takeSky_26 (by decide) (fun c26 => ?_) (fun c26 => ?_)
      · skip
        have z : s.1 ≠ 0 := fun z => c26 ((nI0e (Nat.le_trans hs.2.2.2.2.2.1 (by omega))).mpr z)
        rw [skF, if_neg z]
        refine K_ret (pc := 86) dX1_takeSky_86 rfl ?_
        exact ⟨hs, hD, f0⟩
      · skip
        have z : s.1 = 0 := (nI0e (Nat.le_trans hs.2.2.2.2.2.1 (by omega))).mp c26
        rw [skF, if_pos z]
        refine J_aload_n (pc := 29) dX1_takeSky_29 rfl ?_
        refine K_Vv0 (pc := 30) (Y' := YX1_advance) dX1_takeSky_30 lX1_32 mX1_advance vX1_advance ⟨_, _, rfl⟩ sh39 (Nat.le_of_ble_eq_true rfl) (c1_advance hT hs) ?_
        rintro h1 ⟨hs1, f1'⟩
        have f1 := f0.tr f1'.df
        have D1 := hD.tf f1'
        refine J_aload_n (pc := 33) dX1_takeSky_33 rfl ?_
        refine J_getI (pc := 34) dX1_takeSky_34 fX1_35 sh39 rfl (hs1.2.2.1) ?_
        refine J_iconst (pc := 37) (v := nI 3) dX1_takeSky_37 (by decide) ?_
        refine J_icmp_ne (pc := 38) (tgt := 42) dX1_takeSky_38 (by decide) (fun c38 => ?_) (fun c38 => ?_)
        · skip
          have z3 : ¬ (sAdv L t s).2.2.2.1 = 3 := fun z => c38 ((nIe (by have := hs1.2.2.2.2.2.2.2.2.2; omega) (by omega)).mpr z)
          rw [if_neg z3]
          refine J_aload_n (pc := 42) dX1_takeSky_42 rfl ?_
          refine J_iconst (pc := 43) (v := nI 1) dX1_takeSky_43 (by decide) ?_
          refine K_Vv1 (pc := 44) (Y' := YX1_expect) dX1_takeSky_44 lX1_68 mX1_expect vX1_expect ⟨_, _, rfl⟩ sh39 (Nat.le_of_ble_eq_true rfl) (c1_expect (k := 1) hs1 (by omega)) ?_
          rintro h2 ⟨hs2, f2'⟩
          have f2 := f1.tr f2'.df
          have D2 := D1.tf f2'
          have q8 : ix (D.2.1 51) < 9 := D2.2.2.2.1.2
          refine J_aload_n (pc := 47) dX1_takeSky_47 rfl ?_
          refine J_aload_n (pc := 48) dX1_takeSky_48 rfl ?_
          refine J_getR (pc := 49) dX1_takeSky_49 fX1_22 sh39 rfl ?_
          refine J_getI (pc := 52) dX1_takeSky_52 fX1_121 (sv0 isV41) rfl (D2.1.2.2.2.2.2.2.1.trans D2.2.2.2.1.1) ?_
          refine J_bipush (pc := 55) (v := nI 8) dX1_takeSky_55 (by decide) ?_
          refine J_icmp_lt (pc := 57) (tgt := 64) dX1_takeSky_57 (by decide) (fun c57 => ?_) (fun c57 => ?_)
          · skip
            refine J_iconst (pc := 64) (v := nI 0) dX1_takeSky_64 (by decide) ?_
            refine J_iconst (pc := 65) (v := nI 5) dX1_takeSky_65 (by decide) ?_
            refine K_Vv2 (pc := 66) (Y' := YX1_refuseIf) dX1_takeSky_66 lX1_45 mX1_refuseIf vX1_refuseIf ⟨_, _, rfl⟩ sh39 (Nat.le_of_ble_eq_true rfl) (c1_refuseIf (b := decide (8 ≤ ix (D.2.1 51))) (c := 5) hs2 (bq_dec (bqf (fun z => absurd ((nIlt (by omega) (by omega)).mp c57) (by omega)))) (by omega)) ?_
            rintro h3 ⟨hs3, f3'⟩
            have f3 := f2.tr f3'.df
            have D3 := D2.tf f3'
            have T3 := hT.df (((f1'.tr f2').tr f3').df)
            refine J_aload_n (pc := 69) dX1_takeSky_69 rfl ?_
            refine J_getR (pc := 70) dX1_takeSky_70 fX1_22 sh39 rfl ?_
            refine J_aload_n (pc := 73) dX1_takeSky_73 rfl ?_
            refine K_Vi0 (pc := 74) (Y' := YX1_weatherHere) dX1_takeSky_74 lX1_108 mX1_weatherHere vX1_weatherHere ⟨_, _, rfl⟩ sh39 (Nat.le_of_ble_eq_true rfl) (c1_weatherHere T3 hs3) ?_
            rintro x4 h4 ⟨⟨hs4, f4'⟩, ex4⟩
            have hs4 : CT L (sky3 L t s D) h4 := hs4
            have ex4 : x4 = sWv t (sky3 L t s D) := ex4
            subst ex4
            have f4 := f3.tr f4'.df
            have D4 := D3.tf f4'
            refine K_Vv1 (pc := 77) (Y' := YX4_addPlanned) dX1_takeSky_77 lX1_124 mX4_addPlanned vX4_addPlanned ⟨_, _, rfl⟩ (sv0 isV41) (Nat.le_of_ble_eq_true rfl) (c4_addPlannedQ (D4.1.2.2.2.2.2.2.1.trans D4.2.2.2.1.1) D4.2.2.2.1.2) ?_
            rintro h5 rfl
            refine J_iinc (pc := 80) dX1_takeSky_80 rfl (v := nI (k + 1)) (by exact nI_add _ _) (by decide) ?_
            refine J_goto (pc := 83) (tgt := 16) dX1_takeSky_83 (by decide) ?_
            refine J_ls (ls' := [(0, .ref 39), (1, .int (nI (k + 1)))]) ⟨rfl, rfl, trivial⟩ ?_
            have D5 := CD_pln (w := sWv t (sky3 L t s D)) D4
            exact l1_sky m _ _ _ _ _ (by omega) (hT.df ((((f1'.tr f2').tr f3').tr f4').df.tr apQ_fr.df)) (hs4.fr apQ_fr) D5 (f4.tr apQ_fr.df)
          · skip
            refine J_iconst (pc := 60) (v := nI 1) dX1_takeSky_60 (by decide) ?_
            refine J_goto (pc := 61) (tgt := 65) dX1_takeSky_61 (by decide) ?_
            refine J_iconst (pc := 65) (v := nI 5) dX1_takeSky_65 (by decide) ?_
            refine K_Vv2 (pc := 66) (Y' := YX1_refuseIf) dX1_takeSky_66 lX1_45 mX1_refuseIf vX1_refuseIf ⟨_, _, rfl⟩ sh39 (Nat.le_of_ble_eq_true rfl) (c1_refuseIf (b := decide (8 ≤ ix (D.2.1 51))) (c := 5) hs2 (bq_dec (bqt (Nat.le_of_not_lt (fun z => c57 ((nIlt (by omega) (by omega)).mpr z))))) (by omega)) ?_
            rintro h3 ⟨hs3, f3'⟩
            have f3 := f2.tr f3'.df
            have D3 := D2.tf f3'
            have T3 := hT.df (((f1'.tr f2').tr f3').df)
            refine J_aload_n (pc := 69) dX1_takeSky_69 rfl ?_
            refine J_getR (pc := 70) dX1_takeSky_70 fX1_22 sh39 rfl ?_
            refine J_aload_n (pc := 73) dX1_takeSky_73 rfl ?_
            refine K_Vi0 (pc := 74) (Y' := YX1_weatherHere) dX1_takeSky_74 lX1_108 mX1_weatherHere vX1_weatherHere ⟨_, _, rfl⟩ sh39 (Nat.le_of_ble_eq_true rfl) (c1_weatherHere T3 hs3) ?_
            rintro x4 h4 ⟨⟨hs4, f4'⟩, ex4⟩
            have hs4 : CT L (sky3 L t s D) h4 := hs4
            have ex4 : x4 = sWv t (sky3 L t s D) := ex4
            subst ex4
            have f4 := f3.tr f4'.df
            have D4 := D3.tf f4'
            refine K_Vv1 (pc := 77) (Y' := YX4_addPlanned) dX1_takeSky_77 lX1_124 mX4_addPlanned vX4_addPlanned ⟨_, _, rfl⟩ (sv0 isV41) (Nat.le_of_ble_eq_true rfl) (c4_addPlannedQ (D4.1.2.2.2.2.2.2.1.trans D4.2.2.2.1.1) D4.2.2.2.1.2) ?_
            rintro h5 rfl
            refine J_iinc (pc := 80) dX1_takeSky_80 rfl (v := nI (k + 1)) (by exact nI_add _ _) (by decide) ?_
            refine J_goto (pc := 83) (tgt := 16) dX1_takeSky_83 (by decide) ?_
            refine J_ls (ls' := [(0, .ref 39), (1, .int (nI (k + 1)))]) ⟨rfl, rfl, trivial⟩ ?_
            have D5 := CD_pln (w := sWv t (sky3 L t s D)) D4
            exact l1_sky m _ _ _ _ _ (by omega) (hT.df ((((f1'.tr f2').tr f3').tr f4').df.tr apQ_fr.df)) (hs4.fr apQ_fr) D5 (f4.tr apQ_fr.df)
        · skip
          have z3 : (sAdv L t s).2.2.2.1 = 3 := (nIe (by have := hs1.2.2.2.2.2.2.2.2.2; omega) (by omega)).mp c38
          rw [if_pos z3]
          refine K_ret (pc := 41) dX1_takeSky_41 rfl ?_
          exact ⟨hs1, D1, f1⟩
set_option maxHeartbeats 400000 in
theorem c1_takeSky {g : jG} {d : Nat} {h : jH} {L : Nat} {t : Nat → Int32} {s : sS} {D : sD} (hT : TP L t h) (hs : CT L s h) (hD : CD D h) : Mv g (d + 7) YX1_takeSky h [.ref 39] (fun h' => LQ L (lSky L t s D) h h') := by
  refine M.of (by decide) rfl (Nat.le_of_ble_eq_true rfl) ?_
  refine J_aload_n (pc := 0) dX1_takeSky_0 rfl ?_
  refine J_aload_n (pc := 1) dX1_takeSky_1 rfl ?_
  refine J_getI (pc := 2) dX1_takeSky_2 fX1_65 sh39 rfl (hD.2.2.2.2.1.2.2) ?_
  refine J_iconst (pc := 5) (v := nI 4) dX1_takeSky_5 (by decide) ?_
  refine K_Vv2 (pc := 6) (Y' := YX1_refuseIf) dX1_takeSky_6 lX1_45 mX1_refuseIf vX1_refuseIf ⟨_, _, rfl⟩ sh39 (Nat.le_of_ble_eq_true rfl) (c1_refuseIf (b := D.2.2.2.2) (c := 4) hs (bI_bq) (by omega)) ?_
  rintro h1 ⟨hs1, f1⟩
  have D1 : CD (dTs D) (j_up h1 39 10 (nI 1)) := CD_ts (hD.tf f1)
  have hs2 := hs1.up (k := 10) (x := nI 1) (by omega)
  have f2 : df h (j_up h1 39 10 (nI 1)) := f1.df.tr (df_up (by omega))
  refine J_aload_n (pc := 9) dX1_takeSky_9 rfl ?_
  refine J_iconst (pc := 10) (v := nI 1) dX1_takeSky_10 (by decide) ?_
  refine J_putZ (pc := 11) dX1_takeSky_11 fX1_65 sh39 rfl (by decide) ?_
  refine J_iconst (pc := 14) (v := nI 0) dX1_takeSky_14 (by decide) ?_
  refine J_istore_n (pc := 15) dX1_takeSky_15 (by decide) ?_
  refine J_ls (ls' := [(0, .ref 39), (1, .int (nI 0))]) ⟨rfl, rfl, trivial⟩ ?_
  exact l1_sky 9 0 _ _ _ _ (by omega) (hT.df f2) hs2 D1 f2
set_option maxHeartbeats 400000 in
theorem c1_takeLine {g : jG} {d : Nat} {h : jH} {L : Nat} {t : Nat → Int32} {s : sS} {D : sD} (hT : TP L t h) (hs : CT L s h) (hD : CD D h) : Mv g (d + 8) YX1_takeLine h [.ref 39] (fun h' => LQ L (lLine L t s D) h h') := by
  refine M.of (by decide) rfl (Nat.le_of_ble_eq_true rfl) ?_
  refine J_aload_n (pc := 0) dX1_takeLine_0 rfl ?_
  refine J_iconst (pc := 1) (v := nI 1) dX1_takeLine_1 (by decide) ?_
  refine K_Vv1 (pc := 2) (Y' := YX1_expect) dX1_takeLine_2 lX1_68 mX1_expect vX1_expect ⟨_, _, rfl⟩ sh39 (Nat.le_of_ble_eq_true rfl) (c1_expect (k := 1) hs (by omega)) ?_
  rintro h1 ⟨hs1, f1⟩
  have T1 := hT.tf f1
  have D1 := hD.tf f1
  refine J_aload_n (pc := 5) dX1_takeLine_5 rfl ?_
  refine J_getI (pc := 6) dX1_takeLine_6 fX1_15 sh39 rfl (hs1.2.2.2.2.1) ?_
  refine J_if_eq (pc := 9) (tgt := 13) dX1_takeLine_9 (by decide) (fun c9 => ?_) (fun c9 => ?_)
  · skip
    have z : (sExp 1 s).1 = 0 := (nI0e (Nat.le_trans hs1.2.2.2.2.2.1 (by omega))).mp c9
    rw [lLine, if_pos z]
    refine J_aload_n (pc := 13) dX1_takeLine_13 rfl ?_
    refine K_Vi0 (pc := 14) (Y' := YX1_wordHere) dX1_takeLine_14 lX1_72 mX1_wordHere vX1_wordHere ⟨_, _, rfl⟩ sh39 (Nat.le_of_ble_eq_true rfl) (c1_wordT T1 hs1) ?_
    rintro x h0 ⟨rfl, rfl⟩
    rw [sExp_2]
    refine J_istore_n (pc := 17) dX1_takeLine_17 (by decide) ?_
    refine J_iload_n (pc := 18) dX1_takeLine_18 rfl ?_
    have hw12 : wd t s.2 ≤ 12 := wd_le
    rcases (show wd t s.2 = 0 ∨ wd t s.2 = 1 ∨ wd t s.2 = 2 ∨ wd t s.2 = 3 ∨ wd t s.2 = 4 ∨ wd t s.2 = 5 ∨ wd t s.2 = 6 ∨ wd t s.2 = 7 ∨ wd t s.2 = 8 ∨ wd t s.2 = 9 ∨ wd t s.2 = 10 ∨ wd t s.2 = 11 ∨ wd t s.2 = 12 by omega) with ew | ew | ew | ew | ew | ew | ew | ew | ew | ew | ew | ew | ew
    · rw [ew, show lWord L t 0 (sExp 1 s) D = lOne L t (nI 0) (sExp 1 s) D from rfl]
      refine J_tableIn (pc := 19) (off := 61) (tgt := 80) dX1_takeLine_19 (by decide) (by decide) (by decide) (by decide) ?_
      refine J_aload_n (pc := 80) dX1_takeLine_80 rfl ?_
      refine J_iload_n (pc := 81) dX1_takeLine_81 rfl ?_
      refine K_Vv1 (pc := 82) (Y' := YX1_takeOne) dX1_takeLine_82 lX1_76 mX1_takeOne vX1_takeOne ⟨_, _, rfl⟩ sh39 (Nat.le_of_ble_eq_true rfl) (c1_takeOne (k := nI 0) T1 hs1 D1) ?_
      rintro h2 ⟨hs2, D2, f2⟩
      refine J_goto (pc := 85) (tgt := 121) dX1_takeLine_85 (by decide) ?_
      refine K_ret (pc := 121) dX1_takeLine_121 rfl ?_
      exact ⟨hs2, D2, f1.df.tr f2⟩
    · rw [ew, show lWord L t 1 (sExp 1 s) D = lOne L t (nI 1) (sExp 1 s) D from rfl]
      refine J_tableIn (pc := 19) (off := 61) (tgt := 80) dX1_takeLine_19 (by decide) (by decide) (by decide) (by decide) ?_
      refine J_aload_n (pc := 80) dX1_takeLine_80 rfl ?_
      refine J_iload_n (pc := 81) dX1_takeLine_81 rfl ?_
      refine K_Vv1 (pc := 82) (Y' := YX1_takeOne) dX1_takeLine_82 lX1_76 mX1_takeOne vX1_takeOne ⟨_, _, rfl⟩ sh39 (Nat.le_of_ble_eq_true rfl) (c1_takeOne (k := nI 1) T1 hs1 D1) ?_
      rintro h2 ⟨hs2, D2, f2⟩
      refine J_goto (pc := 85) (tgt := 121) dX1_takeLine_85 (by decide) ?_
      refine K_ret (pc := 121) dX1_takeLine_121 rfl ?_
      exact ⟨hs2, D2, f1.df.tr f2⟩
    · rw [ew, show lWord L t 2 (sExp 1 s) D = lOne L t (nI 2) (sExp 1 s) D from rfl]
      refine J_tableIn (pc := 19) (off := 61) (tgt := 80) dX1_takeLine_19 (by decide) (by decide) (by decide) (by decide) ?_
      refine J_aload_n (pc := 80) dX1_takeLine_80 rfl ?_
      refine J_iload_n (pc := 81) dX1_takeLine_81 rfl ?_
      refine K_Vv1 (pc := 82) (Y' := YX1_takeOne) dX1_takeLine_82 lX1_76 mX1_takeOne vX1_takeOne ⟨_, _, rfl⟩ sh39 (Nat.le_of_ble_eq_true rfl) (c1_takeOne (k := nI 2) T1 hs1 D1) ?_
      rintro h2 ⟨hs2, D2, f2⟩
      refine J_goto (pc := 85) (tgt := 121) dX1_takeLine_85 (by decide) ?_
      refine K_ret (pc := 121) dX1_takeLine_121 rfl ?_
      exact ⟨hs2, D2, f1.df.tr f2⟩
    · rw [ew, show lWord L t 3 (sExp 1 s) D = lOne L t (nI 3) (sExp 1 s) D from rfl]
      refine J_tableIn (pc := 19) (off := 61) (tgt := 80) dX1_takeLine_19 (by decide) (by decide) (by decide) (by decide) ?_
      refine J_aload_n (pc := 80) dX1_takeLine_80 rfl ?_
      refine J_iload_n (pc := 81) dX1_takeLine_81 rfl ?_
      refine K_Vv1 (pc := 82) (Y' := YX1_takeOne) dX1_takeLine_82 lX1_76 mX1_takeOne vX1_takeOne ⟨_, _, rfl⟩ sh39 (Nat.le_of_ble_eq_true rfl) (c1_takeOne (k := nI 3) T1 hs1 D1) ?_
      rintro h2 ⟨hs2, D2, f2⟩
      refine J_goto (pc := 85) (tgt := 121) dX1_takeLine_85 (by decide) ?_
      refine K_ret (pc := 121) dX1_takeLine_121 rfl ?_
      exact ⟨hs2, D2, f1.df.tr f2⟩
    · rw [ew, show lWord L t 4 (sExp 1 s) D = ((2, (sExp 1 s).2), D) from rfl]
      refine J_tableIn (pc := 19) (off := 97) (tgt := 116) dX1_takeLine_19 (by decide) (by decide) (by decide) (by decide) ?_
      refine J_aload_n (pc := 116) dX1_takeLine_116 rfl ?_
      refine J_iconst (pc := 117) (v := nI 2) dX1_takeLine_117 (by decide) ?_
      refine J_putI (pc := 118) dX1_takeLine_118 fX1_15 sh39 rfl ?_
      refine K_ret (pc := 121) dX1_takeLine_121 rfl ?_
      exact ⟨CT_ref (b := true) hs1 (by omega) rfl, D1.tf (tf_up tf.rf (by omega) (by omega)), f1.df.tr (tf_up tf.rf (by omega) (by omega)).df⟩
    · rw [ew, show lWord L t 5 (sExp 1 s) D = ((2, (sExp 1 s).2), D) from rfl]
      refine J_tableIn (pc := 19) (off := 97) (tgt := 116) dX1_takeLine_19 (by decide) (by decide) (by decide) (by decide) ?_
      refine J_aload_n (pc := 116) dX1_takeLine_116 rfl ?_
      refine J_iconst (pc := 117) (v := nI 2) dX1_takeLine_117 (by decide) ?_
      refine J_putI (pc := 118) dX1_takeLine_118 fX1_15 sh39 rfl ?_
      refine K_ret (pc := 121) dX1_takeLine_121 rfl ?_
      exact ⟨CT_ref (b := true) hs1 (by omega) rfl, D1.tf (tf_up tf.rf (by omega) (by omega)), f1.df.tr (tf_up tf.rf (by omega) (by omega)).df⟩
    · rw [ew, show lWord L t 6 (sExp 1 s) D = ((2, (sExp 1 s).2), D) from rfl]
      refine J_tableIn (pc := 19) (off := 97) (tgt := 116) dX1_takeLine_19 (by decide) (by decide) (by decide) (by decide) ?_
      refine J_aload_n (pc := 116) dX1_takeLine_116 rfl ?_
      refine J_iconst (pc := 117) (v := nI 2) dX1_takeLine_117 (by decide) ?_
      refine J_putI (pc := 118) dX1_takeLine_118 fX1_15 sh39 rfl ?_
      refine K_ret (pc := 121) dX1_takeLine_121 rfl ?_
      exact ⟨CT_ref (b := true) hs1 (by omega) rfl, D1.tf (tf_up tf.rf (by omega) (by omega)), f1.df.tr (tf_up tf.rf (by omega) (by omega)).df⟩
    · rw [ew, show lWord L t 7 (sExp 1 s) D = ((2, (sExp 1 s).2), D) from rfl]
      refine J_tableIn (pc := 19) (off := 97) (tgt := 116) dX1_takeLine_19 (by decide) (by decide) (by decide) (by decide) ?_
      refine J_aload_n (pc := 116) dX1_takeLine_116 rfl ?_
      refine J_iconst (pc := 117) (v := nI 2) dX1_takeLine_117 (by decide) ?_
      refine J_putI (pc := 118) dX1_takeLine_118 fX1_15 sh39 rfl ?_
      refine K_ret (pc := 121) dX1_takeLine_121 rfl ?_
      exact ⟨CT_ref (b := true) hs1 (by omega) rfl, D1.tf (tf_up tf.rf (by omega) (by omega)), f1.df.tr (tf_up tf.rf (by omega) (by omega)).df⟩
    · rw [ew, show lWord L t 8 (sExp 1 s) D = lCov L t (sExp 1 s) D from rfl]
      refine J_tableIn (pc := 19) (off := 69) (tgt := 88) dX1_takeLine_19 (by decide) (by decide) (by decide) (by decide) ?_
      refine J_aload_n (pc := 88) dX1_takeLine_88 rfl ?_
      refine K_Vv0 (pc := 89) (Y' := YX1_takeCover) dX1_takeLine_89 lX1_79 mX1_takeCover vX1_takeCover ⟨_, _, rfl⟩ sh39 (Nat.le_of_ble_eq_true rfl) (c1_takeCover T1 hs1 D1) ?_
      rintro h2 ⟨hs2, D2, f2⟩
      refine J_goto (pc := 92) (tgt := 121) dX1_takeLine_92 (by decide) ?_
      refine K_ret (pc := 121) dX1_takeLine_121 rfl ?_
      exact ⟨hs2, D2, f1.df.tr f2⟩
    · rw [ew, show lWord L t 9 (sExp 1 s) D = lOdd L t (sExp 1 s) D from rfl]
      refine J_tableIn (pc := 19) (off := 76) (tgt := 95) dX1_takeLine_19 (by decide) (by decide) (by decide) (by decide) ?_
      refine J_aload_n (pc := 95) dX1_takeLine_95 rfl ?_
      refine K_Vv0 (pc := 96) (Y' := YX1_takeOdds) dX1_takeLine_96 lX1_82 mX1_takeOdds vX1_takeOdds ⟨_, _, rfl⟩ sh39 (Nat.le_of_ble_eq_true rfl) (c1_takeOdds T1 hs1 D1) ?_
      rintro h2 ⟨hs2, D2, f2⟩
      refine J_goto (pc := 99) (tgt := 121) dX1_takeLine_99 (by decide) ?_
      refine K_ret (pc := 121) dX1_takeLine_121 rfl ?_
      exact ⟨hs2, D2, f1.df.tr f2⟩
    · rw [ew, show lWord L t 10 (sExp 1 s) D = lFlo L t (sExp 1 s) D from rfl]
      refine J_tableIn (pc := 19) (off := 83) (tgt := 102) dX1_takeLine_19 (by decide) (by decide) (by decide) (by decide) ?_
      refine J_aload_n (pc := 102) dX1_takeLine_102 rfl ?_
      refine K_Vv0 (pc := 103) (Y' := YX1_takeFloor) dX1_takeLine_103 lX1_85 mX1_takeFloor vX1_takeFloor ⟨_, _, rfl⟩ sh39 (Nat.le_of_ble_eq_true rfl) (c1_takeFloor T1 hs1 D1) ?_
      rintro h2 ⟨hs2, D2, f2⟩
      refine J_goto (pc := 106) (tgt := 121) dX1_takeLine_106 (by decide) ?_
      refine K_ret (pc := 121) dX1_takeLine_121 rfl ?_
      exact ⟨hs2, D2, f1.df.tr f2⟩
    · rw [ew, show lWord L t 11 (sExp 1 s) D = lSky L t (sExp 1 s) D from rfl]
      refine J_tableIn (pc := 19) (off := 90) (tgt := 109) dX1_takeLine_19 (by decide) (by decide) (by decide) (by decide) ?_
      refine J_aload_n (pc := 109) dX1_takeLine_109 rfl ?_
      refine K_Vv0 (pc := 110) (Y' := YX1_takeSky) dX1_takeLine_110 lX1_88 mX1_takeSky vX1_takeSky ⟨_, _, rfl⟩ sh39 (Nat.le_of_ble_eq_true rfl) (c1_takeSky T1 hs1 D1) ?_
      rintro h2 ⟨hs2, D2, f2⟩
      refine J_goto (pc := 113) (tgt := 121) dX1_takeLine_113 (by decide) ?_
      refine K_ret (pc := 121) dX1_takeLine_121 rfl ?_
      exact ⟨hs2, D2, f1.df.tr f2⟩
    · rw [ew, show lWord L t 12 (sExp 1 s) D = ((2, (sExp 1 s).2), D) from rfl]
      refine J_tableOut (pc := 19) (tgt := 116) dX1_takeLine_19 (by decide) (by decide) ?_
      refine J_aload_n (pc := 116) dX1_takeLine_116 rfl ?_
      refine J_iconst (pc := 117) (v := nI 2) dX1_takeLine_117 (by decide) ?_
      refine J_putI (pc := 118) dX1_takeLine_118 fX1_15 sh39 rfl ?_
      refine K_ret (pc := 121) dX1_takeLine_121 rfl ?_
      exact ⟨CT_ref (b := true) hs1 (by omega) rfl, D1.tf (tf_up tf.rf (by omega) (by omega)), f1.df.tr (tf_up tf.rf (by omega) (by omega)).df⟩
  · skip
    have z : ¬ (sExp 1 s).1 = 0 := fun z => c9 ((nI0e (Nat.le_trans hs1.2.2.2.2.2.1 (by omega))).mpr z)
    rw [lLine, if_neg z]
    refine K_ret (pc := 12) dX1_takeLine_12 rfl ?_
    exact ⟨hs1, D1, f1.df⟩
set_option maxHeartbeats 400000 in
theorem l1_str {g : jG} {d : Nat} {h : jH} {Q : kQ} {D : sD} (hD : CD D h) (ky : ∀ k, k < ix (D.2.1 37) → (nI D.1 ≤ D.2.1 (12 + 5 * k) ∨ nI D.1 ≤ D.2.1 (12 + 5 * k + 1)) → K g d YX1_namesStranger h 55 [(0, .ref 39)] [] Q) (kx : ∀ (uu : Unit), (∀ j, j < (ix (D.2.1 37)) → ¬ (nI D.1 ≤ D.2.1 (12 + 5 * j) ∨ nI D.1 ≤ D.2.1 (12 + 5 * j + 1))) → K g d YX1_namesStranger (h) 63 [(0, .ref 39), (1, .int (nI (ix (D.2.1 37))))] [] Q) : ∀ (mm k : Nat) (uu : Unit), k ≤ (ix (D.2.1 37)) → (ix (D.2.1 37)) < k + mm → (∀ j, j < k → ¬ (nI D.1 ≤ D.2.1 (12 + 5 * j) ∨ nI D.1 ≤ D.2.1 (12 + 5 * j + 1))) → K g d YX1_namesStranger (h) 2 [(0, .ref 39), (1, .int (nI k))] [] Q := by
  intro mm
  induction mm with
  | zero => intro k uu hk1 hk2 hI; omega
  | succ mm ih =>
    intro k uu hk1 hk2 hI
    have h6 := hD.2.2.1.2
    have hX4 := hD.1.2.2.2.1
    refine J_iload_n (pc := 2) dX1_namesStranger_2 rfl ?_
    refine J_aload_n (pc := 3) dX1_namesStranger_3 rfl ?_
    refine J_getR (pc := 4) dX1_namesStranger_4 fX1_22 sh39 rfl ?_
    refine J_getI (pc := 7) dX1_namesStranger_7 fX1_105 (sv0 isV41) rfl (hD.1.2.2.1.trans hD.2.2.1.1) ?_
    refine J_icmp_ge (pc := 10) (tgt := 63) dX1_namesStranger_10 (by decide) (fun c10 => ?_) (fun c10 => ?_)
    · skip
      have q10 : (ix (D.2.1 37)) ≤ k := (nI_leI (by omega) (by omega)).mp c10
      have e_k : k = (ix (D.2.1 37)) := by omega
      refine J_ls (ls' := [(0, .ref 39), (1, .int (nI k))]) ⟨rfl, rfl, trivial⟩ ?_
      rw [e_k] at hI ⊢
      exact kx uu hI
    · skip
      have q10 : k < (ix (D.2.1 37)) := Nat.lt_of_not_le (fun z => c10 ((nI_leI (by omega) (by omega)).mpr z))
      refine J_aload_n (pc := 13) dX1_namesStranger_13 rfl ?_
      refine J_getR (pc := 14) dX1_namesStranger_14 fX1_22 sh39 rfl ?_
      refine J_getR (pc := 17) dX1_namesStranger_17 fX1_138 (sv0 isV41) rfl ?_
      refine J_iconst (pc := 20) (v := nI 0) dX1_namesStranger_20 (by decide) ?_
      refine J_aald (pc := 21) dX1_namesStranger_21 (sv5 isV41) j_k2 (rfl) rfl (Nat.le_of_ble_eq_true rfl) ?_
      refine J_iload_n (pc := 22) dX1_namesStranger_22 rfl ?_
      refine J_iald (pc := 23) dX1_namesStranger_23 (sv6 isV41) (rfl) (by omega) (hX4 _ q10 0 (by omega)) (by decide) ?_
      refine J_aload_n (pc := 24) dX1_namesStranger_24 rfl ?_
      refine J_getR (pc := 25) dX1_namesStranger_25 fX1_22 sh39 rfl ?_
      refine J_getI (pc := 28) dX1_namesStranger_28 fX1_91 (sv0 isV41) rfl (hD.1.1) ?_
      refine J_icmp_ge (pc := 31) (tgt := 55) dX1_namesStranger_31 (by decide) (fun c31 => ?_) (fun c31 => ?_)
      · skip
        refine J_ls (ls' := [(0, .ref 39)]) ⟨rfl, trivial⟩ ?_
        exact ky k q10 (Or.inl c31)
      · skip
        refine J_aload_n (pc := 34) dX1_namesStranger_34 rfl ?_
        refine J_getR (pc := 35) dX1_namesStranger_35 fX1_22 sh39 rfl ?_
        refine J_getR (pc := 38) dX1_namesStranger_38 fX1_138 (sv0 isV41) rfl ?_
        refine J_iconst (pc := 41) (v := nI 1) dX1_namesStranger_41 (by decide) ?_
        refine J_aald (pc := 42) dX1_namesStranger_42 (sv5 isV41) j_k2 (rfl) rfl (Nat.le_of_ble_eq_true rfl) ?_
        refine J_iload_n (pc := 43) dX1_namesStranger_43 rfl ?_
        refine J_iald (pc := 44) dX1_namesStranger_44 (sv7 isV41) (rfl) (by omega) (hX4 _ q10 1 (by omega)) (by decide) ?_
        refine J_aload_n (pc := 45) dX1_namesStranger_45 rfl ?_
        refine J_getR (pc := 46) dX1_namesStranger_46 fX1_22 sh39 rfl ?_
        refine J_getI (pc := 49) dX1_namesStranger_49 fX1_91 (sv0 isV41) rfl (hD.1.1) ?_
        refine J_icmp_lt (pc := 52) (tgt := 57) dX1_namesStranger_52 (by decide) (fun c52 => ?_) (fun c52 => ?_)
        · skip
          refine J_iinc (pc := 57) dX1_namesStranger_57 rfl (v := nI (k + 1)) (by exact nI_add _ _) (by decide) ?_
          refine J_goto (pc := 60) (tgt := 2) dX1_namesStranger_60 (by decide) ?_
          exact J_ls (ls' := [(0, .ref 39), (1, .int (nI (k + 1)))]) ⟨rfl, rfl, trivial⟩ (ih (k + 1) ()  (by omega) (by omega)  (fun j hj => (Nat.lt_or_ge j k).elim (fun z => hI j z) (fun z => by rw [show j = k by omega]; exact fun q => q.elim c31 (Int32.not_le.mpr c52))))
        · skip
          refine J_ls (ls' := [(0, .ref 39)]) ⟨rfl, trivial⟩ ?_
          exact ky k q10 (Or.inr (Int32.not_lt.mp c52))
set_option maxHeartbeats 400000 in
theorem c1_stranger {g : jG} {d : Nat} {h : jH} {D : sD} (hD : CD D h) : Mi g d YX1_namesStranger h [.ref 39] (fun r h' => h' = h ∧ bq (strB D = true) r) := by
  refine M.of (by decide) rfl (Nat.le_of_ble_eq_true rfl) ?_
  refine J_iconst (pc := 0) (v := nI 0) dX1_namesStranger_0 (by decide) ?_
  refine J_istore_n (pc := 1) dX1_namesStranger_1 (by decide) ?_
  refine J_ls (ls' := [(0, .ref 39), (1, .int (nI 0))]) ⟨rfl, rfl, trivial⟩ ?_
  refine l1_str hD (fun k hk hne => ?_) (fun uu hI => ?_) (ix (D.2.1 37) + 1) 0 () (Nat.zero_le _) (by omega) (fun j hj => absurd hj (Nat.not_lt_zero _))
  · skip
    refine J_iconst (pc := 55) (v := nI 1) dX1_namesStranger_55 (by decide) ?_
    refine K_zret (pc := 56) dX1_namesStranger_56 rfl (by decide) ?_
    exact ⟨rfl, bqt (decide_eq_true ⟨k, hk, hne⟩)⟩
  · skip
    refine J_iconst (pc := 63) (v := nI 0) dX1_namesStranger_63 (by decide) ?_
    refine K_zret (pc := 64) dX1_namesStranger_64 rfl (by decide) ?_
    exact ⟨rfl, bqf (fun z => by obtain ⟨c, h1, h2⟩ := of_decide_eq_true z; exact hI c h1 h2)⟩
def clH (h : jH) (v : Nat) : jH := cdI (j_up (j_up (j_up (j_up (j_up (j_up (j_up (j_up (j_up h v 0 (nI 0)) v 3 (nI 0)) (v + 11) 0 (nI 3)) (v + 11) 1 (nI 3)) (v + 11) 2 (nI 3)) (v + 11) 3 (nI 1)) v 6 (nI 5)) v 7 (nI 0)) v 9 (nI 0)) v 4 0
theorem clH_out {h : jH} {v b : Nat} (hb : b < v ∨ v + 18 ≤ b) : clH h v b = h b := by
  funext k
  have : ¬ ((v + 14 ≤ b ∧ b < v + 14 + 4 ∧ k < 4) ∨ (b = v + 14 + 4 ∧ k < 0)) := by omega
  rw [clH, cdI, if_neg this, j_up_o (by omega), j_up_o (by omega), j_up_o (by omega), j_up_o (by omega), j_up_o (by omega), j_up_o (by omega), j_up_o (by omega), j_up_o (by omega), j_up_o (by omega)]
theorem clH_d {h : jH} {v p q : Nat} (hp : p < 4) (hq : q < 4) : clH h v (v + 14 + p) q = 0 := if_pos (by omega)
theorem clH_i {h : jH} {v b k : Nat} (hb : b < v + 14) : clH h v b k = j_up (j_up (j_up (j_up (j_up (j_up (j_up (j_up (j_up h v 0 (nI 0)) v 3 (nI 0)) (v + 11) 0 (nI 3)) (v + 11) 1 (nI 3)) (v + 11) 2 (nI 3)) (v + 11) 3 (nI 1)) v 6 (nI 5)) v 7 (nI 0)) v 9 (nI 0) b k := if_neg (by omega)
theorem XV_clear {h : jH} {v : Nat} : XV 0 (fun _ => 0) (clH h v) v := by
  have i0 : ix (0 : Int32) = 0 := rfl
  refine ⟨?_, fun p hp => absurd hp (Nat.not_lt_zero _), ?_, fun c hc => absurd hc (Nat.not_lt_zero _), fun w hw => ?_, ?_, ?_, fun i hi => absurd hi (Nat.not_lt_zero _), fun p q hp hq => clH_d hp hq⟩
  · rw [clH_i (by omega), j_up_o (by omega), j_up_o (by omega), j_up_o (by omega), j_up_o (by omega), j_up_o (by omega), j_up_o (by omega), j_up_o (by omega), j_up_o (by omega), j_up_s]
  · rw [clH_i (by omega), j_up_o (by omega), j_up_o (by omega), j_up_o (by omega), j_up_o (by omega), j_up_o (by omega), j_up_o (by omega), j_up_o (by omega), j_up_s]; rfl
  · rw [clH_i (by omega), j_up_o (by omega), j_up_o (by omega), j_up_o (by omega)]
    match w, hw with
    | 0, _ => rw [j_up_o (by omega), j_up_o (by omega), j_up_o (by omega), j_up_s]; rfl
    | 1, _ => rw [j_up_o (by omega), j_up_o (by omega), j_up_s]; rfl
    | 2, _ => rw [j_up_o (by omega), j_up_s]; rfl
    | 3, _ => rw [j_up_s]; rfl
  · rw [clH_i (by omega), j_up_o (by omega), j_up_o (by omega), j_up_s]; rfl
  · rw [clH_i (by omega), j_up_o (by omega), j_up_s]; rfl
theorem clH_9 {h : jH} {v : Nat} : clH h v v 9 = 0 := by rw [clH_i (by omega), j_up_s]; rfl
set_option maxHeartbeats 400000 in
theorem c4_clear {g : jG} {d : Nat} {h : jH} {v : Nat} (hv : isV v) : Mv g (d + 1) YX4_clear h [.ref v] (fun h' => h' = clH h v) := by
  refine M.of (by decide) rfl (Nat.le_of_ble_eq_true rfl) ?_
  refine J_aload_n (pc := 0) dX4_clear_0 rfl ?_
  refine J_iconst (pc := 1) (v := nI 0) dX4_clear_1 (by decide) ?_
  refine J_putI (pc := 2) dX4_clear_2 fX4_35 (sv0 hv) rfl ?_
  refine J_aload_n (pc := 5) dX4_clear_5 rfl ?_
  refine J_iconst (pc := 6) (v := nI 0) dX4_clear_6 (by decide) ?_
  refine J_putI (pc := 7) dX4_clear_7 fX4_39 (sv0 hv) rfl ?_
  refine J_aload_n (pc := 10) dX4_clear_10 rfl ?_
  refine J_getR (pc := 11) dX4_clear_11 fX4_23 (sv0 hv) rfl ?_
  refine J_iconst (pc := 14) (v := nI 0) dX4_clear_14 (by decide) ?_
  refine J_iconst (pc := 15) (v := nI 3) dX4_clear_15 (by decide) ?_
  refine J_iast (pc := 16) dX4_clear_16 (sv11 hv) (rfl) (by omega) (by decide) ?_
  refine J_aload_n (pc := 17) dX4_clear_17 rfl ?_
  refine J_getR (pc := 18) dX4_clear_18 fX4_23 (sv0 hv) rfl ?_
  refine J_iconst (pc := 21) (v := nI 1) dX4_clear_21 (by decide) ?_
  refine J_iconst (pc := 22) (v := nI 3) dX4_clear_22 (by decide) ?_
  refine J_iast (pc := 23) dX4_clear_23 (sv11 hv) (rfl) (by omega) (by decide) ?_
  refine J_aload_n (pc := 24) dX4_clear_24 rfl ?_
  refine J_getR (pc := 25) dX4_clear_25 fX4_23 (sv0 hv) rfl ?_
  refine J_iconst (pc := 28) (v := nI 2) dX4_clear_28 (by decide) ?_
  refine J_iconst (pc := 29) (v := nI 3) dX4_clear_29 (by decide) ?_
  refine J_iast (pc := 30) dX4_clear_30 (sv11 hv) (rfl) (by omega) (by decide) ?_
  refine J_aload_n (pc := 31) dX4_clear_31 rfl ?_
  refine J_getR (pc := 32) dX4_clear_32 fX4_23 (sv0 hv) rfl ?_
  refine J_iconst (pc := 35) (v := nI 3) dX4_clear_35 (by decide) ?_
  refine J_iconst (pc := 36) (v := nI 1) dX4_clear_36 (by decide) ?_
  refine J_iast (pc := 37) dX4_clear_37 (sv11 hv) (rfl) (by omega) (by decide) ?_
  refine J_aload_n (pc := 38) dX4_clear_38 rfl ?_
  refine J_iconst (pc := 39) (v := nI 5) dX4_clear_39 (by decide) ?_
  refine J_putI (pc := 40) dX4_clear_40 fX4_42 (sv0 hv) rfl ?_
  refine J_aload_n (pc := 43) dX4_clear_43 rfl ?_
  refine J_iconst (pc := 44) (v := nI 0) dX4_clear_44 (by decide) ?_
  refine J_putI (pc := 45) dX4_clear_45 fX4_45 (sv0 hv) rfl ?_
  refine J_aload_n (pc := 48) dX4_clear_48 rfl ?_
  refine J_iconst (pc := 49) (v := nI 0) dX4_clear_49 (by decide) ?_
  refine J_putI (pc := 50) dX4_clear_50 fX4_48 (sv0 hv) rfl ?_
  refine J_aload_n (pc := 53) dX4_clear_53 rfl ?_
  refine K_Vv0 (pc := 54) (Y' := YX4_clearDebts) dX4_clear_54 lX4_51 mX4_clearDebts vX4_clearDebts ⟨_, _, rfl⟩ (sv0 hv) (Nat.le_of_ble_eq_true rfl) (c4_clearDebts hv) ?_
  rintro h1 rfl
  refine K_ret (pc := 57) dX4_clear_57 rfl ?_
  exact rfl
def D0 : sD := (0, fun _ => 0, false, false, false)
set_option maxHeartbeats 400000 in
theorem c1_begin {g : jG} {d : Nat} {h : jH} : Mv g (d + 2) YX1_begin h [.ref 39] (fun h' => h' 39 2 = nI 0 ∧ h' 39 6 = nI 0 ∧ CD D0 h' ∧ df h h') := by
  refine M.of (by decide) rfl (Nat.le_of_ble_eq_true rfl) ?_
  refine J_aload_n (pc := 0) dX1_begin_0 rfl ?_
  refine J_getR (pc := 1) dX1_begin_1 fX1_22 sh39 rfl ?_
  refine K_Vv0 (pc := 4) (Y' := YX4_clear) dX1_begin_4 lX1_52 mX4_clear vX4_clear ⟨_, _, rfl⟩ (sv0 isV41) (Nat.le_of_ble_eq_true rfl) (c4_clear isV41) ?_
  rintro h1 rfl
  refine J_aload_n (pc := 7) dX1_begin_7 rfl ?_
  refine J_iconst (pc := 8) (v := nI 0) dX1_begin_8 (by decide) ?_
  refine J_putI (pc := 9) dX1_begin_9 fX1_55 sh39 rfl ?_
  refine J_aload_n (pc := 12) dX1_begin_12 rfl ?_
  refine J_iconst (pc := 13) (v := nI 0) dX1_begin_13 (by decide) ?_
  refine J_putI (pc := 14) dX1_begin_14 fX1_15 sh39 rfl ?_
  refine J_aload_n (pc := 17) dX1_begin_17 rfl ?_
  refine J_iconst (pc := 18) (v := nI 0) dX1_begin_18 (by decide) ?_
  refine J_putZ (pc := 19) dX1_begin_19 fX1_58 sh39 rfl (by decide) ?_
  refine J_aload_n (pc := 22) dX1_begin_22 rfl ?_
  refine J_iconst (pc := 23) (v := nI 0) dX1_begin_23 (by decide) ?_
  refine J_putZ (pc := 24) dX1_begin_24 fX1_62 sh39 rfl (by decide) ?_
  refine J_aload_n (pc := 27) dX1_begin_27 rfl ?_
  refine J_iconst (pc := 28) (v := nI 0) dX1_begin_28 (by decide) ?_
  refine J_putZ (pc := 29) dX1_begin_29 fX1_65 sh39 rfl (by decide) ?_
  refine K_ret (pc := 32) dX1_begin_32 rfl ?_
  have fd : df h (clH h 41) := fun b k _ y => by rw [clH_out (by omega)]
  refine ⟨by simp [j_up], by simp [j_up], ⟨XV_congr (XV_clear (h := h)) (fun _ _ => rfl) (by decide) (by decide) (by decide) (fun b h1 h2 => ?_), by decide, (show nb 6 (nI 0) from nb_nI (by omega) (by omega)), (show nb 9 (nI 0) from nb_nI (by omega) (by omega)), ⟨by simp [j_up, D0, bI], by simp [j_up, D0, bI], by simp [j_up, D0, bI]⟩, ?_⟩, ((((fd.tr (df_up (by omega))).tr (df_up (by omega))).tr (df_up (by omega))).tr (df_up (by omega))).tr (df_up (by omega))⟩
  · rw [j_up_ne b (by omega), j_up_ne b (by omega), j_up_ne b (by omega), j_up_ne b (by omega), j_up_ne b (by omega)]
  · rw [j_up_o (by omega), j_up_o (by omega), j_up_o (by omega), j_up_o (by omega), j_up_o (by omega)]; exact clH_9
set_option maxHeartbeats 1000000 in
theorem l1_all {g : jG} {d : Nat} {L : Nat} {t : Nat → Int32} : ∀ (m k : Nat) (s : sS) (D : sD) (h h0 : jH) (Q : kQ), k + m = 160 → TP L t h → CT L s h → CD D h → df h0 h → (∀ h', CT L (txF L t m k s D).1 h' → CD (txF L t m k s D).2.1 h' → df h0 h' → K g (d + 9) YX1_takeAll h' 50 [(0, .ref 39), (1, .int (nI (txF L t m k s D).2.2))] [] Q) → K g (d + 9) YX1_takeAll h 12 [(0, .ref 39), (1, .int (nI k)), (2, .int (nI k))] [] Q
  | 0, k, s, D, h, h0, Q, hk, hT, hs, hD, f0, kx => by
    refine J_iload_n (pc := 12) dX1_takeAll_12 rfl ?_
    refine J_sipush (pc := 13) (v := nI 160) dX1_takeAll_13 (by decide) ?_
    refine J_icmp_ge (pc := 16) (tgt := 50) dX1_takeAll_16 (by decide) (fun c16 => ?_) (fun c16 => ?_)
    · skip
      refine J_ls (ls' := [(0, .ref 39), (1, .int (nI k))]) ⟨rfl, rfl, trivial⟩ ?_
      exact kx h hs hD f0
    · skip
      exact absurd ((nI_leI (by omega) (by omega)).mpr (show 160 ≤ k by omega)) c16
  | m + 1, k, s, D, h, h0, Q, hk, hT, hs, hD, f0, kx => by
    refine J_iload_n (pc := 12) dX1_takeAll_12 rfl ?_
    refine J_sipush (pc := 13) (v := nI 160) dX1_takeAll_13 (by decide) ?_
    refine J_icmp_ge (pc := 16) (tgt := 50) dX1_takeAll_16 (by decide) (fun c16 => ?_) (fun c16 => ?_)
    · skip
      exact absurd ((nI_leI (by omega) (by omega)).mp c16) (by omega)
    · skip
      refine J_aload_n (pc := 19) dX1_takeAll_19 rfl ?_
      refine J_getI (pc := 20) dX1_takeAll_20 fX1_35 sh39 rfl (hs.2.2.1) ?_
      refine J_if_eq (pc := 23) (tgt := 50) dX1_takeAll_23 (by decide) (fun c23 => ?_) (fun c23 => ?_)
      · skip
        have zz : ¬ (s.2.2.2.1 ≠ 0 ∧ s.1 = 0) := fun z => z.1 ((nI0e (by have := hs.2.2.2.2.2.2.2.2.2; omega)).mp c23)
        refine J_ls (ls' := [(0, .ref 39), (1, .int (nI k))]) ⟨rfl, rfl, trivial⟩ ?_
        have kx' := kx h
        rw [txF, if_neg zz] at kx'
        exact kx' hs hD f0
      · skip
        refine J_aload_n (pc := 26) dX1_takeAll_26 rfl ?_
        refine J_getI (pc := 27) dX1_takeAll_27 fX1_15 sh39 rfl (hs.2.2.2.2.1) ?_
        refine J_if_ne (pc := 30) (tgt := 50) dX1_takeAll_30 (by decide) (fun c30 => ?_) (fun c30 => ?_)
        · skip
          have zz : ¬ (s.2.2.2.1 ≠ 0 ∧ s.1 = 0) := fun z => c30 ((nI0e (Nat.le_trans hs.2.2.2.2.2.1 (by omega))).mpr z.2)
          refine J_ls (ls' := [(0, .ref 39), (1, .int (nI k))]) ⟨rfl, rfl, trivial⟩ ?_
          have kx' := kx h
          rw [txF, if_neg zz] at kx'
          exact kx' hs hD f0
        · skip
          have zz : s.2.2.2.1 ≠ 0 ∧ s.1 = 0 := ⟨fun z => c23 ((nI0e (by have := hs.2.2.2.2.2.2.2.2.2; omega)).mpr z), (nI0e (Nat.le_trans hs.2.2.2.2.2.1 (by omega))).mp c30⟩
          refine J_aload_n (pc := 33) dX1_takeAll_33 rfl ?_
          refine K_Vv0 (pc := 34) (Y' := YX1_takeLine) dX1_takeAll_34 lX1_38 mX1_takeLine vX1_takeLine ⟨_, _, rfl⟩ sh39 (Nat.le_of_ble_eq_true rfl) (c1_takeLine hT hs hD) ?_
          rintro h1 ⟨hs1, D1, f1⟩
          have T1 := hT.df f1
          refine J_aload_n (pc := 37) dX1_takeAll_37 rfl ?_
          refine K_Vv0 (pc := 38) (Y' := YX1_advance) dX1_takeAll_38 lX1_32 mX1_advance vX1_advance ⟨_, _, rfl⟩ sh39 (Nat.le_of_ble_eq_true rfl) (c1_advance T1 hs1) ?_
          rintro h2 ⟨hs2, f2⟩
          refine J_iinc (pc := 41) dX1_takeAll_41 rfl (v := nI (k + 1)) (by exact nI_add _ _) (by decide) ?_
          refine J_iinc (pc := 44) dX1_takeAll_44 rfl (v := nI (k + 1)) (by exact nI_add _ _) (by decide) ?_
          refine J_goto (pc := 47) (tgt := 12) dX1_takeAll_47 (by decide) ?_
          refine J_ls (ls' := [(0, .ref 39), (1, .int (nI (k + 1))), (2, .int (nI (k + 1)))]) ⟨rfl, rfl, rfl, trivial⟩ ?_
          refine l1_all m (k + 1) _ _ _ _ _ (by omega) (T1.tf f2) hs2 (D1.tf f2) ((f0.tr f1).tr f2.df) ?_
          have kx' := kx
          rw [txF, if_pos zz] at kx'
          exact kx'
noncomputable def txR (L : Nat) (t : Nat → Int32) : Int32 := if (txE L t).1 = 0 then nI (tx L t).2.2 else -10 - nI (txE L t).2.1
set_option maxHeartbeats 400000 in
theorem c1_takeAll {g : jG} {d : Nat} {h : jH} {L : Nat} {t : Nat → Int32} (hT : TP L t h) : Mi g (d + 9) YX1_takeAll h [.ref 39] (fun r h' => r = txR L t ∧ CT L (txE L t) h' ∧ (h' 39 1 = nI 0 ∧ ∃ h1, CD (tx L t).2.1 h1 ∧ ∀ b, 41 ≤ b → b ≤ 58 → h' b = h1 b) ∧ ∀ b k, ¬ b = 39 → ¬ (41 ≤ b ∧ b ≤ 58) → h' b k = h b k) := by
  refine M.of (by decide) rfl (Nat.le_of_ble_eq_true rfl) ?_
  refine J_aload_n (pc := 0) dX1_takeAll_0 rfl ?_
  refine K_Vv0 (pc := 1) (Y' := YX1_begin) dX1_takeAll_1 lX1_29 mX1_begin vX1_begin ⟨_, _, rfl⟩ sh39 (Nat.le_of_ble_eq_true rfl) (c1_begin) ?_
  rintro h1 ⟨e2, e6, hD1, f1⟩
  have T1 := hT.df f1
  refine J_iconst (pc := 4) (v := nI 0) dX1_takeAll_4 (by decide) ?_
  refine J_istore_n (pc := 5) dX1_takeAll_5 (by decide) ?_
  refine J_aload_n (pc := 6) dX1_takeAll_6 rfl ?_
  refine K_Vv0 (pc := 7) (Y' := YX1_advance) dX1_takeAll_7 lX1_32 mX1_advance vX1_advance ⟨_, _, rfl⟩ sh39 (Nat.le_of_ble_eq_true rfl) (c1_advance0 T1 (Nat.zero_le _) e2 e6) ?_
  rintro h2 ⟨hs2, f2⟩
  refine J_iconst (pc := 10) (v := nI 0) dX1_takeAll_10 (by decide) ?_
  refine J_istore_n (pc := 11) dX1_takeAll_11 (by decide) ?_
  refine J_ls (ls' := [(0, .ref 39), (1, .int (nI 0)), (2, .int (nI 0))]) ⟨rfl, rfl, rfl, trivial⟩ ?_
  refine l1_all 160 0 (0, tk L t 0) D0 h2 h _ (by omega) (T1.tf f2) hs2 (hD1.tf f2) (f1.tr f2.df) (fun h4 hs4 hD4 f4 => ?_)
  have hs4 : CT L (tx L t).1 h4 := hs4
  have hD4 : CD (tx L t).2.1 h4 := hD4
  refine J_aload_n (pc := 50) dX1_takeAll_50 rfl ?_
  refine J_aload_n (pc := 51) dX1_takeAll_51 rfl ?_
  refine K_Vi0 (pc := 52) (Y' := YX1_namesStranger) dX1_takeAll_52 lX1_41 mX1_namesStranger vX1_namesStranger ⟨_, _, rfl⟩ sh39 (Nat.le_of_ble_eq_true rfl) (c1_stranger hD4) ?_
  rintro x h0 ⟨e0, ⟨rfl, b52⟩ | ⟨rfl, b52⟩⟩ <;> rw [e0] <;> clear e0 h0
  · skip
    refine J_bipush (pc := 55) (v := nI 6) dX1_takeAll_55 (by decide) ?_
    refine K_Vv2 (pc := 57) (Y' := YX1_refuseIf) dX1_takeAll_57 lX1_45 mX1_refuseIf vX1_refuseIf ⟨_, _, rfl⟩ sh39 (Nat.le_of_ble_eq_true rfl) (c1_refuseIf (b := strB (tx L t).2.1) (c := 6) hs4 (bqt b52) (by omega)) ?_
    rintro h5 ⟨hs5, f5⟩
    have hs5 : CT L (txE L t) h5 := hs5
    refine J_aload_n (pc := 60) dX1_takeAll_60 rfl ?_
    refine J_iconst (pc := 61) (v := nI 0) dX1_takeAll_61 (by decide) ?_
    refine J_putI (pc := 62) dX1_takeAll_62 fX1_26 sh39 rfl ?_
    have tq : ∀ b k, ¬ b = 39 → ¬ (41 ≤ b ∧ b ≤ 58) → j_up h5 39 1 (nI 0) b k = h b k := fun b k h1 h2 => (j_up_o (by omega)).trans ((f5 b k (by omega)).trans (f4 b k (by omega) h2))
    refine J_aload_n (pc := 65) dX1_takeAll_65 rfl ?_
    refine J_getI (pc := 66) dX1_takeAll_66 fX1_15 sh39 rfl ((j_up_o (by omega)).trans hs5.2.2.2.2.1) ?_
    refine J_if_ne (pc := 69) (tgt := 76) dX1_takeAll_69 (by decide) (fun c69 => ?_) (fun c69 => ?_)
    · skip
      refine J_bipush (pc := 76) (v := -10) dX1_takeAll_76 (by decide) ?_
      refine J_aload_n (pc := 78) dX1_takeAll_78 rfl ?_
      refine J_getI (pc := 79) dX1_takeAll_79 fX1_49 sh39 rfl ((j_up_o (by omega)).trans hs5.2.1) ?_
      refine J_isub (pc := 82) dX1_takeAll_82 (rfl) ?_
      refine K_iret (pc := 83) dX1_takeAll_83 rfl ?_
      exact ⟨(if_neg (fun z => c69 ((nI0e (Nat.le_trans hs5.2.2.2.2.2.1 (by omega))).mpr z))).symm, ⟨hs5.of (fun k _ _ => j_up_o (by omega)), ⟨j_up_s, h5, hD4.tf f5, fun b h1 h2 => j_up_ne b (by omega)⟩, tq⟩⟩
    · skip
      refine J_iload_n (pc := 72) dX1_takeAll_72 rfl ?_
      refine J_goto (pc := 73) (tgt := 83) dX1_takeAll_73 (by decide) ?_
      refine K_iret (pc := 83) dX1_takeAll_83 rfl ?_
      exact ⟨(if_pos ((nI0e (Nat.le_trans hs5.2.2.2.2.2.1 (by omega))).mp c69)).symm, ⟨hs5.of (fun k _ _ => j_up_o (by omega)), ⟨j_up_s, h5, hD4.tf f5, fun b h1 h2 => j_up_ne b (by omega)⟩, tq⟩⟩
  · skip
    refine J_bipush (pc := 55) (v := nI 6) dX1_takeAll_55 (by decide) ?_
    refine K_Vv2 (pc := 57) (Y' := YX1_refuseIf) dX1_takeAll_57 lX1_45 mX1_refuseIf vX1_refuseIf ⟨_, _, rfl⟩ sh39 (Nat.le_of_ble_eq_true rfl) (c1_refuseIf (b := strB (tx L t).2.1) (c := 6) hs4 (bqf b52) (by omega)) ?_
    rintro h5 ⟨hs5, f5⟩
    have hs5 : CT L (txE L t) h5 := hs5
    refine J_aload_n (pc := 60) dX1_takeAll_60 rfl ?_
    refine J_iconst (pc := 61) (v := nI 0) dX1_takeAll_61 (by decide) ?_
    refine J_putI (pc := 62) dX1_takeAll_62 fX1_26 sh39 rfl ?_
    have tq : ∀ b k, ¬ b = 39 → ¬ (41 ≤ b ∧ b ≤ 58) → j_up h5 39 1 (nI 0) b k = h b k := fun b k h1 h2 => (j_up_o (by omega)).trans ((f5 b k (by omega)).trans (f4 b k (by omega) h2))
    refine J_aload_n (pc := 65) dX1_takeAll_65 rfl ?_
    refine J_getI (pc := 66) dX1_takeAll_66 fX1_15 sh39 rfl ((j_up_o (by omega)).trans hs5.2.2.2.2.1) ?_
    refine J_if_ne (pc := 69) (tgt := 76) dX1_takeAll_69 (by decide) (fun c69 => ?_) (fun c69 => ?_)
    · skip
      refine J_bipush (pc := 76) (v := -10) dX1_takeAll_76 (by decide) ?_
      refine J_aload_n (pc := 78) dX1_takeAll_78 rfl ?_
      refine J_getI (pc := 79) dX1_takeAll_79 fX1_49 sh39 rfl ((j_up_o (by omega)).trans hs5.2.1) ?_
      refine J_isub (pc := 82) dX1_takeAll_82 (rfl) ?_
      refine K_iret (pc := 83) dX1_takeAll_83 rfl ?_
      exact ⟨(if_neg (fun z => c69 ((nI0e (Nat.le_trans hs5.2.2.2.2.2.1 (by omega))).mpr z))).symm, ⟨hs5.of (fun k _ _ => j_up_o (by omega)), ⟨j_up_s, h5, hD4.tf f5, fun b h1 h2 => j_up_ne b (by omega)⟩, tq⟩⟩
    · skip
      refine J_iload_n (pc := 72) dX1_takeAll_72 rfl ?_
      refine J_goto (pc := 73) (tgt := 83) dX1_takeAll_73 (by decide) ?_
      refine K_iret (pc := 83) dX1_takeAll_83 rfl ?_
      exact ⟨(if_pos ((nI0e (Nat.le_trans hs5.2.2.2.2.2.1 (by omega))).mp c69)).symm, ⟨hs5.of (fun k _ _ => j_up_o (by omega)), ⟨j_up_s, h5, hD4.tf f5, fun b h1 h2 => j_up_ne b (by omega)⟩, tq⟩⟩
