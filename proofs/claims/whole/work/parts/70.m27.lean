theorem bI_bq {b : Bool} : bq (b = true) (bI b) := by
  cases b
  · exact Or.inr ⟨rfl, by decide⟩
  · exact Or.inl ⟨rfl, rfl⟩
set_option maxHeartbeats 200000 in
theorem c4_addOneQ {g : jG} {d : Nat} {h : jH} {n : Nat} {k f p : Int32} (hn : h 41 0 = nI n) (hn4 : n ≤ 4) : Mv g d YX4_addOne h [.ref 41, .int k, .int f, .int p] (fun h' => h' = aoQ h n k f p) := by
  refine M.of (by decide) rfl (Nat.le_of_ble_eq_true rfl) ?_
  refine J_aload_n (pc := 0) dX4_addOne_0 rfl ?_
  refine J_getI (pc := 1) dX4_addOne_1 fX4_35 (sv0 isV41) rfl (hn) ?_
  refine J_iconst (pc := 4) (v := nI 4) dX4_addOne_4 (by decide) ?_
  refine J_icmp_ge (pc := 5) (tgt := 54) dX4_addOne_5 (by decide) (fun c5 => ?_) (fun c5 => ?_)
  · skip
    have q5 : 4 ≤ n := (nI_leI (by omega) (by omega)).mp c5
    refine K_ret (pc := 54) dX4_addOne_54 rfl ?_
    exact (if_neg (by omega)).symm
  · skip
    have q5 : n < 4 := Nat.lt_of_not_le (fun z => c5 ((nI_leI (by omega) (by omega)).mpr z))
    refine J_aload_n (pc := 8) dX4_addOne_8 rfl ?_
    refine J_getR (pc := 9) dX4_addOne_9 fX4_11 (sv0 isV41) rfl ?_
    refine J_iconst (pc := 12) (v := nI 0) dX4_addOne_12 (by decide) ?_
    refine J_aald (pc := 13) dX4_addOne_13 (sv1 isV41) j_k2 (rfl) rfl (Nat.le_of_ble_eq_true rfl) ?_
    refine J_aload_n (pc := 14) dX4_addOne_14 rfl ?_
    refine J_getI (pc := 15) dX4_addOne_15 fX4_35 (sv0 isV41) rfl (hn) ?_
    refine J_iload_n (pc := 18) dX4_addOne_18 rfl ?_
    refine J_iast (pc := 19) dX4_addOne_19 (sv2 isV41) (rfl) (by omega) (by decide) ?_
    refine J_aload_n (pc := 20) dX4_addOne_20 rfl ?_
    refine J_getR (pc := 21) dX4_addOne_21 fX4_11 (sv0 isV41) rfl ?_
    refine J_iconst (pc := 24) (v := nI 1) dX4_addOne_24 (by decide) ?_
    refine J_aald (pc := 25) dX4_addOne_25 (sv1 isV41) j_k2 (rfl) rfl (Nat.le_of_ble_eq_true rfl) ?_
    refine J_aload_n (pc := 26) dX4_addOne_26 rfl ?_
    refine J_getI (pc := 27) dX4_addOne_27 fX4_35 (sv0 isV41) rfl ((j_up_o (by omega)).trans hn) ?_
    refine J_iload_n (pc := 30) dX4_addOne_30 rfl ?_
    refine J_iast (pc := 31) dX4_addOne_31 (sv3 isV41) (rfl) (by omega) (by decide) ?_
    refine J_aload_n (pc := 32) dX4_addOne_32 rfl ?_
    refine J_getR (pc := 33) dX4_addOne_33 fX4_11 (sv0 isV41) rfl ?_
    refine J_iconst (pc := 36) (v := nI 2) dX4_addOne_36 (by decide) ?_
    refine J_aald (pc := 37) dX4_addOne_37 (sv1 isV41) j_k2 (rfl) rfl (Nat.le_of_ble_eq_true rfl) ?_
    refine J_aload_n (pc := 38) dX4_addOne_38 rfl ?_
    refine J_getI (pc := 39) dX4_addOne_39 fX4_35 (sv0 isV41) rfl ((j_up_o (by omega)).trans ((j_up_o (by omega)).trans hn)) ?_
    refine J_iload_n (pc := 42) dX4_addOne_42 rfl ?_
    refine J_iast (pc := 43) dX4_addOne_43 (sv4 isV41) (rfl) (by omega) (by decide) ?_
    refine J_aload_n (pc := 44) dX4_addOne_44 rfl ?_
    refine J_dup (pc := 45) dX4_addOne_45 rfl ?_
    refine J_getI (pc := 46) dX4_addOne_46 fX4_35 (sv0 isV41) rfl ((j_up_o (by omega)).trans ((j_up_o (by omega)).trans ((j_up_o (by omega)).trans hn))) ?_
    refine J_iconst (pc := 49) (v := nI 1) dX4_addOne_49 (by decide) ?_
    refine J_iadd (pc := 50) dX4_addOne_50 (nI_add _ _) ?_
    refine J_putI (pc := 51) dX4_addOne_51 fX4_35 (sv0 isV41) rfl ?_
    refine K_ret (pc := 54) dX4_addOne_54 rfl ?_
    exact (if_pos q5).symm
set_option maxHeartbeats 200000 in
theorem c4_addCoverQ {g : jG} {d : Nat} {h : jH} {c : Nat} {p q w x y : Int32} (hc : h 41 3 = nI c) (hc5 : c < 6) : Mv g d YX4_addCover h [.ref 41, .int p, .int q, .int w, .int x, .int y] (fun h' => h' = acQ h c p q w x y) := by
  by_cases z : c < 5
  · have e : acQ h c p q w x y = acH h 41 c p q w x y := if_pos z
    rw [e]
    exact c4_addCover isV41 hc z
  rw [show acQ h c p q w x y = h from if_neg z]
  refine M.of (by decide) rfl (Nat.le_of_ble_eq_true rfl) ?_

  refine J_aload_n (pc := 0) dX4_addCover_0 rfl ?_
  refine J_getI (pc := 1) dX4_addCover_1 fX4_39 (sv0 isV41) rfl (hc) ?_
  refine J_iconst (pc := 4) (v := nI 5) dX4_addCover_4 (by decide) ?_
  refine J_icmp_ge (pc := 5) (tgt := 80) dX4_addCover_5 (by decide) (fun c5 => ?_) (fun c5 => ?_)
  · skip
    refine K_ret (pc := 80) dX4_addCover_80 rfl ?_
    exact rfl
  · skip
    exact absurd ((nI_leI (by omega) (by omega)).mpr (show 5 ≤ c by omega)) c5
set_option maxHeartbeats 200000 in
theorem c4_addPlannedQ {g : jG} {d : Nat} {h : jH} {c : Nat} {w : Int32} (hc : h 41 7 = nI c) (hc9 : c < 9) : Mv g d YX4_addPlanned h [.ref 41, .int w] (fun h' => h' = apQ h c w) := by
  by_cases z : c < 8
  · have e : apQ h c w = j_up (j_up h (41 + 12) c w) 41 7 (nI c + nI 1) := if_pos z
    rw [e]
    exact c4_addPlanned isV41 hc z
  rw [show apQ h c w = h from if_neg z]
  refine M.of (by decide) rfl (Nat.le_of_ble_eq_true rfl) ?_

  refine J_aload_n (pc := 0) dX4_addPlanned_0 rfl ?_
  refine J_getI (pc := 1) dX4_addPlanned_1 fX4_45 (sv0 isV41) rfl (hc) ?_
  refine J_bipush (pc := 4) (v := nI 8) dX4_addPlanned_4 (by decide) ?_
  refine J_icmp_ge (pc := 6) (tgt := 29) dX4_addPlanned_6 (by decide) (fun c6 => ?_) (fun c6 => ?_)
  · skip
    refine K_ret (pc := 29) dX4_addPlanned_29 rfl ?_
    exact rfl
  · skip
    exact absurd ((nI_leI (by omega) (by omega)).mpr (show 8 ≤ c by omega)) c6
set_option maxHeartbeats 200000 in
theorem c1_takeOne {g : jG} {d : Nat} {h : jH} {L : Nat} {t : Nat → Int32} {s : sS} {D : sD} (hT : TP L t h) (hs : CT L s h) (hD : CD D h) {k : Int32} : Mv g (d + 4) YX1_takeOne h [.ref 39, .int k] (fun h' => LQ L (lOne L t k s D) h h') := by
  refine M.of (by decide) rfl (Nat.le_of_ble_eq_true rfl) ?_
  refine J_aload_n (pc := 0) dX1_takeOne_0 rfl ?_
  refine J_aload_n (pc := 1) dX1_takeOne_1 rfl ?_
  refine J_getR (pc := 2) dX1_takeOne_2 fX1_22 sh39 rfl ?_
  refine J_getI (pc := 5) dX1_takeOne_5 fX1_91 (sv0 isV41) rfl (hD.1.1) ?_
  refine J_iconst (pc := 8) (v := nI 4) dX1_takeOne_8 (by decide) ?_
  refine J_icmp_lt (pc := 9) (tgt := 16) dX1_takeOne_9 (by decide) (fun c9 => ?_) (fun c9 => ?_)
  · skip
    refine J_iconst (pc := 16) (v := nI 0) dX1_takeOne_16 (by decide) ?_
    refine J_iconst (pc := 17) (v := nI 5) dX1_takeOne_17 (by decide) ?_
    refine K_Vv2 (pc := 18) (Y' := YX1_refuseIf) dX1_takeOne_18 lX1_45 mX1_refuseIf vX1_refuseIf ⟨_, _, rfl⟩ sh39 (Nat.le_of_ble_eq_true rfl) (c1_refuseIf (b := decide (4 ≤ D.1)) (c := 5) hs (bq_dec (bqf (fun z => absurd ((nIlt (by have := hD.2.1; omega) (by omega)).mp c9) (by omega)))) (by omega)) ?_
    rintro h1 ⟨hs1, f1⟩
    have hs1 : CT L (one0 s D) h1 := hs1
    have T1 := hT.tf f1
    refine J_aload_n (pc := 21) dX1_takeOne_21 rfl ?_
    refine J_iconst (pc := 22) (v := nI 1) dX1_takeOne_22 (by decide) ?_
    refine J_iconst (pc := 23) (v := nI 5) dX1_takeOne_23 (by decide) ?_
    refine K_Vi2 (pc := 24) (Y' := YX1_takeNumber) dX1_takeOne_24 lX1_94 mX1_takeNumber vX1_takeNumber ⟨_, _, rfl⟩ sh39 (Nat.le_of_ble_eq_true rfl) (c1_takeNumber T1 hs1) ?_
    rintro x2 h2 ⟨⟨hs2, f2'⟩, ex2⟩
    have hs2 : CT L (one1 L t s D) h2 := hs2
    have ex2 : x2 = sVal (one1 L t s D) := ex2
    subst ex2
    have f2 := f1.tr f2'
    have T2 := hT.tf f2
    refine J_istore_n (pc := 27) dX1_takeOne_27 (by decide) ?_
    refine J_aload_n (pc := 28) dX1_takeOne_28 rfl ?_
    refine J_iconst (pc := 29) (v := nI 0) dX1_takeOne_29 (by decide) ?_
    refine J_bipush (pc := 30) (v := nI 99) dX1_takeOne_30 (by decide) ?_
    refine K_Vi2 (pc := 32) (Y' := YX1_takeNumber) dX1_takeOne_32 lX1_94 mX1_takeNumber vX1_takeNumber ⟨_, _, rfl⟩ sh39 (Nat.le_of_ble_eq_true rfl) (c1_takeNumber T2 hs2) ?_
    rintro x3 h3 ⟨⟨hs3, f3'⟩, ex3⟩
    have hs3 : CT L (one2 L t s D) h3 := hs3
    have ex3 : x3 = sVal (one2 L t s D) := ex3
    subst ex3
    have f3 := f2.tr f3'
    have T3 := hT.tf f3
    refine J_istore_n (pc := 35) dX1_takeOne_35 (by decide) ?_
    refine J_aload_n (pc := 36) dX1_takeOne_36 rfl ?_
    refine K_Vv0 (pc := 37) (Y' := YX1_takeSemicolon) dX1_takeOne_37 lX1_98 mX1_takeSemicolon vX1_takeSemicolon ⟨_, _, rfl⟩ sh39 (Nat.le_of_ble_eq_true rfl) (c1_takeSemicolon T3 hs3) ?_
    rintro h4 ⟨hs4, f4'⟩
    have f4 := f3.tr f4'
    have D4 := hD.tf f4
    refine J_aload_n (pc := 40) dX1_takeOne_40 rfl ?_
    refine J_getR (pc := 41) dX1_takeOne_41 fX1_22 sh39 rfl ?_
    refine J_iload_n (pc := 44) dX1_takeOne_44 rfl ?_
    refine J_iload_n (pc := 45) dX1_takeOne_45 rfl ?_
    refine J_iload_n (pc := 46) dX1_takeOne_46 rfl ?_
    refine K_Vv3 (pc := 47) (Y' := YX4_addOne) dX1_takeOne_47 lX1_101 mX4_addOne vX4_addOne ⟨_, _, rfl⟩ (sv0 isV41) (Nat.le_of_ble_eq_true rfl) (c4_addOneQ D4.1.1 D4.2.1) ?_
    rintro h5 rfl
    refine K_ret (pc := 50) dX1_takeOne_50 rfl ?_
    exact ⟨hs4.fr aoQ_fr, CD_one D4, f4.df.tr aoQ_fr.df⟩
  · skip
    refine J_iconst (pc := 12) (v := nI 1) dX1_takeOne_12 (by decide) ?_
    refine J_goto (pc := 13) (tgt := 17) dX1_takeOne_13 (by decide) ?_
    refine J_iconst (pc := 17) (v := nI 5) dX1_takeOne_17 (by decide) ?_
    refine K_Vv2 (pc := 18) (Y' := YX1_refuseIf) dX1_takeOne_18 lX1_45 mX1_refuseIf vX1_refuseIf ⟨_, _, rfl⟩ sh39 (Nat.le_of_ble_eq_true rfl) (c1_refuseIf (b := decide (4 ≤ D.1)) (c := 5) hs (bq_dec (bqt (Nat.le_of_not_lt (fun z => c9 ((nIlt (by have := hD.2.1; omega) (by omega)).mpr z))))) (by omega)) ?_
    rintro h1 ⟨hs1, f1⟩
    have hs1 : CT L (one0 s D) h1 := hs1
    have T1 := hT.tf f1
    refine J_aload_n (pc := 21) dX1_takeOne_21 rfl ?_
    refine J_iconst (pc := 22) (v := nI 1) dX1_takeOne_22 (by decide) ?_
    refine J_iconst (pc := 23) (v := nI 5) dX1_takeOne_23 (by decide) ?_
    refine K_Vi2 (pc := 24) (Y' := YX1_takeNumber) dX1_takeOne_24 lX1_94 mX1_takeNumber vX1_takeNumber ⟨_, _, rfl⟩ sh39 (Nat.le_of_ble_eq_true rfl) (c1_takeNumber T1 hs1) ?_
    rintro x2 h2 ⟨⟨hs2, f2'⟩, ex2⟩
    have hs2 : CT L (one1 L t s D) h2 := hs2
    have ex2 : x2 = sVal (one1 L t s D) := ex2
    subst ex2
    have f2 := f1.tr f2'
    have T2 := hT.tf f2
    refine J_istore_n (pc := 27) dX1_takeOne_27 (by decide) ?_
    refine J_aload_n (pc := 28) dX1_takeOne_28 rfl ?_
    refine J_iconst (pc := 29) (v := nI 0) dX1_takeOne_29 (by decide) ?_
    refine J_bipush (pc := 30) (v := nI 99) dX1_takeOne_30 (by decide) ?_
    refine K_Vi2 (pc := 32) (Y' := YX1_takeNumber) dX1_takeOne_32 lX1_94 mX1_takeNumber vX1_takeNumber ⟨_, _, rfl⟩ sh39 (Nat.le_of_ble_eq_true rfl) (c1_takeNumber T2 hs2) ?_
    rintro x3 h3 ⟨⟨hs3, f3'⟩, ex3⟩
    have hs3 : CT L (one2 L t s D) h3 := hs3
    have ex3 : x3 = sVal (one2 L t s D) := ex3
    subst ex3
    have f3 := f2.tr f3'
    have T3 := hT.tf f3
    refine J_istore_n (pc := 35) dX1_takeOne_35 (by decide) ?_
    refine J_aload_n (pc := 36) dX1_takeOne_36 rfl ?_
    refine K_Vv0 (pc := 37) (Y' := YX1_takeSemicolon) dX1_takeOne_37 lX1_98 mX1_takeSemicolon vX1_takeSemicolon ⟨_, _, rfl⟩ sh39 (Nat.le_of_ble_eq_true rfl) (c1_takeSemicolon T3 hs3) ?_
    rintro h4 ⟨hs4, f4'⟩
    have f4 := f3.tr f4'
    have D4 := hD.tf f4
    refine J_aload_n (pc := 40) dX1_takeOne_40 rfl ?_
    refine J_getR (pc := 41) dX1_takeOne_41 fX1_22 sh39 rfl ?_
    refine J_iload_n (pc := 44) dX1_takeOne_44 rfl ?_
    refine J_iload_n (pc := 45) dX1_takeOne_45 rfl ?_
    refine J_iload_n (pc := 46) dX1_takeOne_46 rfl ?_
    refine K_Vv3 (pc := 47) (Y' := YX4_addOne) dX1_takeOne_47 lX1_101 mX4_addOne vX4_addOne ⟨_, _, rfl⟩ (sv0 isV41) (Nat.le_of_ble_eq_true rfl) (c4_addOneQ D4.1.1 D4.2.1) ?_
    rintro h5 rfl
    refine K_ret (pc := 50) dX1_takeOne_50 rfl ?_
    exact ⟨hs4.fr aoQ_fr, CD_one D4, f4.df.tr aoQ_fr.df⟩
set_option maxHeartbeats 200000 in
theorem c1_takeCover {g : jG} {d : Nat} {h : jH} {L : Nat} {t : Nat → Int32} {s : sS} {D : sD} (hT : TP L t h) (hs : CT L s h) (hD : CD D h) : Mv g (d + 7) YX1_takeCover h [.ref 39] (fun h' => LQ L (lCov L t s D) h h') := by
  refine M.of (by decide) rfl (Nat.le_of_ble_eq_true rfl) ?_
  refine J_aload_n (pc := 0) dX1_takeCover_0 rfl ?_
  refine J_aload_n (pc := 1) dX1_takeCover_1 rfl ?_
  refine J_getR (pc := 2) dX1_takeCover_2 fX1_22 sh39 rfl ?_
  refine J_getI (pc := 5) dX1_takeCover_5 fX1_105 (sv0 isV41) rfl (hD.1.2.2.1.trans hD.2.2.1.1) ?_
  refine J_iconst (pc := 8) (v := nI 5) dX1_takeCover_8 (by decide) ?_
  refine J_icmp_lt (pc := 9) (tgt := 16) dX1_takeCover_9 (by decide) (fun c9 => ?_) (fun c9 => ?_)
  · skip
    refine J_iconst (pc := 16) (v := nI 0) dX1_takeCover_16 (by decide) ?_
    refine J_iconst (pc := 17) (v := nI 5) dX1_takeCover_17 (by decide) ?_
    refine K_Vv2 (pc := 18) (Y' := YX1_refuseIf) dX1_takeCover_18 lX1_45 mX1_refuseIf vX1_refuseIf ⟨_, _, rfl⟩ sh39 (Nat.le_of_ble_eq_true rfl) (c1_refuseIf (b := decide (5 ≤ ix (D.2.1 37))) (c := 5) hs (bq_dec (bqf (fun z => absurd ((nIlt (by have := hD.2.2.1.2; omega) (by omega)).mp c9) (by omega)))) (by omega)) ?_
    rintro h1 ⟨hs1, f1⟩
    have hs1 : CT L (cov0 s D) h1 := hs1
    have T1 := hT.tf f1
    refine J_aload_n (pc := 21) dX1_takeCover_21 rfl ?_
    refine J_iconst (pc := 22) (v := nI 0) dX1_takeCover_22 (by decide) ?_
    refine J_iconst (pc := 23) (v := nI 3) dX1_takeCover_23 (by decide) ?_
    refine K_Vi2 (pc := 24) (Y' := YX1_takeNumber) dX1_takeCover_24 lX1_94 mX1_takeNumber vX1_takeNumber ⟨_, _, rfl⟩ sh39 (Nat.le_of_ble_eq_true rfl) (c1_takeNumber T1 hs1) ?_
    rintro x2 h2 ⟨⟨hs2, f2'⟩, ex2⟩
    have hs2 : CT L (cov1 L t s D) h2 := hs2
    have ex2 : x2 = sVal (cov1 L t s D) := ex2
    subst ex2
    have f2 := f1.tr f2'
    have T2 := hT.tf f2
    refine J_istore_n (pc := 27) dX1_takeCover_27 (by decide) ?_
    refine J_aload_n (pc := 28) dX1_takeCover_28 rfl ?_
    refine J_iconst (pc := 29) (v := nI 0) dX1_takeCover_29 (by decide) ?_
    refine J_iconst (pc := 30) (v := nI 3) dX1_takeCover_30 (by decide) ?_
    refine K_Vi2 (pc := 31) (Y' := YX1_takeNumber) dX1_takeCover_31 lX1_94 mX1_takeNumber vX1_takeNumber ⟨_, _, rfl⟩ sh39 (Nat.le_of_ble_eq_true rfl) (c1_takeNumber T2 hs2) ?_
    rintro x3 h3 ⟨⟨hs3, f3'⟩, ex3⟩
    have hs3 : CT L (cov2 L t s D) h3 := hs3
    have ex3 : x3 = sVal (cov2 L t s D) := ex3
    subst ex3
    have f3 := f2.tr f3'
    have T3 := hT.tf f3
    refine J_istore_n (pc := 34) dX1_takeCover_34 (by decide) ?_
    refine J_aload_n (pc := 35) dX1_takeCover_35 rfl ?_
    refine J_iload_n (pc := 36) dX1_takeCover_36 rfl ?_
    refine J_iload_n (pc := 37) dX1_takeCover_37 rfl ?_
    refine J_icmp_ne (pc := 38) (tgt := 45) dX1_takeCover_38 (by decide) (fun c38 => ?_) (fun c38 => ?_)
    · skip
      refine J_iconst (pc := 45) (v := nI 0) dX1_takeCover_45 (by decide) ?_
      refine J_iconst (pc := 46) (v := nI 3) dX1_takeCover_46 (by decide) ?_
      refine K_Vv2 (pc := 47) (Y' := YX1_refuseIf) dX1_takeCover_47 lX1_45 mX1_refuseIf vX1_refuseIf ⟨_, _, rfl⟩ sh39 (Nat.le_of_ble_eq_true rfl) (c1_refuseIf (b := decide (sVal (cov1 L t s D) = sVal (cov2 L t s D))) (c := 3) hs3 (bq_dec (bqf c38)) (by omega)) ?_
      rintro h4 ⟨hs4, f4'⟩
      have hs4 : CT L (cov3 L t s D) h4 := hs4
      have f4 := f3.tr f4'
      have T4 := hT.tf f4
      refine J_aload_n (pc := 50) dX1_takeCover_50 rfl ?_
      refine K_Vv0 (pc := 51) (Y' := YX1_advance) dX1_takeCover_51 lX1_32 mX1_advance vX1_advance ⟨_, _, rfl⟩ sh39 (Nat.le_of_ble_eq_true rfl) (c1_advance T4 hs4) ?_
      rintro h5 ⟨hs5, f5'⟩
      have f5 := f4.tr f5'
      have T5 := hT.tf f5
      refine J_aload_n (pc := 54) dX1_takeCover_54 rfl ?_
      refine K_Vi0 (pc := 55) (Y' := YX1_weatherHere) dX1_takeCover_55 lX1_108 mX1_weatherHere vX1_weatherHere ⟨_, _, rfl⟩ sh39 (Nat.le_of_ble_eq_true rfl) (c1_weatherHere T5 hs5) ?_
      rintro x6 h6 ⟨⟨hs6, f6'⟩, ex6⟩
      have hs6 : CT L (cov5 L t s D) h6 := hs6
      have ex6 : x6 = sWv t (cov5 L t s D) := ex6
      subst ex6
      have f6 := f5.tr f6'
      have T6 := hT.tf f6
      refine J_istore_n (pc := 58) dX1_takeCover_58 (by decide) ?_
      refine J_aload_n (pc := 59) dX1_takeCover_59 rfl ?_
      refine J_iconst (pc := 60) (v := nI 0) dX1_takeCover_60 (by decide) ?_
      refine J_bipush (pc := 61) (v := nI 20) dX1_takeCover_61 (by decide) ?_
      refine K_Vi2 (pc := 63) (Y' := YX1_takeNumber) dX1_takeCover_63 lX1_94 mX1_takeNumber vX1_takeNumber ⟨_, _, rfl⟩ sh39 (Nat.le_of_ble_eq_true rfl) (c1_takeNumber T6 hs6) ?_
      rintro x7 h7 ⟨⟨hs7, f7'⟩, ex7⟩
      have hs7 : CT L (cov6 L t s D) h7 := hs7
      have ex7 : x7 = sVal (cov6 L t s D) := ex7
      subst ex7
      have f7 := f6.tr f7'
      have T7 := hT.tf f7
      refine J_istore (pc := 66) dX1_takeCover_66 (by decide) ?_
      refine J_aload_n (pc := 68) dX1_takeCover_68 rfl ?_
      refine J_iconst (pc := 69) (v := nI 0) dX1_takeCover_69 (by decide) ?_
      refine J_bipush (pc := 70) (v := nI 9) dX1_takeCover_70 (by decide) ?_
      refine K_Vi2 (pc := 72) (Y' := YX1_takeNumber) dX1_takeCover_72 lX1_94 mX1_takeNumber vX1_takeNumber ⟨_, _, rfl⟩ sh39 (Nat.le_of_ble_eq_true rfl) (c1_takeNumber T7 hs7) ?_
      rintro x8 h8 ⟨⟨hs8, f8'⟩, ex8⟩
      have hs8 : CT L (cov7 L t s D) h8 := hs8
      have ex8 : x8 = sVal (cov7 L t s D) := ex8
      subst ex8
      have f8 := f7.tr f8'
      have T8 := hT.tf f8
      refine J_istore (pc := 75) dX1_takeCover_75 (by decide) ?_
      refine J_aload_n (pc := 77) dX1_takeCover_77 rfl ?_
      refine K_Vv0 (pc := 78) (Y' := YX1_takeSemicolon) dX1_takeCover_78 lX1_98 mX1_takeSemicolon vX1_takeSemicolon ⟨_, _, rfl⟩ sh39 (Nat.le_of_ble_eq_true rfl) (c1_takeSemicolon T8 hs8) ?_
      rintro h9 ⟨hs9, f9'⟩
      have f9 := f8.tr f9'
      have D9 := hD.tf f9
      refine J_aload_n (pc := 81) dX1_takeCover_81 rfl ?_
      refine J_getR (pc := 82) dX1_takeCover_82 fX1_22 sh39 rfl ?_
      refine J_iload_n (pc := 85) dX1_takeCover_85 rfl ?_
      refine J_iload_n (pc := 86) dX1_takeCover_86 rfl ?_
      refine J_iload_n (pc := 87) dX1_takeCover_87 rfl ?_
      refine J_iload (pc := 88) dX1_takeCover_88 rfl ?_
      refine J_iload (pc := 90) dX1_takeCover_90 rfl ?_
      refine K_Vv5 (pc := 92) (Y' := YX4_addCover) dX1_takeCover_92 lX1_111 mX4_addCover vX4_addCover ⟨_, _, rfl⟩ (sv0 isV41) (Nat.le_of_ble_eq_true rfl) (c4_addCoverQ (D9.1.2.2.1.trans D9.2.2.1.1) D9.2.2.1.2) ?_
      rintro h10 rfl
      refine K_ret (pc := 95) dX1_takeCover_95 rfl ?_
      exact ⟨hs9.fr acQ_fr, CD_cov D9, f9.df.tr acQ_fr.df⟩
    · skip
      refine J_iconst (pc := 41) (v := nI 1) dX1_takeCover_41 (by decide) ?_
      refine J_goto (pc := 42) (tgt := 46) dX1_takeCover_42 (by decide) ?_
      refine J_iconst (pc := 46) (v := nI 3) dX1_takeCover_46 (by decide) ?_
      refine K_Vv2 (pc := 47) (Y' := YX1_refuseIf) dX1_takeCover_47 lX1_45 mX1_refuseIf vX1_refuseIf ⟨_, _, rfl⟩ sh39 (Nat.le_of_ble_eq_true rfl) (c1_refuseIf (b := decide (sVal (cov1 L t s D) = sVal (cov2 L t s D))) (c := 3) hs3 (bq_dec (bqt c38)) (by omega)) ?_
      rintro h4 ⟨hs4, f4'⟩
      have hs4 : CT L (cov3 L t s D) h4 := hs4
      have f4 := f3.tr f4'
      have T4 := hT.tf f4
      refine J_aload_n (pc := 50) dX1_takeCover_50 rfl ?_
      refine K_Vv0 (pc := 51) (Y' := YX1_advance) dX1_takeCover_51 lX1_32 mX1_advance vX1_advance ⟨_, _, rfl⟩ sh39 (Nat.le_of_ble_eq_true rfl) (c1_advance T4 hs4) ?_
      rintro h5 ⟨hs5, f5'⟩
      have f5 := f4.tr f5'
      have T5 := hT.tf f5
      refine J_aload_n (pc := 54) dX1_takeCover_54 rfl ?_
      refine K_Vi0 (pc := 55) (Y' := YX1_weatherHere) dX1_takeCover_55 lX1_108 mX1_weatherHere vX1_weatherHere ⟨_, _, rfl⟩ sh39 (Nat.le_of_ble_eq_true rfl) (c1_weatherHere T5 hs5) ?_
      rintro x6 h6 ⟨⟨hs6, f6'⟩, ex6⟩
      have hs6 : CT L (cov5 L t s D) h6 := hs6
      have ex6 : x6 = sWv t (cov5 L t s D) := ex6
      subst ex6
      have f6 := f5.tr f6'
      have T6 := hT.tf f6
      refine J_istore_n (pc := 58) dX1_takeCover_58 (by decide) ?_
      refine J_aload_n (pc := 59) dX1_takeCover_59 rfl ?_
      refine J_iconst (pc := 60) (v := nI 0) dX1_takeCover_60 (by decide) ?_
      refine J_bipush (pc := 61) (v := nI 20) dX1_takeCover_61 (by decide) ?_
      refine K_Vi2 (pc := 63) (Y' := YX1_takeNumber) dX1_takeCover_63 lX1_94 mX1_takeNumber vX1_takeNumber ⟨_, _, rfl⟩ sh39 (Nat.le_of_ble_eq_true rfl) (c1_takeNumber T6 hs6) ?_
      rintro x7 h7 ⟨⟨hs7, f7'⟩, ex7⟩
      have hs7 : CT L (cov6 L t s D) h7 := hs7
      have ex7 : x7 = sVal (cov6 L t s D) := ex7
      subst ex7
      have f7 := f6.tr f7'
      have T7 := hT.tf f7
      refine J_istore (pc := 66) dX1_takeCover_66 (by decide) ?_
      refine J_aload_n (pc := 68) dX1_takeCover_68 rfl ?_
      refine J_iconst (pc := 69) (v := nI 0) dX1_takeCover_69 (by decide) ?_
      refine J_bipush (pc := 70) (v := nI 9) dX1_takeCover_70 (by decide) ?_
      refine K_Vi2 (pc := 72) (Y' := YX1_takeNumber) dX1_takeCover_72 lX1_94 mX1_takeNumber vX1_takeNumber ⟨_, _, rfl⟩ sh39 (Nat.le_of_ble_eq_true rfl) (c1_takeNumber T7 hs7) ?_
      rintro x8 h8 ⟨⟨hs8, f8'⟩, ex8⟩
      have hs8 : CT L (cov7 L t s D) h8 := hs8
      have ex8 : x8 = sVal (cov7 L t s D) := ex8
      subst ex8
      have f8 := f7.tr f8'
      have T8 := hT.tf f8
      refine J_istore (pc := 75) dX1_takeCover_75 (by decide) ?_
      refine J_aload_n (pc := 77) dX1_takeCover_77 rfl ?_
      refine K_Vv0 (pc := 78) (Y' := YX1_takeSemicolon) dX1_takeCover_78 lX1_98 mX1_takeSemicolon vX1_takeSemicolon ⟨_, _, rfl⟩ sh39 (Nat.le_of_ble_eq_true rfl) (c1_takeSemicolon T8 hs8) ?_
      rintro h9 ⟨hs9, f9'⟩
      have f9 := f8.tr f9'
      have D9 := hD.tf f9
      refine J_aload_n (pc := 81) dX1_takeCover_81 rfl ?_
      refine J_getR (pc := 82) dX1_takeCover_82 fX1_22 sh39 rfl ?_
      refine J_iload_n (pc := 85) dX1_takeCover_85 rfl ?_
      refine J_iload_n (pc := 86) dX1_takeCover_86 rfl ?_
      refine J_iload_n (pc := 87) dX1_takeCover_87 rfl ?_
      refine J_iload (pc := 88) dX1_takeCover_88 rfl ?_
      refine J_iload (pc := 90) dX1_takeCover_90 rfl ?_
      refine K_Vv5 (pc := 92) (Y' := YX4_addCover) dX1_takeCover_92 lX1_111 mX4_addCover vX4_addCover ⟨_, _, rfl⟩ (sv0 isV41) (Nat.le_of_ble_eq_true rfl) (c4_addCoverQ (D9.1.2.2.1.trans D9.2.2.1.1) D9.2.2.1.2) ?_
      rintro h10 rfl
      refine K_ret (pc := 95) dX1_takeCover_95 rfl ?_
      exact ⟨hs9.fr acQ_fr, CD_cov D9, f9.df.tr acQ_fr.df⟩
  · skip
    refine J_iconst (pc := 12) (v := nI 1) dX1_takeCover_12 (by decide) ?_
    refine J_goto (pc := 13) (tgt := 17) dX1_takeCover_13 (by decide) ?_
    refine J_iconst (pc := 17) (v := nI 5) dX1_takeCover_17 (by decide) ?_
    refine K_Vv2 (pc := 18) (Y' := YX1_refuseIf) dX1_takeCover_18 lX1_45 mX1_refuseIf vX1_refuseIf ⟨_, _, rfl⟩ sh39 (Nat.le_of_ble_eq_true rfl) (c1_refuseIf (b := decide (5 ≤ ix (D.2.1 37))) (c := 5) hs (bq_dec (bqt (Nat.le_of_not_lt (fun z => c9 ((nIlt (by have := hD.2.2.1.2; omega) (by omega)).mpr z))))) (by omega)) ?_
    rintro h1 ⟨hs1, f1⟩
    have hs1 : CT L (cov0 s D) h1 := hs1
    have T1 := hT.tf f1
    refine J_aload_n (pc := 21) dX1_takeCover_21 rfl ?_
    refine J_iconst (pc := 22) (v := nI 0) dX1_takeCover_22 (by decide) ?_
    refine J_iconst (pc := 23) (v := nI 3) dX1_takeCover_23 (by decide) ?_
    refine K_Vi2 (pc := 24) (Y' := YX1_takeNumber) dX1_takeCover_24 lX1_94 mX1_takeNumber vX1_takeNumber ⟨_, _, rfl⟩ sh39 (Nat.le_of_ble_eq_true rfl) (c1_takeNumber T1 hs1) ?_
    rintro x2 h2 ⟨⟨hs2, f2'⟩, ex2⟩
    have hs2 : CT L (cov1 L t s D) h2 := hs2
    have ex2 : x2 = sVal (cov1 L t s D) := ex2
    subst ex2
    have f2 := f1.tr f2'
    have T2 := hT.tf f2
    refine J_istore_n (pc := 27) dX1_takeCover_27 (by decide) ?_
    refine J_aload_n (pc := 28) dX1_takeCover_28 rfl ?_
    refine J_iconst (pc := 29) (v := nI 0) dX1_takeCover_29 (by decide) ?_
    refine J_iconst (pc := 30) (v := nI 3) dX1_takeCover_30 (by decide) ?_
    refine K_Vi2 (pc := 31) (Y' := YX1_takeNumber) dX1_takeCover_31 lX1_94 mX1_takeNumber vX1_takeNumber ⟨_, _, rfl⟩ sh39 (Nat.le_of_ble_eq_true rfl) (c1_takeNumber T2 hs2) ?_
    rintro x3 h3 ⟨⟨hs3, f3'⟩, ex3⟩
    have hs3 : CT L (cov2 L t s D) h3 := hs3
    have ex3 : x3 = sVal (cov2 L t s D) := ex3
    subst ex3
    have f3 := f2.tr f3'
    have T3 := hT.tf f3
    refine J_istore_n (pc := 34) dX1_takeCover_34 (by decide) ?_
    refine J_aload_n (pc := 35) dX1_takeCover_35 rfl ?_
    refine J_iload_n (pc := 36) dX1_takeCover_36 rfl ?_
    refine J_iload_n (pc := 37) dX1_takeCover_37 rfl ?_
    refine J_icmp_ne (pc := 38) (tgt := 45) dX1_takeCover_38 (by decide) (fun c38 => ?_) (fun c38 => ?_)
    · skip
      refine J_iconst (pc := 45) (v := nI 0) dX1_takeCover_45 (by decide) ?_
      refine J_iconst (pc := 46) (v := nI 3) dX1_takeCover_46 (by decide) ?_
      refine K_Vv2 (pc := 47) (Y' := YX1_refuseIf) dX1_takeCover_47 lX1_45 mX1_refuseIf vX1_refuseIf ⟨_, _, rfl⟩ sh39 (Nat.le_of_ble_eq_true rfl) (c1_refuseIf (b := decide (sVal (cov1 L t s D) = sVal (cov2 L t s D))) (c := 3) hs3 (bq_dec (bqf c38)) (by omega)) ?_
      rintro h4 ⟨hs4, f4'⟩
      have hs4 : CT L (cov3 L t s D) h4 := hs4
      have f4 := f3.tr f4'
      have T4 := hT.tf f4
      refine J_aload_n (pc := 50) dX1_takeCover_50 rfl ?_
      refine K_Vv0 (pc := 51) (Y' := YX1_advance) dX1_takeCover_51 lX1_32 mX1_advance vX1_advance ⟨_, _, rfl⟩ sh39 (Nat.le_of_ble_eq_true rfl) (c1_advance T4 hs4) ?_
      rintro h5 ⟨hs5, f5'⟩
      have f5 := f4.tr f5'
      have T5 := hT.tf f5
      refine J_aload_n (pc := 54) dX1_takeCover_54 rfl ?_
      refine K_Vi0 (pc := 55) (Y' := YX1_weatherHere) dX1_takeCover_55 lX1_108 mX1_weatherHere vX1_weatherHere ⟨_, _, rfl⟩ sh39 (Nat.le_of_ble_eq_true rfl) (c1_weatherHere T5 hs5) ?_
      rintro x6 h6 ⟨⟨hs6, f6'⟩, ex6⟩
      have hs6 : CT L (cov5 L t s D) h6 := hs6
      have ex6 : x6 = sWv t (cov5 L t s D) := ex6
      subst ex6
      have f6 := f5.tr f6'
      have T6 := hT.tf f6
      refine J_istore_n (pc := 58) dX1_takeCover_58 (by decide) ?_
      refine J_aload_n (pc := 59) dX1_takeCover_59 rfl ?_
      refine J_iconst (pc := 60) (v := nI 0) dX1_takeCover_60 (by decide) ?_
      refine J_bipush (pc := 61) (v := nI 20) dX1_takeCover_61 (by decide) ?_
      refine K_Vi2 (pc := 63) (Y' := YX1_takeNumber) dX1_takeCover_63 lX1_94 mX1_takeNumber vX1_takeNumber ⟨_, _, rfl⟩ sh39 (Nat.le_of_ble_eq_true rfl) (c1_takeNumber T6 hs6) ?_
      rintro x7 h7 ⟨⟨hs7, f7'⟩, ex7⟩
      have hs7 : CT L (cov6 L t s D) h7 := hs7
      have ex7 : x7 = sVal (cov6 L t s D) := ex7
      subst ex7
      have f7 := f6.tr f7'
      have T7 := hT.tf f7
      refine J_istore (pc := 66) dX1_takeCover_66 (by decide) ?_
      refine J_aload_n (pc := 68) dX1_takeCover_68 rfl ?_
      refine J_iconst (pc := 69) (v := nI 0) dX1_takeCover_69 (by decide) ?_
      refine J_bipush (pc := 70) (v := nI 9) dX1_takeCover_70 (by decide) ?_
      refine K_Vi2 (pc := 72) (Y' := YX1_takeNumber) dX1_takeCover_72 lX1_94 mX1_takeNumber vX1_takeNumber ⟨_, _, rfl⟩ sh39 (Nat.le_of_ble_eq_true rfl) (c1_takeNumber T7 hs7) ?_
      rintro x8 h8 ⟨⟨hs8, f8'⟩, ex8⟩
      have hs8 : CT L (cov7 L t s D) h8 := hs8
      have ex8 : x8 = sVal (cov7 L t s D) := ex8
      subst ex8
      have f8 := f7.tr f8'
      have T8 := hT.tf f8
      refine J_istore (pc := 75) dX1_takeCover_75 (by decide) ?_
      refine J_aload_n (pc := 77) dX1_takeCover_77 rfl ?_
      refine K_Vv0 (pc := 78) (Y' := YX1_takeSemicolon) dX1_takeCover_78 lX1_98 mX1_takeSemicolon vX1_takeSemicolon ⟨_, _, rfl⟩ sh39 (Nat.le_of_ble_eq_true rfl) (c1_takeSemicolon T8 hs8) ?_
      rintro h9 ⟨hs9, f9'⟩
      have f9 := f8.tr f9'
      have D9 := hD.tf f9
      refine J_aload_n (pc := 81) dX1_takeCover_81 rfl ?_
      refine J_getR (pc := 82) dX1_takeCover_82 fX1_22 sh39 rfl ?_
      refine J_iload_n (pc := 85) dX1_takeCover_85 rfl ?_
      refine J_iload_n (pc := 86) dX1_takeCover_86 rfl ?_
      refine J_iload_n (pc := 87) dX1_takeCover_87 rfl ?_
      refine J_iload (pc := 88) dX1_takeCover_88 rfl ?_
      refine J_iload (pc := 90) dX1_takeCover_90 rfl ?_
      refine K_Vv5 (pc := 92) (Y' := YX4_addCover) dX1_takeCover_92 lX1_111 mX4_addCover vX4_addCover ⟨_, _, rfl⟩ (sv0 isV41) (Nat.le_of_ble_eq_true rfl) (c4_addCoverQ (D9.1.2.2.1.trans D9.2.2.1.1) D9.2.2.1.2) ?_
      rintro h10 rfl
      refine K_ret (pc := 95) dX1_takeCover_95 rfl ?_
      exact ⟨hs9.fr acQ_fr, CD_cov D9, f9.df.tr acQ_fr.df⟩
    · skip
      refine J_iconst (pc := 41) (v := nI 1) dX1_takeCover_41 (by decide) ?_
      refine J_goto (pc := 42) (tgt := 46) dX1_takeCover_42 (by decide) ?_
      refine J_iconst (pc := 46) (v := nI 3) dX1_takeCover_46 (by decide) ?_
      refine K_Vv2 (pc := 47) (Y' := YX1_refuseIf) dX1_takeCover_47 lX1_45 mX1_refuseIf vX1_refuseIf ⟨_, _, rfl⟩ sh39 (Nat.le_of_ble_eq_true rfl) (c1_refuseIf (b := decide (sVal (cov1 L t s D) = sVal (cov2 L t s D))) (c := 3) hs3 (bq_dec (bqt c38)) (by omega)) ?_
      rintro h4 ⟨hs4, f4'⟩
      have hs4 : CT L (cov3 L t s D) h4 := hs4
      have f4 := f3.tr f4'
      have T4 := hT.tf f4
      refine J_aload_n (pc := 50) dX1_takeCover_50 rfl ?_
      refine K_Vv0 (pc := 51) (Y' := YX1_advance) dX1_takeCover_51 lX1_32 mX1_advance vX1_advance ⟨_, _, rfl⟩ sh39 (Nat.le_of_ble_eq_true rfl) (c1_advance T4 hs4) ?_
      rintro h5 ⟨hs5, f5'⟩
      have f5 := f4.tr f5'
      have T5 := hT.tf f5
      refine J_aload_n (pc := 54) dX1_takeCover_54 rfl ?_
      refine K_Vi0 (pc := 55) (Y' := YX1_weatherHere) dX1_takeCover_55 lX1_108 mX1_weatherHere vX1_weatherHere ⟨_, _, rfl⟩ sh39 (Nat.le_of_ble_eq_true rfl) (c1_weatherHere T5 hs5) ?_
      rintro x6 h6 ⟨⟨hs6, f6'⟩, ex6⟩
      have hs6 : CT L (cov5 L t s D) h6 := hs6
      have ex6 : x6 = sWv t (cov5 L t s D) := ex6
      subst ex6
      have f6 := f5.tr f6'
      have T6 := hT.tf f6
      refine J_istore_n (pc := 58) dX1_takeCover_58 (by decide) ?_
      refine J_aload_n (pc := 59) dX1_takeCover_59 rfl ?_
      refine J_iconst (pc := 60) (v := nI 0) dX1_takeCover_60 (by decide) ?_
      refine J_bipush (pc := 61) (v := nI 20) dX1_takeCover_61 (by decide) ?_
      refine K_Vi2 (pc := 63) (Y' := YX1_takeNumber) dX1_takeCover_63 lX1_94 mX1_takeNumber vX1_takeNumber ⟨_, _, rfl⟩ sh39 (Nat.le_of_ble_eq_true rfl) (c1_takeNumber T6 hs6) ?_
      rintro x7 h7 ⟨⟨hs7, f7'⟩, ex7⟩
      have hs7 : CT L (cov6 L t s D) h7 := hs7
      have ex7 : x7 = sVal (cov6 L t s D) := ex7
      subst ex7
      have f7 := f6.tr f7'
      have T7 := hT.tf f7
      refine J_istore (pc := 66) dX1_takeCover_66 (by decide) ?_
      refine J_aload_n (pc := 68) dX1_takeCover_68 rfl ?_
      refine J_iconst (pc := 69) (v := nI 0) dX1_takeCover_69 (by decide) ?_
      refine J_bipush (pc := 70) (v := nI 9) dX1_takeCover_70 (by decide) ?_
      refine K_Vi2 (pc := 72) (Y' := YX1_takeNumber) dX1_takeCover_72 lX1_94 mX1_takeNumber vX1_takeNumber ⟨_, _, rfl⟩ sh39 (Nat.le_of_ble_eq_true rfl) (c1_takeNumber T7 hs7) ?_
      rintro x8 h8 ⟨⟨hs8, f8'⟩, ex8⟩
      have hs8 : CT L (cov7 L t s D) h8 := hs8
      have ex8 : x8 = sVal (cov7 L t s D) := ex8
      subst ex8
      have f8 := f7.tr f8'
      have T8 := hT.tf f8
      refine J_istore (pc := 75) dX1_takeCover_75 (by decide) ?_
      refine J_aload_n (pc := 77) dX1_takeCover_77 rfl ?_
      refine K_Vv0 (pc := 78) (Y' := YX1_takeSemicolon) dX1_takeCover_78 lX1_98 mX1_takeSemicolon vX1_takeSemicolon ⟨_, _, rfl⟩ sh39 (Nat.le_of_ble_eq_true rfl) (c1_takeSemicolon T8 hs8) ?_
      rintro h9 ⟨hs9, f9'⟩
      have f9 := f8.tr f9'
      have D9 := hD.tf f9
      refine J_aload_n (pc := 81) dX1_takeCover_81 rfl ?_
      refine J_getR (pc := 82) dX1_takeCover_82 fX1_22 sh39 rfl ?_
      refine J_iload_n (pc := 85) dX1_takeCover_85 rfl ?_
      refine J_iload_n (pc := 86) dX1_takeCover_86 rfl ?_
      refine J_iload_n (pc := 87) dX1_takeCover_87 rfl ?_
      refine J_iload (pc := 88) dX1_takeCover_88 rfl ?_
      refine J_iload (pc := 90) dX1_takeCover_90 rfl ?_
      refine K_Vv5 (pc := 92) (Y' := YX4_addCover) dX1_takeCover_92 lX1_111 mX4_addCover vX4_addCover ⟨_, _, rfl⟩ (sv0 isV41) (Nat.le_of_ble_eq_true rfl) (c4_addCoverQ (D9.1.2.2.1.trans D9.2.2.1.1) D9.2.2.1.2) ?_
      rintro h10 rfl
      refine K_ret (pc := 95) dX1_takeCover_95 rfl ?_
      exact ⟨hs9.fr acQ_fr, CD_cov D9, f9.df.tr acQ_fr.df⟩
set_option maxHeartbeats 200000 in
theorem c1_takeOdds {g : jG} {d : Nat} {h : jH} {L : Nat} {t : Nat → Int32} {s : sS} {D : sD} (hT : TP L t h) (hs : CT L s h) (hD : CD D h) : Mv g (d + 4) YX1_takeOdds h [.ref 39] (fun h' => LQ L (lOdd L t s D) h h') := by
  refine M.of (by decide) rfl (Nat.le_of_ble_eq_true rfl) ?_
  refine J_aload_n (pc := 0) dX1_takeOdds_0 rfl ?_
  refine J_aload_n (pc := 1) dX1_takeOdds_1 rfl ?_
  refine J_getI (pc := 2) dX1_takeOdds_2 fX1_58 sh39 rfl (hD.2.2.2.2.1.1) ?_
  refine J_iconst (pc := 5) (v := nI 4) dX1_takeOdds_5 (by decide) ?_
  refine K_Vv2 (pc := 6) (Y' := YX1_refuseIf) dX1_takeOdds_6 lX1_45 mX1_refuseIf vX1_refuseIf ⟨_, _, rfl⟩ sh39 (Nat.le_of_ble_eq_true rfl) (c1_refuseIf (b := D.2.2.1) (c := 4) hs (bI_bq) (by omega)) ?_
  rintro h0 ⟨hs0, f0⟩
  have D1 : CD (dTo D) (j_up h0 39 8 (nI 1)) := CD_to (hD.tf f0)
  have hs1 : CT L (odd0 s D) (j_up h0 39 8 (nI 1)) := hs0.up (by omega)
  have f1 : df h (j_up h0 39 8 (nI 1)) := f0.df.tr (df_up (by omega))
  have T1 := hT.df f1
  refine J_aload_n (pc := 9) dX1_takeOdds_9 rfl ?_
  refine J_iconst (pc := 10) (v := nI 1) dX1_takeOdds_10 (by decide) ?_
  refine J_putZ (pc := 11) dX1_takeOdds_11 fX1_58 sh39 rfl (by decide) ?_
  refine J_bipush (pc := 14) (v := nI 10) dX1_takeOdds_14 (by decide) ?_
  refine J_istore_n (pc := 16) dX1_takeOdds_16 (by decide) ?_
  refine J_iconst (pc := 17) (v := nI 0) dX1_takeOdds_17 (by decide) ?_
  refine J_istore_n (pc := 18) dX1_takeOdds_18 (by decide) ?_
  refine J_iload_n (pc := 19) dX1_takeOdds_19 rfl ?_
  refine J_iconst (pc := 20) (v := nI 3) dX1_takeOdds_20 (by decide) ?_
  refine J_icmp_ge (pc := 21) (tgt := 57) dX1_takeOdds_21 (by decide) (fun c => absurd c (by decide)) (fun _ => ?_)
  refine J_aload_n (pc := 24) dX1_takeOdds_24 rfl ?_
  refine J_getR (pc := 25) dX1_takeOdds_25 fX1_22 sh39 rfl ?_
  refine J_getR (pc := 28) dX1_takeOdds_28 fX1_115 (sv0 isV41) rfl ?_
  refine J_iload_n (pc := 31) dX1_takeOdds_31 rfl ?_
  refine J_aload_n (pc := 32) dX1_takeOdds_32 rfl ?_
  refine J_iconst (pc := 33) (v := nI 0) dX1_takeOdds_33 (by decide) ?_
  refine J_iload_n (pc := 34) dX1_takeOdds_34 rfl ?_
  refine K_Vi2 (pc := 35) (Y' := YX1_takeNumber) dX1_takeOdds_35 lX1_94 mX1_takeNumber vX1_takeNumber ⟨_, _, rfl⟩ sh39 (Nat.le_of_ble_eq_true rfl) (c1_takeNumber T1 hs1) ?_
  rintro x2 h2' ⟨⟨hs2', f2'⟩, ex2⟩
  have hs2' : CT L (odd1 L t s D) h2' := hs2'
  have ex2 : x2 = sVal (odd1 L t s D) := ex2
  subst ex2
  have D2' : CD (dTo D) h2' := D1.tf f2'
  refine J_iast (pc := 38) dX1_takeOdds_38 (sv11 isV41) (rfl) (by omega) (by decide) ?_
  have D2 : CD (dOdd 0 (sVal (odd1 L t s D)) (dTo D)) (j_up h2' (41 + 11) 0 (sVal (odd1 L t s D))) := CD_odd D2' (by omega)
  have hs2 : CT L (odd1 L t s D) (j_up h2' (41 + 11) 0 (sVal (odd1 L t s D))) := hs2'.fr (fr_up fr.rf (by omega) (by omega))
  have f2 : df h (j_up h2' (41 + 11) 0 (sVal (odd1 L t s D))) := (f1.tr f2'.df).tr (fr.df (fr_up fr.rf (by omega) (by omega)))
  have T2 := hT.df f2
  refine J_iload_n (pc := 39) dX1_takeOdds_39 rfl ?_
  refine J_aload_n (pc := 40) dX1_takeOdds_40 rfl ?_
  refine J_getR (pc := 41) dX1_takeOdds_41 fX1_22 sh39 rfl ?_
  refine J_getR (pc := 44) dX1_takeOdds_44 fX1_115 (sv0 isV41) rfl ?_
  refine J_iload_n (pc := 47) dX1_takeOdds_47 rfl ?_
  refine J_iald (pc := 48) dX1_takeOdds_48 (sv11 isV41) (rfl) (by omega) (j_up_s) (by decide) ?_
  refine J_isub (pc := 49) dX1_takeOdds_49 (rfl) ?_
  refine J_istore_n (pc := 50) dX1_takeOdds_50 (by decide) ?_
  refine J_iinc (pc := 51) dX1_takeOdds_51 rfl (v := nI 1) (by decide) (by decide) ?_
  refine J_goto (pc := 54) (tgt := 19) dX1_takeOdds_54 (by decide) ?_
  refine J_iload_n (pc := 19) dX1_takeOdds_19 rfl ?_
  refine J_iconst (pc := 20) (v := nI 3) dX1_takeOdds_20 (by decide) ?_
  refine J_icmp_ge (pc := 21) (tgt := 57) dX1_takeOdds_21 (by decide) (fun c => absurd c (by decide)) (fun _ => ?_)
  refine J_aload_n (pc := 24) dX1_takeOdds_24 rfl ?_
  refine J_getR (pc := 25) dX1_takeOdds_25 fX1_22 sh39 rfl ?_
  refine J_getR (pc := 28) dX1_takeOdds_28 fX1_115 (sv0 isV41) rfl ?_
  refine J_iload_n (pc := 31) dX1_takeOdds_31 rfl ?_
  refine J_aload_n (pc := 32) dX1_takeOdds_32 rfl ?_
  refine J_iconst (pc := 33) (v := nI 0) dX1_takeOdds_33 (by decide) ?_
  refine J_iload_n (pc := 34) dX1_takeOdds_34 rfl ?_
  refine K_Vi2 (pc := 35) (Y' := YX1_takeNumber) dX1_takeOdds_35 lX1_94 mX1_takeNumber vX1_takeNumber ⟨_, _, rfl⟩ sh39 (Nat.le_of_ble_eq_true rfl) (c1_takeNumber T2 hs2) ?_
  rintro x3 h3' ⟨⟨hs3', f3'⟩, ex3⟩
  have hs3' : CT L (odd2 L t s D) h3' := hs3'
  have ex3 : x3 = sVal (odd2 L t s D) := ex3
  subst ex3
  have D3' : CD (dOdd 0 (sVal (odd1 L t s D)) (dTo D)) h3' := D2.tf f3'
  refine J_iast (pc := 38) dX1_takeOdds_38 (sv11 isV41) (rfl) (by omega) (by decide) ?_
  have D3 : CD (dOdd 1 (sVal (odd2 L t s D)) (dOdd 0 (sVal (odd1 L t s D)) (dTo D))) (j_up h3' (41 + 11) 1 (sVal (odd2 L t s D))) := CD_odd D3' (by omega)
  have hs3 : CT L (odd2 L t s D) (j_up h3' (41 + 11) 1 (sVal (odd2 L t s D))) := hs3'.fr (fr_up fr.rf (by omega) (by omega))
  have f3 : df h (j_up h3' (41 + 11) 1 (sVal (odd2 L t s D))) := (f2.tr f3'.df).tr (fr.df (fr_up fr.rf (by omega) (by omega)))
  have T3 := hT.df f3
  refine J_iload_n (pc := 39) dX1_takeOdds_39 rfl ?_
  refine J_aload_n (pc := 40) dX1_takeOdds_40 rfl ?_
  refine J_getR (pc := 41) dX1_takeOdds_41 fX1_22 sh39 rfl ?_
  refine J_getR (pc := 44) dX1_takeOdds_44 fX1_115 (sv0 isV41) rfl ?_
  refine J_iload_n (pc := 47) dX1_takeOdds_47 rfl ?_
  refine J_iald (pc := 48) dX1_takeOdds_48 (sv11 isV41) (rfl) (by omega) (j_up_s) (by decide) ?_
  refine J_isub (pc := 49) dX1_takeOdds_49 (rfl) ?_
  refine J_istore_n (pc := 50) dX1_takeOdds_50 (by decide) ?_
  refine J_iinc (pc := 51) dX1_takeOdds_51 rfl (v := nI 2) (by decide) (by decide) ?_
  refine J_goto (pc := 54) (tgt := 19) dX1_takeOdds_54 (by decide) ?_
  refine J_iload_n (pc := 19) dX1_takeOdds_19 rfl ?_
  refine J_iconst (pc := 20) (v := nI 3) dX1_takeOdds_20 (by decide) ?_
  refine J_icmp_ge (pc := 21) (tgt := 57) dX1_takeOdds_21 (by decide) (fun c => absurd c (by decide)) (fun _ => ?_)
  refine J_aload_n (pc := 24) dX1_takeOdds_24 rfl ?_
  refine J_getR (pc := 25) dX1_takeOdds_25 fX1_22 sh39 rfl ?_
  refine J_getR (pc := 28) dX1_takeOdds_28 fX1_115 (sv0 isV41) rfl ?_
  refine J_iload_n (pc := 31) dX1_takeOdds_31 rfl ?_
  refine J_aload_n (pc := 32) dX1_takeOdds_32 rfl ?_
  refine J_iconst (pc := 33) (v := nI 0) dX1_takeOdds_33 (by decide) ?_
  refine J_iload_n (pc := 34) dX1_takeOdds_34 rfl ?_
  refine K_Vi2 (pc := 35) (Y' := YX1_takeNumber) dX1_takeOdds_35 lX1_94 mX1_takeNumber vX1_takeNumber ⟨_, _, rfl⟩ sh39 (Nat.le_of_ble_eq_true rfl) (c1_takeNumber T3 hs3) ?_
  rintro x4 h4' ⟨⟨hs4', f4'⟩, ex4⟩
  have hs4' : CT L (odd3 L t s D) h4' := hs4'
  have ex4 : x4 = sVal (odd3 L t s D) := ex4
  subst ex4
  have D4' : CD (dOdd 1 (sVal (odd2 L t s D)) (dOdd 0 (sVal (odd1 L t s D)) (dTo D))) h4' := D3.tf f4'
  refine J_iast (pc := 38) dX1_takeOdds_38 (sv11 isV41) (rfl) (by omega) (by decide) ?_
  have D4 : CD (dOdd 2 (sVal (odd3 L t s D)) (dOdd 1 (sVal (odd2 L t s D)) (dOdd 0 (sVal (odd1 L t s D)) (dTo D)))) (j_up h4' (41 + 11) 2 (sVal (odd3 L t s D))) := CD_odd D4' (by omega)
  have hs4 : CT L (odd3 L t s D) (j_up h4' (41 + 11) 2 (sVal (odd3 L t s D))) := hs4'.fr (fr_up fr.rf (by omega) (by omega))
  have f4 : df h (j_up h4' (41 + 11) 2 (sVal (odd3 L t s D))) := (f3.tr f4'.df).tr (fr.df (fr_up fr.rf (by omega) (by omega)))
  have T4 := hT.df f4
  refine J_iload_n (pc := 39) dX1_takeOdds_39 rfl ?_
  refine J_aload_n (pc := 40) dX1_takeOdds_40 rfl ?_
  refine J_getR (pc := 41) dX1_takeOdds_41 fX1_22 sh39 rfl ?_
  refine J_getR (pc := 44) dX1_takeOdds_44 fX1_115 (sv0 isV41) rfl ?_
  refine J_iload_n (pc := 47) dX1_takeOdds_47 rfl ?_
  refine J_iald (pc := 48) dX1_takeOdds_48 (sv11 isV41) (rfl) (by omega) (j_up_s) (by decide) ?_
  refine J_isub (pc := 49) dX1_takeOdds_49 (rfl) ?_
  refine J_istore_n (pc := 50) dX1_takeOdds_50 (by decide) ?_
  refine J_iinc (pc := 51) dX1_takeOdds_51 rfl (v := nI 3) (by decide) (by decide) ?_
  refine J_goto (pc := 54) (tgt := 19) dX1_takeOdds_54 (by decide) ?_
  refine J_iload_n (pc := 19) dX1_takeOdds_19 rfl ?_
  refine J_iconst (pc := 20) (v := nI 3) dX1_takeOdds_20 (by decide) ?_
  refine J_icmp_ge (pc := 21) (tgt := 57) dX1_takeOdds_21 (by decide) (fun _ => ?_) (fun c => absurd c (by decide))
  refine J_aload_n (pc := 57) dX1_takeOdds_57 rfl ?_
  refine J_getR (pc := 58) dX1_takeOdds_58 fX1_22 sh39 rfl ?_
  refine J_getR (pc := 61) dX1_takeOdds_61 fX1_115 (sv0 isV41) rfl ?_
  refine J_iconst (pc := 64) (v := nI 3) dX1_takeOdds_64 (by decide) ?_
  refine J_aload_n (pc := 65) dX1_takeOdds_65 rfl ?_
  refine J_iload_n (pc := 66) dX1_takeOdds_66 rfl ?_
  refine J_iload_n (pc := 67) dX1_takeOdds_67 rfl ?_
  refine K_Vi2 (pc := 68) (Y' := YX1_takeNumber) dX1_takeOdds_68 lX1_94 mX1_takeNumber vX1_takeNumber ⟨_, _, rfl⟩ sh39 (Nat.le_of_ble_eq_true rfl) (c1_takeNumber T4 hs4) ?_
  rintro x5 h5' ⟨⟨hs5', f5'⟩, ex5⟩
  have hs5' : CT L (odd4 L t s D) h5' := hs5'
  have ex5 : x5 = sVal (odd4 L t s D) := ex5
  subst ex5
  have D5' : CD (dOdd 2 (sVal (odd3 L t s D)) (dOdd 1 (sVal (odd2 L t s D)) (dOdd 0 (sVal (odd1 L t s D)) (dTo D)))) h5' := D4.tf f5'
  refine J_iast (pc := 71) dX1_takeOdds_71 (sv11 isV41) (rfl) (by omega) (by decide) ?_
  have D5 : CD (dOdd 3 (sVal (odd4 L t s D)) (dOdd 2 (sVal (odd3 L t s D)) (dOdd 1 (sVal (odd2 L t s D)) (dOdd 0 (sVal (odd1 L t s D)) (dTo D))))) (j_up h5' (41 + 11) 3 (sVal (odd4 L t s D))) := CD_odd D5' (by omega)
  have hs5 : CT L (odd4 L t s D) (j_up h5' (41 + 11) 3 (sVal (odd4 L t s D))) := hs5'.fr (fr_up fr.rf (by omega) (by omega))
  have f5 : df h (j_up h5' (41 + 11) 3 (sVal (odd4 L t s D))) := (f4.tr f5'.df).tr (fr.df (fr_up fr.rf (by omega) (by omega)))
  have T5 := hT.df f5
  refine J_aload_n (pc := 72) dX1_takeOdds_72 rfl ?_
  refine K_Vv0 (pc := 73) (Y' := YX1_takeSemicolon) dX1_takeOdds_73 lX1_98 mX1_takeSemicolon vX1_takeSemicolon ⟨_, _, rfl⟩ sh39 (Nat.le_of_ble_eq_true rfl) (c1_takeSemicolon T5 hs5) ?_
  rintro h6 ⟨hs6, f6⟩
  refine K_ret (pc := 76) dX1_takeOdds_76 rfl ?_
  exact ⟨hs6, D5.tf f6, f5.tr f6.df⟩
set_option maxHeartbeats 200000 in
theorem c1_takeFloor {g : jG} {d : Nat} {h : jH} {L : Nat} {t : Nat → Int32} {s : sS} {D : sD} (hT : TP L t h) (hs : CT L s h) (hD : CD D h) : Mv g (d + 4) YX1_takeFloor h [.ref 39] (fun h' => LQ L (lFlo L t s D) h h') := by
  refine M.of (by decide) rfl (Nat.le_of_ble_eq_true rfl) ?_
  refine J_aload_n (pc := 0) dX1_takeFloor_0 rfl ?_
  refine J_aload_n (pc := 1) dX1_takeFloor_1 rfl ?_
  refine J_getI (pc := 2) dX1_takeFloor_2 fX1_62 sh39 rfl (hD.2.2.2.2.1.2.1) ?_
  refine J_iconst (pc := 5) (v := nI 4) dX1_takeFloor_5 (by decide) ?_
  refine K_Vv2 (pc := 6) (Y' := YX1_refuseIf) dX1_takeFloor_6 lX1_45 mX1_refuseIf vX1_refuseIf ⟨_, _, rfl⟩ sh39 (Nat.le_of_ble_eq_true rfl) (c1_refuseIf (b := D.2.2.2.1) (c := 4) hs (bI_bq) (by omega)) ?_
  rintro h0 ⟨hs0, f0⟩
  have D1 : CD (dTf D) (j_up h0 39 9 (nI 1)) := CD_tf (hD.tf f0)
  have hs1 := hs0.up (k := 9) (x := nI 1) (by omega)
  have f1 : df h (j_up h0 39 9 (nI 1)) := f0.df.tr (df_up (by omega))
  have T1 := hT.df f1
  refine J_aload_n (pc := 9) dX1_takeFloor_9 rfl ?_
  refine J_iconst (pc := 10) (v := nI 1) dX1_takeFloor_10 (by decide) ?_
  refine J_putZ (pc := 11) dX1_takeFloor_11 fX1_62 sh39 rfl (by decide) ?_
  refine J_aload_n (pc := 14) dX1_takeFloor_14 rfl ?_
  refine J_getR (pc := 15) dX1_takeFloor_15 fX1_22 sh39 rfl ?_
  refine J_aload_n (pc := 18) dX1_takeFloor_18 rfl ?_
  refine J_iconst (pc := 19) (v := nI 0) dX1_takeFloor_19 (by decide) ?_
  refine J_bipush (pc := 20) (v := nI 99) dX1_takeFloor_20 (by decide) ?_
  refine K_Vi2 (pc := 22) (Y' := YX1_takeNumber) dX1_takeFloor_22 lX1_94 mX1_takeNumber vX1_takeNumber ⟨_, _, rfl⟩ sh39 (Nat.le_of_ble_eq_true rfl) (c1_takeNumber T1 hs1) ?_
  rintro x2 h2 ⟨⟨hs2, f2⟩, ex2⟩
  have hs2 : CT L (flo1 L t s D) h2 := hs2
  have ex2 : x2 = sVal (flo1 L t s D) := ex2
  subst ex2
  have D2 := D1.tf f2
  refine J_putI (pc := 25) dX1_takeFloor_25 fX1_118 (sv0 isV41) rfl ?_
  have D3 := CD_flo (v := sVal (flo1 L t s D)) D2
  have hs3 : CT L (flo1 L t s D) (j_up h2 41 6 (sVal (flo1 L t s D))) := hs2.fr (fr_up fr.rf (by omega) (by omega))
  have f3 : df h (j_up h2 41 6 (sVal (flo1 L t s D))) := (f1.tr f2.df).tr (fr.df (fr_up fr.rf (by omega) (by omega)))
  have T3 := hT.df f3
  refine J_aload_n (pc := 28) dX1_takeFloor_28 rfl ?_
  refine K_Vv0 (pc := 29) (Y' := YX1_takeSemicolon) dX1_takeFloor_29 lX1_98 mX1_takeSemicolon vX1_takeSemicolon ⟨_, _, rfl⟩ sh39 (Nat.le_of_ble_eq_true rfl) (c1_takeSemicolon T3 hs3) ?_
  rintro h4 ⟨hs4, f4⟩
  refine K_ret (pc := 32) dX1_takeFloor_32 rfl ?_
  exact ⟨hs4, D3.tf f4, f3.tr f4.df⟩
