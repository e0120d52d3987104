set_option maxHeartbeats 4000000 in
theorem c4_gainOf {g : jG} {d : Nat} {h : jH} {v p w : Nat} {k f : Int32} (hv : isV v) (hp : p < 4) (ek : h (v + 2) p = k) (ef : h (v + 3) p = f) (hk : nb 4 k) (hw : w < 4) : Mi g d YX4_gainOf h [.ref v, .int (nI p), .int (nI w)] (fun x h' => h' = h ∧ x = j_bri.getD (4 * ix k + w) 0 * f) := by
  refine M.of (by decide) rfl (Nat.le_of_ble_eq_true rfl) ?_
  have hk2 := hk.2
  refine J_gsB (pc := 0) dX4_gainOf_0 fX4_70 ?_
  refine J_aload_n (pc := 3) dX4_gainOf_3 rfl ?_
  refine J_getR (pc := 4) dX4_gainOf_4 fX4_11 (sv0 hv) rfl ?_
  refine J_iconst (pc := 7) (v := nI 0) dX4_gainOf_7 (by decide) ?_
  refine J_aald (pc := 8) dX4_gainOf_8 (sv1 hv) j_k2 (rfl) rfl (Nat.le_of_ble_eq_true rfl) ?_
  refine J_iload_n (pc := 9) dX4_gainOf_9 rfl ?_
  refine J_iald (pc := 10) dX4_gainOf_10 (sv2 hv) (rfl) (by omega) (ek.trans hk.1) (by decide) ?_
  refine J_iconst (pc := 11) (v := nI 4) dX4_gainOf_11 (by decide) ?_
  refine J_imul (pc := 12) dX4_gainOf_12 (pk_mul _ _) ?_
  refine J_iload_n (pc := 13) dX4_gainOf_13 rfl ?_
  refine J_iadd (pc := 14) dX4_gainOf_14 (nI_add _ _) ?_
  refine J_ialdB (pc := 15) dX4_gainOf_15 (rfl) (by omega) (rfl) ?_
  refine J_aload_n (pc := 16) dX4_gainOf_16 rfl ?_
  refine J_getR (pc := 17) dX4_gainOf_17 fX4_11 (sv0 hv) rfl ?_
  refine J_iconst (pc := 20) (v := nI 1) dX4_gainOf_20 (by decide) ?_
  refine J_aald (pc := 21) dX4_gainOf_21 (sv1 hv) j_k2 (rfl) rfl (Nat.le_of_ble_eq_true rfl) ?_
  refine J_iload_n (pc := 22) dX4_gainOf_22 rfl ?_
  refine J_iald (pc := 23) dX4_gainOf_23 (sv3 hv) (rfl) (by omega) (ef) (by decide) ?_
  refine J_imul (pc := 24) dX4_gainOf_24 (rfl) ?_
  refine K_iret (pc := 25) dX4_gainOf_25 rfl ?_
  exact ⟨rfl, by rw [Nat.mul_comm]⟩
set_option maxHeartbeats 4000000 in
theorem c4_hand {g : jG} {d : Nat} {h : jH} {v n p q : Nat} {U : Nat → Int32} {D : Nat → Nat → Int32} {P : Nat → Int32} {a : Int32} (hv : isV v) (hu : UD n U D P) (hn : n ≤ 4) (hp : p < n) (hq : q < n) : Mi g d YX4_hand (vset h v U D) [.ref v, .int (nI p), .int (nI q), .int a] (fun x h' => ∃ U' D', h' = vset h v U' D' ∧ UD n U' D' (payP p q a P) ∧ x = payK p a P) := by
  refine M.of (by decide) rfl (Nat.le_of_ble_eq_true rfl) ?_
  refine J_iload_n (pc := 0) dX4_hand_0 rfl ?_
  refine J_aload_n (pc := 1) dX4_hand_1 rfl ?_
  refine J_getR (pc := 2) dX4_hand_2 fX4_16 (sv0 hv) rfl ?_
  refine J_iload_n (pc := 5) dX4_hand_5 rfl ?_
  refine J_iald (pc := 6) dX4_hand_6 (sv4 hv) (rfl) (by omega) (vset_u) (by decide) ?_
  refine J_joinC 20 (payF (U p) a) ?_ (fun kj7 => ?_)
  · skip
    refine J_istore (pc := 20) dX4_hand_20 (by decide) ?_
    refine J_aload_n (pc := 22) dX4_hand_22 rfl ?_
    refine J_getR (pc := 23) dX4_hand_23 fX4_16 (sv0 hv) rfl ?_
    refine J_iload_n (pc := 26) dX4_hand_26 rfl ?_
    refine J_iald (pc := 27) dX4_hand_27 (sv4 hv) (rfl) (by omega) (vset_u) (by decide) ?_
    refine J_iload (pc := 28) dX4_hand_28 rfl ?_
    refine J_iadd (pc := 30) dX4_hand_30 (rfl) ?_
    refine J_istore (pc := 31) dX4_hand_31 (by decide) ?_
    refine J_aload_n (pc := 33) dX4_hand_33 rfl ?_
    refine J_getR (pc := 34) dX4_hand_34 fX4_16 (sv0 hv) rfl ?_
    refine J_iload_n (pc := 37) dX4_hand_37 rfl ?_
    refine J_dup2 (pc := 38) dX4_hand_38 rfl rfl ?_
    refine J_iald (pc := 39) dX4_hand_39 (sv4 hv) (rfl) (by omega) (vset_u) (by decide) ?_
    refine J_iload (pc := 40) dX4_hand_40 rfl ?_
    refine J_isub (pc := 42) dX4_hand_42 (rfl) ?_
    refine J_iast (pc := 43) dX4_hand_43 (sv4 hv) (rfl) (by omega) (by decide) ?_
    rw [vset_uu]
    refine J_aload_n (pc := 44) dX4_hand_44 rfl ?_
    refine J_getR (pc := 45) dX4_hand_45 fX4_16 (sv0 hv) rfl ?_
    refine J_iload_n (pc := 48) dX4_hand_48 rfl ?_
    refine J_iload (pc := 49) dX4_hand_49 rfl ?_
    refine J_sipush (pc := 51) (v := nI 999) dX4_hand_51 (by decide) ?_
    refine J_joinC 65 (capF (U q + payF (U p) a)) ?_ (fun kj54 => ?_)
    · skip
      refine J_iast (pc := 65) dX4_hand_65 (sv4 hv) (rfl) (by omega) (by decide) ?_
      rw [vset_uu]
      refine J_aload_n (pc := 66) dX4_hand_66 rfl ?_
      refine J_getR (pc := 67) dX4_hand_67 fX4_29 (sv0 hv) rfl ?_
      refine J_iload_n (pc := 70) dX4_hand_70 rfl ?_
      refine J_aald (pc := 71) dX4_hand_71 (sv13 hv) j_k2 (rfl) (debtsR (by omega)) (Nat.le_of_ble_eq_true rfl) ?_
      refine J_iload_n (pc := 72) dX4_hand_72 rfl ?_
      refine J_dup2 (pc := 73) dX4_hand_73 rfl rfl ?_
      refine J_iald (pc := 74) dX4_hand_74 (debtsRS hv (by omega)) (rfl) (by omega) (vset_d (by omega)) (by decide) ?_
      refine J_iload_n (pc := 75) dX4_hand_75 rfl ?_
      refine J_iload (pc := 76) dX4_hand_76 rfl ?_
      refine J_isub (pc := 78) dX4_hand_78 (rfl) ?_
      refine J_iadd (pc := 79) dX4_hand_79 (rfl) ?_
      refine J_iast (pc := 80) dX4_hand_80 (debtsRS hv (by omega)) (rfl) (by omega) (by decide) ?_
      rw [vset_ud (by omega)]
      refine J_iload (pc := 81) dX4_hand_81 rfl ?_
      refine J_iload_n (pc := 83) dX4_hand_83 rfl ?_
      refine J_icmp_ge (pc := 84) (tgt := 91) dX4_hand_84 (by decide) (fun c84 => ?_) (fun c84 => ?_)
      · skip
        refine J_iconst (pc := 91) (v := nI 0) dX4_hand_91 (by decide) ?_
        refine K_iret (pc := 92) dX4_hand_92 rfl ?_
        have hpay := UD.pay (v := a) hu hn hp hq
        refine ⟨_, _, rfl, hpay, ?_⟩
        rw [payK, ← hu.1 p hp]
        first | rw [if_pos c84] | rw [if_neg c84]
      · skip
        refine J_iconst (pc := 87) (v := nI 1) dX4_hand_87 (by decide) ?_
        refine J_goto (pc := 88) (tgt := 92) dX4_hand_88 (by decide) ?_
        refine K_iret (pc := 92) dX4_hand_92 rfl ?_
        have hpay := UD.pay (v := a) hu hn hp hq
        refine ⟨_, _, rfl, hpay, ?_⟩
        rw [payK, ← hu.1 p hp]
        first | rw [if_pos c84] | rw [if_neg c84]
    · skip
      refine J_icmp_gt (pc := 54) (tgt := 62) dX4_hand_54 (by decide) (fun c54 => ?_) (fun c54 => ?_)
      · skip
        refine J_sipush (pc := 62) (v := nI 999) dX4_hand_62 (by decide) ?_
        rw [capF, if_neg (i_not_le.mpr c54)] at kj54
        exact kj54
      · skip
        refine J_iload (pc := 57) dX4_hand_57 rfl ?_
        refine J_goto (pc := 59) (tgt := 65) dX4_hand_59 (by decide) ?_
        rw [capF, if_pos (i_not_lt.mp c54)] at kj54
        exact kj54
  · skip
    refine J_icmp_gt (pc := 7) (tgt := 14) dX4_hand_7 (by decide) (fun c7 => ?_) (fun c7 => ?_)
    · skip
      refine J_aload_n (pc := 14) dX4_hand_14 rfl ?_
      refine J_getR (pc := 15) dX4_hand_15 fX4_16 (sv0 hv) rfl ?_
      refine J_iload_n (pc := 18) dX4_hand_18 rfl ?_
      refine J_iald (pc := 19) dX4_hand_19 (sv4 hv) (rfl) (by omega) (vset_u) (by decide) ?_
      rw [payF, if_neg (i_not_le.mpr c7)] at kj7
      exact kj7
    · skip
      refine J_iload_n (pc := 10) dX4_hand_10 rfl ?_
      refine J_goto (pc := 11) (tgt := 20) dX4_hand_11 (by decide) ?_
      rw [payF, if_pos (i_not_lt.mp c7)] at kj7
      exact kj7
set_option maxHeartbeats 4000000 in
theorem l4_live1 {g : jG} {d : Nat} {h : jH} {Q : kQ} {v n w : Nat} {P : Nat → Int32} (hv : isV v) (hX : XV n P h v) (hG : gdV n P) (hw : w < 4) (kx : ∀ (U : Nat → Int32) (D : Nat → Nat → Int32), UD n U D (w1 (γP P w) P n) → K g (d + 1) YX4_live (vset h v U D) 45 [(0, .ref v), (1, .int (nI w)), (2, .int (nI n))] [] Q) : ∀ (m k : Nat) (U : Nat → Int32) (D : Nat → Nat → Int32), k ≤ n → n < k + m → UD n U D (w1 (γP P w) P k) → K g (d + 1) YX4_live (vset h v U D) 2 [(0, .ref v), (1, .int (nI w)), (2, .int (nI k))] [] Q := by
  intro m
  induction m with
  | zero => intro k U D hk1 hk2 hI; omega
  | succ m ih =>
    intro k U D hk1 hk2 hI
    have hn4 := hG.1
    have x2 := hX.2.1
    refine J_iload_n (pc := 2) dX4_live_2 rfl ?_
    refine J_aload_n (pc := 3) dX4_live_3 rfl ?_
    refine J_getI (pc := 4) dX4_live_4 fX4_35 (sv0 hv) rfl (vset_x (by omega) (by omega) hX.1) ?_
    refine J_icmp_ge (pc := 7) (tgt := 45) dX4_live_7 (by decide) (fun c7 => ?_) (fun c7 => ?_)
    · skip
      have q7 : n ≤ k := (nI_leI (by omega) (by omega)).mp c7
      have e_k : k = n := by omega
      refine J_ls (ls' := [(0, .ref v), (1, .int (nI w)), (2, .int (nI k))]) ⟨rfl, rfl, rfl, trivial⟩ ?_
      rw [e_k] at hI ⊢
      exact kx U D hI
    · skip
      have q7 : k < n := Nat.lt_of_not_le (fun z => c7 ((nI_leI (by omega) (by omega)).mpr z))
      refine J_aload_n (pc := 10) dX4_live_10 rfl ?_
      refine J_getR (pc := 11) dX4_live_11 fX4_16 (sv0 hv) rfl ?_
      refine J_iload_n (pc := 14) dX4_live_14 rfl ?_
      refine J_iconst (pc := 15) (v := nI 0) dX4_live_15 (by decide) ?_
      refine J_sipush (pc := 16) (v := nI 999) dX4_live_16 (by decide) ?_
      refine J_aload_n (pc := 19) dX4_live_19 rfl ?_
      refine J_getR (pc := 20) dX4_live_20 fX4_16 (sv0 hv) rfl ?_
      refine J_iload_n (pc := 23) dX4_live_23 rfl ?_
      refine J_iald (pc := 24) dX4_live_24 (sv4 hv) (rfl) (by omega) (vset_u) (by decide) ?_
      refine J_aload_n (pc := 25) dX4_live_25 rfl ?_
      refine J_iload_n (pc := 26) dX4_live_26 rfl ?_
      refine J_iload_n (pc := 27) dX4_live_27 rfl ?_
      refine K_Vi2 (pc := 28) (Y' := YX4_gainOf) dX4_live_28 lX4_81 mX4_gainOf vX4_gainOf ⟨_, _, rfl⟩ (sv0 hv) (Nat.le_of_ble_eq_true rfl) (c4_gainOf hv (by omega) (vset_x (by omega) (by omega) (x2 k q7).1) (vset_x (by omega) (by omega) (x2 k q7).2.1) (hG.2.1 k q7) hw) ?_
      rintro x h0 ⟨rfl, rfl⟩
      refine J_iadd (pc := 31) dX4_live_31 (rfl) ?_
      refine J_min (pc := 32) dX4_live_32 qX4_64 w_min_s w_math w_min_c (Nat.le_of_ble_eq_true rfl) (rfl) ?_
      refine J_max (pc := 35) dX4_live_35 qX4_84 w_max_s w_math w_max_c (Nat.le_of_ble_eq_true rfl) (rfl) ?_
      refine J_st (congrArg (fun z => [Value.int z, _, _]) (mm_clamp (U k + γP P w k))) ?_
      refine J_iast (pc := 38) dX4_live_38 (sv4 hv) (rfl) (by omega) (by decide) ?_
      rw [vset_uu]
      refine J_iinc (pc := 39) dX4_live_39 rfl (v := nI (k + 1)) (by exact nI_add _ _) (by decide) ?_
      refine J_goto (pc := 42) (tgt := 2) dX4_live_42 (by decide) ?_
      exact J_ls (ls' := [(0, .ref v), (1, .int (nI w)), (2, .int (nI (k + 1)))]) ⟨rfl, rfl, rfl, trivial⟩ (ih (k + 1) _ _ (by omega) (by omega) (UD.w1 hI hn4 q7))
set_option maxHeartbeats 4000000 in
theorem l4_live2 {g : jG} {d : Nat} {h : jH} {Q : kQ} {v n w : Nat} {P : Nat → Int32} (hv : isV v) (hX : XV n P h v) (hG : gdV n P) (hw : w < 4) (kx : ∀ (U : Nat → Int32) (D : Nat → Nat → Int32), UD n U D (cvF w (w1 (γP P w) P n) (ix (P 37))).1 → K g (d + 1) YX4_live (vset h v U D) 133 [(0, .ref v), (1, .int (nI w)), (2, .int (cvF w (w1 (γP P w) P n) (ix (P 37))).2), (3, .int (nI (ix (P 37))))] [] Q) : ∀ (m k : Nat) (U : Nat → Int32) (D : Nat → Nat → Int32), k ≤ (ix (P 37)) → (ix (P 37)) < k + m → UD n U D (cvF w (w1 (γP P w) P n) k).1 → K g (d + 1) YX4_live (vset h v U D) 49 [(0, .ref v), (1, .int (nI w)), (2, .int (cvF w (w1 (γP P w) P n) k).2), (3, .int (nI k))] [] Q := by
  intro m
  induction m with
  | zero => intro k U D hk1 hk2 hI; omega
  | succ m ih =>
    intro k U D hk1 hk2 hI
    have hn4 := hG.1
    have h6 := hG.2.2.1.2
    have x4 := hX.2.2.2.1
    have e37 : w1 (γP P w) P n 37 = P 37 := w1_keep hn4 (by omega)
    have hcv := w1_cvOK (γ := γP P w) hn4 hG.cv
    refine J_iload_n (pc := 49) dX4_live_49 rfl ?_
    refine J_aload_n (pc := 50) dX4_live_50 rfl ?_
    refine J_getI (pc := 51) dX4_live_51 fX4_39 (sv0 hv) rfl (vset_x (by omega) (by omega) (hX.2.2.1.trans hG.2.2.1.1)) ?_
    refine J_icmp_ge (pc := 54) (tgt := 133) dX4_live_54 (by decide) (fun c54 => ?_) (fun c54 => ?_)
    · skip
      have q54 : (ix (P 37)) ≤ k := (nI_leI (by omega) (by omega)).mp c54
      have e_k : k = (ix (P 37)) := by omega
      refine J_ls (ls' := [(0, .ref v), (1, .int (nI w)), (2, .int (cvF w (w1 (γP P w) P n) k).2), (3, .int (nI k))]) ⟨rfl, rfl, rfl, rfl, trivial⟩ ?_
      rw [e_k] at hI ⊢
      exact kx U D hI
    · skip
      have q54 : k < (ix (P 37)) := Nat.lt_of_not_le (fun z => c54 ((nI_leI (by omega) (by omega)).mpr z))
      obtain ⟨na, nc⟩ := hG.2.2.2 k q54
      have eS : ∀ j, j < 5 → (cvF w (w1 (γP P w) P n) k).1 (12 + 5 * k + j) = P (12 + 5 * k + j) := fun j hj => by
        rw [cvF_keep hcv (by omega) (by rw [e37]; exact hk1), w1_keep hn4 (by omega)]
      obtain ⟨SA, eSA⟩ : ∃ SA, cvA w k (cvF w (w1 (γP P w) P n) k) = SA := ⟨_, rfl⟩
      have eT : ∀ j, j < 5 → SA.1 (12 + 5 * k + j) = P (12 + 5 * k + j) := fun j hj => by
        rw [← eSA, cvA_keep hcv (by omega) (by rw [e37]; exact q54), w1_keep hn4 (by omega)]
      refine J_aload_n (pc := 57) dX4_live_57 rfl ?_
      refine J_getR (pc := 58) dX4_live_58 fX4_20 (sv0 hv) rfl ?_
      refine J_iconst (pc := 61) (v := nI 0) dX4_live_61 (by decide) ?_
      refine J_aald (pc := 62) dX4_live_62 (sv5 hv) j_k2 (rfl) rfl (Nat.le_of_ble_eq_true rfl) ?_
      refine J_iload_n (pc := 63) dX4_live_63 rfl ?_
      refine J_iald (pc := 64) dX4_live_64 (sv6 hv) (rfl) (by omega) ((vset_x (by omega) (by omega) (x4 k q54 0 (by omega))).trans na.1) (by decide) ?_
      refine J_istore (pc := 65) dX4_live_65 (by decide) ?_
      refine J_aload_n (pc := 67) dX4_live_67 rfl ?_
      refine J_getR (pc := 68) dX4_live_68 fX4_20 (sv0 hv) rfl ?_
      refine J_iconst (pc := 71) (v := nI 1) dX4_live_71 (by decide) ?_
      refine J_aald (pc := 72) dX4_live_72 (sv5 hv) j_k2 (rfl) rfl (Nat.le_of_ble_eq_true rfl) ?_
      refine J_iload_n (pc := 73) dX4_live_73 rfl ?_
      refine J_iald (pc := 74) dX4_live_74 (sv7 hv) (rfl) (by omega) ((vset_x (by omega) (by omega) (x4 k q54 1 (by omega))).trans nc.1) (by decide) ?_
      refine J_istore (pc := 75) dX4_live_75 (by decide) ?_
      refine J_aload_n (pc := 77) dX4_live_77 rfl ?_
      refine J_getR (pc := 78) dX4_live_78 fX4_20 (sv0 hv) rfl ?_
      refine J_iconst (pc := 81) (v := nI 2) dX4_live_81 (by decide) ?_
      refine J_aald (pc := 82) dX4_live_82 (sv5 hv) j_k2 (rfl) rfl (Nat.le_of_ble_eq_true rfl) ?_
      refine J_iload_n (pc := 83) dX4_live_83 rfl ?_
      refine J_iald (pc := 84) dX4_live_84 (sv8 hv) (rfl) (by omega) ((vset_x (by omega) (by omega) (x4 k q54 2 (by omega)))) (by decide) ?_
      refine J_iload_n (pc := 85) dX4_live_85 rfl ?_
      refine J_icmp_ne (pc := 86) (tgt := 108) dX4_live_86 (by decide) (fun c86 => ?_) (fun c86 => ?_)
      · skip
        have hS : SA = ((cvF w (w1 (γP P w) P n) k).1, (cvF w (w1 (γP P w) P n) k).2 + nI 0) := by rw [← eSA, cvA, if_neg (by rw [eS 2 (by omega)]; exact c86)]
        have hU : UD n U D SA.1 := by rw [hS]; exact hI
        have hF : SA.2 = (cvF w (w1 (γP P w) P n) k).2 := by rw [hS]; exact Int32.add_zero _
        refine J_iload_n (pc := 108) dX4_live_108 rfl ?_
        refine J_aload_n (pc := 109) dX4_live_109 rfl ?_
        refine J_iload (pc := 110) dX4_live_110 rfl ?_
        refine J_iload (pc := 112) dX4_live_112 rfl ?_
        refine J_aload_n (pc := 114) dX4_live_114 rfl ?_
        refine J_getR (pc := 115) dX4_live_115 fX4_20 (sv0 hv) rfl ?_
        refine J_iconst (pc := 118) (v := nI 4) dX4_live_118 (by decide) ?_
        refine J_aald (pc := 119) dX4_live_119 (sv5 hv) j_k2 (rfl) rfl (Nat.le_of_ble_eq_true rfl) ?_
        refine J_iload_n (pc := 120) dX4_live_120 rfl ?_
        refine J_iald (pc := 121) dX4_live_121 (sv10 hv) (rfl) (by omega) ((vset_x (by omega) (by omega) (x4 k q54 4 (by omega)))) (by decide) ?_
        refine K_Vi3 (pc := 122) (Y' := YX4_hand) dX4_live_122 lX4_87 mX4_hand vX4_hand ⟨_, _, rfl⟩ (sv0 hv) (Nat.le_of_ble_eq_true rfl) (c4_hand hv hU hn4 nc.2 na.2) ?_
        rintro x h0 ⟨U2, D2, rfl, hU2, rfl⟩
        refine J_iadd (pc := 125) dX4_live_125 (rfl) ?_
        refine J_istore_n (pc := 126) dX4_live_126 (by decide) ?_
        refine J_iinc (pc := 127) dX4_live_127 rfl (v := nI (k + 1)) (by exact nI_add _ _) (by decide) ?_
        refine J_goto (pc := 130) (tgt := 49) dX4_live_130 (by decide) ?_
        have g0 : SA.1 (12 + 5 * k) = P (12 + 5 * k) := eT 0 (by omega)
        have eF : cvF w (w1 (γP P w) P n) (k + 1) = (payP (ix (P (12 + 5 * k + 1))) (ix (P (12 + 5 * k))) (P (12 + 5 * k + 4)) SA.1, SA.2 + payK (ix (P (12 + 5 * k + 1))) (P (12 + 5 * k + 4)) SA.1) := by
          rw [show cvF w (w1 (γP P w) P n) (k + 1) = cvB k (cvA w k (cvF w (w1 (γP P w) P n) k)) from rfl, eSA, cvB, eT 1 (by omega), eT 4 (by omega), g0]
        have i := ih (k + 1) U2 D2 (by omega) (by omega) (by rw [eF]; exact hU2)
        rw [eF] at i
        dsimp only at i
        rw [hF] at i
        refine J_ls ?_ i
        exact ⟨rfl, rfl, rfl, rfl, trivial⟩
      · skip
        have hS : SA = (payP (ix (P (12 + 5 * k))) (ix (P (12 + 5 * k + 1))) (P (12 + 5 * k + 3)) (cvF w (w1 (γP P w) P n) k).1, (cvF w (w1 (γP P w) P n) k).2 + payK (ix (P (12 + 5 * k))) (P (12 + 5 * k + 3)) (cvF w (w1 (γP P w) P n) k).1) := by
          have g0 := eS 0 (by omega)
          rw [← eSA, cvA, if_pos (by rw [eS 2 (by omega)]; exact c86), eS 3 (by omega), eS 1 (by omega), show (cvF w (w1 (γP P w) P n) k).1 (12 + 5 * k) = P (12 + 5 * k) from g0]
        refine J_iload_n (pc := 89) dX4_live_89 rfl ?_
        refine J_aload_n (pc := 90) dX4_live_90 rfl ?_
        refine J_iload (pc := 91) dX4_live_91 rfl ?_
        refine J_iload (pc := 93) dX4_live_93 rfl ?_
        refine J_aload_n (pc := 95) dX4_live_95 rfl ?_
        refine J_getR (pc := 96) dX4_live_96 fX4_20 (sv0 hv) rfl ?_
        refine J_iconst (pc := 99) (v := nI 3) dX4_live_99 (by decide) ?_
        refine J_aald (pc := 100) dX4_live_100 (sv5 hv) j_k2 (rfl) rfl (Nat.le_of_ble_eq_true rfl) ?_
        refine J_iload_n (pc := 101) dX4_live_101 rfl ?_
        refine J_iald (pc := 102) dX4_live_102 (sv9 hv) (rfl) (by omega) ((vset_x (by omega) (by omega) (x4 k q54 3 (by omega)))) (by decide) ?_
        refine K_Vi3 (pc := 103) (Y' := YX4_hand) dX4_live_103 lX4_87 mX4_hand vX4_hand ⟨_, _, rfl⟩ (sv0 hv) (Nat.le_of_ble_eq_true rfl) (c4_hand hv hI hn4 na.2 nc.2) ?_
        rintro x h0 ⟨U1, D1, rfl, hU1, rfl⟩
        have hU : UD n U1 D1 SA.1 := by rw [hS]; exact hU1
        have hF : SA.2 = (cvF w (w1 (γP P w) P n) k).2 + payK (ix (P (12 + 5 * k))) (P (12 + 5 * k + 3)) (cvF w (w1 (γP P w) P n) k).1 := by rw [hS]
        refine J_iadd (pc := 106) dX4_live_106 (rfl) ?_
        refine J_istore_n (pc := 107) dX4_live_107 (by decide) ?_
        refine J_iload_n (pc := 108) dX4_live_108 rfl ?_
        refine J_aload_n (pc := 109) dX4_live_109 rfl ?_
        refine J_iload (pc := 110) dX4_live_110 rfl ?_
        refine J_iload (pc := 112) dX4_live_112 rfl ?_
        refine J_aload_n (pc := 114) dX4_live_114 rfl ?_
        refine J_getR (pc := 115) dX4_live_115 fX4_20 (sv0 hv) rfl ?_
        refine J_iconst (pc := 118) (v := nI 4) dX4_live_118 (by decide) ?_
        refine J_aald (pc := 119) dX4_live_119 (sv5 hv) j_k2 (rfl) rfl (Nat.le_of_ble_eq_true rfl) ?_
        refine J_iload_n (pc := 120) dX4_live_120 rfl ?_
        refine J_iald (pc := 121) dX4_live_121 (sv10 hv) (rfl) (by omega) ((vset_x (by omega) (by omega) (x4 k q54 4 (by omega)))) (by decide) ?_
        refine K_Vi3 (pc := 122) (Y' := YX4_hand) dX4_live_122 lX4_87 mX4_hand vX4_hand ⟨_, _, rfl⟩ (sv0 hv) (Nat.le_of_ble_eq_true rfl) (c4_hand hv hU hn4 nc.2 na.2) ?_
        rintro x h0 ⟨U2, D2, rfl, hU2, rfl⟩
        refine J_iadd (pc := 125) dX4_live_125 (rfl) ?_
        refine J_istore_n (pc := 126) dX4_live_126 (by decide) ?_
        refine J_iinc (pc := 127) dX4_live_127 rfl (v := nI (k + 1)) (by exact nI_add _ _) (by decide) ?_
        refine J_goto (pc := 130) (tgt := 49) dX4_live_130 (by decide) ?_
        have g0 : SA.1 (12 + 5 * k) = P (12 + 5 * k) := eT 0 (by omega)
        have eF : cvF w (w1 (γP P w) P n) (k + 1) = (payP (ix (P (12 + 5 * k + 1))) (ix (P (12 + 5 * k))) (P (12 + 5 * k + 4)) SA.1, SA.2 + payK (ix (P (12 + 5 * k + 1))) (P (12 + 5 * k + 4)) SA.1) := by
          rw [show cvF w (w1 (γP P w) P n) (k + 1) = cvB k (cvA w k (cvF w (w1 (γP P w) P n) k)) from rfl, eSA, cvB, eT 1 (by omega), eT 4 (by omega), g0]
        have i := ih (k + 1) U2 D2 (by omega) (by omega) (by rw [eF]; exact hU2)
        rw [eF] at i
        dsimp only at i
        rw [hF] at i
        refine J_ls ?_ i
        exact ⟨rfl, rfl, rfl, rfl, trivial⟩
set_option maxHeartbeats 4000000 in
theorem c4_live {g : jG} {d : Nat} {h : jH} {v n w : Nat} {P : Nat → Int32} (hv : isV v) (hX : XV n P h v) (hG : gdV n P) (h51 : ix (P 51) < 9) (hw : w < 4) : Mi g (d + 1) YX4_live h [.ref v, .int (nI w)] (fun x h' => XV n (liveP n w P).1 h' v ∧ x = (liveP n w P).2 ∧ ∀ b, b ≠ v + 4 → (b < v + 14 ∨ v + 18 ≤ b) → h' b = h b) := by
  refine M.of (by decide) rfl (Nat.le_of_ble_eq_true rfl) ?_
  refine J_iconst (pc := 0) (v := nI 0) dX4_live_0 (by decide) ?_
  refine J_istore_n (pc := 1) dX4_live_1 (by decide) ?_
  refine J_ls (ls' := [(0, .ref v), (1, .int (nI w)), (2, .int (nI 0))]) ⟨rfl, rfl, rfl, trivial⟩ ?_
  refine J_h (vset_self (h := h) (v := v)).symm ?_
  refine l4_live1 hv hX hG hw (fun U D hu => ?_) (n + 1) 0 _ _ (Nat.zero_le _) (by omega) hX.ud
  refine J_iconst (pc := 45) (v := nI 0) dX4_live_45 (by decide) ?_
  refine J_istore_n (pc := 46) dX4_live_46 (by decide) ?_
  refine J_iconst (pc := 47) (v := nI 0) dX4_live_47 (by decide) ?_
  refine J_istore_n (pc := 48) dX4_live_48 (by decide) ?_
  refine J_ls (ls' := [(0, .ref v), (1, .int (nI w)), (2, .int (nI 0)), (3, .int (nI 0))]) ⟨rfl, rfl, rfl, rfl, trivial⟩ ?_
  refine l4_live2 hv hX hG hw (fun U1 D1 hu1 => ?_) (ix (P 37) + 1) 0 U D (Nat.zero_le _) (by omega) hu
  refine J_iload_n (pc := 133) dX4_live_133 rfl ?_
  refine K_iret (pc := 134) dX4_live_134 rfl ?_
  exact ⟨XV_vset hG.1 hG.2.2.1.2 h51 hX hu1 (fun k hk => liveP_keep hG hk), rfl, fun b h1 h2 => vset_o h1 h2⟩
