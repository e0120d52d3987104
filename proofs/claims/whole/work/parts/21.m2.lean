set_option maxHeartbeats 2000000 in
theorem c6_gainOf {g : jG} {d : Nat} {h : jH} {p w : Nat} (hp : p < 4) (hk : nb 4 (h 132 p)) (hw : w < 4) : Mi g d YX6_gainOf h [.ref 131, .int (nI p), .int (nI w)] (fun x h' => h' = h ∧ x = h 133 (4 * ix (h 132 p) + w) * h 132 (4 + p)) := by
  refine M.of (by decide) rfl (Nat.le_of_ble_eq_true rfl) ?_
  have hk2 := hk.2
  refine J_aload_n (pc := 0) dX6_gainOf_0 rfl ?_
  refine J_getR (pc := 1) dX6_gainOf_1 fX6_13 sh131 rfl ?_
  refine J_iconst (pc := 4) (v := nI 4) dX6_gainOf_4 (by decide) ?_
  refine J_aload_n (pc := 5) dX6_gainOf_5 rfl ?_
  refine J_getR (pc := 6) dX6_gainOf_6 fX6_7 sh131 rfl ?_
  refine J_iload_n (pc := 9) dX6_gainOf_9 rfl ?_
  refine J_iald (pc := 10) dX6_gainOf_10 sh132 (rfl) (by omega) (hk.1) (by decide) ?_
  refine J_imul (pc := 11) dX6_gainOf_11 (pk_mul _ _) ?_
  refine J_iload_n (pc := 12) dX6_gainOf_12 rfl ?_
  refine J_iadd (pc := 13) dX6_gainOf_13 (nI_add _ _) ?_
  refine J_iald (pc := 14) dX6_gainOf_14 sh133 (rfl) (by omega) (rfl) (by decide) ?_
  refine J_aload_n (pc := 15) dX6_gainOf_15 rfl ?_
  refine J_getR (pc := 16) dX6_gainOf_16 fX6_7 sh131 rfl ?_
  refine J_iconst (pc := 19) (v := nI 4) dX6_gainOf_19 (by decide) ?_
  refine J_iload_n (pc := 20) dX6_gainOf_20 rfl ?_
  refine J_iadd (pc := 21) dX6_gainOf_21 (nI_add _ _) ?_
  refine J_iald (pc := 22) dX6_gainOf_22 sh132 (rfl) (by omega) (rfl) (by decide) ?_
  refine J_imul (pc := 23) dX6_gainOf_23 (rfl) ?_
  refine K_iret (pc := 24) dX6_gainOf_24 rfl ?_
  exact ⟨rfl, rfl⟩
set_option maxHeartbeats 2000000 in
theorem c6_firstOdds {g : jG} {d : Nat} {h : jH} {w : Nat} (hw : w < 4) : Mi g d YX6_firstOdds h [.int (nI w)] (fun x h' => h' = h ∧ x = nI (if w = 3 then 1 else 3)) := by
  refine M.of (by decide) rfl (Nat.le_of_ble_eq_true rfl) ?_
  refine J_iload_n (pc := 0) dX6_firstOdds_0 rfl ?_
  refine J_iconst (pc := 1) (v := nI 3) dX6_firstOdds_1 (by decide) ?_
  refine J_icmp_ne (pc := 2) (tgt := 9) dX6_firstOdds_2 (by decide) (fun c2 => ?_) (fun c2 => ?_)
  · skip
    refine J_iconst (pc := 9) (v := nI 3) dX6_firstOdds_9 (by decide) ?_
    refine K_iret (pc := 10) dX6_firstOdds_10 rfl ?_
    exact ⟨rfl, by first | (rw [if_pos ((nI_eq (by omega) (by omega)).mp c2)]) | (rw [if_neg (fun z => c2 (by rw [z]))])⟩
  · skip
    refine J_iconst (pc := 5) (v := nI 1) dX6_firstOdds_5 (by decide) ?_
    refine J_goto (pc := 6) (tgt := 10) dX6_firstOdds_6 (by decide) ?_
    refine K_iret (pc := 10) dX6_firstOdds_10 rfl ?_
    exact ⟨rfl, by first | (rw [if_pos ((nI_eq (by omega) (by omega)).mp c2)]) | (rw [if_neg (fun z => c2 (by rw [z]))])⟩
set_option maxHeartbeats 2000000 in
theorem c6_paysOn {g : jG} {d : Nat} {h : jH} {o p q : Nat} {v : Int32} {P : Nat → Int32} (ho : o + 69 ≤ 414) (hp : p < 4) (hq : q < 4) : Mi g d YX6_paysOn (mset h o P) [.ref 131, .int (nI o), .int (nI p), .int (nI q), .int v] (fun x h' => h' = mset h o (payP p q v P) ∧ bq (payB p v P) x) := by
  refine M.of (by decide) rfl (Nat.le_of_ble_eq_true rfl) ?_
  refine J_aload_n (pc := 0) dX6_paysOn_0 rfl ?_
  refine J_getR (pc := 1) dX6_paysOn_1 fX6_7 sh131 rfl ?_
  refine J_iload_n (pc := 4) dX6_paysOn_4 rfl ?_
  refine J_bipush (pc := 5) (v := nI 8) dX6_paysOn_5 (by decide) ?_
  refine J_iadd (pc := 7) dX6_paysOn_7 (nI_add _ _) ?_
  refine J_iload_n (pc := 8) dX6_paysOn_8 rfl ?_
  refine J_iadd (pc := 9) dX6_paysOn_9 (nI_add _ _) ?_
  refine J_iald (pc := 10) dX6_paysOn_10 sh132 (rfl) (by omega) (mset_at (8 + p) (by omega) (by omega)) (by decide) ?_
  refine J_istore (pc := 11) dX6_paysOn_11 (by decide) ?_
  refine J_iload (pc := 13) dX6_paysOn_13 rfl ?_
  refine J_iload (pc := 15) dX6_paysOn_15 rfl ?_
  refine J_joinC 27 (payF (P (8 + p)) v) ?_ (fun kj17 => ?_)
  · skip
    refine J_istore (pc := 27) dX6_paysOn_27 (by decide) ?_
    refine J_aload_n (pc := 29) dX6_paysOn_29 rfl ?_
    refine J_getR (pc := 30) dX6_paysOn_30 fX6_7 sh131 rfl ?_
    refine J_iload_n (pc := 33) dX6_paysOn_33 rfl ?_
    refine J_bipush (pc := 34) (v := nI 8) dX6_paysOn_34 (by decide) ?_
    refine J_iadd (pc := 36) dX6_paysOn_36 (nI_add _ _) ?_
    refine J_iload_n (pc := 37) dX6_paysOn_37 rfl ?_
    refine J_iadd (pc := 38) dX6_paysOn_38 (nI_add _ _) ?_
    refine J_iald (pc := 39) dX6_paysOn_39 sh132 (rfl) (by omega) (mset_at (8 + q) (by omega) (by omega)) (by decide) ?_
    refine J_iload (pc := 40) dX6_paysOn_40 rfl ?_
    refine J_iadd (pc := 42) dX6_paysOn_42 (rfl) ?_
    refine J_istore (pc := 43) dX6_paysOn_43 (by decide) ?_
    refine J_aload_n (pc := 45) dX6_paysOn_45 rfl ?_
    refine J_getR (pc := 46) dX6_paysOn_46 fX6_7 sh131 rfl ?_
    refine J_iload_n (pc := 49) dX6_paysOn_49 rfl ?_
    refine J_bipush (pc := 50) (v := nI 8) dX6_paysOn_50 (by decide) ?_
    refine J_iadd (pc := 52) dX6_paysOn_52 (nI_add _ _) ?_
    refine J_iload_n (pc := 53) dX6_paysOn_53 rfl ?_
    refine J_iadd (pc := 54) dX6_paysOn_54 (nI_add _ _) ?_
    refine J_iload (pc := 55) dX6_paysOn_55 rfl ?_
    refine J_iload (pc := 57) dX6_paysOn_57 rfl ?_
    refine J_isub (pc := 59) dX6_paysOn_59 (rfl) ?_
    refine J_iast (pc := 60) dX6_paysOn_60 sh132 (rfl) (by omega) (by decide) ?_
    rw [mset_up (i := o + 8 + p) (8 + p) (by omega) (by omega)]
    refine J_aload_n (pc := 61) dX6_paysOn_61 rfl ?_
    refine J_getR (pc := 62) dX6_paysOn_62 fX6_7 sh131 rfl ?_
    refine J_iload_n (pc := 65) dX6_paysOn_65 rfl ?_
    refine J_bipush (pc := 66) (v := nI 8) dX6_paysOn_66 (by decide) ?_
    refine J_iadd (pc := 68) dX6_paysOn_68 (nI_add _ _) ?_
    refine J_iload_n (pc := 69) dX6_paysOn_69 rfl ?_
    refine J_iadd (pc := 70) dX6_paysOn_70 (nI_add _ _) ?_
    refine J_iload (pc := 71) dX6_paysOn_71 rfl ?_
    refine J_sipush (pc := 73) (v := nI 999) dX6_paysOn_73 (by decide) ?_
    refine J_joinC 87 (capF (P (8 + q) + payF (P (8 + p)) v)) ?_ (fun kj76 => ?_)
    · skip
      refine J_iast (pc := 87) dX6_paysOn_87 sh132 (rfl) (by omega) (by decide) ?_
      rw [mset_up (i := o + 8 + q) (8 + q) (by omega) (by omega)]
      refine J_aload_n (pc := 88) dX6_paysOn_88 rfl ?_
      refine J_getR (pc := 89) dX6_paysOn_89 fX6_7 sh131 rfl ?_
      refine J_iload_n (pc := 92) dX6_paysOn_92 rfl ?_
      refine J_bipush (pc := 93) (v := nI 53) dX6_paysOn_93 (by decide) ?_
      refine J_iadd (pc := 95) dX6_paysOn_95 (nI_add _ _) ?_
      refine J_iconst (pc := 96) (v := nI 4) dX6_paysOn_96 (by decide) ?_
      refine J_iload_n (pc := 97) dX6_paysOn_97 rfl ?_
      refine J_imul (pc := 98) dX6_paysOn_98 (pk_mul _ _) ?_
      refine J_iadd (pc := 99) dX6_paysOn_99 (nI_add _ _) ?_
      refine J_iload_n (pc := 100) dX6_paysOn_100 rfl ?_
      refine J_iadd (pc := 101) dX6_paysOn_101 (nI_add _ _) ?_
      refine J_dup2 (pc := 102) dX6_paysOn_102 rfl rfl ?_
      refine J_iald (pc := 103) dX6_paysOn_103 sh132 (rfl) (by omega) (mset_at (53 + 4 * p + q) (by omega) (by omega)) (by decide) ?_
      refine J_iload (pc := 104) dX6_paysOn_104 rfl ?_
      refine J_iload (pc := 106) dX6_paysOn_106 rfl ?_
      refine J_isub (pc := 108) dX6_paysOn_108 (rfl) ?_
      refine J_iadd (pc := 109) dX6_paysOn_109 (rfl) ?_
      refine J_iast (pc := 110) dX6_paysOn_110 sh132 (rfl) (by omega) (by decide) ?_
      rw [mset_up (i := o + 53 + 4 * p + q) (53 + 4 * p + q) (by omega) (by omega)]
      refine J_iload (pc := 111) dX6_paysOn_111 rfl ?_
      refine J_iload (pc := 113) dX6_paysOn_113 rfl ?_
      refine J_icmp_ge (pc := 115) (tgt := 122) dX6_paysOn_115 (by decide) (fun c115 => ?_) (fun c115 => ?_)
      · skip
        refine J_iconst (pc := 122) (v := nI 0) dX6_paysOn_122 (by decide) ?_
        refine K_zret (pc := 123) dX6_paysOn_123 rfl (by decide) ?_
        exact ⟨rfl, by first | exact bq_f (fun z => z c115) | exact bq_t c115⟩
      · skip
        refine J_iconst (pc := 118) (v := nI 1) dX6_paysOn_118 (by decide) ?_
        refine J_goto (pc := 119) (tgt := 123) dX6_paysOn_119 (by decide) ?_
        refine K_zret (pc := 123) dX6_paysOn_123 rfl (by decide) ?_
        exact ⟨rfl, by first | exact bq_f (fun z => z c115) | exact bq_t c115⟩
    · skip
      refine J_icmp_le (pc := 76) (tgt := 85) dX6_paysOn_76 (by decide) (fun c76 => ?_) (fun c76 => ?_)
      · skip
        refine J_iload (pc := 85) dX6_paysOn_85 rfl ?_
        rw [capF, if_pos c76] at kj76
        exact kj76
      · skip
        refine J_sipush (pc := 79) (v := nI 999) dX6_paysOn_79 (by decide) ?_
        refine J_goto (pc := 82) (tgt := 87) dX6_paysOn_82 (by decide) ?_
        rw [capF, if_neg c76] at kj76
        exact kj76
  · skip
    refine J_icmp_ge (pc := 17) (tgt := 25) dX6_paysOn_17 (by decide) (fun c17 => ?_) (fun c17 => ?_)
    · skip
      refine J_iload (pc := 25) dX6_paysOn_25 rfl ?_
      rw [payF, if_pos c17] at kj17
      exact kj17
    · skip
      refine J_iload (pc := 20) dX6_paysOn_20 rfl ?_
      refine J_goto (pc := 22) (tgt := 27) dX6_paysOn_22 (by decide) ?_
      rw [payF, if_neg c17] at kj17
      exact kj17
