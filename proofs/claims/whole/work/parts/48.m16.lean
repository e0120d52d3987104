set_option maxHeartbeats 4000000 in
theorem l4_dueIn {g : jG} {d : Nat} {h : jH} {Q : kQ} {v n : Nat} {P : Nat → Int32} (hv : isV v) (hX : XV n P h v) (hc : nb 6 (P 37)) {w : Nat} (hw : w < 4) (hb : ∀ c, c < ix (P 37) → nb 4 (P (12 + 5 * c + 2))) (kx : K g d YX4_dueIn (h) 52 [(0, .ref v), (1, .int (nI w)), (2, .int (dueF P w (ix (P 37)))), (3, .int (nI (ix (P 37))))] [] Q) : ∀ (m k : Nat) , k ≤ (ix (P 37)) → (ix (P 37)) < k + m → K g d YX4_dueIn (h) 4 [(0, .ref v), (1, .int (nI w)), (2, .int (dueF P w k)), (3, .int (nI k))] [] Q := by
  intro m
  induction m with
  | zero => intro k  hk1 hk2 ; omega
  | succ m ih =>
    intro k  hk1 hk2 
    have c6 := hc.2
    refine J_iload_n (pc := 4) dX4_dueIn_4 rfl ?_
    refine J_aload_n (pc := 5) dX4_dueIn_5 rfl ?_
    refine J_getI (pc := 6) dX4_dueIn_6 fX4_39 (sv0 hv) rfl (hX.2.2.1.trans hc.1) ?_
    refine J_icmp_ge (pc := 9) (tgt := 52) dX4_dueIn_9 (by decide) (fun c9 => ?_) (fun c9 => ?_)
    · skip
      have q9 : (ix (P 37)) ≤ k := (nI_leI (by omega) (by omega)).mp c9
      have e_k : k = (ix (P 37)) := by omega
      refine J_ls (ls' := [(0, .ref v), (1, .int (nI w)), (2, .int (dueF P w k)), (3, .int (nI k))]) ⟨rfl, rfl, rfl, rfl, trivial⟩ ?_
      rw [e_k]
      exact kx
    · skip
      have q9 : k < (ix (P 37)) := Nat.lt_of_not_le (fun z => c9 ((nI_leI (by omega) (by omega)).mpr z))
      refine J_iload_n (pc := 12) dX4_dueIn_12 rfl ?_
      refine J_aload_n (pc := 13) dX4_dueIn_13 rfl ?_
      refine J_getR (pc := 14) dX4_dueIn_14 fX4_20 (sv0 hv) rfl ?_
      refine J_iconst (pc := 17) (v := nI 4) dX4_dueIn_17 (by decide) ?_
      refine J_aald (pc := 18) dX4_dueIn_18 (sv5 hv) j_k2 (rfl) rfl (Nat.le_of_ble_eq_true rfl) ?_
      refine J_iload_n (pc := 19) dX4_dueIn_19 rfl ?_
      refine J_iald (pc := 20) dX4_dueIn_20 (sv10 hv) (rfl) (by omega) (hX.2.2.2.1 k q9 4 (by omega)) (by decide) ?_
      refine J_iadd (pc := 21) dX4_dueIn_21 (rfl) ?_
      refine J_istore_n (pc := 22) dX4_dueIn_22 (by decide) ?_
      refine J_aload_n (pc := 23) dX4_dueIn_23 rfl ?_
      refine J_getR (pc := 24) dX4_dueIn_24 fX4_20 (sv0 hv) rfl ?_
      refine J_iconst (pc := 27) (v := nI 2) dX4_dueIn_27 (by decide) ?_
      refine J_aald (pc := 28) dX4_dueIn_28 (sv5 hv) j_k2 (rfl) rfl (Nat.le_of_ble_eq_true rfl) ?_
      refine J_iload_n (pc := 29) dX4_dueIn_29 rfl ?_
      refine J_iald (pc := 30) dX4_dueIn_30 (sv8 hv) (rfl) (by omega) (hX.2.2.2.1 k q9 2 (by omega)) (by decide) ?_
      refine J_iload_n (pc := 31) dX4_dueIn_31 rfl ?_
      refine J_icmp_ne (pc := 32) (tgt := 46) dX4_dueIn_32 (by decide) (fun c32 => ?_) (fun c32 => ?_)
      · skip
        refine J_iinc (pc := 46) dX4_dueIn_46 rfl (v := nI (k + 1)) (by exact nI_add _ _) (by decide) ?_
        refine J_goto (pc := 49) (tgt := 4) dX4_dueIn_49 (by decide) ?_
        have i := ih (k + 1) (by omega) (by omega)
        rw [dueF, dueT, if_neg c32, add0] at i
        refine J_ls ?_ i
        exact ⟨rfl, rfl, rfl, rfl, trivial⟩
      · skip
        refine J_iload_n (pc := 35) dX4_dueIn_35 rfl ?_
        refine J_aload_n (pc := 36) dX4_dueIn_36 rfl ?_
        refine J_getR (pc := 37) dX4_dueIn_37 fX4_20 (sv0 hv) rfl ?_
        refine J_iconst (pc := 40) (v := nI 3) dX4_dueIn_40 (by decide) ?_
        refine J_aald (pc := 41) dX4_dueIn_41 (sv5 hv) j_k2 (rfl) rfl (Nat.le_of_ble_eq_true rfl) ?_
        refine J_iload_n (pc := 42) dX4_dueIn_42 rfl ?_
        refine J_iald (pc := 43) dX4_dueIn_43 (sv9 hv) (rfl) (by omega) (hX.2.2.2.1 k q9 3 (by omega)) (by decide) ?_
        refine J_iadd (pc := 44) dX4_dueIn_44 (rfl) ?_
        refine J_istore_n (pc := 45) dX4_dueIn_45 (by decide) ?_
        refine J_iinc (pc := 46) dX4_dueIn_46 rfl (v := nI (k + 1)) (by exact nI_add _ _) (by decide) ?_
        refine J_goto (pc := 49) (tgt := 4) dX4_dueIn_49 (by decide) ?_
        have i := ih (k + 1) (by omega) (by omega)
        rw [dueF, dueT, if_pos c32, ← Int32.add_assoc] at i
        refine J_ls ?_ i
        exact ⟨rfl, rfl, rfl, rfl, trivial⟩
set_option maxHeartbeats 4000000 in
theorem c4_dueIn {g : jG} {d : Nat} {h : jH} {v n : Nat} {P : Nat → Int32} (hv : isV v) (hX : XV n P h v) (hc : nb 6 (P 37)) {w : Nat} (hw : w < 4) (hb : ∀ c, c < ix (P 37) → nb 4 (P (12 + 5 * c + 2))) : Mi g d YX4_dueIn h [.ref v, .int (nI w)] (fun r h' => h' = h ∧ r = dueA P w) := by
  refine M.of (by decide) rfl (Nat.le_of_ble_eq_true rfl) ?_
  refine J_iconst (pc := 0) (v := nI 0) dX4_dueIn_0 (by decide) ?_
  refine J_istore_n (pc := 1) dX4_dueIn_1 (by decide) ?_
  refine J_iconst (pc := 2) (v := nI 0) dX4_dueIn_2 (by decide) ?_
  refine J_istore_n (pc := 3) dX4_dueIn_3 (by decide) ?_
  refine J_ls (ls' := [(0, .ref v), (1, .int (nI w)), (2, .int (nI 0)), (3, .int (nI 0))]) ⟨rfl, rfl, rfl, rfl, trivial⟩ ?_
  refine l4_dueIn hv hX hc hw hb ?_ (ix (P 37) + 1) 0 (Nat.zero_le _) (by omega)
  refine J_iload_n (pc := 52) dX4_dueIn_52 rfl ?_
  refine K_iret (pc := 53) dX4_dueIn_53 rfl ?_
  exact ⟨rfl, rfl⟩
set_option maxHeartbeats 4000000 in
theorem l5_dear {g : jG} {d : Nat} {h : jH} {Q : kQ} {a : jH} {x : Int32} (hR : RX a h) (kx : K g (d + 1) YX5_dear (h) 47 [(0, .ref 0), (1, .int x), (2, .int (nI (dq (pg a 0) 3))), (3, .int (nI (3 + 1)))] [] Q) : ∀ (m k : Nat) , k ≤ 3 → 3 < k + m → K g (d + 1) YX5_dear (h) 15 [(0, .ref 0), (1, .int x), (2, .int (nI (dq (pg a 0) k))), (3, .int (nI (k + 1)))] [] Q := by
  intro m
  induction m with
  | zero => intro k  hk1 hk2 ; omega
  | succ m ih =>
    intro k  hk1 hk2 
    have hR0 := hR
    have hG := hR.1.2.2.2
    obtain ⟨⟨r1, hX, hwk, ⟨⟨v1, v2, v3, v4⟩, v5, v6, v7, v8, v9, va, vb, vc, vd⟩⟩, rK, rT, rS, rH, ⟨r8, r8b, r9, ra⟩⟩ := hR
    obtain ⟨x1, x2, x3, x4, x5, x6, x7, x8, x9⟩ := id hX
    have hn4 := v1
    have n5 := r1.2
    have c6 := v3.2
    have p9 := v5.2
    have dl := dq_le (P := (pg a 0)) k
    refine J_iload_n (pc := 15) dX5_dear_15 rfl ?_
    refine J_iconst (pc := 16) (v := nI 4) dX5_dear_16 (by decide) ?_
    refine J_icmp_ge (pc := 17) (tgt := 47) dX5_dear_17 (by decide) (fun c17 => ?_) (fun c17 => ?_)
    · skip
      have q17 : 4 ≤ k + 1 := (nI_leI (by omega) (by omega)).mp c17
      have e_k : k = 3 := by omega
      refine J_ls (ls' := [(0, .ref 0), (1, .int x), (2, .int (nI (dq (pg a 0) k))), (3, .int (nI (k + 1)))]) ⟨rfl, rfl, rfl, rfl, trivial⟩ ?_
      rw [e_k]
      exact kx
    · skip
      have q17 : k + 1 < 4 := Nat.lt_of_not_le (fun z => c17 ((nI_leI (by omega) (by omega)).mpr z))
      refine J_aload_n (pc := 20) dX5_dear_20 rfl ?_
      refine J_getR (pc := 21) dX5_dear_21 fX5_10 sh0 rfl ?_
      refine J_iload_n (pc := 24) dX5_dear_24 rfl ?_
      refine K_Vi1 (pc := 25) (Y' := YX4_dueIn) dX5_dear_25 lX5_208 mX4_dueIn vX4_dueIn ⟨_, _, rfl⟩ (sv0 isV1) (Nat.le_of_ble_eq_true rfl) (c4_dueIn isV1 hX v3 (w := k + 1) (by omega) (fun c hc => (v7 c hc).2.1)) ?_
      rintro r h0 ⟨e0, rfl⟩
      rw [e0]
      clear e0 h0
      refine J_aload_n (pc := 28) dX5_dear_28 rfl ?_
      refine J_getR (pc := 29) dX5_dear_29 fX5_10 sh0 rfl ?_
      refine J_iload_n (pc := 32) dX5_dear_32 rfl ?_
      refine K_Vi1 (pc := 33) (Y' := YX4_dueIn) dX5_dear_33 lX5_208 mX4_dueIn vX4_dueIn ⟨_, _, rfl⟩ (sv0 isV1) (Nat.le_of_ble_eq_true rfl) (c4_dueIn isV1 hX v3 (w := dq (pg a 0) k) (by omega) (fun c hc => (v7 c hc).2.1)) ?_
      rintro r h0 ⟨e0, rfl⟩
      rw [e0]
      clear e0 h0
      refine J_icmp_le (pc := 36) (tgt := 41) dX5_dear_36 (by decide) (fun c36 => ?_) (fun c36 => ?_)
      · skip
        refine J_iinc (pc := 41) dX5_dear_41 rfl (v := nI ((k + 1) + 1)) (by exact nI_add _ _) (by decide) ?_
        refine J_goto (pc := 44) (tgt := 15) dX5_dear_44 (by decide) ?_
        have i := ih (k + 1) (by omega) (by omega)
        rw [dq, if_neg (Int32.not_lt.mpr c36)] at i
        refine J_ls ?_ i
        exact ⟨rfl, rfl, rfl, rfl, trivial⟩
      · skip
        refine J_iload_n (pc := 39) dX5_dear_39 rfl ?_
        refine J_istore_n (pc := 40) dX5_dear_40 (by decide) ?_
        refine J_iinc (pc := 41) dX5_dear_41 rfl (v := nI ((k + 1) + 1)) (by exact nI_add _ _) (by decide) ?_
        refine J_goto (pc := 44) (tgt := 15) dX5_dear_44 (by decide) ?_
        have i := ih (k + 1) (by omega) (by omega)
        rw [dq, if_pos (Int32.not_le.mp c36)] at i
        refine J_ls ?_ i
        exact ⟨rfl, rfl, rfl, rfl, trivial⟩
set_option maxHeartbeats 4000000 in
theorem c5_dear {g : jG} {d : Nat} {a h : jH} {x : Int32} (hR : RX a h) : Mi g (d + 2) YX5_dear h [.ref 0, .int x] (fun r h' => ∃ a', oDear a x = (r, a') ∧ RX a' h' ∧ hi h h') := by
  refine M.of (by decide) rfl (Nat.le_of_ble_eq_true rfl) ?_
  have hR0 := hR
  have hG := hR.1.2.2.2
  obtain ⟨⟨r1, hX, hwk, ⟨⟨v1, v2, v3, v4⟩, v5, v6, v7, v8, v9, va, vb, vc, vd⟩⟩, rK, rT, rS, rH, ⟨r8, r8b, r9, ra⟩⟩ := hR
  obtain ⟨x1, x2, x3, x4, x5, x6, x7, x8, x9⟩ := id hX
  have hn4 := v1
  have n5 := r1.2
  have c6 := v3.2
  have p9 := v5.2
  refine J_iload_n (pc := 0) dX5_dear_0 rfl ?_
  refine J_iconst (pc := 1) (v := nI 0) dX5_dear_1 (by decide) ?_
  refine J_iconst (pc := 2) (v := nI 1) dX5_dear_2 (by decide) ?_
  refine K_Si3 (pc := 3) (Y' := YX5_within) dX5_dear_3 lX5_63 mX5_within sX5_within (Nat.le_of_ble_eq_true rfl) (c5_within) ?_
  rintro x h0 ⟨e0, ⟨rfl, b3⟩ | ⟨rfl, b3⟩⟩ <;> rw [e0] <;> clear e0 h0
  · skip
    refine J_if_ne (pc := 6) (tgt := 11) dX5_dear_6 (by decide) (fun _ => ?_) (fun c => absurd c (by decide))
    refine J_iconst (pc := 11) (v := nI 0) dX5_dear_11 (by decide) ?_
    refine J_istore_n (pc := 12) dX5_dear_12 (by decide) ?_
    refine J_iconst (pc := 13) (v := nI 1) dX5_dear_13 (by decide) ?_
    refine J_istore_n (pc := 14) dX5_dear_14 (by decide) ?_
    refine J_ls (ls' := [(0, .ref 0), (1, .int x), (2, .int (nI (dq (pg a 0) 0))), (3, .int (nI (0 + 1)))]) ⟨rfl, rfl, rfl, rfl, trivial⟩ ?_
    refine l5_dear hR0 ?_ 4 0 (Nat.zero_le _) (by omega)
    have dl := dq_le (P := (pg a 0)) 3
    refine J_iload_n (pc := 47) dX5_dear_47 rfl ?_
    refine J_if_ne (pc := 48) (tgt := 55) dX5_dear_48 (by decide) (fun c48 => ?_) (fun c48 => ?_)
    · skip
      refine J_aload_n (pc := 55) dX5_dear_55 rfl ?_
      refine J_getR (pc := 56) dX5_dear_56 fX5_10 sh0 rfl ?_
      refine J_iload_n (pc := 59) dX5_dear_59 rfl ?_
      refine K_Vi1 (pc := 60) (Y' := YX4_dueIn) dX5_dear_60 lX5_208 mX4_dueIn vX4_dueIn ⟨_, _, rfl⟩ (sv0 isV1) (Nat.le_of_ble_eq_true rfl) (c4_dueIn isV1 hX v3 (w := dq (pg a 0) 3) (by omega) (fun c hc => (v7 c hc).2.1)) ?_
      rintro r h0 ⟨e0, rfl⟩
      rw [e0]
      clear e0 h0
      refine K_iret (pc := 63) dX5_dear_63 rfl ?_
      exact ⟨a, (iteR_t b3).trans (congrArg (fun z => (z, a)) (iteP_f c48)), hR0, hi.rf⟩
    · skip
      refine J_iload_n (pc := 51) dX5_dear_51 rfl ?_
      refine J_goto (pc := 52) (tgt := 63) dX5_dear_52 (by decide) ?_
      refine K_iret (pc := 63) dX5_dear_63 rfl ?_
      exact ⟨a, (iteR_t b3).trans (congrArg (fun z => (z, a)) (iteP_t c48)), hR0, hi.rf⟩
  · skip
    refine J_if_ne (pc := 6) (tgt := 11) dX5_dear_6 (by decide) (fun c => absurd c (by decide)) (fun _ => ?_)
    refine J_iconst (pc := 9) (v := -1) dX5_dear_9 (by decide) ?_
    refine K_iret (pc := 10) dX5_dear_10 rfl ?_
    exact ⟨a, iteR_f b3, hR0, hi.rf⟩
set_option maxHeartbeats 4000000 in
theorem l6_dear2 {g : jG} {d : Nat} {h : jH} {Q : kQ} {x mo wh : Int32} {w : Nat} (hc : nb 6 (h 132 37)) (kx : K g (d + 1) YX6_dear (h) 100 [(0, .ref 131), (1, .int x), (2, .int mo), (3, .int wh), (4, .int (nI w)), (5, .int (dueF (pg h 0) w (ix (h 132 37)))), (6, .int (nI (ix (h 132 37))))] [] Q) : ∀ (m k : Nat) , k ≤ (ix (h 132 37)) → (ix (h 132 37)) < k + m → K g (d + 1) YX6_dear (h) 31 [(0, .ref 131), (1, .int x), (2, .int mo), (3, .int wh), (4, .int (nI w)), (5, .int (dueF (pg h 0) w k)), (6, .int (nI k))] [] Q := by
  intro m
  induction m with
  | zero => intro k  hk1 hk2 ; omega
  | succ m ih =>
    intro k  hk1 hk2 
    have c6 := hc.2
    refine J_iload (pc := 31) dX6_dear_31 rfl ?_
    refine J_aload_n (pc := 33) dX6_dear_33 rfl ?_
    refine J_getR (pc := 34) dX6_dear_34 fX6_7 sh131 rfl ?_
    refine J_bipush (pc := 37) (v := nI 37) dX6_dear_37 (by decide) ?_
    refine J_iald (pc := 39) dX6_dear_39 sh132 (rfl) (by omega) (hc.1) (by decide) ?_
    refine J_icmp_ge (pc := 40) (tgt := 100) dX6_dear_40 (by decide) (fun c40 => ?_) (fun c40 => ?_)
    · skip
      have q40 : (ix (h 132 37)) ≤ k := (nI_leI (by omega) (by omega)).mp c40
      have e_k : k = (ix (h 132 37)) := by omega
      refine J_ls (ls' := [(0, .ref 131), (1, .int x), (2, .int mo), (3, .int wh), (4, .int (nI w)), (5, .int (dueF (pg h 0) w k)), (6, .int (nI k))]) ⟨rfl, rfl, rfl, rfl, rfl, rfl, rfl, trivial⟩ ?_
      rw [e_k]
      exact kx
    · skip
      have q40 : k < (ix (h 132 37)) := Nat.lt_of_not_le (fun z => c40 ((nI_leI (by omega) (by omega)).mpr z))
      refine J_bipush (pc := 43) (v := nI 12) dX6_dear_43 (by decide) ?_
      refine J_iconst (pc := 45) (v := nI 5) dX6_dear_45 (by decide) ?_
      refine J_iload (pc := 46) dX6_dear_46 rfl ?_
      refine J_imul (pc := 48) dX6_dear_48 (pk_mul _ _) ?_
      refine J_iadd (pc := 49) dX6_dear_49 (nI_add _ _) ?_
      refine J_istore (pc := 50) dX6_dear_50 (by decide) ?_
      refine J_iload (pc := 52) dX6_dear_52 rfl ?_
      refine J_aload_n (pc := 54) dX6_dear_54 rfl ?_
      refine J_getR (pc := 55) dX6_dear_55 fX6_7 sh131 rfl ?_
      refine J_iload (pc := 58) dX6_dear_58 rfl ?_
      refine J_iconst (pc := 60) (v := nI 4) dX6_dear_60 (by decide) ?_
      refine J_iadd (pc := 61) dX6_dear_61 (nI_add _ _) ?_
      refine J_iald (pc := 62) dX6_dear_62 sh132 (rfl) (by omega) (pg0.symm) (by decide) ?_
      refine J_aload_n (pc := 63) dX6_dear_63 rfl ?_
      refine J_getR (pc := 64) dX6_dear_64 fX6_7 sh131 rfl ?_
      refine J_iload (pc := 67) dX6_dear_67 rfl ?_
      refine J_iconst (pc := 69) (v := nI 2) dX6_dear_69 (by decide) ?_
      refine J_iadd (pc := 70) dX6_dear_70 (nI_add _ _) ?_
      refine J_iald (pc := 71) dX6_dear_71 sh132 (rfl) (by omega) (pg0.symm) (by decide) ?_
      refine J_iload (pc := 72) dX6_dear_72 rfl ?_
      refine J_icmp_ne (pc := 74) (tgt := 89) dX6_dear_74 (by decide) (fun c74 => ?_) (fun c74 => ?_)
      · skip
        refine J_iconst (pc := 89) (v := nI 0) dX6_dear_89 (by decide) ?_
        refine J_iadd (pc := 90) dX6_dear_90 (rfl) ?_
        refine J_iadd (pc := 91) dX6_dear_91 (rfl) ?_
        refine J_istore (pc := 92) dX6_dear_92 (by decide) ?_
        refine J_iinc (pc := 94) dX6_dear_94 rfl (v := nI (k + 1)) (by exact nI_add _ _) (by decide) ?_
        refine J_goto (pc := 97) (tgt := 31) dX6_dear_97 (by decide) ?_
        have i := ih (k + 1) (by omega) (by omega)
        rw [dueF, dueT, if_neg c74] at i
        refine J_ls ?_ i
        exact ⟨rfl, rfl, rfl, rfl, rfl, rfl, rfl, trivial⟩
      · skip
        refine J_aload_n (pc := 77) dX6_dear_77 rfl ?_
        refine J_getR (pc := 78) dX6_dear_78 fX6_7 sh131 rfl ?_
        refine J_iload (pc := 81) dX6_dear_81 rfl ?_
        refine J_iconst (pc := 83) (v := nI 3) dX6_dear_83 (by decide) ?_
        refine J_iadd (pc := 84) dX6_dear_84 (nI_add _ _) ?_
        refine J_iald (pc := 85) dX6_dear_85 sh132 (rfl) (by omega) (pg0.symm) (by decide) ?_
        refine J_goto (pc := 86) (tgt := 90) dX6_dear_86 (by decide) ?_
        refine J_iadd (pc := 90) dX6_dear_90 (rfl) ?_
        refine J_iadd (pc := 91) dX6_dear_91 (rfl) ?_
        refine J_istore (pc := 92) dX6_dear_92 (by decide) ?_
        refine J_iinc (pc := 94) dX6_dear_94 rfl (v := nI (k + 1)) (by exact nI_add _ _) (by decide) ?_
        refine J_goto (pc := 97) (tgt := 31) dX6_dear_97 (by decide) ?_
        have i := ih (k + 1) (by omega) (by omega)
        rw [dueF, dueT, if_pos c74] at i
        refine J_ls ?_ i
        exact ⟨rfl, rfl, rfl, rfl, rfl, rfl, rfl, trivial⟩
set_option maxHeartbeats 4000000 in
theorem l6_dear {g : jG} {d : Nat} {h : jH} {Q : kQ} {x : Int32} (hR : MR h) (kx : K g (d + 1) YX6_dear (h) 132 [(0, .ref 131), (1, .int x), (2, .int (dueA (pg h 0) (dq (pg h 0) 3))), (3, .int (nI (dq (pg h 0) 3))), (4, .int (nI (3 + 1)))] [] Q) : ∀ (m k : Nat) , k ≤ 3 → 3 < k + m → K g (d + 1) YX6_dear (h) 19 [(0, .ref 131), (1, .int x), (2, .int (dueA (pg h 0) (dq (pg h 0) k))), (3, .int (nI (dq (pg h 0) k))), (4, .int (nI (k + 1)))] [] Q := by
  intro m
  induction m with
  | zero => intro k  hk1 hk2 ; omega
  | succ m ih =>
    intro k  hk1 hk2 
    have hR0 := hR
    have hG : GD (ix (h 131 2)) (pg h 0) := hR.2.1
    obtain ⟨r1, ⟨⟨v1, v2, v3, v4⟩, v5, v6, v7, v8, v9, va, vb, vc, vd⟩, r3, r4, ⟨r5, r6⟩, r7, r8, r9, ra⟩ := hR
    have hn := r1.1
    have hn4 := v1
    have n5 := r1.2
    have c6 : ix (h 132 37) < 6 := v3.2
    have p9 : ix (h 132 51) < 9 := v5.2
    have p9' : ix (pg h 0 51) < 9 := v5.2
    refine J_iload (pc := 19) dX6_dear_19 rfl ?_
    refine J_iconst (pc := 21) (v := nI 4) dX6_dear_21 (by decide) ?_
    refine J_icmp_ge (pc := 22) (tgt := 132) dX6_dear_22 (by decide) (fun c22 => ?_) (fun c22 => ?_)
    · skip
      have q22 : 4 ≤ k + 1 := (nI_leI (by omega) (by omega)).mp c22
      have e_k : k = 3 := by omega
      refine J_ls (ls' := [(0, .ref 131), (1, .int x), (2, .int (dueA (pg h 0) (dq (pg h 0) k))), (3, .int (nI (dq (pg h 0) k))), (4, .int (nI (k + 1)))]) ⟨rfl, rfl, rfl, rfl, rfl, trivial⟩ ?_
      rw [e_k]
      exact kx
    · skip
      have q22 : k + 1 < 4 := Nat.lt_of_not_le (fun z => c22 ((nI_leI (by omega) (by omega)).mpr z))
      refine J_iconst (pc := 25) (v := nI 0) dX6_dear_25 (by decide) ?_
      refine J_istore (pc := 26) dX6_dear_26 (by decide) ?_
      refine J_iconst (pc := 28) (v := nI 0) dX6_dear_28 (by decide) ?_
      refine J_istore (pc := 29) dX6_dear_29 (by decide) ?_
      refine J_ls (ls' := [(0, .ref 131), (1, .int x), (2, .int (dueA (pg h 0) (dq (pg h 0) k))), (3, .int (nI (dq (pg h 0) k))), (4, .int (nI (k + 1))), (5, .int (nI 0)), (6, .int (nI 0))]) ⟨rfl, rfl, rfl, rfl, rfl, rfl, rfl, trivial⟩ ?_
      refine l6_dear2 (w := (k + 1)) v3 ?_ (ix (h 132 37) + 1) 0 (Nat.zero_le _) (by omega)
      rw [show dueF (pg h 0) (k + 1) (ix (h 132 37)) = dueA (pg h 0) (k + 1) from rfl]
      refine J_iload (pc := 100) dX6_dear_100 rfl ?_
      refine J_iload_n (pc := 102) dX6_dear_102 rfl ?_
      refine J_icmp_le (pc := 103) (tgt := 111) dX6_dear_103 (by decide) (fun c103 => ?_) (fun c103 => ?_)
      · skip
        refine J_iload_n (pc := 111) dX6_dear_111 rfl ?_
        refine J_istore_n (pc := 112) dX6_dear_112 (by decide) ?_
        refine J_iload (pc := 113) dX6_dear_113 rfl ?_
        refine J_iload_n (pc := 115) dX6_dear_115 rfl ?_
        refine J_icmp_le (pc := 116) (tgt := 124) dX6_dear_116 (by decide) (fun c116 => ?_) (fun c116 => ?_)
        · skip
          refine J_iload_n (pc := 124) dX6_dear_124 rfl ?_
          refine J_istore_n (pc := 125) dX6_dear_125 (by decide) ?_
          refine J_iinc (pc := 126) dX6_dear_126 rfl (v := nI ((k + 1) + 1)) (by exact nI_add _ _) (by decide) ?_
          refine J_goto (pc := 129) (tgt := 19) dX6_dear_129 (by decide) ?_
          have i := ih (k + 1) (by omega) (by omega)
          rw [show dq (pg h 0) (k + 1) = dq (pg h 0) k from if_neg (Int32.not_lt.mpr c103)] at i
          refine J_ls ?_ i
          exact ⟨rfl, rfl, rfl, rfl, rfl, trivial⟩
        · skip
          exact absurd c103 c116
      · skip
        refine J_iload (pc := 106) dX6_dear_106 rfl ?_
        refine J_goto (pc := 108) (tgt := 112) dX6_dear_108 (by decide) ?_
        refine J_istore_n (pc := 112) dX6_dear_112 (by decide) ?_
        refine J_iload (pc := 113) dX6_dear_113 rfl ?_
        refine J_iload_n (pc := 115) dX6_dear_115 rfl ?_
        refine J_icmp_le (pc := 116) (tgt := 124) dX6_dear_116 (by decide) (fun c116 => ?_) (fun c116 => ?_)
        · skip
          exact absurd c116 c103
        · skip
          refine J_iload (pc := 119) dX6_dear_119 rfl ?_
          refine J_goto (pc := 121) (tgt := 125) dX6_dear_121 (by decide) ?_
          refine J_istore_n (pc := 125) dX6_dear_125 (by decide) ?_
          refine J_iinc (pc := 126) dX6_dear_126 rfl (v := nI ((k + 1) + 1)) (by exact nI_add _ _) (by decide) ?_
          refine J_goto (pc := 129) (tgt := 19) dX6_dear_129 (by decide) ?_
          have i := ih (k + 1) (by omega) (by omega)
          rw [show dq (pg h 0) (k + 1) = k + 1 from if_pos (Int32.not_le.mp c103)] at i
          refine J_ls ?_ i
          exact ⟨rfl, rfl, rfl, rfl, rfl, trivial⟩
set_option maxHeartbeats 4000000 in
theorem c6_dear {g : jG} {d : Nat} {h : jH} {x : Int32} (hR : MR h) : Mi g (d + 2) YX6_dear h [.ref 131, .int x] (fun r h' => r = (oDear h x).1 ∧ sameP (oDear h x).2 h' ∧ lo h h') := by
  refine M.of (by decide) rfl (Nat.le_of_ble_eq_true rfl) ?_
  have hR0 := hR
  have hG : GD (ix (h 131 2)) (pg h 0) := hR.2.1
  obtain ⟨r1, ⟨⟨v1, v2, v3, v4⟩, v5, v6, v7, v8, v9, va, vb, vc, vd⟩, r3, r4, ⟨r5, r6⟩, r7, r8, r9, ra⟩ := hR
  have hn := r1.1
  have hn4 := v1
  have n5 := r1.2
  have c6 : ix (h 132 37) < 6 := v3.2
  have p9 : ix (h 132 51) < 9 := v5.2
  have p9' : ix (pg h 0 51) < 9 := v5.2
  refine J_iload_n (pc := 0) dX6_dear_0 rfl ?_
  refine J_i2l (pc := 1) dX6_dear_1 (rfl) ?_
  refine J_lconst (pc := 2) (v := 0) dX6_dear_2 (by decide) ?_
  refine J_lconst (pc := 3) (v := 1) dX6_dear_3 (by decide) ?_
  refine K_Si3 (pc := 4) (Y' := YX6_in) dX6_dear_4 lX6_55 mX6_in sX6_in (Nat.le_of_ble_eq_true rfl) (c6_inI x (nI 0) (nI 1) rfl (by decide) (by decide)) ?_
  rintro x h0 ⟨e0, ⟨rfl, b4⟩ | ⟨rfl, b4⟩⟩ <;> rw [e0] <;> clear e0 h0
  · skip
    refine J_if_ne (pc := 7) (tgt := 12) dX6_dear_7 (by decide) (fun _ => ?_) (fun c => absurd c (by decide))
    refine J_iconst (pc := 12) (v := -1) dX6_dear_12 (by decide) ?_
    refine J_istore_n (pc := 13) dX6_dear_13 (by decide) ?_
    refine J_iconst (pc := 14) (v := nI 0) dX6_dear_14 (by decide) ?_
    refine J_istore_n (pc := 15) dX6_dear_15 (by decide) ?_
    refine J_iconst (pc := 16) (v := nI 0) dX6_dear_16 (by decide) ?_
    refine J_istore (pc := 17) dX6_dear_17 (by decide) ?_
    refine J_iload (pc := 19) dX6_dear_19 rfl ?_
    refine J_iconst (pc := 21) (v := nI 4) dX6_dear_21 (by decide) ?_
    refine J_icmp_ge (pc := 22) (tgt := 132) dX6_dear_22 (by decide) (fun c => absurd c (by decide)) (fun _ => ?_)
    refine J_iconst (pc := 25) (v := nI 0) dX6_dear_25 (by decide) ?_
    refine J_istore (pc := 26) dX6_dear_26 (by decide) ?_
    refine J_iconst (pc := 28) (v := nI 0) dX6_dear_28 (by decide) ?_
    refine J_istore (pc := 29) dX6_dear_29 (by decide) ?_
    have due0 : (-1 : Int32) < dueA (pg h 0) 0 := by
      obtain ⟨m, hm, e⟩ := due_nb (w := 0) (GD_parts.mp hG).2.2.1 (Nat.le_refl (ix (pg h 0 37)))
      have c66 := v3.2
      rw [show dueA (pg h 0) 0 = nI m from e, i_lt, nI_n (by omega), show (-1 : Int32).toInt = -1 from rfl]
      omega
    refine J_ls (ls' := [(0, .ref 131), (1, .int x), (2, .int (-1)), (3, .int (nI 0)), (4, .int (nI 0)), (5, .int (nI 0)), (6, .int (nI 0))]) ⟨rfl, rfl, rfl, rfl, rfl, rfl, rfl, trivial⟩ ?_
    refine l6_dear2 (w := 0) v3 ?_ (ix (h 132 37) + 1) 0 (Nat.zero_le _) (by omega)
    rw [show dueF (pg h 0) 0 (ix (h 132 37)) = dueA (pg h 0) 0 from rfl]
    refine J_iload (pc := 100) dX6_dear_100 rfl ?_
    refine J_iload_n (pc := 102) dX6_dear_102 rfl ?_
    refine J_icmp_le (pc := 103) (tgt := 111) dX6_dear_103 (by decide) (fun c103 => ?_) (fun c103 => ?_)
    · skip
      refine J_iload_n (pc := 111) dX6_dear_111 rfl ?_
      refine J_istore_n (pc := 112) dX6_dear_112 (by decide) ?_
      refine J_iload (pc := 113) dX6_dear_113 rfl ?_
      refine J_iload_n (pc := 115) dX6_dear_115 rfl ?_
      refine J_icmp_le (pc := 116) (tgt := 124) dX6_dear_116 (by decide) (fun c116 => ?_) (fun c116 => ?_)
      · skip
        refine J_iload_n (pc := 124) dX6_dear_124 rfl ?_
        refine J_istore_n (pc := 125) dX6_dear_125 (by decide) ?_
        refine J_iinc (pc := 126) dX6_dear_126 rfl (v := nI 1) (by decide) (by decide) ?_
        refine J_goto (pc := 129) (tgt := 19) dX6_dear_129 (by decide) ?_
        exact absurd c103 (Int32.not_le.mpr due0)
      · skip
        exact absurd c103 c116
    · skip
      refine J_iload (pc := 106) dX6_dear_106 rfl ?_
      refine J_goto (pc := 108) (tgt := 112) dX6_dear_108 (by decide) ?_
      refine J_istore_n (pc := 112) dX6_dear_112 (by decide) ?_
      refine J_iload (pc := 113) dX6_dear_113 rfl ?_
      refine J_iload_n (pc := 115) dX6_dear_115 rfl ?_
      refine J_icmp_le (pc := 116) (tgt := 124) dX6_dear_116 (by decide) (fun c116 => ?_) (fun c116 => ?_)
      · skip
        exact absurd c116 c103
      · skip
        refine J_iload (pc := 119) dX6_dear_119 rfl ?_
        refine J_goto (pc := 121) (tgt := 125) dX6_dear_121 (by decide) ?_
        refine J_istore_n (pc := 125) dX6_dear_125 (by decide) ?_
        refine J_iinc (pc := 126) dX6_dear_126 rfl (v := nI 1) (by decide) (by decide) ?_
        refine J_goto (pc := 129) (tgt := 19) dX6_dear_129 (by decide) ?_
        refine J_ls (ls' := [(0, .ref 131), (1, .int x), (2, .int (dueA (pg h 0) (dq (pg h 0) 0))), (3, .int (nI (dq (pg h 0) 0))), (4, .int (nI (0 + 1)))]) ⟨rfl, rfl, rfl, rfl, rfl, trivial⟩ ?_
        refine l6_dear hR0 ?_ 4 0 (Nat.zero_le _) (by omega)
        refine J_iload_n (pc := 132) dX6_dear_132 rfl ?_
        refine J_if_ne (pc := 133) (tgt := 140) dX6_dear_133 (by decide) (fun c133 => ?_) (fun c133 => ?_)
        · skip
          refine J_iload_n (pc := 140) dX6_dear_140 rfl ?_
          refine K_iret (pc := 141) dX6_dear_141 rfl ?_
          exact by rw [oDear, iteR_t b4]; exact ⟨(iteP_f c133).symm, sameP.rf, lo.rf⟩
        · skip
          refine J_iload_n (pc := 136) dX6_dear_136 rfl ?_
          refine J_goto (pc := 137) (tgt := 141) dX6_dear_137 (by decide) ?_
          refine K_iret (pc := 141) dX6_dear_141 rfl ?_
          exact by rw [oDear, iteR_t b4]; exact ⟨(iteP_t c133).symm, sameP.rf, lo.rf⟩
  · skip
    refine J_if_ne (pc := 7) (tgt := 12) dX6_dear_7 (by decide) (fun c => absurd c (by decide)) (fun _ => ?_)
    refine J_iconst (pc := 10) (v := -1) dX6_dear_10 (by decide) ?_
    refine K_iret (pc := 11) dX6_dear_11 rfl ?_
    exact by rw [oDear, iteR_f b4]; exact ⟨rfl, sameP.rf, lo.rf⟩
set_option maxHeartbeats 4000000 in
theorem l5_cd {g : jG} {d : Nat} {h : jH} {Q : kQ} {G : Nat} (kx : K g d YX5_commonDivisor h 44 [(4, .long (lN G))] [] Q) : ∀ (f t x y : Nat), x < 2 ^ 60 → y < 2 ^ f → f ≤ 40 → t + 2 * f ≤ 98 → Nat.gcd x y = G →
    K g d YX5_commonDivisor h 9 [(4, .long (lN x)), (6, .long (lN y)), (8, .int (nI t))] [] Q := by
  intro f
  induction f with
  | zero =>
    intro t x y hx hy hf ht hg
    have y0 : y = 0 := by omega
    refine J_iload (pc := 9) dX5_commonDivisor_9 rfl ?_
    refine J_bipush (pc := 11) (v := nI 100) dX5_commonDivisor_11 (by decide) ?_
    refine J_icmp_ge (pc := 13) (tgt := 44) dX5_commonDivisor_13 (by decide) (fun c13 => ?_) (fun c13 => ?_)
    · skip
      exact absurd ((nI_leI (by omega) (by omega)).mp c13) (by omega)
    · skip
      refine J_lload (pc := 16) dX5_commonDivisor_16 rfl ?_
      refine J_lconst (pc := 18) (v := 0) dX5_commonDivisor_18 (by decide) ?_
      refine J_lcmp (pc := 19) dX5_commonDivisor_19 ?_
      refine J_if_eq (pc := 20) (tgt := 44) dX5_commonDivisor_20 (by decide) (fun c20 => ?_) (fun c20 => ?_)
      · skip
        refine J_ls (ls' := [(4, .long (lN x))]) ⟨rfl, trivial⟩ ?_
        rw [show x = G by rw [← hg, y0, Nat.gcd_zero_right]]
        exact kx
      · skip
        exact absurd ((lg_cmp_eq _ _).mpr ((lN_inj0 (by omega)).mpr y0)) c20
  | succ f ih =>
    intro t x y hx hy hf ht hg
    have p40 : 2 ^ (f + 1) ≤ 2 ^ 40 := Nat.pow_le_pow_right (by omega) hf
    refine J_iload (pc := 9) dX5_commonDivisor_9 rfl ?_
    refine J_bipush (pc := 11) (v := nI 100) dX5_commonDivisor_11 (by decide) ?_
    refine J_icmp_ge (pc := 13) (tgt := 44) dX5_commonDivisor_13 (by decide) (fun c13 => ?_) (fun c13 => ?_)
    · skip
      exact absurd ((nI_leI (by omega) (by omega)).mp c13) (by omega)
    · skip
      refine J_lload (pc := 16) dX5_commonDivisor_16 rfl ?_
      refine J_lconst (pc := 18) (v := 0) dX5_commonDivisor_18 (by decide) ?_
      refine J_lcmp (pc := 19) dX5_commonDivisor_19 ?_
      refine J_if_eq (pc := 20) (tgt := 44) dX5_commonDivisor_20 (by decide) (fun c20 => ?_) (fun c20 => ?_)
      · skip
        have y0 : y = 0 := (lN_inj0 (by omega)).mp ((lg_cmp_eq _ _).mp c20)
        refine J_ls (ls' := [(4, .long (lN x))]) ⟨rfl, trivial⟩ ?_
        rw [show x = G by rw [← hg, y0, Nat.gcd_zero_right]]
        exact kx
      · skip
        have n0 : y ≠ 0 := fun z => c20 ((lg_cmp_eq _ _).mpr ((lN_inj0 (by omega)).mpr z))
        refine J_lload (pc := 23) dX5_commonDivisor_23 rfl ?_
        refine J_lload (pc := 25) dX5_commonDivisor_25 rfl ?_
        refine J_lrem (pc := 27) dX5_commonDivisor_27 (fun z => n0 ((lN_inj0 (by omega)).mp z)) (pk_lRem (by omega) (by omega) (by omega)) ?_
        refine J_lstore (pc := 28) dX5_commonDivisor_28 (by decide) ?_
        refine J_lload (pc := 30) dX5_commonDivisor_30 rfl ?_
        refine J_lstore (pc := 32) dX5_commonDivisor_32 (by decide) ?_
        refine J_lload (pc := 34) dX5_commonDivisor_34 rfl ?_
        refine J_lstore (pc := 36) dX5_commonDivisor_36 (by decide) ?_
        refine J_iinc (pc := 38) dX5_commonDivisor_38 rfl (v := nI (t + 1)) (by exact nI_add _ _) (by decide) ?_
        refine J_goto (pc := 41) (tgt := 9) dX5_commonDivisor_41 (by decide) ?_
        have m1 : x % y < y := Nat.mod_lt _ (by omega)
        refine J_iload (pc := 9) dX5_commonDivisor_9 rfl ?_
        refine J_bipush (pc := 11) (v := nI 100) dX5_commonDivisor_11 (by decide) ?_
        refine J_icmp_ge (pc := 13) (tgt := 44) dX5_commonDivisor_13 (by decide) (fun c13 => ?_) (fun c13 => ?_)
        · skip
          exact absurd ((nI_leI (by omega) (by omega)).mp c13) (by omega)
        · skip
          refine J_lload (pc := 16) dX5_commonDivisor_16 rfl ?_
          refine J_lconst (pc := 18) (v := 0) dX5_commonDivisor_18 (by decide) ?_
          refine J_lcmp (pc := 19) dX5_commonDivisor_19 ?_
          refine J_if_eq (pc := 20) (tgt := 44) dX5_commonDivisor_20 (by decide) (fun c20 => ?_) (fun c20 => ?_)
          · skip
            have y0 : (x % y) = 0 := (lN_inj0 (by omega)).mp ((lg_cmp_eq _ _).mp c20)
            refine J_ls (ls' := [(4, .long (lN y))]) ⟨rfl, trivial⟩ ?_
            rw [show y = G by rw [← hg, gcd_step, y0, Nat.gcd_zero_right]]
            exact kx
          · skip
            have n1 : (x % y) ≠ 0 := fun z => c20 ((lg_cmp_eq _ _).mpr ((lN_inj0 (by omega)).mpr z))
            refine J_lload (pc := 23) dX5_commonDivisor_23 rfl ?_
            refine J_lload (pc := 25) dX5_commonDivisor_25 rfl ?_
            refine J_lrem (pc := 27) dX5_commonDivisor_27 (fun z => n1 ((lN_inj0 (by omega)).mp z)) (pk_lRem (by omega) (by omega) (by omega)) ?_
            refine J_lstore (pc := 28) dX5_commonDivisor_28 (by decide) ?_
            refine J_lload (pc := 30) dX5_commonDivisor_30 rfl ?_
            refine J_lstore (pc := 32) dX5_commonDivisor_32 (by decide) ?_
            refine J_lload (pc := 34) dX5_commonDivisor_34 rfl ?_
            refine J_lstore (pc := 36) dX5_commonDivisor_36 (by decide) ?_
            refine J_iinc (pc := 38) dX5_commonDivisor_38 rfl (v := nI ((t + 1) + 1)) (by exact nI_add _ _) (by decide) ?_
            refine J_goto (pc := 41) (tgt := 9) dX5_commonDivisor_41 (by decide) ?_
            have m2 := mod_half hy n1
            refine J_ls (ls' := [(4, .long (lN (x % y))), (6, .long (lN (y % (x % y)))), (8, .int (nI (t + 1 + 1)))]) ⟨rfl, rfl, rfl, trivial⟩ ?_
            exact ih (t + 1 + 1) (x % y) (y % (x % y)) (by omega) m2 (by omega) (by omega) (by rw [← hg, gcd_step x y, gcd_step y (x % y)])
set_option maxHeartbeats 4000000 in
theorem c5_commonDivisor {g : jG} {d : Nat} {h : jH} {x y : Nat} (hx : x < 2 ^ 60) (hy : y < 2 ^ 40) : Ml g d YX5_commonDivisor h [.long (lN x), .long (lN y)] (fun r h' => h' = h ∧ r = lN (Nat.gcd x y)) := by
  refine M.of (by decide) rfl (Nat.le_of_ble_eq_true rfl) ?_
  refine J_lload_n (pc := 0) dX5_commonDivisor_0 rfl ?_
  refine J_lstore (pc := 1) dX5_commonDivisor_1 (by decide) ?_
  refine J_lload_n (pc := 3) dX5_commonDivisor_3 rfl ?_
  refine J_lstore (pc := 4) dX5_commonDivisor_4 (by decide) ?_
  refine J_iconst (pc := 6) (v := nI 0) dX5_commonDivisor_6 (by decide) ?_
  refine J_istore (pc := 7) dX5_commonDivisor_7 (by decide) ?_
  refine J_ls (ls' := [(4, .long (lN x)), (6, .long (lN y)), (8, .int (nI 0))]) ⟨rfl, rfl, rfl, trivial⟩ ?_
  refine l5_cd ?_ 40 0 x y hx hy (by omega) (by omega) rfl
  refine J_lload (pc := 44) dX5_commonDivisor_44 rfl ?_
  refine K_lret (pc := 46) dX5_commonDivisor_46 rfl ?_
  exact ⟨rfl, rfl⟩
set_option maxHeartbeats 4000000 in
theorem l5_power {g : jG} {d : Nat} {h : jH} {Q : kQ} {n : Nat} (hn : n ≤ 4) (kx : K g d YX5_power (h) 22 [(0, .int (nI 10)), (1, .int (nI n)), (2, .long (lN (10 ^ n))), (4, .int (nI n))] [] Q) : ∀ (m k : Nat) , k ≤ n → n < k + m → K g d YX5_power (h) 5 [(0, .int (nI 10)), (1, .int (nI n)), (2, .long (lN (10 ^ k))), (4, .int (nI k))] [] Q := by
  intro m
  induction m with
  | zero => intro k  hk1 hk2 ; omega
  | succ m ih =>
    intro k  hk1 hk2 
    refine J_iload (pc := 5) dX5_power_5 rfl ?_
    refine J_iload_n (pc := 7) dX5_power_7 rfl ?_
    refine J_icmp_ge (pc := 8) (tgt := 22) dX5_power_8 (by decide) (fun c8 => ?_) (fun c8 => ?_)
    · skip
      have q8 : n ≤ k := (nI_leI (by omega) (by omega)).mp c8
      have e_k : k = n := by omega
      refine J_ls (ls' := [(0, .int (nI 10)), (1, .int (nI n)), (2, .long (lN (10 ^ k))), (4, .int (nI k))]) ⟨rfl, rfl, rfl, rfl, trivial⟩ ?_
      rw [e_k]
      exact kx
    · skip
      have q8 : k < n := Nat.lt_of_not_le (fun z => c8 ((nI_leI (by omega) (by omega)).mpr z))
      refine J_lload_n (pc := 11) dX5_power_11 rfl ?_
      refine J_iload_n (pc := 12) dX5_power_12 rfl ?_
      refine J_i2l (pc := 13) dX5_power_13 (nI_l (by omega)) ?_
      refine J_lmul (pc := 14) dX5_power_14 ((lN_mul _ _).trans (congrArg lN (show 10 ^ k * 10 = 10 ^ (k + 1) by rw [Nat.pow_succ]))) ?_
      refine J_lstore_n (pc := 15) dX5_power_15 (by decide) ?_
      refine J_iinc (pc := 16) dX5_power_16 rfl (v := nI (k + 1)) (by exact nI_add _ _) (by decide) ?_
      refine J_goto (pc := 19) (tgt := 5) dX5_power_19 (by decide) ?_
      exact J_ls (ls' := [(0, .int (nI 10)), (1, .int (nI n)), (2, .long (lN (10 ^ (k + 1)))), (4, .int (nI (k + 1)))]) ⟨rfl, rfl, rfl, rfl, trivial⟩ (ih (k + 1)  (by omega) (by omega) )
set_option maxHeartbeats 4000000 in
theorem c5_power {g : jG} {d : Nat} {h : jH} {n : Nat} (hn : n ≤ 4) : Ml g d YX5_power h [.int (nI 10), .int (nI n)] (fun r h' => h' = h ∧ r = lN (10 ^ n)) := by
  refine M.of (by decide) rfl (Nat.le_of_ble_eq_true rfl) ?_
  refine J_lconst (pc := 0) (v := 1) dX5_power_0 (by decide) ?_
  refine J_lstore_n (pc := 1) dX5_power_1 (by decide) ?_
  refine J_iconst (pc := 2) (v := nI 0) dX5_power_2 (by decide) ?_
  refine J_istore (pc := 3) dX5_power_3 (by decide) ?_
  refine J_ls (ls' := [(0, .int (nI 10)), (1, .int (nI n)), (2, .long (lN (10 ^ 0))), (4, .int (nI 0))]) ⟨rfl, rfl, rfl, rfl, trivial⟩ ?_
  refine l5_power hn ?_ (n + 1) 0 (Nat.zero_le _) (by omega)
  refine J_lload_n (pc := 22) dX5_power_22 rfl ?_
  refine K_lret (pc := 23) dX5_power_23 rfl ?_
  exact ⟨rfl, rfl⟩
set_option maxHeartbeats 4000000 in
theorem c5_part {g : jG} {d : Nat} {h : jH} {X D : Nat} {x : Int32} (hX : X < 2 ^ 60) (hD : 0 < D) (hD2 : D < 2 ^ 40) : Ml g (d + 1) YX5_part h [.long (lN X), .long (lN D), .int x] (fun r h' => h' = h ∧ r = frac X D x) := by
  refine M.of (by decide) rfl (Nat.le_of_ble_eq_true rfl) ?_
  have gp : 0 < Nat.gcd X D := Nat.gcd_pos_of_pos_right _ hD
  have gl : Nat.gcd X D ≤ D := Nat.gcd_le_right _ hD
  refine J_lconst (pc := 0) (v := 1) dX5_part_0 (by decide) ?_
  refine J_lload_n (pc := 1) dX5_part_1 rfl ?_
  refine J_lload_n (pc := 2) dX5_part_2 rfl ?_
  refine K_Sl2 (pc := 3) (Y' := YX5_commonDivisor) dX5_part_3 lX5_293 mX5_commonDivisor sX5_commonDivisor (Nat.le_of_ble_eq_true rfl) (c5_commonDivisor hX hD2) ?_
  rintro r h0 ⟨e0, rfl⟩
  rw [e0]
  clear e0 h0
  refine J_maxL (pc := 6) dX5_part_6 qX5_297 w_mxl_s w_math w_mxl_c (Nat.le_of_ble_eq_true rfl) (if_neg (fun z => absurd ((pk_lLT (b := 1) (by omega) (by omega)).mp z) (by omega))) ?_
  refine J_lstore (pc := 9) dX5_part_9 (by decide) ?_
  refine J_iload (pc := 11) dX5_part_11 rfl ?_
  refine J_if_ne (pc := 13) (tgt := 20) dX5_part_13 (by decide) (fun c13 => ?_) (fun c13 => ?_)
  · skip
    refine J_lload_n (pc := 20) dX5_part_20 rfl ?_
    refine J_lload (pc := 21) dX5_part_21 rfl ?_
    refine J_ldiv (pc := 23) dX5_part_23 (fun z => absurd ((lN_inj0 (by omega)).mp z) (by omega)) (pk_lDiv (by omega) gp (by omega)) ?_
    refine K_lret (pc := 24) dX5_part_24 rfl ?_
    exact ⟨rfl, (iteX_f c13).symm⟩
  · skip
    refine J_lload_n (pc := 16) dX5_part_16 rfl ?_
    refine J_goto (pc := 17) (tgt := 21) dX5_part_17 (by decide) ?_
    refine J_lload (pc := 21) dX5_part_21 rfl ?_
    refine J_ldiv (pc := 23) dX5_part_23 (fun z => absurd ((lN_inj0 (by omega)).mp z) (by omega)) (pk_lDiv (by omega) gp (by omega)) ?_
    refine K_lret (pc := 24) dX5_part_24 rfl ?_
    exact ⟨rfl, (iteX_t c13).symm⟩
set_option maxHeartbeats 4000000 in
theorem l6_low {g : jG} {d : Nat} {h : jH} {Q : kQ} {G : Nat} {A B : Int64} {w : Int32} (kx : K g d YX6_lowest h 42 [(0, .long A), (2, .long B), (4, .int w), (5, .long (lN G))] [] Q) : ∀ (f x y : Nat), x < 2 ^ 60 → y < 2 ^ 40 → y < f → Nat.gcd x y = G →
    K g d YX6_lowest h 17 [(0, .long A), (2, .long B), (4, .int w), (5, .long (lN x)), (7, .long (lN y))] [] Q := by
  intro f
  induction f with
  | zero => intro x y hx hy hf hg; omega
  | succ f ih =>
    intro x y hx hy hf hg
    refine J_lload (pc := 17) dX6_lowest_17 rfl ?_
    refine J_lconst (pc := 19) (v := 0) dX6_lowest_19 (by decide) ?_
    refine J_lcmp (pc := 20) dX6_lowest_20 ?_
    refine J_if_eq (pc := 21) (tgt := 42) dX6_lowest_21 (by decide) (fun c21 => ?_) (fun c21 => ?_)
    · skip
      have y0 : y = 0 := (lN_inj0 (by omega)).mp ((lg_cmp_eq _ _).mp c21)
      refine J_ls (ls' := [(0, .long A), (2, .long B), (4, .int w), (5, .long (lN x))]) ⟨rfl, rfl, rfl, rfl, trivial⟩ ?_
      rw [show x = G by rw [← hg, y0, Nat.gcd_zero_right]]
      exact kx
    · skip
      have n0 : y ≠ 0 := fun z => c21 ((lg_cmp_eq _ _).mpr ((lN_inj0 (by omega)).mpr z))
      have m1 : x % y < y := Nat.mod_lt _ (by omega)
      refine J_lload (pc := 24) dX6_lowest_24 rfl ?_
      refine J_lload (pc := 26) dX6_lowest_26 rfl ?_
      refine J_lrem (pc := 28) dX6_lowest_28 (fun z => n0 ((lN_inj0 (by omega)).mp z)) (pk_lRem (by omega) (by omega) (by omega)) ?_
      refine J_lstore (pc := 29) dX6_lowest_29 (by decide) ?_
      refine J_lload (pc := 31) dX6_lowest_31 rfl ?_
      refine J_lstore (pc := 33) dX6_lowest_33 (by decide) ?_
      refine J_lload (pc := 35) dX6_lowest_35 rfl ?_
      refine J_lstore (pc := 37) dX6_lowest_37 (by decide) ?_
      refine J_goto (pc := 39) (tgt := 17) dX6_lowest_39 (by decide) ?_
      refine J_ls (ls' := [(0, .long A), (2, .long B), (4, .int w), (5, .long (lN y)), (7, .long (lN (x % y)))]) ⟨rfl, rfl, rfl, rfl, rfl, trivial⟩ ?_
      exact ih y (x % y) (by omega) (by omega) (by omega) (by rw [← hg, gcd_step x y])
set_option maxHeartbeats 4000000 in
theorem c6_lowest {g : jG} {d : Nat} {h : jH} {X D : Nat} {x : Int32} (hX : X < 2 ^ 60) (hD : 0 < D) (hD2 : D < 2 ^ 40) : Ml g d YX6_lowest h [.long (lN X), .long (lN D), .int x] (fun r h' => h' = h ∧ r = frac X D x) := by
  refine M.of (by decide) rfl (Nat.le_of_ble_eq_true rfl) ?_
  have gp : 0 < Nat.gcd X D := Nat.gcd_pos_of_pos_right _ hD
  have gl : Nat.gcd X D ≤ D := Nat.gcd_le_right _ hD
  refine J_lload_n (pc := 0) dX6_lowest_0 rfl ?_
  refine J_lconst (pc := 1) (v := 0) dX6_lowest_1 (by decide) ?_
  refine J_lcmp (pc := 2) dX6_lowest_2 ?_
  refine J_if_ge (pc := 3) (tgt := 11) dX6_lowest_3 (by decide) (fun c3 => ?_) (fun c3 => ?_)
  · skip
    refine J_lload_n (pc := 11) dX6_lowest_11 rfl ?_
    refine J_lstore (pc := 12) dX6_lowest_12 (by decide) ?_
    refine J_lload_n (pc := 14) dX6_lowest_14 rfl ?_
    refine J_lstore (pc := 15) dX6_lowest_15 (by decide) ?_
    refine J_ls (ls' := [(0, .long (lN X)), (2, .long (lN D)), (4, .int x), (5, .long (lN X)), (7, .long (lN D))]) ⟨rfl, rfl, rfl, rfl, rfl, trivial⟩ ?_
    refine l6_low ?_ (D + 1) X D hX hD2 (by omega) rfl
    refine J_iload (pc := 42) dX6_lowest_42 rfl ?_
    refine J_if_ne (pc := 44) (tgt := 51) dX6_lowest_44 (by decide) (fun c44 => ?_) (fun c44 => ?_)
    · skip
      refine J_lload_n (pc := 51) dX6_lowest_51 rfl ?_
      refine J_lload (pc := 52) dX6_lowest_52 rfl ?_
      refine J_ldiv (pc := 54) dX6_lowest_54 (fun z => absurd ((lN_inj0 (by omega)).mp z) (by omega)) (pk_lDiv (by omega) gp (by omega)) ?_
      refine K_lret (pc := 55) dX6_lowest_55 rfl ?_
      exact ⟨rfl, (iteX_f c44).symm⟩
    · skip
      refine J_lload_n (pc := 47) dX6_lowest_47 rfl ?_
      refine J_goto (pc := 48) (tgt := 52) dX6_lowest_48 (by decide) ?_
      refine J_lload (pc := 52) dX6_lowest_52 rfl ?_
      refine J_ldiv (pc := 54) dX6_lowest_54 (fun z => absurd ((lN_inj0 (by omega)).mp z) (by omega)) (pk_lDiv (by omega) gp (by omega)) ?_
      refine K_lret (pc := 55) dX6_lowest_55 rfl ?_
      exact ⟨rfl, (iteX_t c44).symm⟩
  · skip
    exact absurd ((lg_cmp_ge _ _).mpr ((pk_lLE (a := 0) (by omega) (by omega)).mpr (Nat.zero_le X))) c3
set_option maxHeartbeats 4000000 in
theorem l5_fc {g : jG} {d : Nat} {h : jH} {Q : kQ} {a : jH} {x : Int32} {p : Nat} (hR : RX a h) (hp : p < ix (a 131 2)) (kx : ∀ (o c : Int32), (o.toInt = fcO (pg a 0) p 4 ∧ c.toInt = fcC (pg a 0) p 4) → K g (d + 1) YX5_forecast (h) 80 [(0, .ref 0), (1, .int (nI p)), (2, .int x), (3, .int o), (4, .int c), (5, .int (nI 4))] [] Q) : ∀ (m k : Nat) (o c : Int32), k ≤ 4 → 4 < k + m → (o.toInt = fcO (pg a 0) p k ∧ c.toInt = fcC (pg a 0) p k) → K g (d + 1) YX5_forecast (h) 29 [(0, .ref 0), (1, .int (nI p)), (2, .int x), (3, .int o), (4, .int c), (5, .int (nI k))] [] Q := by
  intro m
  induction m with
  | zero => intro k o c hk1 hk2 hI; omega
  | succ m ih =>
    intro k o c hk1 hk2 hI
    have hR0 := hR
    have hG := hR.1.2.2.2
    obtain ⟨⟨r1, hX, hwk, ⟨⟨v1, v2, v3, v4⟩, v5, v6, v7, v8, v9, va, vb, vc, vd⟩⟩, rK, rT, rS, rH, ⟨r8, r8b, r9, ra⟩⟩ := hR
    obtain ⟨x1, x2, x3, x4, x5, x6, x7, x8, x9⟩ := id hX
    have hn4 := v1
    have n5 := r1.2
    have c6 := v3.2
    have p9 := v5.2
    refine J_iload (pc := 29) dX5_forecast_29 rfl ?_
    refine J_iconst (pc := 31) (v := nI 4) dX5_forecast_31 (by decide) ?_
    refine J_icmp_ge (pc := 32) (tgt := 80) dX5_forecast_32 (by decide) (fun c32 => ?_) (fun c32 => ?_)
    · skip
      have q32 : 4 ≤ k := (nI_leI (by omega) (by omega)).mp c32
      have e_k : k = 4 := by omega
      refine J_ls (ls' := [(0, .ref 0), (1, .int (nI p)), (2, .int x), (3, .int o), (4, .int c), (5, .int (nI k))]) ⟨rfl, rfl, rfl, rfl, rfl, rfl, trivial⟩ ?_
      rw [e_k] at hI ⊢
      exact kx o c hI
    · skip
      have q32 : k < 4 := Nat.lt_of_not_le (fun z => c32 ((nI_leI (by omega) (by omega)).mpr z))
      refine J_aload_n (pc := 35) dX5_forecast_35 rfl ?_
      refine J_getR (pc := 36) dX5_forecast_36 fX5_10 sh0 rfl ?_
      refine J_getR (pc := 39) dX5_forecast_39 fX5_133 (sv0 isV1) rfl ?_
      refine J_iload (pc := 42) dX5_forecast_42 rfl ?_
      refine J_iald (pc := 44) dX5_forecast_44 (sv11 isV1) (rfl) (by omega) (x5 _ q32) (by decide) ?_
      refine J_aload_n (pc := 45) dX5_forecast_45 rfl ?_
      refine J_getR (pc := 46) dX5_forecast_46 fX5_10 sh0 rfl ?_
      refine J_iload_n (pc := 49) dX5_forecast_49 rfl ?_
      refine J_iload (pc := 50) dX5_forecast_50 rfl ?_
      refine K_Vi2 (pc := 52) (Y' := YX4_gainOf) dX5_forecast_52 lX5_124 mX4_gainOf vX4_gainOf ⟨_, _, rfl⟩ (sv0 isV1) (Nat.le_of_ble_eq_true rfl) (c4_gainOf isV1 (by omega) (x2 _ hp).1 (x2 _ hp).2.1 (v2 _ hp) q32) ?_
      rintro r h0 ⟨e0, rfl⟩
      rw [e0]
      clear e0 h0
      refine J_imul (pc := 55) dX5_forecast_55 (rfl) ?_
      refine J_istore (pc := 56) dX5_forecast_56 (by decide) ?_
      refine J_iload_n (pc := 58) dX5_forecast_58 rfl ?_
      refine J_iload (pc := 59) dX5_forecast_59 rfl ?_
      refine J_iadd (pc := 61) dX5_forecast_61 (rfl) ?_
      refine J_istore_n (pc := 62) dX5_forecast_62 (by decide) ?_
      refine J_iload (pc := 63) dX5_forecast_63 rfl ?_
      refine J_iload (pc := 65) dX5_forecast_65 rfl ?_
      refine J_iconst (pc := 67) (v := nI 0) dX5_forecast_67 (by decide) ?_
      refine J_max (pc := 68) dX5_forecast_68 qX5_227 w_max_s w_math w_max_c (Nat.le_of_ble_eq_true rfl) (rfl) ?_
      refine J_iadd (pc := 71) dX5_forecast_71 (rfl) ?_
      refine J_istore (pc := 72) dX5_forecast_72 (by decide) ?_
      refine J_iinc (pc := 74) dX5_forecast_74 rfl (v := nI (k + 1)) (by exact nI_add _ _) (by decide) ?_
      refine J_goto (pc := 77) (tgt := 29) dX5_forecast_77 (by decide) ?_
      refine J_ls ?_ (ih (k + 1) _ _ (by omega) (by omega) (fc5 hG hp q32 hI.1 hI.2))
      exact ⟨rfl, rfl, rfl, rfl, rfl, rfl, trivial⟩
set_option maxHeartbeats 4000000 in
theorem c5_forecast {g : jG} {d : Nat} {a h : jH} {p x : Int32} (hR : RX a h) : Ml g (d + 3) YX5_forecast h [.ref 0, .int p, .int x] (fun r h' => r = qForecast a p x ∧ RX a h' ∧ hi h h') := by
  refine M.of (by decide) rfl (Nat.le_of_ble_eq_true rfl) ?_
  have hR0 := hR
  have hG := hR.1.2.2.2
  obtain ⟨⟨r1, hX, hwk, ⟨⟨v1, v2, v3, v4⟩, v5, v6, v7, v8, v9, va, vb, vc, vd⟩⟩, rK, rT, rS, rH, ⟨r8, r8b, r9, ra⟩⟩ := hR
  obtain ⟨x1, x2, x3, x4, x5, x6, x7, x8, x9⟩ := id hX
  have hn4 := v1
  have n5 := r1.2
  have c6 := v3.2
  have p9 := v5.2
  refine J_aload_n (pc := 0) dX5_forecast_0 rfl ?_
  refine J_iload_n (pc := 1) dX5_forecast_1 rfl ?_
  refine K_Vi1 (pc := 2) (Y' := YX5_isOne) dX5_forecast_2 lX5_109 mX5_isOne vX5_isOne ⟨_, _, rfl⟩ sh0 (Nat.le_of_ble_eq_true rfl) (c5_isOne (x := p) x1 hn4) ?_
  rintro x h0 ⟨e0, ⟨rfl, b2⟩ | ⟨rfl, b2⟩⟩ <;> rw [e0] <;> clear e0 h0
  · skip
    refine J_if_eq (pc := 5) (tgt := 17) dX5_forecast_5 (by decide) (fun c => absurd c (by decide)) (fun _ => ?_)
    refine J_iload_n (pc := 8) dX5_forecast_8 rfl ?_
    refine J_iconst (pc := 9) (v := nI 0) dX5_forecast_9 (by decide) ?_
    refine J_iconst (pc := 10) (v := nI 1) dX5_forecast_10 (by decide) ?_
    refine K_Si3 (pc := 11) (Y' := YX5_within) dX5_forecast_11 lX5_63 mX5_within sX5_within (Nat.le_of_ble_eq_true rfl) (c5_within) ?_
    rintro x h0 ⟨e0, ⟨rfl, b11⟩ | ⟨rfl, b11⟩⟩ <;> rw [e0] <;> clear e0 h0
    · skip
      refine J_if_ne (pc := 14) (tgt := 21) dX5_forecast_14 (by decide) (fun _ => ?_) (fun c => absurd c (by decide))
      refine J_iconst (pc := 21) (v := nI 0) dX5_forecast_21 (by decide) ?_
      refine J_istore_n (pc := 22) dX5_forecast_22 (by decide) ?_
      refine J_iconst (pc := 23) (v := nI 0) dX5_forecast_23 (by decide) ?_
      refine J_istore (pc := 24) dX5_forecast_24 (by decide) ?_
      refine J_iconst (pc := 26) (v := nI 0) dX5_forecast_26 (by decide) ?_
      refine J_istore (pc := 27) dX5_forecast_27 (by decide) ?_
      refine J_ls (ls' := [(0, .ref 0), (1, .int (nI (ix p))), (2, .int x), (3, .int (nI 0)), (4, .int (nI 0)), (5, .int (nI 0))]) ⟨rfl, congrArg (fun z => some (Value.int z)) b2.1, rfl, rfl, rfl, rfl, trivial⟩ ?_
      refine l5_fc hR0 b2.2 ?_ 5 0 _ _ (Nat.zero_le _) (by omega) ⟨rfl, rfl⟩
      intro o c hI
      have fe := fc5_end hG b2.2 hI.1 hI.2
      refine J_iload (pc := 80) dX5_forecast_80 rfl ?_
      refine J_iload_n (pc := 82) dX5_forecast_82 rfl ?_
      refine J_iconst (pc := 83) (v := nI 0) dX5_forecast_83 (by decide) ?_
      refine J_max (pc := 84) dX5_forecast_84 qX5_227 w_max_s w_math w_max_c (Nat.le_of_ble_eq_true rfl) (rfl) ?_
      refine J_isub (pc := 87) dX5_forecast_87 (rfl) ?_
      refine J_i2l (pc := 88) dX5_forecast_88 (fe.1) ?_
      refine J_ldc2 (pc := 89) dX5_forecast_89 kX5_232 ?_
      refine J_iload_n (pc := 92) dX5_forecast_92 rfl ?_
      refine K_Sl3 (pc := 93) (Y' := YX5_part) dX5_forecast_93 lX5_220 mX5_part sX5_part (Nat.le_of_ble_eq_true rfl) (c5_part (D := 10) (by have := fe.2; omega) (by omega) (by omega)) ?_
      rintro r h0 ⟨e0, rfl⟩
      rw [e0]
      clear e0 h0
      refine K_lret (pc := 96) dX5_forecast_96 rfl ?_
      exact ⟨(iteX_t ⟨b2, b11⟩).symm, hR0, hi.rf⟩
    · skip
      refine J_if_ne (pc := 14) (tgt := 21) dX5_forecast_14 (by decide) (fun c => absurd c (by decide)) (fun _ => ?_)
      refine J_ldc2 (pc := 17) dX5_forecast_17 kX5_211 ?_
      refine K_lret (pc := 20) dX5_forecast_20 rfl ?_
      exact ⟨(iteX_f (fun z => b11 z.2)).symm, hR0, hi.rf⟩
  · skip
    refine J_if_eq (pc := 5) (tgt := 17) dX5_forecast_5 (by decide) (fun _ => ?_) (fun c => absurd c (by decide))
    refine J_ldc2 (pc := 17) dX5_forecast_17 kX5_211 ?_
    refine K_lret (pc := 20) dX5_forecast_20 rfl ?_
    exact ⟨(iteX_f (fun z => b2 z.1)).symm, hR0, hi.rf⟩
set_option maxHeartbeats 4000000 in
theorem l6_fc {g : jG} {d : Nat} {h : jH} {Q : kQ} {x : Int32} {p : Nat} (hR : MR h) (hp : p < ix (h 131 2)) (kx : ∀ (o c : Int64), (o.toInt = fcO (pg h 0) p 4 ∧ c.toInt = fcC (pg h 0) p 4) → K g (d + 2) YX6_forecast (h) 90 [(0, .ref 131), (1, .int (nI p)), (2, .int x), (3, .long c), (5, .long o), (7, .int (nI 4))] [] Q) : ∀ (m k : Nat) (o c : Int64), k ≤ 4 → 4 < k + m → (o.toInt = fcO (pg h 0) p k ∧ c.toInt = fcC (pg h 0) p k) → K g (d + 2) YX6_forecast (h) 30 [(0, .ref 131), (1, .int (nI p)), (2, .int x), (3, .long c), (5, .long o), (7, .int (nI k))] [] Q := by
  intro m
  induction m with
  | zero => intro k o c hk1 hk2 hI; omega
  | succ m ih =>
    intro k o c hk1 hk2 hI
    have hR0 := hR
    have hG : GD (ix (h 131 2)) (pg h 0) := hR.2.1
    obtain ⟨r1, ⟨⟨v1, v2, v3, v4⟩, v5, v6, v7, v8, v9, va, vb, vc, vd⟩, r3, r4, ⟨r5, r6⟩, r7, r8, r9, ra⟩ := hR
    have hn := r1.1
    have hn4 := v1
    have n5 := r1.2
    have c6 : ix (h 132 37) < 6 := v3.2
    have p9 : ix (h 132 51) < 9 := v5.2
    have p9' : ix (pg h 0 51) < 9 := v5.2
    refine J_iload (pc := 30) dX6_forecast_30 rfl ?_
    refine J_iconst (pc := 32) (v := nI 4) dX6_forecast_32 (by decide) ?_
    refine J_icmp_ge (pc := 33) (tgt := 90) dX6_forecast_33 (by decide) (fun c33 => ?_) (fun c33 => ?_)
    · skip
      have q33 : 4 ≤ k := (nI_leI (by omega) (by omega)).mp c33
      have e_k : k = 4 := by omega
      refine J_ls (ls' := [(0, .ref 131), (1, .int (nI p)), (2, .int x), (3, .long c), (5, .long o), (7, .int (nI k))]) ⟨rfl, rfl, rfl, rfl, rfl, rfl, trivial⟩ ?_
      rw [e_k] at hI ⊢
      exact kx o c hI
    · skip
      have q33 : k < 4 := Nat.lt_of_not_le (fun z => c33 ((nI_leI (by omega) (by omega)).mpr z))
      refine J_aload_n (pc := 36) dX6_forecast_36 rfl ?_
      refine J_iload_n (pc := 37) dX6_forecast_37 rfl ?_
      refine J_iload (pc := 38) dX6_forecast_38 rfl ?_
      refine K_Vi2 (pc := 40) (Y' := YX6_gainOf) dX6_forecast_40 lX6_172 mX6_gainOf vX6_gainOf ⟨_, _, rfl⟩ sh131 (Nat.le_of_ble_eq_true rfl) (c6_gainOf (p := p) (w := k) (by omega) (by have := v2 p hp; rw [pg0] at this; exact this) q33) ?_
      rintro r h0 ⟨e0, rfl⟩
      rw [e0]
      clear e0 h0
      have k4 := (v2 p hp).2
      have eg : h 133 (4 * ix (h 132 p) + k) * h 132 (4 + p) = γP (pg h 0) k p := by
        rw [pg0] at k4
        unfold γP
        rw [pg0, pg0, r8 _ (by omega)]
      rw [eg]
      have fs := fc6 hG hp q33 hI.1 hI.2
      refine J_istore (pc := 43) dX6_forecast_43 (by decide) ?_
      refine J_lload_n (pc := 45) dX6_forecast_45 rfl ?_
      refine J_aload_n (pc := 46) dX6_forecast_46 rfl ?_
      refine J_iload (pc := 47) dX6_forecast_47 rfl ?_
      refine K_Vi1 (pc := 49) (Y' := YX6_oddsOf) dX6_forecast_49 lX6_178 mX6_oddsOf vX6_oddsOf ⟨_, _, rfl⟩ sh131 (Nat.le_of_ble_eq_true rfl) (c6_oddsOf (w := k) q33) ?_
      rintro r h0 ⟨e0, rfl⟩
      rw [e0]
      clear e0 h0
      rw [show h 132 (38 + k) = pg h 0 (38 + k) from pg0.symm]
      refine J_i2l (pc := 52) dX6_forecast_52 (rfl) ?_
      refine J_iload (pc := 53) dX6_forecast_53 rfl ?_
      refine J_if_le (pc := 55) (tgt := 63) dX6_forecast_55 (by decide) (fun c55 => ?_) (fun c55 => ?_)
      · skip
        refine J_iconst (pc := 63) (v := nI 0) dX6_forecast_63 (by decide) ?_
        refine J_i2l (pc := 64) dX6_forecast_64 (rfl) ?_
        refine J_lmul (pc := 65) dX6_forecast_65 (rfl) ?_
        refine J_ladd (pc := 66) dX6_forecast_66 (rfl) ?_
        refine J_lstore_n (pc := 67) dX6_forecast_67 (by decide) ?_
        refine J_lload (pc := 68) dX6_forecast_68 rfl ?_
        refine J_aload_n (pc := 70) dX6_forecast_70 rfl ?_
        refine J_iload (pc := 71) dX6_forecast_71 rfl ?_
        refine K_Vi1 (pc := 73) (Y' := YX6_oddsOf) dX6_forecast_73 lX6_178 mX6_oddsOf vX6_oddsOf ⟨_, _, rfl⟩ sh131 (Nat.le_of_ble_eq_true rfl) (c6_oddsOf (w := k) q33) ?_
        rintro r h0 ⟨e0, rfl⟩
        rw [e0]
        clear e0 h0
        rw [show h 132 (38 + k) = pg h 0 (38 + k) from pg0.symm]
        refine J_i2l (pc := 76) dX6_forecast_76 (rfl) ?_
        refine J_iload (pc := 77) dX6_forecast_77 rfl ?_
        refine J_i2l (pc := 79) dX6_forecast_79 (rfl) ?_
        refine J_lmul (pc := 80) dX6_forecast_80 (rfl) ?_
        refine J_ladd (pc := 81) dX6_forecast_81 (rfl) ?_
        refine J_lstore (pc := 82) dX6_forecast_82 (by decide) ?_
        refine J_iinc (pc := 84) dX6_forecast_84 rfl (v := nI (k + 1)) (by exact nI_add _ _) (by decide) ?_
        refine J_goto (pc := 87) (tgt := 30) dX6_forecast_87 (by decide) ?_
        refine J_ls ?_ (ih (k + 1) _ _ (by omega) (by omega) ⟨fs.1, fs.2.1 c55⟩)
        exact ⟨rfl, rfl, rfl, rfl, rfl, rfl, trivial⟩
      · skip
        refine J_iload (pc := 58) dX6_forecast_58 rfl ?_
        refine J_goto (pc := 60) (tgt := 64) dX6_forecast_60 (by decide) ?_
        refine J_i2l (pc := 64) dX6_forecast_64 (rfl) ?_
        refine J_lmul (pc := 65) dX6_forecast_65 (rfl) ?_
        refine J_ladd (pc := 66) dX6_forecast_66 (rfl) ?_
        refine J_lstore_n (pc := 67) dX6_forecast_67 (by decide) ?_
        refine J_lload (pc := 68) dX6_forecast_68 rfl ?_
        refine J_aload_n (pc := 70) dX6_forecast_70 rfl ?_
        refine J_iload (pc := 71) dX6_forecast_71 rfl ?_
        refine K_Vi1 (pc := 73) (Y' := YX6_oddsOf) dX6_forecast_73 lX6_178 mX6_oddsOf vX6_oddsOf ⟨_, _, rfl⟩ sh131 (Nat.le_of_ble_eq_true rfl) (c6_oddsOf (w := k) q33) ?_
        rintro r h0 ⟨e0, rfl⟩
        rw [e0]
        clear e0 h0
        rw [show h 132 (38 + k) = pg h 0 (38 + k) from pg0.symm]
        refine J_i2l (pc := 76) dX6_forecast_76 (rfl) ?_
        refine J_iload (pc := 77) dX6_forecast_77 rfl ?_
        refine J_i2l (pc := 79) dX6_forecast_79 (rfl) ?_
        refine J_lmul (pc := 80) dX6_forecast_80 (rfl) ?_
        refine J_ladd (pc := 81) dX6_forecast_81 (rfl) ?_
        refine J_lstore (pc := 82) dX6_forecast_82 (by decide) ?_
        refine J_iinc (pc := 84) dX6_forecast_84 rfl (v := nI (k + 1)) (by exact nI_add _ _) (by decide) ?_
        refine J_goto (pc := 87) (tgt := 30) dX6_forecast_87 (by decide) ?_
        refine J_ls ?_ (ih (k + 1) _ _ (by omega) (by omega) ⟨fs.1, fs.2.2 c55⟩)
        exact ⟨rfl, rfl, rfl, rfl, rfl, rfl, trivial⟩
set_option maxHeartbeats 4000000 in
theorem c6_forecast {g : jG} {d : Nat} {h : jH} {p x : Int32} (hR : MR h) : Ml g (d + 3) YX6_forecast h [.ref 131, .int p, .int x] (fun r h' => r = qForecast h p x ∧ sameP h h' ∧ lo h h') := by
  refine M.of (by decide) rfl (Nat.le_of_ble_eq_true rfl) ?_
  have hR0 := hR
  have hG : GD (ix (h 131 2)) (pg h 0) := hR.2.1
  obtain ⟨r1, ⟨⟨v1, v2, v3, v4⟩, v5, v6, v7, v8, v9, va, vb, vc, vd⟩, r3, r4, ⟨r5, r6⟩, r7, r8, r9, ra⟩ := hR
  have hn := r1.1
  have hn4 := v1
  have n5 := r1.2
  have c6 : ix (h 132 37) < 6 := v3.2
  have p9 : ix (h 132 51) < 9 := v5.2
  have p9' : ix (pg h 0 51) < 9 := v5.2
  refine J_aload_n (pc := 0) dX6_forecast_0 rfl ?_
  refine J_iload_n (pc := 1) dX6_forecast_1 rfl ?_
  refine K_Vi1 (pc := 2) (Y' := YX6_isOne) dX6_forecast_2 lX6_160 mX6_isOne vX6_isOne ⟨_, _, rfl⟩ sh131 (Nat.le_of_ble_eq_true rfl) (c6_isOne (x := p) hn hn4) ?_
  rintro x h0 ⟨e0, ⟨rfl, b2⟩ | ⟨rfl, b2⟩⟩ <;> rw [e0] <;> clear e0 h0
  · skip
    refine J_if_eq (pc := 5) (tgt := 18) dX6_forecast_5 (by decide) (fun c => absurd c (by decide)) (fun _ => ?_)
    refine J_iload_n (pc := 8) dX6_forecast_8 rfl ?_
    refine J_i2l (pc := 9) dX6_forecast_9 (rfl) ?_
    refine J_lconst (pc := 10) (v := 0) dX6_forecast_10 (by decide) ?_
    refine J_lconst (pc := 11) (v := 1) dX6_forecast_11 (by decide) ?_
    refine K_Si3 (pc := 12) (Y' := YX6_in) dX6_forecast_12 lX6_55 mX6_in sX6_in (Nat.le_of_ble_eq_true rfl) (c6_inI x (nI 0) (nI 1) rfl (by decide) (by decide)) ?_
    rintro x h0 ⟨e0, ⟨rfl, b12⟩ | ⟨rfl, b12⟩⟩ <;> rw [e0] <;> clear e0 h0
    · skip
      refine J_if_ne (pc := 15) (tgt := 22) dX6_forecast_15 (by decide) (fun _ => ?_) (fun c => absurd c (by decide))
      refine J_lconst (pc := 22) (v := 0) dX6_forecast_22 (by decide) ?_
      refine J_lstore_n (pc := 23) dX6_forecast_23 (by decide) ?_
      refine J_lconst (pc := 24) (v := 0) dX6_forecast_24 (by decide) ?_
      refine J_lstore (pc := 25) dX6_forecast_25 (by decide) ?_
      refine J_iconst (pc := 27) (v := nI 0) dX6_forecast_27 (by decide) ?_
      refine J_istore (pc := 28) dX6_forecast_28 (by decide) ?_
      refine J_ls (ls' := [(0, .ref 131), (1, .int (nI (ix p))), (2, .int x), (3, .long 0), (5, .long 0), (7, .int (nI 0))]) ⟨rfl, congrArg (fun z => some (Value.int z)) b2.1, rfl, rfl, rfl, rfl, trivial⟩ ?_
      refine l6_fc hR0 b2.2 ?_ 5 0 _ _ (Nat.zero_le _) (by omega) ⟨rfl, rfl⟩
      intro o c hI
      have fe := fc6_end hG b2.2 hI.1 hI.2
      have fx : fcX (pg h 0) (ix p) ≤ 1000 := by
        have b := fc_b hG b2.2 (w := 4) (by omega)
        unfold fcX
        omega
      refine J_lload_n (pc := 90) dX6_forecast_90 rfl ?_
      refine J_lload (pc := 91) dX6_forecast_91 rfl ?_
      refine J_lconst (pc := 93) (v := 0) dX6_forecast_93 (by decide) ?_
      refine J_lcmp (pc := 94) dX6_forecast_94 ?_
      refine J_if_le (pc := 95) (tgt := 103) dX6_forecast_95 (by decide) (fun c95 => ?_) (fun c95 => ?_)
      · skip
        refine J_lconst (pc := 103) (v := 0) dX6_forecast_103 (by decide) ?_
        refine J_lsub (pc := 104) dX6_forecast_104 (fe.1 ((lg_cmp_le _ _).mp c95)) ?_
        refine J_ldc2 (pc := 105) dX6_forecast_105 kX6_244 ?_
        refine J_iload_n (pc := 108) dX6_forecast_108 rfl ?_
        refine K_Sl3 (pc := 109) (Y' := YX6_lowest) dX6_forecast_109 lX6_246 mX6_lowest sX6_lowest (Nat.le_of_ble_eq_true rfl) (c6_lowest (D := 10) (by omega) (by omega) (by omega)) ?_
        rintro r h0 ⟨e0, rfl⟩
        rw [e0]
        clear e0 h0
        refine K_lret (pc := 112) dX6_forecast_112 rfl ?_
        exact ⟨(iteX_t ⟨b2, b12⟩).symm, sameP.rf, lo.rf⟩
      · skip
        refine J_lload (pc := 98) dX6_forecast_98 rfl ?_
        refine J_goto (pc := 100) (tgt := 104) dX6_forecast_100 (by decide) ?_
        refine J_lsub (pc := 104) dX6_forecast_104 (fe.2 (fun z => c95 ((lg_cmp_le _ _).mpr z))) ?_
        refine J_ldc2 (pc := 105) dX6_forecast_105 kX6_244 ?_
        refine J_iload_n (pc := 108) dX6_forecast_108 rfl ?_
        refine K_Sl3 (pc := 109) (Y' := YX6_lowest) dX6_forecast_109 lX6_246 mX6_lowest sX6_lowest (Nat.le_of_ble_eq_true rfl) (c6_lowest (D := 10) (by omega) (by omega) (by omega)) ?_
        rintro r h0 ⟨e0, rfl⟩
        rw [e0]
        clear e0 h0
        refine K_lret (pc := 112) dX6_forecast_112 rfl ?_
        exact ⟨(iteX_t ⟨b2, b12⟩).symm, sameP.rf, lo.rf⟩
    · skip
      refine J_if_ne (pc := 15) (tgt := 22) dX6_forecast_15 (by decide) (fun c => absurd c (by decide)) (fun _ => ?_)
      refine J_ldc2 (pc := 18) dX6_forecast_18 kX6_254 ?_
      refine K_lret (pc := 21) dX6_forecast_21 rfl ?_
      exact ⟨(iteX_f (fun z => b12 z.2)).symm, sameP.rf, lo.rf⟩
  · skip
    refine J_if_eq (pc := 5) (tgt := 18) dX6_forecast_5 (by decide) (fun _ => ?_) (fun c => absurd c (by decide))
    refine J_ldc2 (pc := 18) dX6_forecast_18 kX6_254 ?_
    refine K_lret (pc := 21) dX6_forecast_21 rfl ?_
    exact ⟨(iteX_f (fun z => b2 z.1)).symm, sameP.rf, lo.rf⟩
