set_option maxHeartbeats 4000000 in
theorem c6_keep {g : jG} {d : Nat} {h : jH} {k : Int32} (hR : MR h) : Mi g (d + 2) YX6_keep h [.ref 131, .int k] (fun r h' => (r, h') = oKeep h k) := by
  refine M.of (by decide) rfl (Nat.le_of_ble_eq_true rfl) ?_
  obtain ⟨r1, ⟨⟨v1, v2, v3, v4⟩, v5, v6, v7, v8, v9, va, vb, vc, vd⟩, r3, r4, ⟨r5, r6⟩, r7, r8, r9, ra⟩ := hR
  have hn := r1.1
  have hn4 := v1
  have n5 := r1.2
  have c6 : ix (h 132 37) < 6 := v3.2
  have p9 : ix (h 132 51) < 9 := v5.2
  have p9' : ix (pg h 0 51) < 9 := v5.2
  refine J_iload_n (pc := 0) dX6_keep_0 rfl ?_
  refine J_i2l (pc := 1) dX6_keep_1 (rfl) ?_
  refine J_lconst (pc := 2) (v := 0) dX6_keep_2 (by decide) ?_
  refine J_lconst (pc := 3) (v := 1) dX6_keep_3 (by decide) ?_
  refine K_Si3 (pc := 4) (Y' := YX6_in) dX6_keep_4 lX6_55 mX6_in sX6_in (Nat.le_of_ble_eq_true rfl) (c6_inI k (nI 0) (nI 1) rfl (by decide) (by decide)) ?_
  rintro x h0 ⟨e0, ⟨rfl, b4⟩ | ⟨rfl, b4⟩⟩ <;> rw [e0] <;> clear e0 h0
  · skip
    refine J_if_ne (pc := 7) (tgt := 12) dX6_keep_7 (by decide) (fun _ => ?_) (fun c => absurd c (by decide))
    rcases two_of b4 with rfl | rfl
    · skip
      refine J_aload_n (pc := 12) dX6_keep_12 rfl ?_
      refine J_iconst (pc := 13) (v := nI 0) dX6_keep_13 (by decide) ?_
      refine J_bipush (pc := 14) (v := nI 69) dX6_keep_14 (by decide) ?_
      refine J_iload_n (pc := 16) dX6_keep_16 rfl ?_
      refine J_iconst (pc := 17) (v := nI 1) dX6_keep_17 (by decide) ?_
      refine J_iadd (pc := 18) dX6_keep_18 (nI_add _ _) ?_
      refine J_imul (pc := 19) dX6_keep_19 (pk_mul _ _) ?_
      refine K_Vv2 (pc := 20) (Y' := YX6_copies) dX6_keep_20 lX6_215 mX6_copies vX6_copies ⟨_, _, rfl⟩ sh131 (Nat.le_of_ble_eq_true rfl) (c6_copies (a := 0) (o := 69 * (0 + 1)) (by omega) (by omega) (by omega)) ?_
      rintro h0 e0
      rw [e0]
      clear e0 h0
      refine J_aload_n (pc := 23) dX6_keep_23 rfl ?_
      refine J_getR (pc := 24) dX6_keep_24 fX6_41 sh131 rfl ?_
      refine J_iload_n (pc := 27) dX6_keep_27 rfl ?_
      refine J_zald (pc := 28) dX6_keep_28 sh142 (rfl) (by omega) (mset_b (by decide) rfl) (by decide) ?_
      refine J_if_eq (pc := 29) (tgt := 36) dX6_keep_29 (by decide) (fun c29 => ?_) (fun c29 => ?_)
      · skip
        refine J_iconst (pc := 36) (v := nI 0) dX6_keep_36 (by decide) ?_
        refine J_istore_n (pc := 37) dX6_keep_37 (by decide) ?_
        refine J_aload_n (pc := 38) dX6_keep_38 rfl ?_
        refine J_getR (pc := 39) dX6_keep_39 fX6_41 sh131 rfl ?_
        refine J_iload_n (pc := 42) dX6_keep_42 rfl ?_
        refine J_iconst (pc := 43) (v := nI 1) dX6_keep_43 (by decide) ?_
        refine J_zast (pc := 44) dX6_keep_44 sh142 (rfl) (by omega) (by decide) (by decide) ?_
        refine J_iload_n (pc := 45) dX6_keep_45 rfl ?_
        refine K_iret (pc := 46) dX6_keep_46 rfl ?_
        rw [oKeep, iteR_t b4]
        exact congrArg (fun z => (z, j_up (mset h (69 * (0 + 1)) (pg h 0)) 142 0 (nI 1))) (c29.symm)
      · skip
        have one_of : h 142 0 = nI 1 := by
          rcases r3 0 (by omega) with z | z
          · exact absurd z c29
          · exact z.1
        refine J_iconst (pc := 32) (v := nI 1) dX6_keep_32 (by decide) ?_
        refine J_goto (pc := 33) (tgt := 37) dX6_keep_33 (by decide) ?_
        refine J_istore_n (pc := 37) dX6_keep_37 (by decide) ?_
        refine J_aload_n (pc := 38) dX6_keep_38 rfl ?_
        refine J_getR (pc := 39) dX6_keep_39 fX6_41 sh131 rfl ?_
        refine J_iload_n (pc := 42) dX6_keep_42 rfl ?_
        refine J_iconst (pc := 43) (v := nI 1) dX6_keep_43 (by decide) ?_
        refine J_zast (pc := 44) dX6_keep_44 sh142 (rfl) (by omega) (by decide) (by decide) ?_
        refine J_iload_n (pc := 45) dX6_keep_45 rfl ?_
        refine K_iret (pc := 46) dX6_keep_46 rfl ?_
        rw [oKeep, iteR_t b4]
        exact congrArg (fun z => (z, j_up (mset h (69 * (0 + 1)) (pg h 0)) 142 0 (nI 1))) (one_of.symm)
    · skip
      refine J_aload_n (pc := 12) dX6_keep_12 rfl ?_
      refine J_iconst (pc := 13) (v := nI 0) dX6_keep_13 (by decide) ?_
      refine J_bipush (pc := 14) (v := nI 69) dX6_keep_14 (by decide) ?_
      refine J_iload_n (pc := 16) dX6_keep_16 rfl ?_
      refine J_iconst (pc := 17) (v := nI 1) dX6_keep_17 (by decide) ?_
      refine J_iadd (pc := 18) dX6_keep_18 (nI_add _ _) ?_
      refine J_imul (pc := 19) dX6_keep_19 (pk_mul _ _) ?_
      refine K_Vv2 (pc := 20) (Y' := YX6_copies) dX6_keep_20 lX6_215 mX6_copies vX6_copies ⟨_, _, rfl⟩ sh131 (Nat.le_of_ble_eq_true rfl) (c6_copies (a := 0) (o := 69 * (1 + 1)) (by omega) (by omega) (by omega)) ?_
      rintro h0 e0
      rw [e0]
      clear e0 h0
      refine J_aload_n (pc := 23) dX6_keep_23 rfl ?_
      refine J_getR (pc := 24) dX6_keep_24 fX6_41 sh131 rfl ?_
      refine J_iload_n (pc := 27) dX6_keep_27 rfl ?_
      refine J_zald (pc := 28) dX6_keep_28 sh142 (rfl) (by omega) (mset_b (by decide) rfl) (by decide) ?_
      refine J_if_eq (pc := 29) (tgt := 36) dX6_keep_29 (by decide) (fun c29 => ?_) (fun c29 => ?_)
      · skip
        refine J_iconst (pc := 36) (v := nI 0) dX6_keep_36 (by decide) ?_
        refine J_istore_n (pc := 37) dX6_keep_37 (by decide) ?_
        refine J_aload_n (pc := 38) dX6_keep_38 rfl ?_
        refine J_getR (pc := 39) dX6_keep_39 fX6_41 sh131 rfl ?_
        refine J_iload_n (pc := 42) dX6_keep_42 rfl ?_
        refine J_iconst (pc := 43) (v := nI 1) dX6_keep_43 (by decide) ?_
        refine J_zast (pc := 44) dX6_keep_44 sh142 (rfl) (by omega) (by decide) (by decide) ?_
        refine J_iload_n (pc := 45) dX6_keep_45 rfl ?_
        refine K_iret (pc := 46) dX6_keep_46 rfl ?_
        rw [oKeep, iteR_t b4]
        exact congrArg (fun z => (z, j_up (mset h (69 * (1 + 1)) (pg h 0)) 142 1 (nI 1))) (c29.symm)
      · skip
        have one_of : h 142 1 = nI 1 := by
          rcases r3 1 (by omega) with z | z
          · exact absurd z c29
          · exact z.1
        refine J_iconst (pc := 32) (v := nI 1) dX6_keep_32 (by decide) ?_
        refine J_goto (pc := 33) (tgt := 37) dX6_keep_33 (by decide) ?_
        refine J_istore_n (pc := 37) dX6_keep_37 (by decide) ?_
        refine J_aload_n (pc := 38) dX6_keep_38 rfl ?_
        refine J_getR (pc := 39) dX6_keep_39 fX6_41 sh131 rfl ?_
        refine J_iload_n (pc := 42) dX6_keep_42 rfl ?_
        refine J_iconst (pc := 43) (v := nI 1) dX6_keep_43 (by decide) ?_
        refine J_zast (pc := 44) dX6_keep_44 sh142 (rfl) (by omega) (by decide) (by decide) ?_
        refine J_iload_n (pc := 45) dX6_keep_45 rfl ?_
        refine K_iret (pc := 46) dX6_keep_46 rfl ?_
        rw [oKeep, iteR_t b4]
        exact congrArg (fun z => (z, j_up (mset h (69 * (1 + 1)) (pg h 0)) 142 1 (nI 1))) (one_of.symm)
  · skip
    refine J_if_ne (pc := 7) (tgt := 12) dX6_keep_7 (by decide) (fun c => absurd c (by decide)) (fun _ => ?_)
    refine J_iconst (pc := 10) (v := -1) dX6_keep_10 (by decide) ?_
    refine K_iret (pc := 11) dX6_keep_11 rfl ?_
    exact (iteR_f b4).symm
set_option maxHeartbeats 4000000 in
theorem c6_back {g : jG} {d : Nat} {h : jH} {k : Int32} (hR : MR h) : Mi g (d + 2) YX6_back h [.ref 131, .int k] (fun r h' => (r, h') = oBack h k) := by
  refine M.of (by decide) rfl (Nat.le_of_ble_eq_true rfl) ?_
  obtain ⟨r1, ⟨⟨v1, v2, v3, v4⟩, v5, v6, v7, v8, v9, va, vb, vc, vd⟩, r3, r4, ⟨r5, r6⟩, r7, r8, r9, ra⟩ := hR
  have hn := r1.1
  have hn4 := v1
  have n5 := r1.2
  have c6 : ix (h 132 37) < 6 := v3.2
  have p9 : ix (h 132 51) < 9 := v5.2
  have p9' : ix (pg h 0 51) < 9 := v5.2
  refine J_iload_n (pc := 0) dX6_back_0 rfl ?_
  refine J_i2l (pc := 1) dX6_back_1 (rfl) ?_
  refine J_lconst (pc := 2) (v := 0) dX6_back_2 (by decide) ?_
  refine J_lconst (pc := 3) (v := 1) dX6_back_3 (by decide) ?_
  refine K_Si3 (pc := 4) (Y' := YX6_in) dX6_back_4 lX6_55 mX6_in sX6_in (Nat.le_of_ble_eq_true rfl) (c6_inI k (nI 0) (nI 1) rfl (by decide) (by decide)) ?_
  rintro x h0 ⟨e0, ⟨rfl, b4⟩ | ⟨rfl, b4⟩⟩ <;> rw [e0] <;> clear e0 h0
  · skip
    refine J_if_ne (pc := 7) (tgt := 12) dX6_back_7 (by decide) (fun _ => ?_) (fun c => absurd c (by decide))
    rcases two_of b4 with rfl | rfl
    · skip
      refine J_aload_n (pc := 12) dX6_back_12 rfl ?_
      refine J_getR (pc := 13) dX6_back_13 fX6_41 sh131 rfl ?_
      refine J_iload_n (pc := 16) dX6_back_16 rfl ?_
      refine J_zald (pc := 17) dX6_back_17 sh142 (rfl) (by omega) (rfl) (by decide) ?_
      refine J_if_ne (pc := 18) (tgt := 24) dX6_back_18 (by decide) (fun c18 => ?_) (fun c18 => ?_)
      · skip
        refine J_aload_n (pc := 24) dX6_back_24 rfl ?_
        refine J_bipush (pc := 25) (v := nI 69) dX6_back_25 (by decide) ?_
        refine J_iload_n (pc := 27) dX6_back_27 rfl ?_
        refine J_iconst (pc := 28) (v := nI 1) dX6_back_28 (by decide) ?_
        refine J_iadd (pc := 29) dX6_back_29 (nI_add _ _) ?_
        refine J_imul (pc := 30) dX6_back_30 (pk_mul _ _) ?_
        refine J_iconst (pc := 31) (v := nI 0) dX6_back_31 (by decide) ?_
        refine K_Vv2 (pc := 32) (Y' := YX6_copies) dX6_back_32 lX6_215 mX6_copies vX6_copies ⟨_, _, rfl⟩ sh131 (Nat.le_of_ble_eq_true rfl) (c6_copies (a := 69 * (0 + 1)) (o := 0) (by omega) (by omega) (by omega)) ?_
        rintro h0 e0
        rw [e0]
        clear e0 h0
        refine J_aload_n (pc := 35) dX6_back_35 rfl ?_
        refine J_getR (pc := 36) dX6_back_36 fX6_7 sh131 rfl ?_
        refine J_bipush (pc := 39) (v := nI 52) dX6_back_39 (by decide) ?_
        refine J_iald (pc := 41) dX6_back_41 sh132 (rfl) (by omega) (mset_at 52 (by omega) rfl) (by decide) ?_
        refine K_iret (pc := 42) dX6_back_42 rfl ?_
        exact ((iteR_t b4).trans (iteR_f c18)).symm
      · skip
        refine J_bipush (pc := 21) (v := -2) dX6_back_21 (by decide) ?_
        refine K_iret (pc := 23) dX6_back_23 rfl ?_
        exact ((iteR_t b4).trans (iteR_t c18)).symm
    · skip
      refine J_aload_n (pc := 12) dX6_back_12 rfl ?_
      refine J_getR (pc := 13) dX6_back_13 fX6_41 sh131 rfl ?_
      refine J_iload_n (pc := 16) dX6_back_16 rfl ?_
      refine J_zald (pc := 17) dX6_back_17 sh142 (rfl) (by omega) (rfl) (by decide) ?_
      refine J_if_ne (pc := 18) (tgt := 24) dX6_back_18 (by decide) (fun c18 => ?_) (fun c18 => ?_)
      · skip
        refine J_aload_n (pc := 24) dX6_back_24 rfl ?_
        refine J_bipush (pc := 25) (v := nI 69) dX6_back_25 (by decide) ?_
        refine J_iload_n (pc := 27) dX6_back_27 rfl ?_
        refine J_iconst (pc := 28) (v := nI 1) dX6_back_28 (by decide) ?_
        refine J_iadd (pc := 29) dX6_back_29 (nI_add _ _) ?_
        refine J_imul (pc := 30) dX6_back_30 (pk_mul _ _) ?_
        refine J_iconst (pc := 31) (v := nI 0) dX6_back_31 (by decide) ?_
        refine K_Vv2 (pc := 32) (Y' := YX6_copies) dX6_back_32 lX6_215 mX6_copies vX6_copies ⟨_, _, rfl⟩ sh131 (Nat.le_of_ble_eq_true rfl) (c6_copies (a := 69 * (1 + 1)) (o := 0) (by omega) (by omega) (by omega)) ?_
        rintro h0 e0
        rw [e0]
        clear e0 h0
        refine J_aload_n (pc := 35) dX6_back_35 rfl ?_
        refine J_getR (pc := 36) dX6_back_36 fX6_7 sh131 rfl ?_
        refine J_bipush (pc := 39) (v := nI 52) dX6_back_39 (by decide) ?_
        refine J_iald (pc := 41) dX6_back_41 sh132 (rfl) (by omega) (mset_at 52 (by omega) rfl) (by decide) ?_
        refine K_iret (pc := 42) dX6_back_42 rfl ?_
        exact ((iteR_t b4).trans (iteR_f c18)).symm
      · skip
        refine J_bipush (pc := 21) (v := -2) dX6_back_21 (by decide) ?_
        refine K_iret (pc := 23) dX6_back_23 rfl ?_
        exact ((iteR_t b4).trans (iteR_t c18)).symm
  · skip
    refine J_if_ne (pc := 7) (tgt := 12) dX6_back_7 (by decide) (fun c => absurd c (by decide)) (fun _ => ?_)
    refine J_iconst (pc := 10) (v := -1) dX6_back_10 (by decide) ?_
    refine K_iret (pc := 11) dX6_back_11 rfl ?_
    exact (iteR_f b4).symm
set_option maxHeartbeats 4000000 in
theorem l6_sheet {g : jG} {d : Nat} {h : jH} {Q : kQ} {s : Nat} (hs : s < 4) {l n : Int32} (kx : K g (d + 2) YX6_sheet (zcH h s 40) 82 [(0, .ref 131), (1, .int (nI s)), (2, .int l), (3, .int n), (4, .int (nI 40))] [] Q) : ∀ (m k : Nat) , k ≤ 40 → 40 < k + m → K g (d + 2) YX6_sheet (zcH h s k) 56 [(0, .ref 131), (1, .int (nI s)), (2, .int l), (3, .int n), (4, .int (nI k))] [] Q := by
  intro m
  induction m with
  | zero => intro k  hk1 hk2 ; omega
  | succ m ih =>
    intro k  hk1 hk2 
    refine J_iload (pc := 56) dX6_sheet_56 rfl ?_
    refine J_bipush (pc := 58) (v := nI 40) dX6_sheet_58 (by decide) ?_
    refine J_icmp_ge (pc := 60) (tgt := 82) dX6_sheet_60 (by decide) (fun c60 => ?_) (fun c60 => ?_)
    · skip
      have q60 : 40 ≤ k := (nI_leI (by omega) (by omega)).mp c60
      have e_k : k = 40 := by omega
      refine J_ls (ls' := [(0, .ref 131), (1, .int (nI s)), (2, .int l), (3, .int n), (4, .int (nI k))]) ⟨rfl, rfl, rfl, rfl, rfl, trivial⟩ ?_
      rw [e_k]
      exact kx
    · skip
      have q60 : k < 40 := Nat.lt_of_not_le (fun z => c60 ((nI_leI (by omega) (by omega)).mpr z))
      refine J_aload_n (pc := 63) dX6_sheet_63 rfl ?_
      refine J_getR (pc := 64) dX6_sheet_64 fX6_50 sh131 rfl ?_
      refine J_bipush (pc := 67) (v := nI 40) dX6_sheet_67 (by decide) ?_
      refine J_iload_n (pc := 69) dX6_sheet_69 rfl ?_
      refine J_imul (pc := 70) dX6_sheet_70 (pk_mul _ _) ?_
      refine J_iload (pc := 71) dX6_sheet_71 rfl ?_
      refine J_iadd (pc := 73) dX6_sheet_73 (nI_add _ _) ?_
      refine J_iconst (pc := 74) (v := nI 0) dX6_sheet_74 (by decide) ?_
      refine J_iast (pc := 75) dX6_sheet_75 sh145 (rfl) (by omega) (by decide) ?_
      rw [zcH_s]
      refine J_iinc (pc := 76) dX6_sheet_76 rfl (v := nI (k + 1)) (by exact nI_add _ _) (by decide) ?_
      refine J_goto (pc := 79) (tgt := 56) dX6_sheet_79 (by decide) ?_
      exact J_ls (ls' := [(0, .ref 131), (1, .int (nI s)), (2, .int l), (3, .int n), (4, .int (nI (k + 1)))]) ⟨rfl, rfl, rfl, rfl, rfl, trivial⟩ (ih (k + 1)  (by omega) (by omega) )
set_option maxHeartbeats 4000000 in
theorem c6_sheet {g : jG} {d : Nat} {h : jH} {k l n : Int32} (hR : MR h) : Mi g (d + 2) YX6_sheet h [.ref 131, .int k, .int l, .int n] (fun r h' => (r, h') = oSheet h k l n) := by
  refine M.of (by decide) rfl (Nat.le_of_ble_eq_true rfl) ?_
  obtain ⟨r1, ⟨⟨v1, v2, v3, v4⟩, v5, v6, v7, v8, v9, va, vb, vc, vd⟩, r3, r4, ⟨r5, r6⟩, r7, r8, r9, ra⟩ := hR
  have hn := r1.1
  have hn4 := v1
  have n5 := r1.2
  have c6 : ix (h 132 37) < 6 := v3.2
  have p9 : ix (h 132 51) < 9 := v5.2
  have p9' : ix (pg h 0 51) < 9 := v5.2
  refine J_iload_n (pc := 0) dX6_sheet_0 rfl ?_
  refine J_i2l (pc := 1) dX6_sheet_1 (rfl) ?_
  refine J_lconst (pc := 2) (v := 0) dX6_sheet_2 (by decide) ?_
  refine J_ldc2 (pc := 3) dX6_sheet_3 kX6_111 ?_
  refine K_Si3 (pc := 6) (Y' := YX6_in) dX6_sheet_6 lX6_55 mX6_in sX6_in (Nat.le_of_ble_eq_true rfl) (c6_inI k (nI 0) (nI 3) rfl (by decide) (by decide)) ?_
  rintro x h0 ⟨e0, ⟨rfl, b6⟩ | ⟨rfl, b6⟩⟩ <;> rw [e0] <;> clear e0 h0
  · skip
    refine J_if_eq (pc := 9) (tgt := 30) dX6_sheet_9 (by decide) (fun c => absurd c (by decide)) (fun _ => ?_)
    refine J_iload_n (pc := 12) dX6_sheet_12 rfl ?_
    refine J_i2l (pc := 13) dX6_sheet_13 (rfl) ?_
    refine J_lconst (pc := 14) (v := 0) dX6_sheet_14 (by decide) ?_
    refine J_ldc2 (pc := 15) dX6_sheet_15 kX6_228 ?_
    refine K_Si3 (pc := 18) (Y' := YX6_in) dX6_sheet_18 lX6_55 mX6_in sX6_in (Nat.le_of_ble_eq_true rfl) (c6_inI l (nI 0) (nI 2) rfl (by decide) (by decide)) ?_
    rintro x h0 ⟨e0, ⟨rfl, b18⟩ | ⟨rfl, b18⟩⟩ <;> rw [e0] <;> clear e0 h0
    · skip
      refine J_if_eq (pc := 21) (tgt := 30) dX6_sheet_21 (by decide) (fun c => absurd c (by decide)) (fun _ => ?_)
      refine J_iload_n (pc := 24) dX6_sheet_24 rfl ?_
      refine J_bipush (pc := 25) (v := nI 40) dX6_sheet_25 (by decide) ?_
      refine J_icmp_le (pc := 27) (tgt := 32) dX6_sheet_27 (by decide) (fun c27 => ?_) (fun c27 => ?_)
      · skip
        have bk := (in_nbc (n := 3) rfl (by omega)).mp b6
        have bl := (in_nbc (n := 2) rfl (by omega)).mp b18
        have ht : nb 4 k ∧ nb 3 l ∧ n ≤ nI 40 := ⟨bk, bl, c27⟩
        refine J_iload_n (pc := 32) dX6_sheet_32 rfl ?_
        refine J_if_ge (pc := 33) (tgt := 39) dX6_sheet_33 (by decide) (fun c33 => ?_) (fun c33 => ?_)
        · skip
          have q1 := bk.2
          refine J_ls (ls' := [(0, .ref 131), (1, .int (nI (ix k))), (2, .int l), (3, .int n)]) ⟨rfl, congrArg (fun z => some (Value.int z)) bk.1, rfl, rfl, trivial⟩ ?_
          refine J_aload_n (pc := 39) dX6_sheet_39 rfl ?_
          refine J_getR (pc := 40) dX6_sheet_40 fX6_44 sh131 rfl ?_
          refine J_iload_n (pc := 43) dX6_sheet_43 rfl ?_
          refine J_iload_n (pc := 44) dX6_sheet_44 rfl ?_
          refine J_iast (pc := 45) dX6_sheet_45 sh143 (rfl) (by omega) (by decide) ?_
          refine J_aload_n (pc := 46) dX6_sheet_46 rfl ?_
          refine J_getR (pc := 47) dX6_sheet_47 fX6_47 sh131 rfl ?_
          refine J_iload_n (pc := 50) dX6_sheet_50 rfl ?_
          refine J_iload_n (pc := 51) dX6_sheet_51 rfl ?_
          refine J_iast (pc := 52) dX6_sheet_52 sh144 (rfl) (by omega) (by decide) ?_
          refine J_iconst (pc := 53) (v := nI 0) dX6_sheet_53 (by decide) ?_
          refine J_istore (pc := 54) dX6_sheet_54 (by decide) ?_
          refine J_h (h' := zcH (j_up (j_up h 143 (ix k) l) 144 (ix k) n) (ix k) 0) (by rw [zcH_0]) ?_
          refine J_ls (ls' := [(0, .ref 131), (1, .int (nI (ix k))), (2, .int l), (3, .int n), (4, .int (nI 0))]) ⟨rfl, rfl, rfl, rfl, rfl, trivial⟩ ?_
          refine l6_sheet q1 ?_ 41 0 (Nat.zero_le _) (by omega)
          refine J_iconst (pc := 82) (v := nI 1) dX6_sheet_82 (by decide) ?_
          refine K_iret (pc := 83) dX6_sheet_83 rfl ?_
          exact ((iteR_t ht).trans (iteR_t c33)).symm
        · skip
          refine J_bipush (pc := 36) (v := -14) dX6_sheet_36 (by decide) ?_
          refine K_iret (pc := 38) dX6_sheet_38 rfl ?_
          exact ((iteR_t ht).trans (iteR_f c33)).symm
      · skip
        refine J_iconst (pc := 30) (v := -1) dX6_sheet_30 (by decide) ?_
        refine K_iret (pc := 31) dX6_sheet_31 rfl ?_
        rw [oSheet, iteR_f (fun z => c27 z.2.2)]
    · skip
      refine J_if_eq (pc := 21) (tgt := 30) dX6_sheet_21 (by decide) (fun _ => ?_) (fun c => absurd c (by decide))
      refine J_iconst (pc := 30) (v := -1) dX6_sheet_30 (by decide) ?_
      refine K_iret (pc := 31) dX6_sheet_31 rfl ?_
      rw [oSheet, iteR_f (fun z => b18 ((in_nbc (n := 2) rfl (by omega)).mpr z.2.1))]
  · skip
    refine J_if_eq (pc := 9) (tgt := 30) dX6_sheet_9 (by decide) (fun _ => ?_) (fun c => absurd c (by decide))
    refine J_iconst (pc := 30) (v := -1) dX6_sheet_30 (by decide) ?_
    refine K_iret (pc := 31) dX6_sheet_31 rfl ?_
    rw [oSheet, iteR_f (fun z => b6 ((in_nbc (n := 3) rfl (by omega)).mpr z.1))]
set_option maxHeartbeats 4000000 in
theorem c6_lay {g : jG} {d : Nat} {h : jH} {k i v : Int32} (hR : MR h) : Mi g (d + 2) YX6_lay h [.ref 131, .int k, .int i, .int v] (fun r h' => (r, h') = oLay h k i v) := by
  refine M.of (by decide) rfl (Nat.le_of_ble_eq_true rfl) ?_
  obtain ⟨r1, ⟨⟨v1, v2, v3, v4⟩, v5, v6, v7, v8, v9, va, vb, vc, vd⟩, r3, r4, ⟨r5, r6⟩, r7, r8, r9, ra⟩ := hR
  have hn := r1.1
  have hn4 := v1
  have n5 := r1.2
  have c6 : ix (h 132 37) < 6 := v3.2
  have p9 : ix (h 132 51) < 9 := v5.2
  have p9' : ix (pg h 0 51) < 9 := v5.2
  refine J_iload_n (pc := 0) dX6_lay_0 rfl ?_
  refine J_i2l (pc := 1) dX6_lay_1 (rfl) ?_
  refine J_lconst (pc := 2) (v := 0) dX6_lay_2 (by decide) ?_
  refine J_ldc2 (pc := 3) dX6_lay_3 kX6_111 ?_
  refine K_Si3 (pc := 6) (Y' := YX6_in) dX6_lay_6 lX6_55 mX6_in sX6_in (Nat.le_of_ble_eq_true rfl) (c6_inI k (nI 0) (nI 3) rfl (by decide) (by decide)) ?_
  rintro x h0 ⟨e0, ⟨rfl, b6⟩ | ⟨rfl, b6⟩⟩ <;> rw [e0] <;> clear e0 h0
  · skip
    have bk : nb 4 k := (in_nbc (n := 3) rfl (by omega)).mp b6
    refine J_if_ne (pc := 9) (tgt := 14) dX6_lay_9 (by decide) (fun _ => ?_) (fun c => absurd c (by decide))
    have q1 := bk.2
    have rk := r7 _ q1
    have l41 := rk.2.2
    refine J_ls (ls' := [(0, .ref 131), (1, .int (nI (ix k))), (2, .int i), (3, .int v)]) ⟨rfl, congrArg (fun z => some (Value.int z)) bk.1, rfl, rfl, trivial⟩ ?_
    refine J_aload_n (pc := 14) dX6_lay_14 rfl ?_
    refine J_getR (pc := 15) dX6_lay_15 fX6_44 sh131 rfl ?_
    refine J_iload_n (pc := 18) dX6_lay_18 rfl ?_
    refine J_iald (pc := 19) dX6_lay_19 sh143 (rfl) (by omega) (rfl) (by decide) ?_
    refine J_bipush (pc := 20) (v := -4) dX6_lay_20 (by decide) ?_
    refine J_icmp_ne (pc := 22) (tgt := 28) dX6_lay_22 (by decide) (fun c22 => ?_) (fun c22 => ?_)
    · skip
      refine J_iload_n (pc := 28) dX6_lay_28 rfl ?_
      refine J_i2l (pc := 29) dX6_lay_29 (rfl) ?_
      refine J_lconst (pc := 30) (v := 0) dX6_lay_30 (by decide) ?_
      refine J_aload_n (pc := 31) dX6_lay_31 rfl ?_
      refine J_getR (pc := 32) dX6_lay_32 fX6_47 sh131 rfl ?_
      refine J_iload_n (pc := 35) dX6_lay_35 rfl ?_
      refine J_iald (pc := 36) dX6_lay_36 sh144 (rfl) (by omega) (rk.2.1) (by decide) ?_
      refine J_iconst (pc := 37) (v := nI 1) dX6_lay_37 (by decide) ?_
      refine J_isub (pc := 38) dX6_lay_38 (rfl) ?_
      refine J_i2l (pc := 39) dX6_lay_39 (rfl) ?_
      refine K_Si3 (pc := 40) (Y' := YX6_in) dX6_lay_40 lX6_55 mX6_in sX6_in (Nat.le_of_ble_eq_true rfl) (c6_inI i (nI 0) (nI (ix (h 144 (ix k))) - nI 1) rfl (by decide) rfl) ?_
      rintro x h0 ⟨e0, ⟨rfl, b40⟩ | ⟨rfl, b40⟩⟩ <;> rw [e0] <;> clear e0 h0
      · skip
        have bi := (in_nb (by omega)).mp b40
        have q2 := bi.2
        refine J_if_ne (pc := 43) (tgt := 49) dX6_lay_43 (by decide) (fun _ => ?_) (fun c => absurd c (by decide))
        refine J_ls (ls' := [(0, .ref 131), (1, .int (nI (ix k))), (2, .int (nI (ix i))), (3, .int v)]) ⟨rfl, rfl, congrArg (fun z => some (Value.int z)) bi.1, rfl, trivial⟩ ?_
        refine J_aload_n (pc := 49) dX6_lay_49 rfl ?_
        refine J_getR (pc := 50) dX6_lay_50 fX6_50 sh131 rfl ?_
        refine J_bipush (pc := 53) (v := nI 40) dX6_lay_53 (by decide) ?_
        refine J_iload_n (pc := 55) dX6_lay_55 rfl ?_
        refine J_imul (pc := 56) dX6_lay_56 (pk_mul _ _) ?_
        refine J_iload_n (pc := 57) dX6_lay_57 rfl ?_
        refine J_iadd (pc := 58) dX6_lay_58 (nI_add _ _) ?_
        refine J_aload_n (pc := 59) dX6_lay_59 rfl ?_
        refine J_getR (pc := 60) dX6_lay_60 fX6_44 sh131 rfl ?_
        refine J_iload_n (pc := 63) dX6_lay_63 rfl ?_
        refine J_iald (pc := 64) dX6_lay_64 sh143 (rfl) (by omega) (rfl) (by decide) ?_
        refine J_if_ne (pc := 65) (tgt := 78) dX6_lay_65 (by decide) (fun c65 => ?_) (fun c65 => ?_)
        · skip
          refine J_aload_n (pc := 78) dX6_lay_78 rfl ?_
          refine J_getR (pc := 79) dX6_lay_79 fX6_44 sh131 rfl ?_
          refine J_iload_n (pc := 82) dX6_lay_82 rfl ?_
          refine J_iald (pc := 83) dX6_lay_83 sh143 (rfl) (by omega) (rfl) (by decide) ?_
          refine J_iconst (pc := 84) (v := nI 1) dX6_lay_84 (by decide) ?_
          refine J_icmp_ne (pc := 85) (tgt := 98) dX6_lay_85 (by decide) (fun c85 => ?_) (fun c85 => ?_)
          · skip
            refine J_iload_n (pc := 98) dX6_lay_98 rfl ?_
            refine J_iast (pc := 99) dX6_lay_99 sh145 (rfl) (by omega) (by decide) ?_
            refine J_iconst (pc := 100) (v := nI 1) dX6_lay_100 (by decide) ?_
            refine K_iret (pc := 101) dX6_lay_101 rfl ?_
            rw [oLay, iteR_t bk, iteR_f c22, iteR_t bi]
            rw [cutL, if_neg (show ¬ h 143 (ix k) = nI 0 from c65), if_neg c85]
          · skip
            refine J_iload_n (pc := 88) dX6_lay_88 rfl ?_
            refine J_bipush (pc := 89) (v := nI 16) dX6_lay_89 (by decide) ?_
            refine J_ishl (pc := 91) dX6_lay_91 (rfl) ?_
            refine J_bipush (pc := 92) (v := nI 16) dX6_lay_92 (by decide) ?_
            refine J_ishr (pc := 94) dX6_lay_94 (rfl) ?_
            refine J_goto (pc := 95) (tgt := 99) dX6_lay_95 (by decide) ?_
            refine J_iast (pc := 99) dX6_lay_99 sh145 (rfl) (by omega) (by decide) ?_
            refine J_iconst (pc := 100) (v := nI 1) dX6_lay_100 (by decide) ?_
            refine K_iret (pc := 101) dX6_lay_101 rfl ?_
            rw [oLay, iteR_t bk, iteR_f c22, iteR_t bi]
            rw [cutL, if_neg (show ¬ h 143 (ix k) = nI 0 from c65), if_pos c85]
        · skip
          refine J_iload_n (pc := 68) dX6_lay_68 rfl ?_
          refine J_bipush (pc := 69) (v := nI 24) dX6_lay_69 (by decide) ?_
          refine J_ishl (pc := 71) dX6_lay_71 (rfl) ?_
          refine J_bipush (pc := 72) (v := nI 24) dX6_lay_72 (by decide) ?_
          refine J_ishr (pc := 74) dX6_lay_74 (rfl) ?_
          refine J_goto (pc := 75) (tgt := 99) dX6_lay_75 (by decide) ?_
          refine J_iast (pc := 99) dX6_lay_99 sh145 (rfl) (by omega) (by decide) ?_
          refine J_iconst (pc := 100) (v := nI 1) dX6_lay_100 (by decide) ?_
          refine K_iret (pc := 101) dX6_lay_101 rfl ?_
          rw [oLay, iteR_t bk, iteR_f c22, iteR_t bi]
          rw [cutL, if_pos (show h 143 (ix k) = nI 0 from c65)]
      · skip
        have bi := fun z => b40 ((in_nb (by omega)).mpr z)
        refine J_if_ne (pc := 43) (tgt := 49) dX6_lay_43 (by decide) (fun c => absurd c (by decide)) (fun _ => ?_)
        refine J_bipush (pc := 46) (v := -12) dX6_lay_46 (by decide) ?_
        refine K_iret (pc := 48) dX6_lay_48 rfl ?_
        exact ((iteR_t bk).trans ((iteR_f c22).trans (iteR_f bi))).symm
    · skip
      refine J_bipush (pc := 25) (v := -11) dX6_lay_25 (by decide) ?_
      refine K_iret (pc := 27) dX6_lay_27 rfl ?_
      exact ((iteR_t bk).trans (iteR_t c22)).symm
  · skip
    have bk : ¬ nb 4 k := fun z => b6 ((in_nbc (n := 3) rfl (by omega)).mpr z)
    refine J_if_ne (pc := 9) (tgt := 14) dX6_lay_9 (by decide) (fun c => absurd c (by decide)) (fun _ => ?_)
    refine J_iconst (pc := 12) (v := -1) dX6_lay_12 (by decide) ?_
    refine K_iret (pc := 13) dX6_lay_13 rfl ?_
    exact (iteR_f bk).symm
set_option maxHeartbeats 4000000 in
theorem c6_torn {g : jG} {d : Nat} {h : jH} (hR : MR h) : Mi g (d + 2) YX6_torn h [.ref 131] (fun r h' => (r, h') = oTorn h ) := by
  refine M.of (by decide) rfl (Nat.le_of_ble_eq_true rfl) ?_
  obtain ⟨r1, ⟨⟨v1, v2, v3, v4⟩, v5, v6, v7, v8, v9, va, vb, vc, vd⟩, r3, r4, ⟨r5, r6⟩, r7, r8, r9, ra⟩ := hR
  have hn := r1.1
  have hn4 := v1
  have n5 := r1.2
  have c6 : ix (h 132 37) < 6 := v3.2
  have p9 : ix (h 132 51) < 9 := v5.2
  have p9' : ix (pg h 0 51) < 9 := v5.2
  refine J_aload_n (pc := 0) dX6_torn_0 rfl ?_
  refine J_getI (pc := 1) dX6_torn_1 fX6_278 sh131 rfl (rfl) ?_
  refine K_iret (pc := 4) dX6_torn_4 rfl ?_
  exact rfl
set_option maxHeartbeats 4000000 in
theorem c6_count {g : jG} {d : Nat} {h : jH} {x : Int32} (hR : MR h) : Mi g (d + 2) YX6_count h [.ref 131, .int x] (fun r h' => (r, h') = oCount h x) := by
  refine M.of (by decide) rfl (Nat.le_of_ble_eq_true rfl) ?_
  obtain ⟨r1, ⟨⟨v1, v2, v3, v4⟩, v5, v6, v7, v8, v9, va, vb, vc, vd⟩, r3, r4, ⟨r5, r6⟩, r7, r8, r9, ra⟩ := hR
  have hn := r1.1
  have hn4 := v1
  have n5 := r1.2
  have c6 : ix (h 132 37) < 6 := v3.2
  have p9 : ix (h 132 51) < 9 := v5.2
  have p9' : ix (pg h 0 51) < 9 := v5.2
  refine J_iload_n (pc := 0) dX6_count_0 rfl ?_
  by_cases e0 : x = nI 0
  · subst e0
    refine J_tableIn (pc := 1) (tgt := 40) dX6_count_1 (by decide) (by decide) rfl (by decide) ?_
    refine J_aload_n (pc := 40) dX6_count_40 rfl ?_
    refine J_getI (pc := 41) dX6_count_41 fX6_151 sh131 rfl (rfl) ?_
    refine K_iret (pc := 44) dX6_count_44 rfl ?_
    exact rfl
  by_cases e1 : x = nI 1
  · subst e1
    refine J_tableIn (pc := 1) (tgt := 45) dX6_count_1 (by decide) (by decide) rfl (by decide) ?_
    rcases r3 0 (by omega) with z0 | ⟨z0, -⟩ <;> rcases r3 1 (by omega) with z1 | ⟨z1, -⟩
    · skip
      refine J_aload_n (pc := 45) dX6_count_45 rfl ?_
      refine J_getR (pc := 46) dX6_count_46 fX6_41 sh131 rfl ?_
      refine J_iconst (pc := 49) (v := nI 0) dX6_count_49 (by decide) ?_
      refine J_zald (pc := 50) dX6_count_50 sh142 (rfl) (by omega) (z0) (by decide) ?_
      refine J_if_eq (pc := 51) (tgt := 58) dX6_count_51 (by decide) (fun _ => ?_) (fun c => absurd c (by decide))
      refine J_iconst (pc := 58) (v := nI 0) dX6_count_58 (by decide) ?_
      refine J_aload_n (pc := 59) dX6_count_59 rfl ?_
      refine J_getR (pc := 60) dX6_count_60 fX6_41 sh131 rfl ?_
      refine J_iconst (pc := 63) (v := nI 1) dX6_count_63 (by decide) ?_
      refine J_zald (pc := 64) dX6_count_64 sh142 (rfl) (by omega) (z1) (by decide) ?_
      refine J_if_eq (pc := 65) (tgt := 72) dX6_count_65 (by decide) (fun _ => ?_) (fun c => absurd c (by decide))
      refine J_iconst (pc := 72) (v := nI 0) dX6_count_72 (by decide) ?_
      refine J_iadd (pc := 73) dX6_count_73 (nI_add _ _) ?_
      refine K_iret (pc := 74) dX6_count_74 rfl ?_
      exact by rw [oCount, z0, z1]; rfl
    · skip
      refine J_aload_n (pc := 45) dX6_count_45 rfl ?_
      refine J_getR (pc := 46) dX6_count_46 fX6_41 sh131 rfl ?_
      refine J_iconst (pc := 49) (v := nI 0) dX6_count_49 (by decide) ?_
      refine J_zald (pc := 50) dX6_count_50 sh142 (rfl) (by omega) (z0) (by decide) ?_
      refine J_if_eq (pc := 51) (tgt := 58) dX6_count_51 (by decide) (fun _ => ?_) (fun c => absurd c (by decide))
      refine J_iconst (pc := 58) (v := nI 0) dX6_count_58 (by decide) ?_
      refine J_aload_n (pc := 59) dX6_count_59 rfl ?_
      refine J_getR (pc := 60) dX6_count_60 fX6_41 sh131 rfl ?_
      refine J_iconst (pc := 63) (v := nI 1) dX6_count_63 (by decide) ?_
      refine J_zald (pc := 64) dX6_count_64 sh142 (rfl) (by omega) (z1) (by decide) ?_
      refine J_if_eq (pc := 65) (tgt := 72) dX6_count_65 (by decide) (fun c => absurd c (by decide)) (fun _ => ?_)
      refine J_iconst (pc := 68) (v := nI 1) dX6_count_68 (by decide) ?_
      refine J_goto (pc := 69) (tgt := 73) dX6_count_69 (by decide) ?_
      refine J_iadd (pc := 73) dX6_count_73 (nI_add _ _) ?_
      refine K_iret (pc := 74) dX6_count_74 rfl ?_
      exact by rw [oCount, z0, z1]; rfl
    · skip
      refine J_aload_n (pc := 45) dX6_count_45 rfl ?_
      refine J_getR (pc := 46) dX6_count_46 fX6_41 sh131 rfl ?_
      refine J_iconst (pc := 49) (v := nI 0) dX6_count_49 (by decide) ?_
      refine J_zald (pc := 50) dX6_count_50 sh142 (rfl) (by omega) (z0) (by decide) ?_
      refine J_if_eq (pc := 51) (tgt := 58) dX6_count_51 (by decide) (fun c => absurd c (by decide)) (fun _ => ?_)
      refine J_iconst (pc := 54) (v := nI 1) dX6_count_54 (by decide) ?_
      refine J_goto (pc := 55) (tgt := 59) dX6_count_55 (by decide) ?_
      refine J_aload_n (pc := 59) dX6_count_59 rfl ?_
      refine J_getR (pc := 60) dX6_count_60 fX6_41 sh131 rfl ?_
      refine J_iconst (pc := 63) (v := nI 1) dX6_count_63 (by decide) ?_
      refine J_zald (pc := 64) dX6_count_64 sh142 (rfl) (by omega) (z1) (by decide) ?_
      refine J_if_eq (pc := 65) (tgt := 72) dX6_count_65 (by decide) (fun _ => ?_) (fun c => absurd c (by decide))
      refine J_iconst (pc := 72) (v := nI 0) dX6_count_72 (by decide) ?_
      refine J_iadd (pc := 73) dX6_count_73 (nI_add _ _) ?_
      refine K_iret (pc := 74) dX6_count_74 rfl ?_
      exact by rw [oCount, z0, z1]; rfl
    · skip
      refine J_aload_n (pc := 45) dX6_count_45 rfl ?_
      refine J_getR (pc := 46) dX6_count_46 fX6_41 sh131 rfl ?_
      refine J_iconst (pc := 49) (v := nI 0) dX6_count_49 (by decide) ?_
      refine J_zald (pc := 50) dX6_count_50 sh142 (rfl) (by omega) (z0) (by decide) ?_
      refine J_if_eq (pc := 51) (tgt := 58) dX6_count_51 (by decide) (fun c => absurd c (by decide)) (fun _ => ?_)
      refine J_iconst (pc := 54) (v := nI 1) dX6_count_54 (by decide) ?_
      refine J_goto (pc := 55) (tgt := 59) dX6_count_55 (by decide) ?_
      refine J_aload_n (pc := 59) dX6_count_59 rfl ?_
      refine J_getR (pc := 60) dX6_count_60 fX6_41 sh131 rfl ?_
      refine J_iconst (pc := 63) (v := nI 1) dX6_count_63 (by decide) ?_
      refine J_zald (pc := 64) dX6_count_64 sh142 (rfl) (by omega) (z1) (by decide) ?_
      refine J_if_eq (pc := 65) (tgt := 72) dX6_count_65 (by decide) (fun c => absurd c (by decide)) (fun _ => ?_)
      refine J_iconst (pc := 68) (v := nI 1) dX6_count_68 (by decide) ?_
      refine J_goto (pc := 69) (tgt := 73) dX6_count_69 (by decide) ?_
      refine J_iadd (pc := 73) dX6_count_73 (nI_add _ _) ?_
      refine K_iret (pc := 74) dX6_count_74 rfl ?_
      exact by rw [oCount, z0, z1]; rfl
  by_cases e2 : x = nI 2
  · subst e2
    refine J_tableIn (pc := 1) (tgt := 75) dX6_count_1 (by decide) (by decide) rfl (by decide) ?_
    refine J_aload_n (pc := 75) dX6_count_75 rfl ?_
    refine J_getI (pc := 76) dX6_count_76 fX6_59 sh131 rfl (rfl) ?_
    refine K_iret (pc := 79) dX6_count_79 rfl ?_
    exact rfl
  by_cases e3 : x = nI 3
  · subst e3
    refine J_tableIn (pc := 1) (tgt := 80) dX6_count_1 (by decide) (by decide) rfl (by decide) ?_
    refine J_aload_n (pc := 80) dX6_count_80 rfl ?_
    refine J_getR (pc := 81) dX6_count_81 fX6_44 sh131 rfl ?_
    refine J_iconst (pc := 84) (v := nI 0) dX6_count_84 (by decide) ?_
    refine J_iald (pc := 85) dX6_count_85 sh143 (rfl) (by omega) (rfl) (by decide) ?_
    refine J_bipush (pc := 86) (v := -4) dX6_count_86 (by decide) ?_
    refine J_icmp_ne (pc := 88) (tgt := 96) dX6_count_88 (by decide) (fun c88 => ?_) (fun c88 => ?_)
    · skip
      refine J_aload_n (pc := 96) dX6_count_96 rfl ?_
      refine J_getR (pc := 97) dX6_count_97 fX6_47 sh131 rfl ?_
      refine J_iconst (pc := 100) (v := nI 0) dX6_count_100 (by decide) ?_
      refine J_iald (pc := 101) dX6_count_101 sh144 (rfl) (by omega) (rfl) (by decide) ?_
      refine K_iret (pc := 102) dX6_count_102 rfl ?_
      exact congrArg (fun z => (z, h)) (iteP_f c88).symm
    · skip
      refine J_bipush (pc := 91) (v := -4) dX6_count_91 (by decide) ?_
      refine J_goto (pc := 93) (tgt := 102) dX6_count_93 (by decide) ?_
      refine K_iret (pc := 102) dX6_count_102 rfl ?_
      exact congrArg (fun z => (z, h)) (iteP_t c88).symm
  by_cases e4 : x = nI 4
  · subst e4
    refine J_tableIn (pc := 1) (tgt := 103) dX6_count_1 (by decide) (by decide) rfl (by decide) ?_
    refine J_aload_n (pc := 103) dX6_count_103 rfl ?_
    refine J_iconst (pc := 104) (v := nI 0) dX6_count_104 (by decide) ?_
    refine K_Vi1 (pc := 105) (Y' := YX6_pursesOn) dX6_count_105 lX6_222 mX6_pursesOn vX6_pursesOn ⟨_, _, rfl⟩ sh131 (Nat.le_of_ble_eq_true rfl) (c6_pursesOn (o := 0) hn hn4 (by omega)) ?_
    rintro r h0 ⟨e0, rfl⟩
    rw [e0]
    clear e0 h0
    refine K_iret (pc := 108) dX6_count_108 rfl ?_
    exact congrArg (fun z => (z, h)) (sumZ_cong (fun j _ => by rw [pg0, Nat.zero_add]))
  by_cases e5 : x = nI 5
  · subst e5
    refine J_tableIn (pc := 1) (tgt := 109) dX6_count_1 (by decide) (by decide) rfl (by decide) ?_
    refine J_aload_n (pc := 109) dX6_count_109 rfl ?_
    refine J_iconst (pc := 110) (v := nI 0) dX6_count_110 (by decide) ?_
    refine K_Vi1 (pc := 111) (Y' := YX6_owedOn) dX6_count_111 lX6_225 mX6_owedOn vX6_owedOn ⟨_, _, rfl⟩ sh131 (Nat.le_of_ble_eq_true rfl) (c6_owedOn (o := 0) (by omega)) ?_
    rintro r h0 ⟨e0, rfl⟩
    rw [e0]
    clear e0 h0
    refine K_iret (pc := 114) dX6_count_114 rfl ?_
    exact congrArg (fun z => (z, h)) (sumZ_cong (fun j _ => by rw [pg0, Nat.zero_add]))
  have hj : ∀ k, k < 6 → ¬ x = nI k := fun k hk => by
    match k, hk with
    | 0, _ => exact e0
    | 1, _ => exact e1
    | 2, _ => exact e2
    | 3, _ => exact e3
    | 4, _ => exact e4
    | 5, _ => exact e5
  refine J_tableOut (pc := 1) (tgt := 115) dX6_count_1 (tsw_out (N := 6) (by omega) hj) (by decide) ?_
  refine J_iconst (pc := 115) (v := -1) dX6_count_115 (by decide) ?_
  refine K_iret (pc := 116) dX6_count_116 rfl ?_
  exact congrArg (fun z => (z, h)) (sel_out (fun j h1 h2 => hj j h2)).symm
