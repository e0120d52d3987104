set_option maxHeartbeats 4000000 in
theorem c5_gain {g : jG} {d : Nat} {a h : jH} {p w : Int32} (hR : RX a h) : Mi g (d + 2) YX5_gain h [.ref 0, .int p, .int w] (fun r h' => h' = h ∧ r = rGain (ix (a 131 2)) (pg a 0) p w) := by
  refine M.of (by decide) rfl (Nat.le_of_ble_eq_true rfl) ?_
  obtain ⟨⟨r1, hX, hwk, ⟨⟨v1, v2, v3, v4⟩, v5, v6, v7, v8, v9, va, vb, vc, vd⟩⟩, rK, rT, rS, rH, ⟨r8, r8b, r9, ra⟩⟩ := hR
  obtain ⟨x1, x2, x3, x4, x5, x6, x7, x8, x9⟩ := id hX
  have hn4 := v1
  have n5 := r1.2
  have c6 := v3.2
  have p9 := v5.2
  refine J_aload_n (pc := 0) dX5_gain_0 rfl ?_
  refine J_iload_n (pc := 1) dX5_gain_1 rfl ?_
  refine K_Vi1 (pc := 2) (Y' := YX5_isOne) dX5_gain_2 lX5_109 mX5_isOne vX5_isOne ⟨_, _, rfl⟩ sh0 (Nat.le_of_ble_eq_true rfl) (c5_isOne (x := p) x1 hn4) ?_
  rintro x h0 ⟨e0, ⟨rfl, b2⟩ | ⟨rfl, b2⟩⟩ <;> rw [e0] <;> clear e0 h0
  · skip
    refine J_if_eq (pc := 5) (tgt := 15) dX5_gain_5 (by decide) (fun c => absurd c (by decide)) (fun _ => ?_)
    refine J_iload_n (pc := 8) dX5_gain_8 rfl ?_
    refine K_Si1 (pc := 9) (Y' := YX5_isWeather) dX5_gain_9 lX5_121 mX5_isWeather sX5_isWeather (Nat.le_of_ble_eq_true rfl) (c5_isWeather (x := w)) ?_
    rintro x h0 ⟨e0, ⟨rfl, b9⟩ | ⟨rfl, b9⟩⟩ <;> rw [e0] <;> clear e0 h0
    · skip
      refine J_if_ne (pc := 12) (tgt := 17) dX5_gain_12 (by decide) (fun _ => ?_) (fun c => absurd c (by decide))
      have qp := b2.2
      have qw := b9.2
      refine J_ls (ls' := [(0, .ref 0), (1, .int (nI (ix p))), (2, .int (nI (ix w)))]) ⟨rfl, congrArg (fun z => some (Value.int z)) b2.1, congrArg (fun z => some (Value.int z)) b9.1, trivial⟩ ?_
      refine J_bipush (pc := 17) (v := nI 100) dX5_gain_17 (by decide) ?_
      refine J_aload_n (pc := 19) dX5_gain_19 rfl ?_
      refine J_getR (pc := 20) dX5_gain_20 fX5_10 sh0 rfl ?_
      refine J_iload_n (pc := 23) dX5_gain_23 rfl ?_
      refine J_iload_n (pc := 24) dX5_gain_24 rfl ?_
      refine K_Vi2 (pc := 25) (Y' := YX4_gainOf) dX5_gain_25 lX5_124 mX4_gainOf vX4_gainOf ⟨_, _, rfl⟩ (sv0 isV1) (Nat.le_of_ble_eq_true rfl) (c4_gainOf isV1 (by have := b2.2; omega) (x2 _ b2.2).1 (x2 _ b2.2).2.1 (v2 _ b2.2) b9.2) ?_
      rintro r h0 ⟨e0, rfl⟩
      rw [e0]
      clear e0 h0
      refine J_iadd (pc := 28) dX5_gain_28 (rfl) ?_
      refine K_iret (pc := 29) dX5_gain_29 rfl ?_
      exact ⟨rfl, (iteP_t ⟨b2, b9⟩).symm⟩
    · skip
      refine J_if_ne (pc := 12) (tgt := 17) dX5_gain_12 (by decide) (fun c => absurd c (by decide)) (fun _ => ?_)
      refine J_iconst (pc := 15) (v := -1) dX5_gain_15 (by decide) ?_
      refine K_iret (pc := 16) dX5_gain_16 rfl ?_
      exact ⟨rfl, (iteP_f (fun z => b9 z.2)).symm⟩
  · skip
    refine J_if_eq (pc := 5) (tgt := 15) dX5_gain_5 (by decide) (fun _ => ?_) (fun c => absurd c (by decide))
    refine J_iconst (pc := 15) (v := -1) dX5_gain_15 (by decide) ?_
    refine K_iret (pc := 16) dX5_gain_16 rfl ?_
    exact ⟨rfl, (iteP_f (fun z => b2 z.1)).symm⟩
set_option maxHeartbeats 4000000 in
theorem c5_odds {g : jG} {d : Nat} {a h : jH} {w : Int32} (hR : RX a h) : Mi g (d + 2) YX5_odds h [.ref 0, .int w] (fun r h' => h' = h ∧ r = rOdds (pg a 0) w) := by
  refine M.of (by decide) rfl (Nat.le_of_ble_eq_true rfl) ?_
  obtain ⟨⟨r1, hX, hwk, ⟨⟨v1, v2, v3, v4⟩, v5, v6, v7, v8, v9, va, vb, vc, vd⟩⟩, rK, rT, rS, rH, ⟨r8, r8b, r9, ra⟩⟩ := hR
  obtain ⟨x1, x2, x3, x4, x5, x6, x7, x8, x9⟩ := id hX
  have hn4 := v1
  have n5 := r1.2
  have c6 := v3.2
  have p9 := v5.2
  refine J_iload_n (pc := 0) dX5_odds_0 rfl ?_
  refine K_Si1 (pc := 1) (Y' := YX5_isWeather) dX5_odds_1 lX5_121 mX5_isWeather sX5_isWeather (Nat.le_of_ble_eq_true rfl) (c5_isWeather (x := w)) ?_
  rintro x h0 ⟨e0, ⟨rfl, b1⟩ | ⟨rfl, b1⟩⟩ <;> rw [e0] <;> clear e0 h0
  · skip
    refine J_if_eq (pc := 4) (tgt := 19) dX5_odds_4 (by decide) (fun c => absurd c (by decide)) (fun _ => ?_)
    have qw := b1.2
    refine J_ls (ls' := [(0, .ref 0), (1, .int (nI (ix w)))]) ⟨rfl, congrArg (fun z => some (Value.int z)) b1.1, trivial⟩ ?_
    refine J_aload_n (pc := 7) dX5_odds_7 rfl ?_
    refine J_getR (pc := 8) dX5_odds_8 fX5_10 sh0 rfl ?_
    refine J_getR (pc := 11) dX5_odds_11 fX5_133 (sv0 isV1) rfl ?_
    refine J_iload_n (pc := 14) dX5_odds_14 rfl ?_
    refine J_iald (pc := 15) dX5_odds_15 (sv11 isV1) (rfl) (by omega) (x5 _ b1.2) (by decide) ?_
    refine J_goto (pc := 16) (tgt := 20) dX5_odds_16 (by decide) ?_
    refine K_iret (pc := 20) dX5_odds_20 rfl ?_
    exact ⟨rfl, (iteP_t b1).symm⟩
  · skip
    refine J_if_eq (pc := 4) (tgt := 19) dX5_odds_4 (by decide) (fun _ => ?_) (fun c => absurd c (by decide))
    refine J_iconst (pc := 19) (v := -1) dX5_odds_19 (by decide) ?_
    refine K_iret (pc := 20) dX5_odds_20 rfl ?_
    exact ⟨rfl, (iteP_f b1).symm⟩
set_option maxHeartbeats 4000000 in
theorem c5_cover {g : jG} {d : Nat} {a h : jH} {c x : Int32} (hR : RX a h) : Mi g (d + 2) YX5_cover h [.ref 0, .int c, .int x] (fun r h' => h' = h ∧ r = rCover (pg a 0) c x) := by
  refine M.of (by decide) rfl (Nat.le_of_ble_eq_true rfl) ?_
  obtain ⟨⟨r1, hX, hwk, ⟨⟨v1, v2, v3, v4⟩, v5, v6, v7, v8, v9, va, vb, vc, vd⟩⟩, rK, rT, rS, rH, ⟨r8, r8b, r9, ra⟩⟩ := hR
  obtain ⟨x1, x2, x3, x4, x5, x6, x7, x8, x9⟩ := id hX
  have hn4 := v1
  have n5 := r1.2
  have c6 := v3.2
  have p9 := v5.2
  refine J_aload_n (pc := 0) dX5_cover_0 rfl ?_
  refine J_iload_n (pc := 1) dX5_cover_1 rfl ?_
  refine K_Vi1 (pc := 2) (Y' := YX5_isCover) dX5_cover_2 lX5_127 mX5_isCover vX5_isCover ⟨_, _, rfl⟩ sh0 (Nat.le_of_ble_eq_true rfl) (c5_isCover (x := c) (x3.trans v3.1) (by omega)) ?_
  rintro x h0 ⟨e0, ⟨rfl, b2⟩ | ⟨rfl, b2⟩⟩ <;> rw [e0] <;> clear e0 h0
  · skip
    refine J_if_eq (pc := 5) (tgt := 17) dX5_cover_5 (by decide) (fun c => absurd c (by decide)) (fun _ => ?_)
    refine J_iload_n (pc := 8) dX5_cover_8 rfl ?_
    refine J_iconst (pc := 9) (v := nI 0) dX5_cover_9 (by decide) ?_
    refine J_iconst (pc := 10) (v := nI 4) dX5_cover_10 (by decide) ?_
    refine K_Si3 (pc := 11) (Y' := YX5_within) dX5_cover_11 lX5_63 mX5_within sX5_within (Nat.le_of_ble_eq_true rfl) (c5_within) ?_
    rintro x h0 ⟨e0, ⟨rfl, b11⟩ | ⟨rfl, b11⟩⟩ <;> rw [e0] <;> clear e0 h0
    · skip
      have bx : nb 5 x := (in_nbc (n := 4) rfl (by omega)).mp b11
      refine J_if_ne (pc := 14) (tgt := 19) dX5_cover_14 (by decide) (fun _ => ?_) (fun c => absurd c (by decide))
      have qc := b2.2
      have qx := bx.2
      refine J_ls (ls' := [(0, .ref 0), (1, .int (nI (ix c))), (2, .int (nI (ix x)))]) ⟨rfl, congrArg (fun z => some (Value.int z)) b2.1, congrArg (fun z => some (Value.int z)) bx.1, trivial⟩ ?_
      refine J_aload_n (pc := 19) dX5_cover_19 rfl ?_
      refine J_getR (pc := 20) dX5_cover_20 fX5_10 sh0 rfl ?_
      refine J_getR (pc := 23) dX5_cover_23 fX5_130 (sv0 isV1) rfl ?_
      refine J_iload_n (pc := 26) dX5_cover_26 rfl ?_
      refine J_aald (pc := 27) dX5_cover_27 (sv5 isV1) j_k2 (rfl) (termsR (by omega)) (Nat.le_of_ble_eq_true rfl) ?_
      refine J_iload_n (pc := 28) dX5_cover_28 rfl ?_
      refine J_iald (pc := 29) dX5_cover_29 (termsRS isV1 (by omega)) (rfl) (by omega) (x4 _ b2.2 _ bx.2) (by decide) ?_
      refine K_iret (pc := 30) dX5_cover_30 rfl ?_
      exact ⟨rfl, (iteP_t ⟨b2, bx⟩).symm⟩
    · skip
      have bx : ¬ nb 5 x := fun z => b11 ((in_nbc (n := 4) rfl (by omega)).mpr z)
      refine J_if_ne (pc := 14) (tgt := 19) dX5_cover_14 (by decide) (fun c => absurd c (by decide)) (fun _ => ?_)
      refine J_iconst (pc := 17) (v := -1) dX5_cover_17 (by decide) ?_
      refine K_iret (pc := 18) dX5_cover_18 rfl ?_
      exact ⟨rfl, (iteP_f (fun z => bx z.2)).symm⟩
  · skip
    refine J_if_eq (pc := 5) (tgt := 17) dX5_cover_5 (by decide) (fun _ => ?_) (fun c => absurd c (by decide))
    refine J_iconst (pc := 17) (v := -1) dX5_cover_17 (by decide) ?_
    refine K_iret (pc := 18) dX5_cover_18 rfl ?_
    exact ⟨rfl, (iteP_f (fun z => b2 z.1)).symm⟩
set_option maxHeartbeats 4000000 in
theorem c5_sky {g : jG} {d : Nat} {a h : jH} {x : Int32} (hR : RX a h) : Mi g (d + 2) YX5_sky h [.ref 0, .int x] (fun r h' => h' = h ∧ r = rSky (pg a 0) x) := by
  refine M.of (by decide) rfl (Nat.le_of_ble_eq_true rfl) ?_
  obtain ⟨⟨r1, hX, hwk, ⟨⟨v1, v2, v3, v4⟩, v5, v6, v7, v8, v9, va, vb, vc, vd⟩⟩, rK, rT, rS, rH, ⟨r8, r8b, r9, ra⟩⟩ := hR
  obtain ⟨x1, x2, x3, x4, x5, x6, x7, x8, x9⟩ := id hX
  have hn4 := v1
  have n5 := r1.2
  have c6 := v3.2
  have p9 := v5.2
  refine J_iload_n (pc := 0) dX5_sky_0 rfl ?_
  refine J_iconst (pc := 1) (v := nI 0) dX5_sky_1 (by decide) ?_
  refine J_aload_n (pc := 2) dX5_sky_2 rfl ?_
  refine J_getR (pc := 3) dX5_sky_3 fX5_10 sh0 rfl ?_
  refine J_getI (pc := 6) dX5_sky_6 fX5_103 (sv0 isV1) rfl (x7.trans v5.1) ?_
  refine J_iconst (pc := 9) (v := nI 1) dX5_sky_9 (by decide) ?_
  refine J_isub (pc := 10) dX5_sky_10 (rfl) ?_
  refine K_Si3 (pc := 11) (Y' := YX5_within) dX5_sky_11 lX5_63 mX5_within sX5_within (Nat.le_of_ble_eq_true rfl) (c5_within) ?_
  rintro x h0 ⟨e0, ⟨rfl, b11⟩ | ⟨rfl, b11⟩⟩ <;> rw [e0] <;> clear e0 h0
  · skip
    have bx := (in_nb (by omega)).mp b11
    refine J_if_eq (pc := 14) (tgt := 29) dX5_sky_14 (by decide) (fun c => absurd c (by decide)) (fun _ => ?_)
    have qx := bx.2
    refine J_ls (ls' := [(0, .ref 0), (1, .int (nI (ix x)))]) ⟨rfl, congrArg (fun z => some (Value.int z)) bx.1, trivial⟩ ?_
    refine J_aload_n (pc := 17) dX5_sky_17 rfl ?_
    refine J_getR (pc := 18) dX5_sky_18 fX5_10 sh0 rfl ?_
    refine J_getR (pc := 21) dX5_sky_21 fX5_136 (sv0 isV1) rfl ?_
    refine J_iload_n (pc := 24) dX5_sky_24 rfl ?_
    refine J_iald (pc := 25) dX5_sky_25 (sv12 isV1) (rfl) (by omega) (x8 _ bx.2) (by decide) ?_
    refine J_goto (pc := 26) (tgt := 30) dX5_sky_26 (by decide) ?_
    refine K_iret (pc := 30) dX5_sky_30 rfl ?_
    exact ⟨rfl, (iteP_t bx).symm⟩
  · skip
    have bx := fun z => b11 ((in_nb (by omega)).mpr z)
    refine J_if_eq (pc := 14) (tgt := 29) dX5_sky_14 (by decide) (fun _ => ?_) (fun c => absurd c (by decide))
    refine J_iconst (pc := 29) (v := -1) dX5_sky_29 (by decide) ?_
    refine K_iret (pc := 30) dX5_sky_30 rfl ?_
    exact ⟨rfl, (iteP_f bx).symm⟩
set_option maxHeartbeats 4000000 in
theorem c5_owed {g : jG} {d : Nat} {a h : jH} {p q : Int32} (hR : RX a h) : Mi g (d + 2) YX5_owed h [.ref 0, .int p, .int q] (fun r h' => h' = h ∧ r = rOwed (ix (a 131 2)) (pg a 0) p q) := by
  refine M.of (by decide) rfl (Nat.le_of_ble_eq_true rfl) ?_
  obtain ⟨⟨r1, hX, hwk, ⟨⟨v1, v2, v3, v4⟩, v5, v6, v7, v8, v9, va, vb, vc, vd⟩⟩, rK, rT, rS, rH, ⟨r8, r8b, r9, ra⟩⟩ := hR
  obtain ⟨x1, x2, x3, x4, x5, x6, x7, x8, x9⟩ := id hX
  have hn4 := v1
  have n5 := r1.2
  have c6 := v3.2
  have p9 := v5.2
  refine J_aload_n (pc := 0) dX5_owed_0 rfl ?_
  refine J_iload_n (pc := 1) dX5_owed_1 rfl ?_
  refine K_Vi1 (pc := 2) (Y' := YX5_isOne) dX5_owed_2 lX5_109 mX5_isOne vX5_isOne ⟨_, _, rfl⟩ sh0 (Nat.le_of_ble_eq_true rfl) (c5_isOne (x := p) x1 hn4) ?_
  rintro x h0 ⟨e0, ⟨rfl, b2⟩ | ⟨rfl, b2⟩⟩ <;> rw [e0] <;> clear e0 h0
  · skip
    refine J_if_eq (pc := 5) (tgt := 21) dX5_owed_5 (by decide) (fun c => absurd c (by decide)) (fun _ => ?_)
    refine J_aload_n (pc := 8) dX5_owed_8 rfl ?_
    refine J_iload_n (pc := 9) dX5_owed_9 rfl ?_
    refine K_Vi1 (pc := 10) (Y' := YX5_isOne) dX5_owed_10 lX5_109 mX5_isOne vX5_isOne ⟨_, _, rfl⟩ sh0 (Nat.le_of_ble_eq_true rfl) (c5_isOne (x := q) x1 hn4) ?_
    rintro x h0 ⟨e0, ⟨rfl, b10⟩ | ⟨rfl, b10⟩⟩ <;> rw [e0] <;> clear e0 h0
    · skip
      refine J_if_eq (pc := 13) (tgt := 21) dX5_owed_13 (by decide) (fun c => absurd c (by decide)) (fun _ => ?_)
      refine J_iload_n (pc := 16) dX5_owed_16 rfl ?_
      refine J_iload_n (pc := 17) dX5_owed_17 rfl ?_
      refine J_icmp_ne (pc := 18) (tgt := 23) dX5_owed_18 (by decide) (fun c18 => ?_) (fun c18 => ?_)
      · skip
        have qp := b2.2
        have qq := b10.2
        refine J_ls (ls' := [(0, .ref 0), (1, .int (nI (ix p))), (2, .int (nI (ix q)))]) ⟨rfl, congrArg (fun z => some (Value.int z)) b2.1, congrArg (fun z => some (Value.int z)) b10.1, trivial⟩ ?_
        refine J_aload_n (pc := 23) dX5_owed_23 rfl ?_
        refine J_getR (pc := 24) dX5_owed_24 fX5_10 sh0 rfl ?_
        refine J_getR (pc := 27) dX5_owed_27 fX5_139 (sv0 isV1) rfl ?_
        refine J_iload_n (pc := 30) dX5_owed_30 rfl ?_
        refine J_aald (pc := 31) dX5_owed_31 (sv13 isV1) j_k2 (rfl) (debtsR (by omega)) (Nat.le_of_ble_eq_true rfl) ?_
        refine J_iload_n (pc := 32) dX5_owed_32 rfl ?_
        refine J_iald (pc := 33) dX5_owed_33 (debtsRS isV1 (by omega)) (rfl) (by omega) (x9 _ _ (by omega) (by omega)) (by decide) ?_
        refine K_iret (pc := 34) dX5_owed_34 rfl ?_
        exact ⟨rfl, (iteP_t ⟨b2, b10, c18⟩).symm⟩
      · skip
        refine J_iconst (pc := 21) (v := -1) dX5_owed_21 (by decide) ?_
        refine K_iret (pc := 22) dX5_owed_22 rfl ?_
        exact ⟨rfl, (iteP_f (fun z => z.2.2 c18)).symm⟩
    · skip
      refine J_if_eq (pc := 13) (tgt := 21) dX5_owed_13 (by decide) (fun _ => ?_) (fun c => absurd c (by decide))
      refine J_iconst (pc := 21) (v := -1) dX5_owed_21 (by decide) ?_
      refine K_iret (pc := 22) dX5_owed_22 rfl ?_
      exact ⟨rfl, (iteP_f (fun z => b10 z.2.1)).symm⟩
  · skip
    refine J_if_eq (pc := 5) (tgt := 21) dX5_owed_5 (by decide) (fun _ => ?_) (fun c => absurd c (by decide))
    refine J_iconst (pc := 21) (v := -1) dX5_owed_21 (by decide) ?_
    refine K_iret (pc := 22) dX5_owed_22 rfl ?_
    exact ⟨rfl, (iteP_f (fun z => b2 z.1)).symm⟩
set_option maxHeartbeats 4000000 in
theorem c5_fair {g : jG} {d : Nat} {a h : jH} {c : Int32} (hR : RX a h) : Mi g (d + 2) YX5_fair h [.ref 0, .int c] (fun r h' => h' = h ∧ r = rFair (pg a 0) c) := by
  refine M.of (by decide) rfl (Nat.le_of_ble_eq_true rfl) ?_
  obtain ⟨⟨r1, hX, hwk, ⟨⟨v1, v2, v3, v4⟩, v5, v6, v7, v8, v9, va, vb, vc, vd⟩⟩, rK, rT, rS, rH, ⟨r8, r8b, r9, ra⟩⟩ := hR
  obtain ⟨x1, x2, x3, x4, x5, x6, x7, x8, x9⟩ := id hX
  have hn4 := v1
  have n5 := r1.2
  have c6 := v3.2
  have p9 := v5.2
  refine J_aload_n (pc := 0) dX5_fair_0 rfl ?_
  refine J_iload_n (pc := 1) dX5_fair_1 rfl ?_
  refine K_Vi1 (pc := 2) (Y' := YX5_isCover) dX5_fair_2 lX5_127 mX5_isCover vX5_isCover ⟨_, _, rfl⟩ sh0 (Nat.le_of_ble_eq_true rfl) (c5_isCover (x := c) (x3.trans v3.1) (by omega)) ?_
  rintro x h0 ⟨e0, ⟨rfl, b2⟩ | ⟨rfl, b2⟩⟩ <;> rw [e0] <;> clear e0 h0
  · skip
    refine J_if_ne (pc := 5) (tgt := 10) dX5_fair_5 (by decide) (fun _ => ?_) (fun c => absurd c (by decide))
    have qc := b2.2
    refine J_ls (ls' := [(0, .ref 0), (1, .int (nI (ix c)))]) ⟨rfl, congrArg (fun z => some (Value.int z)) b2.1, trivial⟩ ?_
    have w4 := (v7 _ b2.2).2.1
    refine J_aload_n (pc := 10) dX5_fair_10 rfl ?_
    refine J_getR (pc := 11) dX5_fair_11 fX5_10 sh0 rfl ?_
    refine J_getR (pc := 14) dX5_fair_14 fX5_130 (sv0 isV1) rfl ?_
    refine J_iconst (pc := 17) (v := nI 3) dX5_fair_17 (by decide) ?_
    refine J_aald (pc := 18) dX5_fair_18 (sv5 isV1) j_k2 (rfl) rfl (Nat.le_of_ble_eq_true rfl) ?_
    refine J_iload_n (pc := 19) dX5_fair_19 rfl ?_
    refine J_iald (pc := 20) dX5_fair_20 (sv9 isV1) (rfl) (by omega) (x4 _ b2.2 3 (by omega)) (by decide) ?_
    refine J_aload_n (pc := 21) dX5_fair_21 rfl ?_
    refine J_getR (pc := 22) dX5_fair_22 fX5_10 sh0 rfl ?_
    refine J_getR (pc := 25) dX5_fair_25 fX5_133 (sv0 isV1) rfl ?_
    refine J_aload_n (pc := 28) dX5_fair_28 rfl ?_
    refine J_getR (pc := 29) dX5_fair_29 fX5_10 sh0 rfl ?_
    refine J_getR (pc := 32) dX5_fair_32 fX5_130 (sv0 isV1) rfl ?_
    refine J_iconst (pc := 35) (v := nI 2) dX5_fair_35 (by decide) ?_
    refine J_aald (pc := 36) dX5_fair_36 (sv5 isV1) j_k2 (rfl) rfl (Nat.le_of_ble_eq_true rfl) ?_
    refine J_iload_n (pc := 37) dX5_fair_37 rfl ?_
    refine J_iald (pc := 38) dX5_fair_38 (sv8 isV1) (rfl) (by omega) ((x4 _ b2.2 2 (by omega)).trans w4.1) (by decide) ?_
    refine J_iald (pc := 39) dX5_fair_39 (sv11 isV1) (rfl) (w4.2) (x5 _ w4.2) (by decide) ?_
    refine J_imul (pc := 40) dX5_fair_40 (rfl) ?_
    refine J_istore_n (pc := 41) dX5_fair_41 (by decide) ?_
    refine J_iload_n (pc := 42) dX5_fair_42 rfl ?_
    refine J_bipush (pc := 43) (v := nI 10) dX5_fair_43 (by decide) ?_
    refine J_iadd (pc := 45) dX5_fair_45 (rfl) ?_
    refine J_iconst (pc := 46) (v := nI 1) dX5_fair_46 (by decide) ?_
    refine J_isub (pc := 47) dX5_fair_47 (show _ + nI 10 - nI 1 = _ + nI 9 from by rw [Int32.sub_eq_add_neg, Int32.add_assoc]; rfl) ?_
    refine J_bipush (pc := 48) (v := nI 10) dX5_fair_48 (by decide) ?_
    refine J_idiv (pc := 50) dX5_fair_50 (by decide) (rfl) ?_
    refine K_iret (pc := 51) dX5_fair_51 rfl ?_
    exact ⟨rfl, (iteP_t b2).symm⟩
  · skip
    refine J_if_ne (pc := 5) (tgt := 10) dX5_fair_5 (by decide) (fun c => absurd c (by decide)) (fun _ => ?_)
    refine J_iconst (pc := 8) (v := -1) dX5_fair_8 (by decide) ?_
    refine K_iret (pc := 9) dX5_fair_9 rfl ?_
    exact ⟨rfl, (iteP_f b2).symm⟩
set_option maxHeartbeats 4000000 in
theorem c5_rule {g : jG} {d : Nat} {a h : jH} {x : Int32} (hR : RX a h) : Mi g (d + 2) YX5_rule h [.ref 0, .int x] (fun r h' => h' = h ∧ r = rRule (ix (a 131 2)) (pg a 0) x) := by
  refine M.of (by decide) rfl (Nat.le_of_ble_eq_true rfl) ?_
  obtain ⟨⟨r1, hX, hwk, ⟨⟨v1, v2, v3, v4⟩, v5, v6, v7, v8, v9, va, vb, vc, vd⟩⟩, rK, rT, rS, rH, ⟨r8, r8b, r9, ra⟩⟩ := hR
  obtain ⟨x1, x2, x3, x4, x5, x6, x7, x8, x9⟩ := id hX
  have hn4 := v1
  have n5 := r1.2
  have c6 := v3.2
  have p9 := v5.2
  refine J_iload_n (pc := 0) dX5_rule_0 rfl ?_
  by_cases e0 : x = nI 0
  · subst e0
    refine J_tableIn (pc := 1) (tgt := 40) dX5_rule_1 (by decide) (by decide) rfl (by decide) ?_
    refine J_aload_n (pc := 40) dX5_rule_40 rfl ?_
    refine J_getR (pc := 41) dX5_rule_41 fX5_10 sh0 rfl ?_
    refine J_getI (pc := 44) dX5_rule_44 fX5_91 (sv0 isV1) rfl (x1) ?_
    refine K_iret (pc := 47) dX5_rule_47 rfl ?_
    exact ⟨rfl, rfl⟩
  by_cases e1 : x = nI 1
  · subst e1
    refine J_tableIn (pc := 1) (tgt := 48) dX5_rule_1 (by decide) (by decide) rfl (by decide) ?_
    refine J_aload_n (pc := 48) dX5_rule_48 rfl ?_
    refine J_getR (pc := 49) dX5_rule_49 fX5_10 sh0 rfl ?_
    refine J_getI (pc := 52) dX5_rule_52 fX5_94 (sv0 isV1) rfl (x3) ?_
    refine K_iret (pc := 55) dX5_rule_55 rfl ?_
    exact ⟨rfl, rfl⟩
  by_cases e2 : x = nI 2
  · subst e2
    refine J_tableIn (pc := 1) (tgt := 56) dX5_rule_1 (by decide) (by decide) rfl (by decide) ?_
    refine J_aload_n (pc := 56) dX5_rule_56 rfl ?_
    refine J_getR (pc := 57) dX5_rule_57 fX5_10 sh0 rfl ?_
    refine J_getI (pc := 60) dX5_rule_60 fX5_97 (sv0 isV1) rfl (x6) ?_
    refine K_iret (pc := 63) dX5_rule_63 rfl ?_
    exact ⟨rfl, rfl⟩
  by_cases e3 : x = nI 3
  · subst e3
    refine J_tableIn (pc := 1) (tgt := 64) dX5_rule_1 (by decide) (by decide) rfl (by decide) ?_
    refine J_aload_n (pc := 64) dX5_rule_64 rfl ?_
    refine J_getR (pc := 65) dX5_rule_65 fX5_10 sh0 rfl ?_
    refine J_getI (pc := 68) dX5_rule_68 fX5_100 (sv0 isV1) rfl (hwk) ?_
    refine K_iret (pc := 71) dX5_rule_71 rfl ?_
    exact ⟨rfl, rfl⟩
  by_cases e4 : x = nI 4
  · subst e4
    refine J_tableIn (pc := 1) (tgt := 72) dX5_rule_1 (by decide) (by decide) rfl (by decide) ?_
    refine J_aload_n (pc := 72) dX5_rule_72 rfl ?_
    refine J_getR (pc := 73) dX5_rule_73 fX5_10 sh0 rfl ?_
    refine J_getI (pc := 76) dX5_rule_76 fX5_103 (sv0 isV1) rfl (x7) ?_
    refine K_iret (pc := 79) dX5_rule_79 rfl ?_
    exact ⟨rfl, rfl⟩
  by_cases e5 : x = nI 5
  · subst e5
    refine J_tableIn (pc := 1) (tgt := 80) dX5_rule_1 (by decide) (by decide) rfl (by decide) ?_
    refine J_aload_n (pc := 80) dX5_rule_80 rfl ?_
    refine J_getR (pc := 81) dX5_rule_81 fX5_10 sh0 rfl ?_
    refine K_Vi0 (pc := 84) (Y' := YX4_belowFloor) dX5_rule_84 lX5_106 mX4_belowFloor vX4_belowFloor ⟨_, _, rfl⟩ (sv0 isV1) (Nat.le_of_ble_eq_true rfl) (c4_belowFloor isV1 hX hn4) ?_
    rintro r h0 ⟨e0, rfl⟩
    rw [e0]
    clear e0 h0
    refine K_iret (pc := 87) dX5_rule_87 rfl ?_
    exact ⟨rfl, rfl⟩
  have hj : ∀ k, k < 6 → ¬ x = nI k := fun k hk => by
    match k, hk with
    | 0, _ => exact e0
    | 1, _ => exact e1
    | 2, _ => exact e2
    | 3, _ => exact e3
    | 4, _ => exact e4
    | 5, _ => exact e5
  refine J_tableOut (pc := 1) (tgt := 88) dX5_rule_1 (tsw_out (N := 6) (by omega) hj) (by decide) ?_
  refine J_iconst (pc := 88) (v := -1) dX5_rule_88 (by decide) ?_
  refine K_iret (pc := 89) dX5_rule_89 rfl ?_
  refine ⟨rfl, (sel_out (fun j h1 h2 => ?_)).symm⟩
  exact hj j h2
set_option maxHeartbeats 4000000 in
theorem one_x {g : jG} {d : Nat} {a h : jH} {p x : Int32} (hR : RX a h) (b2 : nb (ix (a 131 2)) p) : K g (d + 2) YX5_one h 10 [(0, .ref 0), (1, .int p), (2, .int x)] [] (fun r h' => ∃ z, r = some (.int z) ∧ (h' = h ∧ z = rOne (ix (a 131 2)) (pg a 0) p x)) := by
  obtain ⟨⟨r1, hX, hwk, ⟨⟨v1, v2, v3, v4⟩, v5, v6, v7, v8, v9, va, vb, vc, vd⟩⟩, rK, rT, rS, rH, ⟨r8, r8b, r9, ra⟩⟩ := hR
  obtain ⟨x1, x2, x3, x4, x5, x6, x7, x8, x9⟩ := id hX
  have hn4 := v1
  have n5 := r1.2
  have c6 := v3.2
  have p9 := v5.2
  refine J_iload_n (pc := 10) dX5_one_10 rfl ?_
  by_cases e0 : x = nI 0
  · subst e0
    refine J_tableIn (pc := 11) (tgt := 44) dX5_one_11 (by decide) (by decide) rfl (by decide) ?_
    have qp := b2.2
    refine J_ls (ls' := [(0, .ref 0), (1, .int (nI (ix p))), (2, .int (nI 0))]) ⟨rfl, congrArg (fun z => some (Value.int z)) b2.1, rfl, trivial⟩ ?_
    refine J_aload_n (pc := 44) dX5_one_44 rfl ?_
    refine J_getR (pc := 45) dX5_one_45 fX5_10 sh0 rfl ?_
    refine J_getR (pc := 48) dX5_one_48 fX5_113 (sv0 isV1) rfl ?_
    refine J_iload_n (pc := 51) dX5_one_51 rfl ?_
    refine J_aald (pc := 52) dX5_one_52 (sv1 isV1) j_k2 (rfl) rfl (Nat.le_of_ble_eq_true rfl) ?_
    refine J_iload_n (pc := 53) dX5_one_53 rfl ?_
    refine J_iald (pc := 54) dX5_one_54 (sv2 isV1) (rfl) (by omega) ((x2 _ b2.2).1) (by decide) ?_
    refine K_iret (pc := 55) dX5_one_55 rfl ?_
    exact ⟨rfl, (iteP_t b2).symm⟩
  by_cases e1 : x = nI 1
  · subst e1
    refine J_tableIn (pc := 11) (tgt := 44) dX5_one_11 (by decide) (by decide) rfl (by decide) ?_
    have qp := b2.2
    refine J_ls (ls' := [(0, .ref 0), (1, .int (nI (ix p))), (2, .int (nI 1))]) ⟨rfl, congrArg (fun z => some (Value.int z)) b2.1, rfl, trivial⟩ ?_
    refine J_aload_n (pc := 44) dX5_one_44 rfl ?_
    refine J_getR (pc := 45) dX5_one_45 fX5_10 sh0 rfl ?_
    refine J_getR (pc := 48) dX5_one_48 fX5_113 (sv0 isV1) rfl ?_
    refine J_iload_n (pc := 51) dX5_one_51 rfl ?_
    refine J_aald (pc := 52) dX5_one_52 (sv1 isV1) j_k2 (rfl) rfl (Nat.le_of_ble_eq_true rfl) ?_
    refine J_iload_n (pc := 53) dX5_one_53 rfl ?_
    refine J_iald (pc := 54) dX5_one_54 (sv3 isV1) (rfl) (by omega) ((x2 _ b2.2).2.1) (by decide) ?_
    refine K_iret (pc := 55) dX5_one_55 rfl ?_
    exact ⟨rfl, (iteP_t b2).symm⟩
  by_cases e2 : x = nI 2
  · subst e2
    refine J_tableIn (pc := 11) (tgt := 44) dX5_one_11 (by decide) (by decide) rfl (by decide) ?_
    have qp := b2.2
    refine J_ls (ls' := [(0, .ref 0), (1, .int (nI (ix p))), (2, .int (nI 2))]) ⟨rfl, congrArg (fun z => some (Value.int z)) b2.1, rfl, trivial⟩ ?_
    refine J_aload_n (pc := 44) dX5_one_44 rfl ?_
    refine J_getR (pc := 45) dX5_one_45 fX5_10 sh0 rfl ?_
    refine J_getR (pc := 48) dX5_one_48 fX5_113 (sv0 isV1) rfl ?_
    refine J_iload_n (pc := 51) dX5_one_51 rfl ?_
    refine J_aald (pc := 52) dX5_one_52 (sv1 isV1) j_k2 (rfl) rfl (Nat.le_of_ble_eq_true rfl) ?_
    refine J_iload_n (pc := 53) dX5_one_53 rfl ?_
    refine J_iald (pc := 54) dX5_one_54 (sv4 isV1) (rfl) (by omega) ((x2 _ b2.2).2.2) (by decide) ?_
    refine K_iret (pc := 55) dX5_one_55 rfl ?_
    exact ⟨rfl, (iteP_t b2).symm⟩
  by_cases e3 : x = nI 3
  · subst e3
    refine J_tableIn (pc := 11) (tgt := 56) dX5_one_11 (by decide) (by decide) rfl (by decide) ?_
    refine J_aload_n (pc := 56) dX5_one_56 rfl ?_
    refine J_getR (pc := 57) dX5_one_57 fX5_10 sh0 rfl ?_
    refine J_iconst (pc := 60) (v := nI 0) dX5_one_60 (by decide) ?_
    refine J_iload_n (pc := 61) dX5_one_61 rfl ?_
    refine K_Vi2 (pc := 62) (Y' := YX4_coversWith) dX5_one_62 lX5_117 mX4_coversWith vX4_coversWith ⟨_, _, rfl⟩ (sv0 isV1) (Nat.le_of_ble_eq_true rfl) (c4_coversWith (t := 0) isV1 hX v3 (by omega)) ?_
    rintro r h0 ⟨e0, rfl⟩
    rw [e0]
    clear e0 h0
    refine K_iret (pc := 65) dX5_one_65 rfl ?_
    exact ⟨rfl, (iteP_t b2).symm⟩
  by_cases e4 : x = nI 4
  · subst e4
    refine J_tableIn (pc := 11) (tgt := 66) dX5_one_11 (by decide) (by decide) rfl (by decide) ?_
    refine J_aload_n (pc := 66) dX5_one_66 rfl ?_
    refine J_getR (pc := 67) dX5_one_67 fX5_10 sh0 rfl ?_
    refine J_iconst (pc := 70) (v := nI 1) dX5_one_70 (by decide) ?_
    refine J_iload_n (pc := 71) dX5_one_71 rfl ?_
    refine K_Vi2 (pc := 72) (Y' := YX4_coversWith) dX5_one_72 lX5_117 mX4_coversWith vX4_coversWith ⟨_, _, rfl⟩ (sv0 isV1) (Nat.le_of_ble_eq_true rfl) (c4_coversWith (t := 1) isV1 hX v3 (by omega)) ?_
    rintro r h0 ⟨e0, rfl⟩
    rw [e0]
    clear e0 h0
    refine K_iret (pc := 75) dX5_one_75 rfl ?_
    exact ⟨rfl, (iteP_t b2).symm⟩
  have hj : ∀ k, k < 5 → ¬ x = nI k := fun k hk => by
    match k, hk with
    | 0, _ => exact e0
    | 1, _ => exact e1
    | 2, _ => exact e2
    | 3, _ => exact e3
    | 4, _ => exact e4
  refine J_tableOut (pc := 11) (tgt := 76) dX5_one_11 (tsw_out (N := 5) (by omega) hj) (by decide) ?_
  refine J_iconst (pc := 76) (v := -1) dX5_one_76 (by decide) ?_
  refine K_iret (pc := 77) dX5_one_77 rfl ?_
  exact ⟨rfl, ((iteP_t b2).trans (sel_out (x := x) (fun j _ h2 => hj j h2))).symm⟩
set_option maxHeartbeats 4000000 in
theorem c5_one {g : jG} {d : Nat} {a h : jH} {p x : Int32} (hR : RX a h) : Mi g (d + 2) YX5_one h [.ref 0, .int p, .int x] (fun r h' => h' = h ∧ r = rOne (ix (a 131 2)) (pg a 0) p x) := by
  refine M.of (by decide) rfl (Nat.le_of_ble_eq_true rfl) ?_
  have hR0 := hR
  obtain ⟨⟨r1, hX, hwk, ⟨⟨v1, v2, v3, v4⟩, v5, v6, v7, v8, v9, va, vb, vc, vd⟩⟩, rK, rT, rS, rH, ⟨r8, r8b, r9, ra⟩⟩ := hR
  obtain ⟨x1, x2, x3, x4, x5, x6, x7, x8, x9⟩ := id hX
  have hn4 := v1
  have n5 := r1.2
  have c6 := v3.2
  have p9 := v5.2
  refine J_aload_n (pc := 0) dX5_one_0 rfl ?_
  refine J_iload_n (pc := 1) dX5_one_1 rfl ?_
  refine K_Vi1 (pc := 2) (Y' := YX5_isOne) dX5_one_2 lX5_109 mX5_isOne vX5_isOne ⟨_, _, rfl⟩ sh0 (Nat.le_of_ble_eq_true rfl) (c5_isOne (x := p) x1 hn4) ?_
  rintro x h0 ⟨e0, ⟨rfl, b2⟩ | ⟨rfl, b2⟩⟩ <;> rw [e0] <;> clear e0 h0
  · skip
    refine J_if_ne (pc := 5) (tgt := 10) dX5_one_5 (by decide) (fun _ => ?_) (fun c => absurd c (by decide))
    exact one_x hR0 b2
  · skip
    refine J_if_ne (pc := 5) (tgt := 10) dX5_one_5 (by decide) (fun c => absurd c (by decide)) (fun _ => ?_)
    refine J_iconst (pc := 8) (v := -1) dX5_one_8 (by decide) ?_
    refine K_iret (pc := 9) dX5_one_9 rfl ?_
    exact ⟨rfl, (iteP_f b2).symm⟩
