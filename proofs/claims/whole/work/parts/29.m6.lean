set_option maxHeartbeats 4000000 in
theorem c6_gain {g : jG} {d : Nat} {h : jH} {p w : Int32} (hR : MR h) : Mi g (d + 2) YX6_gain h [.ref 131, .int p, .int w] (fun r h' => h' = h ∧ r = rGain (ix (h 131 2)) (pg h 0) p w) := by
  refine M.of (by decide) rfl (Nat.le_of_ble_eq_true rfl) ?_
  obtain ⟨r1, ⟨⟨v1, v2, v3, v4⟩, v5, v6, v7, v8, v9, va, vb, vc, vd⟩, r3, r4, ⟨r5, r6⟩, r7, r8, r9, ra⟩ := hR
  have hn := r1.1
  have hn4 := v1
  have n5 := r1.2
  have c6 : ix (h 132 37) < 6 := v3.2
  have p9 : ix (h 132 51) < 9 := v5.2
  have p9' : ix (pg h 0 51) < 9 := v5.2
  refine J_aload_n (pc := 0) dX6_gain_0 rfl ?_
  refine J_iload_n (pc := 1) dX6_gain_1 rfl ?_
  refine K_Vi1 (pc := 2) (Y' := YX6_isOne) dX6_gain_2 lX6_160 mX6_isOne vX6_isOne ⟨_, _, rfl⟩ sh131 (Nat.le_of_ble_eq_true rfl) (c6_isOne (x := p) hn hn4) ?_
  rintro x h0 ⟨e0, ⟨rfl, b2⟩ | ⟨rfl, b2⟩⟩ <;> rw [e0] <;> clear e0 h0
  · skip
    refine J_if_eq (pc := 5) (tgt := 27) dX6_gain_5 (by decide) (fun c => absurd c (by decide)) (fun _ => ?_)
    refine J_iload_n (pc := 8) dX6_gain_8 rfl ?_
    refine K_Si1 (pc := 9) (Y' := YX6_isWeather) dX6_gain_9 lX6_169 mX6_isWeather sX6_isWeather (Nat.le_of_ble_eq_true rfl) (c6_isWeather (x := w)) ?_
    rintro x h0 ⟨e0, ⟨rfl, b9⟩ | ⟨rfl, b9⟩⟩ <;> rw [e0] <;> clear e0 h0
    · skip
      refine J_if_eq (pc := 12) (tgt := 27) dX6_gain_12 (by decide) (fun c => absurd c (by decide)) (fun _ => ?_)
      refine J_bipush (pc := 15) (v := nI 100) dX6_gain_15 (by decide) ?_
      refine J_ls (ls' := [(0, .ref 131), (1, .int (nI (ix p))), (2, .int (nI (ix w)))]) ⟨rfl, congrArg (fun z => some (Value.int z)) b2.1, congrArg (fun z => some (Value.int z)) b9.1, trivial⟩ ?_
      refine J_aload_n (pc := 17) dX6_gain_17 rfl ?_
      refine J_iload_n (pc := 18) dX6_gain_18 rfl ?_
      refine J_iload_n (pc := 19) dX6_gain_19 rfl ?_
      refine K_Vi2 (pc := 20) (Y' := YX6_gainOf) dX6_gain_20 lX6_172 mX6_gainOf vX6_gainOf ⟨_, _, rfl⟩ sh131 (Nat.le_of_ble_eq_true rfl) (c6_gainOf (p := ix p) (w := ix w) (by have := b2.2; omega) (by have := v2 (ix p) b2.2; rw [pg0] at this; exact this) b9.2) ?_
      rintro r h0 ⟨e0, rfl⟩
      rw [e0]
      clear e0 h0
      have k4 := (v2 (ix p) b2.2).2
      have w4 := b9.2
      have eg : h 133 (4 * ix (h 132 (ix p)) + ix w) * h 132 (4 + ix p) = γP (pg h 0) (ix w) (ix p) := by
        rw [pg0] at k4
        unfold γP
        rw [pg0, pg0, r8 _ (by omega)]
      rw [eg]
      refine J_iadd (pc := 23) dX6_gain_23 (rfl) ?_
      refine J_goto (pc := 24) (tgt := 28) dX6_gain_24 (by decide) ?_
      refine K_iret (pc := 28) dX6_gain_28 rfl ?_
      first | exact ⟨rfl, (iteP_t ⟨b2, b9⟩).symm⟩ | exact ⟨rfl, (iteP_f (fun z => b9 z.2)).symm⟩ | exact ⟨rfl, (iteP_f (fun z => b2 z.1)).symm⟩
    · skip
      refine J_if_eq (pc := 12) (tgt := 27) dX6_gain_12 (by decide) (fun _ => ?_) (fun c => absurd c (by decide))
      refine J_iconst (pc := 27) (v := -1) dX6_gain_27 (by decide) ?_
      refine K_iret (pc := 28) dX6_gain_28 rfl ?_
      first | exact ⟨rfl, (iteP_t ⟨b2, b9⟩).symm⟩ | exact ⟨rfl, (iteP_f (fun z => b9 z.2)).symm⟩ | exact ⟨rfl, (iteP_f (fun z => b2 z.1)).symm⟩
  · skip
    refine J_if_eq (pc := 5) (tgt := 27) dX6_gain_5 (by decide) (fun _ => ?_) (fun c => absurd c (by decide))
    refine J_iconst (pc := 27) (v := -1) dX6_gain_27 (by decide) ?_
    refine K_iret (pc := 28) dX6_gain_28 rfl ?_
    first | exact ⟨rfl, (iteP_t ⟨b2, b9⟩).symm⟩ | exact ⟨rfl, (iteP_f (fun z => b9 z.2)).symm⟩ | exact ⟨rfl, (iteP_f (fun z => b2 z.1)).symm⟩
set_option maxHeartbeats 4000000 in
theorem c6_odds {g : jG} {d : Nat} {h : jH} {w : Int32} : Mi g (d + 2) YX6_odds h [.ref 131, .int w] (fun r h' => h' = h ∧ r = rOdds (pg h 0) w) := by
  refine M.of (by decide) rfl (Nat.le_of_ble_eq_true rfl) ?_
  refine J_iload_n (pc := 0) dX6_odds_0 rfl ?_
  refine K_Si1 (pc := 1) (Y' := YX6_isWeather) dX6_odds_1 lX6_169 mX6_isWeather sX6_isWeather (Nat.le_of_ble_eq_true rfl) (c6_isWeather (x := w)) ?_
  rintro x h0 ⟨e0, ⟨rfl, b1⟩ | ⟨rfl, b1⟩⟩ <;> rw [e0] <;> clear e0 h0
  · skip
    refine J_if_eq (pc := 4) (tgt := 15) dX6_odds_4 (by decide) (fun c => absurd c (by decide)) (fun _ => ?_)
    refine J_ls (ls' := [(0, .ref 131), (1, .int (nI (ix w)))]) ⟨rfl, congrArg (fun z => some (Value.int z)) b1.1, trivial⟩ ?_
    refine J_aload_n (pc := 7) dX6_odds_7 rfl ?_
    refine J_iload_n (pc := 8) dX6_odds_8 rfl ?_
    refine K_Vi1 (pc := 9) (Y' := YX6_oddsOf) dX6_odds_9 lX6_178 mX6_oddsOf vX6_oddsOf ⟨_, _, rfl⟩ sh131 (Nat.le_of_ble_eq_true rfl) (c6_oddsOf (w := ix w) b1.2) ?_
    rintro r h0 ⟨e0, rfl⟩
    rw [e0]
    clear e0 h0
    refine J_goto (pc := 12) (tgt := 16) dX6_odds_12 (by decide) ?_
    refine K_iret (pc := 16) dX6_odds_16 rfl ?_
    first | exact ⟨rfl, (congrArg (· + _) pg0.symm).trans (iteP_t b1).symm⟩ | exact ⟨rfl, (iteP_f b1).symm⟩
  · skip
    refine J_if_eq (pc := 4) (tgt := 15) dX6_odds_4 (by decide) (fun _ => ?_) (fun c => absurd c (by decide))
    refine J_iconst (pc := 15) (v := -1) dX6_odds_15 (by decide) ?_
    refine K_iret (pc := 16) dX6_odds_16 rfl ?_
    first | exact ⟨rfl, (congrArg (· + _) pg0.symm).trans (iteP_t b1).symm⟩ | exact ⟨rfl, (iteP_f b1).symm⟩
set_option maxHeartbeats 4000000 in
theorem c6_cover {g : jG} {d : Nat} {h : jH} {c x : Int32} (hR : MR h) : Mi g (d + 2) YX6_cover h [.ref 131, .int c, .int x] (fun r h' => h' = h ∧ r = rCover (pg h 0) c x) := by
  refine M.of (by decide) rfl (Nat.le_of_ble_eq_true rfl) ?_
  obtain ⟨r1, ⟨⟨v1, v2, v3, v4⟩, v5, v6, v7, v8, v9, va, vb, vc, vd⟩, r3, r4, ⟨r5, r6⟩, r7, r8, r9, ra⟩ := hR
  have hn := r1.1
  have hn4 := v1
  have n5 := r1.2
  have c6 : ix (h 132 37) < 6 := v3.2
  have p9 : ix (h 132 51) < 9 := v5.2
  have p9' : ix (pg h 0 51) < 9 := v5.2
  refine J_aload_n (pc := 0) dX6_cover_0 rfl ?_
  refine J_iload_n (pc := 1) dX6_cover_1 rfl ?_
  refine K_Vi1 (pc := 2) (Y' := YX6_isCover) dX6_cover_2 lX6_175 mX6_isCover vX6_isCover ⟨_, _, rfl⟩ sh131 (Nat.le_of_ble_eq_true rfl) (c6_isCover (x := c) v3) ?_
  rintro x h0 ⟨e0, ⟨rfl, b2⟩ | ⟨rfl, b2⟩⟩ <;> rw [e0] <;> clear e0 h0
  · skip
    refine J_if_eq (pc := 5) (tgt := 36) dX6_cover_5 (by decide) (fun c => absurd c (by decide)) (fun _ => ?_)
    refine J_iload_n (pc := 8) dX6_cover_8 rfl ?_
    refine J_i2l (pc := 9) dX6_cover_9 (rfl) ?_
    refine J_lconst (pc := 10) (v := 0) dX6_cover_10 (by decide) ?_
    refine J_ldc2 (pc := 11) dX6_cover_11 kX6_164 ?_
    refine K_Si3 (pc := 14) (Y' := YX6_in) dX6_cover_14 lX6_55 mX6_in sX6_in (Nat.le_of_ble_eq_true rfl) (c6_inI x 0 4 rfl (by decide) (by decide)) ?_
    rintro x h0 ⟨e0, ⟨rfl, b14⟩ | ⟨rfl, b14⟩⟩ <;> rw [e0] <;> clear e0 h0
    · skip
      have bx : nb 5 x := (in_nbc (n := 4) (by decide) (by omega)).mp b14
      refine J_if_eq (pc := 17) (tgt := 36) dX6_cover_17 (by decide) (fun c => absurd c (by decide)) (fun _ => ?_)
      have q1 := b2.2
      have q2 := bx.2
      refine J_ls (ls' := [(0, .ref 131), (1, .int (nI (ix c))), (2, .int (nI (ix x)))]) ⟨rfl, congrArg (fun z => some (Value.int z)) b2.1, congrArg (fun z => some (Value.int z)) bx.1, trivial⟩ ?_
      refine J_aload_n (pc := 20) dX6_cover_20 rfl ?_
      refine J_getR (pc := 21) dX6_cover_21 fX6_7 sh131 rfl ?_
      refine J_bipush (pc := 24) (v := nI 12) dX6_cover_24 (by decide) ?_
      refine J_iconst (pc := 26) (v := nI 5) dX6_cover_26 (by decide) ?_
      refine J_iload_n (pc := 27) dX6_cover_27 rfl ?_
      refine J_imul (pc := 28) dX6_cover_28 (pk_mul _ _) ?_
      refine J_iadd (pc := 29) dX6_cover_29 (nI_add _ _) ?_
      refine J_iload_n (pc := 30) dX6_cover_30 rfl ?_
      refine J_iadd (pc := 31) dX6_cover_31 (nI_add _ _) ?_
      refine J_iald (pc := 32) dX6_cover_32 sh132 (rfl) (by omega) (rfl) (by decide) ?_
      refine J_goto (pc := 33) (tgt := 37) dX6_cover_33 (by decide) ?_
      refine K_iret (pc := 37) dX6_cover_37 rfl ?_
      first | exact ⟨rfl, pg0.symm.trans (iteP_t ⟨b2, bx⟩).symm⟩ | exact ⟨rfl, (iteP_f (fun z => bx z.2)).symm⟩ | exact ⟨rfl, (iteP_f (fun z => b2 z.1)).symm⟩
    · skip
      have bx : ¬ nb 5 x := fun z => b14 ((in_nbc (n := 4) (by decide) (by omega)).mpr z)
      refine J_if_eq (pc := 17) (tgt := 36) dX6_cover_17 (by decide) (fun _ => ?_) (fun c => absurd c (by decide))
      refine J_iconst (pc := 36) (v := -1) dX6_cover_36 (by decide) ?_
      refine K_iret (pc := 37) dX6_cover_37 rfl ?_
      first | exact ⟨rfl, pg0.symm.trans (iteP_t ⟨b2, bx⟩).symm⟩ | exact ⟨rfl, (iteP_f (fun z => bx z.2)).symm⟩ | exact ⟨rfl, (iteP_f (fun z => b2 z.1)).symm⟩
  · skip
    refine J_if_eq (pc := 5) (tgt := 36) dX6_cover_5 (by decide) (fun _ => ?_) (fun c => absurd c (by decide))
    refine J_iconst (pc := 36) (v := -1) dX6_cover_36 (by decide) ?_
    refine K_iret (pc := 37) dX6_cover_37 rfl ?_
    first | exact ⟨rfl, pg0.symm.trans (iteP_t ⟨b2, bx⟩).symm⟩ | exact ⟨rfl, (iteP_f (fun z => bx z.2)).symm⟩ | exact ⟨rfl, (iteP_f (fun z => b2 z.1)).symm⟩
set_option maxHeartbeats 4000000 in
theorem c6_sky {g : jG} {d : Nat} {h : jH} {x : Int32} (hR : MR h) : Mi g (d + 2) YX6_sky h [.ref 131, .int x] (fun r h' => h' = h ∧ r = rSky (pg h 0) x) := by
  refine M.of (by decide) rfl (Nat.le_of_ble_eq_true rfl) ?_
  obtain ⟨r1, ⟨⟨v1, v2, v3, v4⟩, v5, v6, v7, v8, v9, va, vb, vc, vd⟩, r3, r4, ⟨r5, r6⟩, r7, r8, r9, ra⟩ := hR
  have hn := r1.1
  have hn4 := v1
  have n5 := r1.2
  have c6 : ix (h 132 37) < 6 := v3.2
  have p9 : ix (h 132 51) < 9 := v5.2
  have p9' : ix (pg h 0 51) < 9 := v5.2
  refine J_iload_n (pc := 0) dX6_sky_0 rfl ?_
  refine J_i2l (pc := 1) dX6_sky_1 (rfl) ?_
  refine J_lconst (pc := 2) (v := 0) dX6_sky_2 (by decide) ?_
  refine J_aload_n (pc := 3) dX6_sky_3 rfl ?_
  refine J_getR (pc := 4) dX6_sky_4 fX6_7 sh131 rfl ?_
  refine J_bipush (pc := 7) (v := nI 51) dX6_sky_7 (by decide) ?_
  refine J_iald (pc := 9) dX6_sky_9 sh132 (rfl) (by omega) (v5.1) (by decide) ?_
  refine J_iconst (pc := 10) (v := nI 1) dX6_sky_10 (by decide) ?_
  refine J_isub (pc := 11) dX6_sky_11 (rfl) ?_
  refine J_i2l (pc := 12) dX6_sky_12 (rfl) ?_
  refine K_Si3 (pc := 13) (Y' := YX6_in) dX6_sky_13 lX6_55 mX6_in sX6_in (Nat.le_of_ble_eq_true rfl) (c6_inI x 0 (nI (ix (pg h 0 51)) - nI 1) rfl (by decide) rfl) ?_
  rintro x h0 ⟨e0, ⟨rfl, b13⟩ | ⟨rfl, b13⟩⟩ <;> rw [e0] <;> clear e0 h0
  · skip
    have bx := (in_nb0 (by omega)).mp b13
    refine J_if_eq (pc := 16) (tgt := 31) dX6_sky_16 (by decide) (fun c => absurd c (by decide)) (fun _ => ?_)
    have q1 := bx.2
    refine J_ls (ls' := [(0, .ref 131), (1, .int (nI (ix x)))]) ⟨rfl, congrArg (fun z => some (Value.int z)) bx.1, trivial⟩ ?_
    refine J_aload_n (pc := 19) dX6_sky_19 rfl ?_
    refine J_getR (pc := 20) dX6_sky_20 fX6_7 sh131 rfl ?_
    refine J_bipush (pc := 23) (v := nI 43) dX6_sky_23 (by decide) ?_
    refine J_iload_n (pc := 25) dX6_sky_25 rfl ?_
    refine J_iadd (pc := 26) dX6_sky_26 (nI_add _ _) ?_
    refine J_iald (pc := 27) dX6_sky_27 sh132 (rfl) (by omega) (rfl) (by decide) ?_
    refine J_goto (pc := 28) (tgt := 32) dX6_sky_28 (by decide) ?_
    refine K_iret (pc := 32) dX6_sky_32 rfl ?_
    first | exact ⟨rfl, pg0.symm.trans (iteP_t bx).symm⟩ | exact ⟨rfl, (iteP_f bx).symm⟩
  · skip
    have bx := fun z => b13 ((in_nb0 (by omega)).mpr z)
    refine J_if_eq (pc := 16) (tgt := 31) dX6_sky_16 (by decide) (fun _ => ?_) (fun c => absurd c (by decide))
    refine J_iconst (pc := 31) (v := -1) dX6_sky_31 (by decide) ?_
    refine K_iret (pc := 32) dX6_sky_32 rfl ?_
    first | exact ⟨rfl, pg0.symm.trans (iteP_t bx).symm⟩ | exact ⟨rfl, (iteP_f bx).symm⟩
set_option maxHeartbeats 4000000 in
theorem c6_owed {g : jG} {d : Nat} {h : jH} {p q : Int32} (hR : MR h) : Mi g (d + 2) YX6_owed h [.ref 131, .int p, .int q] (fun r h' => h' = h ∧ r = rOwed (ix (h 131 2)) (pg h 0) p q) := by
  refine M.of (by decide) rfl (Nat.le_of_ble_eq_true rfl) ?_
  obtain ⟨r1, ⟨⟨v1, v2, v3, v4⟩, v5, v6, v7, v8, v9, va, vb, vc, vd⟩, r3, r4, ⟨r5, r6⟩, r7, r8, r9, ra⟩ := hR
  have hn := r1.1
  have hn4 := v1
  have n5 := r1.2
  have c6 : ix (h 132 37) < 6 := v3.2
  have p9 : ix (h 132 51) < 9 := v5.2
  have p9' : ix (pg h 0 51) < 9 := v5.2
  refine J_aload_n (pc := 0) dX6_owed_0 rfl ?_
  refine J_iload_n (pc := 1) dX6_owed_1 rfl ?_
  refine K_Vi1 (pc := 2) (Y' := YX6_isOne) dX6_owed_2 lX6_160 mX6_isOne vX6_isOne ⟨_, _, rfl⟩ sh131 (Nat.le_of_ble_eq_true rfl) (c6_isOne (x := p) hn hn4) ?_
  rintro x h0 ⟨e0, ⟨rfl, b2⟩ | ⟨rfl, b2⟩⟩ <;> rw [e0] <;> clear e0 h0
  · skip
    refine J_if_eq (pc := 5) (tgt := 37) dX6_owed_5 (by decide) (fun c => absurd c (by decide)) (fun _ => ?_)
    refine J_aload_n (pc := 8) dX6_owed_8 rfl ?_
    refine J_iload_n (pc := 9) dX6_owed_9 rfl ?_
    refine K_Vi1 (pc := 10) (Y' := YX6_isOne) dX6_owed_10 lX6_160 mX6_isOne vX6_isOne ⟨_, _, rfl⟩ sh131 (Nat.le_of_ble_eq_true rfl) (c6_isOne (x := q) hn hn4) ?_
    rintro x h0 ⟨e0, ⟨rfl, b10⟩ | ⟨rfl, b10⟩⟩ <;> rw [e0] <;> clear e0 h0
    · skip
      refine J_if_eq (pc := 13) (tgt := 37) dX6_owed_13 (by decide) (fun c => absurd c (by decide)) (fun _ => ?_)
      refine J_iload_n (pc := 16) dX6_owed_16 rfl ?_
      refine J_iload_n (pc := 17) dX6_owed_17 rfl ?_
      refine J_icmp_eq (pc := 18) (tgt := 37) dX6_owed_18 (by decide) (fun c18 => ?_) (fun c18 => ?_)
      · skip
        refine J_iconst (pc := 37) (v := -1) dX6_owed_37 (by decide) ?_
        refine K_iret (pc := 38) dX6_owed_38 rfl ?_
        exact ⟨rfl, (iteP_f (fun z => z.2.2 c18)).symm⟩
      · skip
        have q1 := b2.2
        have q2 := b10.2
        refine J_ls (ls' := [(0, .ref 131), (1, .int (nI (ix p))), (2, .int (nI (ix q)))]) ⟨rfl, congrArg (fun z => some (Value.int z)) b2.1, congrArg (fun z => some (Value.int z)) b10.1, trivial⟩ ?_
        refine J_aload_n (pc := 21) dX6_owed_21 rfl ?_
        refine J_getR (pc := 22) dX6_owed_22 fX6_7 sh131 rfl ?_
        refine J_bipush (pc := 25) (v := nI 53) dX6_owed_25 (by decide) ?_
        refine J_iconst (pc := 27) (v := nI 4) dX6_owed_27 (by decide) ?_
        refine J_iload_n (pc := 28) dX6_owed_28 rfl ?_
        refine J_imul (pc := 29) dX6_owed_29 (pk_mul _ _) ?_
        refine J_iadd (pc := 30) dX6_owed_30 (nI_add _ _) ?_
        refine J_iload_n (pc := 31) dX6_owed_31 rfl ?_
        refine J_iadd (pc := 32) dX6_owed_32 (nI_add _ _) ?_
        refine J_iald (pc := 33) dX6_owed_33 sh132 (rfl) (by omega) (rfl) (by decide) ?_
        refine J_goto (pc := 34) (tgt := 38) dX6_owed_34 (by decide) ?_
        refine K_iret (pc := 38) dX6_owed_38 rfl ?_
        exact ⟨rfl, pg0.symm.trans (iteP_t ⟨b2, b10, c18⟩).symm⟩
    · skip
      refine J_if_eq (pc := 13) (tgt := 37) dX6_owed_13 (by decide) (fun _ => ?_) (fun c => absurd c (by decide))
      refine J_iconst (pc := 37) (v := -1) dX6_owed_37 (by decide) ?_
      refine K_iret (pc := 38) dX6_owed_38 rfl ?_
      exact ⟨rfl, (iteP_f (fun z => b10 z.2.1)).symm⟩
  · skip
    refine J_if_eq (pc := 5) (tgt := 37) dX6_owed_5 (by decide) (fun _ => ?_) (fun c => absurd c (by decide))
    refine J_iconst (pc := 37) (v := -1) dX6_owed_37 (by decide) ?_
    refine K_iret (pc := 38) dX6_owed_38 rfl ?_
    exact ⟨rfl, (iteP_f (fun z => b2 z.1)).symm⟩
set_option maxHeartbeats 4000000 in
theorem c6_fair {g : jG} {d : Nat} {h : jH} {c : Int32} (hR : MR h) : Mi g (d + 2) YX6_fair h [.ref 131, .int c] (fun r h' => h' = h ∧ r = rFair (pg h 0) c) := by
  refine M.of (by decide) rfl (Nat.le_of_ble_eq_true rfl) ?_
  obtain ⟨r1, ⟨⟨v1, v2, v3, v4⟩, v5, v6, v7, v8, v9, va, vb, vc, vd⟩, r3, r4, ⟨r5, r6⟩, r7, r8, r9, ra⟩ := hR
  have hn := r1.1
  have hn4 := v1
  have n5 := r1.2
  have c6 : ix (h 132 37) < 6 := v3.2
  have p9 : ix (h 132 51) < 9 := v5.2
  have p9' : ix (pg h 0 51) < 9 := v5.2
  refine J_aload_n (pc := 0) dX6_fair_0 rfl ?_
  refine J_iload_n (pc := 1) dX6_fair_1 rfl ?_
  refine K_Vi1 (pc := 2) (Y' := YX6_isCover) dX6_fair_2 lX6_175 mX6_isCover vX6_isCover ⟨_, _, rfl⟩ sh131 (Nat.le_of_ble_eq_true rfl) (c6_isCover (x := c) v3) ?_
  rintro x h0 ⟨e0, ⟨rfl, b2⟩ | ⟨rfl, b2⟩⟩ <;> rw [e0] <;> clear e0 h0
  · skip
    refine J_if_ne (pc := 5) (tgt := 10) dX6_fair_5 (by decide) (fun _ => ?_) (fun c => absurd c (by decide))
    have q1 := b2.2
    refine J_ls (ls' := [(0, .ref 131), (1, .int (nI (ix c)))]) ⟨rfl, congrArg (fun z => some (Value.int z)) b2.1, trivial⟩ ?_
    refine J_aload_n (pc := 10) dX6_fair_10 rfl ?_
    refine J_getR (pc := 11) dX6_fair_11 fX6_7 sh131 rfl ?_
    refine J_bipush (pc := 14) (v := nI 12) dX6_fair_14 (by decide) ?_
    refine J_iconst (pc := 16) (v := nI 5) dX6_fair_16 (by decide) ?_
    refine J_iload_n (pc := 17) dX6_fair_17 rfl ?_
    refine J_imul (pc := 18) dX6_fair_18 (pk_mul _ _) ?_
    refine J_iadd (pc := 19) dX6_fair_19 (nI_add _ _) ?_
    refine J_iconst (pc := 20) (v := nI 3) dX6_fair_20 (by decide) ?_
    refine J_iadd (pc := 21) dX6_fair_21 (nI_add _ _) ?_
    refine J_iald (pc := 22) dX6_fair_22 sh132 (rfl) (by omega) (pg0.symm) (by decide) ?_
    refine J_aload_n (pc := 23) dX6_fair_23 rfl ?_
    refine J_aload_n (pc := 24) dX6_fair_24 rfl ?_
    refine J_getR (pc := 25) dX6_fair_25 fX6_7 sh131 rfl ?_
    refine J_bipush (pc := 28) (v := nI 12) dX6_fair_28 (by decide) ?_
    refine J_iconst (pc := 30) (v := nI 5) dX6_fair_30 (by decide) ?_
    refine J_iload_n (pc := 31) dX6_fair_31 rfl ?_
    refine J_imul (pc := 32) dX6_fair_32 (pk_mul _ _) ?_
    refine J_iadd (pc := 33) dX6_fair_33 (nI_add _ _) ?_
    refine J_iconst (pc := 34) (v := nI 2) dX6_fair_34 (by decide) ?_
    refine J_iadd (pc := 35) dX6_fair_35 (nI_add _ _) ?_
    refine J_iald (pc := 36) dX6_fair_36 sh132 (rfl) (by omega) (pg0.symm.trans (v7 (ix c) b2.2).2.1.1) (by decide) ?_
    refine K_Vi1 (pc := 37) (Y' := YX6_oddsOf) dX6_fair_37 lX6_178 mX6_oddsOf vX6_oddsOf ⟨_, _, rfl⟩ sh131 (Nat.le_of_ble_eq_true rfl) (c6_oddsOf (w := ix (pg h 0 (12 + 5 * ix c + 2))) (v7 (ix c) b2.2).2.1.2) ?_
    rintro r h0 ⟨e0, rfl⟩
    rw [e0]
    clear e0 h0
    refine J_imul (pc := 40) dX6_fair_40 (rfl) ?_
    refine J_bipush (pc := 41) (v := nI 9) dX6_fair_41 (by decide) ?_
    refine J_iadd (pc := 43) dX6_fair_43 (rfl) ?_
    refine J_bipush (pc := 44) (v := nI 10) dX6_fair_44 (by decide) ?_
    refine J_idiv (pc := 46) dX6_fair_46 (by decide) (rfl) ?_
    refine K_iret (pc := 47) dX6_fair_47 rfl ?_
    refine ⟨rfl, ?_⟩
    rw [show h 132 (38 + ix (pg h 0 (12 + 5 * ix c + 2))) = pg h 0 (38 + ix (pg h 0 (12 + 5 * ix c + 2))) from pg0.symm]
    exact (iteP_t b2).symm
  · skip
    refine J_if_ne (pc := 5) (tgt := 10) dX6_fair_5 (by decide) (fun c => absurd c (by decide)) (fun _ => ?_)
    refine J_iconst (pc := 8) (v := -1) dX6_fair_8 (by decide) ?_
    refine K_iret (pc := 9) dX6_fair_9 rfl ?_
    exact ⟨rfl, (iteP_f b2).symm⟩
