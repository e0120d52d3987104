set_option maxHeartbeats 4000000 in
theorem c1_append {g : jG} {d : Nat} {h : jH} {m : Nat} {c : Int32} (hm : h 39 1 = nI m) (hm1 : m < 161) : Mi g d YX1_append h [.ref 39, .int c] (fun r h' => (m = 160 ∧ r = -3 ∧ h' = h) ∨ (m < 160 ∧ r = nI m + nI 1 ∧ h' = j_up (j_up h 40 m c) 39 1 (nI m + nI 1))) := by
  refine M.of (by decide) rfl (Nat.le_of_ble_eq_true rfl) ?_
  refine J_aload_n (pc := 0) dX1_append_0 rfl ?_
  refine J_getI (pc := 1) dX1_append_1 fX1_26 sh39 rfl (hm) ?_
  refine J_sipush (pc := 4) (v := nI 160) dX1_append_4 (by decide) ?_
  refine J_icmp_lt (pc := 7) (tgt := 13) dX1_append_7 (by decide) (fun c7 => ?_) (fun c7 => ?_)
  · skip
    have q7 : m < 160 := (nI_ltI (by omega) (by omega)).mp c7
    refine J_aload_n (pc := 13) dX1_append_13 rfl ?_
    refine J_getR (pc := 14) dX1_append_14 fX1_11 sh39 rfl ?_
    refine J_aload_n (pc := 17) dX1_append_17 rfl ?_
    refine J_getI (pc := 18) dX1_append_18 fX1_26 sh39 rfl (hm) ?_
    refine J_iload_n (pc := 21) dX1_append_21 rfl ?_
    refine J_iast (pc := 22) dX1_append_22 sh40 (rfl) (by omega) (by decide) ?_
    refine J_aload_n (pc := 23) dX1_append_23 rfl ?_
    refine J_dup (pc := 24) dX1_append_24 rfl ?_
    refine J_getI (pc := 25) dX1_append_25 fX1_26 sh39 rfl ((j_up_o (by omega)).trans hm) ?_
    refine J_iconst (pc := 28) (v := nI 1) dX1_append_28 (by decide) ?_
    refine J_iadd (pc := 29) dX1_append_29 (rfl) ?_
    refine J_putI (pc := 30) dX1_append_30 fX1_26 sh39 rfl ?_
    refine J_aload_n (pc := 33) dX1_append_33 rfl ?_
    refine J_getI (pc := 34) dX1_append_34 fX1_26 sh39 rfl (j_up_s) ?_
    refine K_iret (pc := 37) dX1_append_37 rfl ?_
    exact Or.inr ⟨q7, rfl, rfl⟩
  · skip
    have q7 : ¬ m < 160 := fun z => c7 ((nI_ltI (by omega) (by omega)).mpr z)
    refine J_bipush (pc := 10) (v := -3) dX1_append_10 (by decide) ?_
    refine K_iret (pc := 12) dX1_append_12 rfl ?_
    exact Or.inl ⟨by omega, rfl, rfl⟩
set_option maxHeartbeats 4000000 in
theorem c5_feed {g : jG} {d : Nat} {a h : jH} {c : Int32} (hR : RX a h) : Mi g (d + 3) YX5_feed h [.ref 0, .int c] (fun r h' => ∃ a', oFeed a c = (r, a') ∧ RX a' h' ∧ hi h h') := by
  refine M.of (by decide) rfl (Nat.le_of_ble_eq_true rfl) ?_
  have hR0 := hR
  have hG := hR.1.2.2.2
  obtain ⟨⟨r1, hX, hwk, ⟨⟨v1, v2, v3, v4⟩, v5, v6, v7, v8, v9, va, vb, vc, vd⟩⟩, rK, rT, rS, rH, ⟨r8, r8b, r9, ra⟩⟩ := hR
  obtain ⟨x1, x2, x3, x4, x5, x6, x7, x8, x9⟩ := id hX
  have hn4 := v1
  have n5 := r1.2
  have c6 := v3.2
  have p9 := v5.2
  obtain ⟨t1, t2, t3, t4⟩ := rT
  have t8 : ix (a 131 8) < 161 := t2.2
  refine J_iload_n (pc := 0) dX5_feed_0 rfl ?_
  refine J_iconst (pc := 1) (v := nI 0) dX5_feed_1 (by decide) ?_
  refine J_bipush (pc := 2) (v := nI 127) dX5_feed_2 (by decide) ?_
  refine K_Si3 (pc := 4) (Y' := YX5_within) dX5_feed_4 lX5_63 mX5_within sX5_within (Nat.le_of_ble_eq_true rfl) (c5_within) ?_
  rintro x h0 ⟨e0, ⟨rfl, b4⟩ | ⟨rfl, b4⟩⟩ <;> rw [e0] <;> clear e0 h0
  · skip
    refine J_if_ne (pc := 7) (tgt := 12) dX5_feed_7 (by decide) (fun _ => ?_) (fun c => absurd c (by decide))
    refine J_aload_n (pc := 12) dX5_feed_12 rfl ?_
    refine J_getR (pc := 13) dX5_feed_13 fX5_30 sh0 rfl ?_
    refine J_iload_n (pc := 16) dX5_feed_16 rfl ?_
    refine K_Vi1 (pc := 17) (Y' := YX1_append) dX5_feed_17 lX5_67 mX1_append vX1_append ⟨_, _, rfl⟩ sh39 (Nat.le_of_ble_eq_true rfl) (c1_append (t1.trans t2.1) t8) ?_
    rintro r h0 (⟨q, e0, e1⟩ | ⟨q, e0, e1⟩)
    · rw [e0, e1]
      refine K_iret (pc := 20) dX5_feed_20 rfl ?_
      exact ⟨a, (iteR_t b4).trans (iteR_t (t2.1.trans (congrArg nI q))), hR0, hi.rf⟩
    · rw [e0, e1]
      refine K_iret (pc := 20) dX5_feed_20 rfl ?_
      have ne : ¬ a 131 8 = nI 160 := fun z => by
        have := congrArg ix z
        rw [ix_nI (by omega)] at this
        omega
      refine ⟨_, ((iteR_t b4).trans (iteR_f ne)).trans (by rw [← t2.1]), ?_, hi_upt (hi_up (by omega)) (by omega)⟩
      refine RX_T hR0 ⟨?_, ?_, fun i hi' => ?_, ?_⟩ (fun b k h1 h2 => by rw [j_up_o (by omega), j_up_o (by omega)]) (fun b h1 h2 => by rw [j_up_ne b h1, j_up_ne b h2])
      · rw [j_up_s, j_up_s, ← t2.1]
      · rw [j_up_s, t2.1]; exact nb_succ (by omega) (by omega)
      · rw [j_up_s, t2.1, ix_succ (by omega)] at hi'
        by_cases z : i = ix (a 131 8)
        · subst z
          rw [j_up_o (by omega), j_up_s, j_up_o (by omega), j_up_s]; exact ⟨rfl, b4.1⟩
        · rw [j_up_o (by omega), j_up_o (by omega), j_up_o (by omega), j_up_o (by omega)]; exact t3 i (by omega)
      · rw [j_up_o (by omega), j_up_o (by omega), j_up_o (by omega), j_up_o (by omega)]; exact t4
  · skip
    refine J_if_ne (pc := 7) (tgt := 12) dX5_feed_7 (by decide) (fun c => absurd c (by decide)) (fun _ => ?_)
    refine J_iconst (pc := 10) (v := -1) dX5_feed_10 (by decide) ?_
    refine K_iret (pc := 11) dX5_feed_11 rfl ?_
    exact ⟨a, iteR_f b4, hR0, hi.rf⟩
set_option maxHeartbeats 4000000 in
theorem c5_end {g : jG} {d : Nat} {a h : jH} {n : Int32} (hR : RX a h) : Mi g (d + 3) YX5_end h [.ref 0, .int n] (fun r h' => ∃ a', oEnd a n = (r, a') ∧ RX a' h' ∧ hi h h') := by
  refine M.of (by decide) rfl (Nat.le_of_ble_eq_true rfl) ?_
  have hR0 := hR
  have hG := hR.1.2.2.2
  obtain ⟨⟨r1, hX, hwk, ⟨⟨v1, v2, v3, v4⟩, v5, v6, v7, v8, v9, va, vb, vc, vd⟩⟩, rK, rT, rS, rH, ⟨r8, r8b, r9, ra⟩⟩ := hR
  obtain ⟨x1, x2, x3, x4, x5, x6, x7, x8, x9⟩ := id hX
  have hn4 := v1
  have n5 := r1.2
  have c6 := v3.2
  have p9 := v5.2
  obtain ⟨t1, t2, t3, t4⟩ := rT
  have t8 : ix (a 131 8) < 161 := t2.2
  refine J_iload_n (pc := 0) dX5_end_0 rfl ?_
  refine J_iconst (pc := 1) (v := nI 0) dX5_end_1 (by decide) ?_
  refine J_aload_n (pc := 2) dX5_end_2 rfl ?_
  refine J_getR (pc := 3) dX5_end_3 fX5_30 sh0 rfl ?_
  refine J_getI (pc := 6) dX5_end_6 fX5_71 sh39 rfl (t1) ?_
  refine K_Si3 (pc := 9) (Y' := YX5_within) dX5_end_9 lX5_63 mX5_within sX5_within (Nat.le_of_ble_eq_true rfl) (c5_within) ?_
  rintro x h0 ⟨e0, ⟨rfl, b9⟩ | ⟨rfl, b9⟩⟩ <;> rw [e0] <;> clear e0 h0
  · skip
    have bx : nb (ix (a 131 8) + 1) n := (in_nbc (n := ix (a 131 8)) t2.1 (by omega)).mp b9
    have bx2 := bx.2
    refine J_if_ne (pc := 12) (tgt := 17) dX5_end_12 (by decide) (fun _ => ?_) (fun c => absurd c (by decide))
    refine J_aload_n (pc := 17) dX5_end_17 rfl ?_
    refine J_getR (pc := 18) dX5_end_18 fX5_30 sh0 rfl ?_
    refine J_getI (pc := 21) dX5_end_21 fX5_71 sh39 rfl (t1) ?_
    refine J_istore_n (pc := 24) dX5_end_24 (by decide) ?_
    refine J_aload_n (pc := 25) dX5_end_25 rfl ?_
    refine J_getR (pc := 26) dX5_end_26 fX5_30 sh0 rfl ?_
    refine J_iload_n (pc := 29) dX5_end_29 rfl ?_
    refine J_putI (pc := 30) dX5_end_30 fX5_71 sh39 rfl ?_
    refine J_iload_n (pc := 33) dX5_end_33 rfl ?_
    refine K_iret (pc := 34) dX5_end_34 rfl ?_
    refine ⟨_, iteR_t b9, ?_, hi_up (by omega)⟩
    refine RX_T hR0 ⟨?_, ?_, fun i hi' => ?_, ?_⟩ (fun b k h1 h2 => j_up_o (by omega)) (fun b h1 h2 => j_up_ne b h1)
    · rw [j_up_s, j_up_s]
    · rw [j_up_s]; exact nb_le bx (by omega)
    · rw [j_up_s] at hi'
      rw [j_up_o (by omega), j_up_o (by omega)]; exact t3 i (by omega)
    · rw [j_up_o (by omega), j_up_o (by omega)]; exact t4
  · skip
    refine J_if_ne (pc := 12) (tgt := 17) dX5_end_12 (by decide) (fun c => absurd c (by decide)) (fun _ => ?_)
    refine J_iconst (pc := 15) (v := -1) dX5_end_15 (by decide) ?_
    refine K_iret (pc := 16) dX5_end_16 rfl ?_
    exact ⟨a, iteR_f b9, hR0, hi.rf⟩
set_option maxHeartbeats 4000000 in
theorem c5_fault {g : jG} {d : Nat} {a h : jH} (hR : RX a h) : Mi g (d + 3) YX5_fault h [.ref 0] (fun r h' => ∃ a', oFault a  = (r, a') ∧ RX a' h' ∧ hi h h') := by
  refine M.of (by decide) rfl (Nat.le_of_ble_eq_true rfl) ?_
  have hR0 := hR
  have hG := hR.1.2.2.2
  obtain ⟨⟨r1, hX, hwk, ⟨⟨v1, v2, v3, v4⟩, v5, v6, v7, v8, v9, va, vb, vc, vd⟩⟩, rK, rT, rS, rH, ⟨r8, r8b, r9, ra⟩⟩ := hR
  obtain ⟨x1, x2, x3, x4, x5, x6, x7, x8, x9⟩ := id hX
  have hn4 := v1
  have n5 := r1.2
  have c6 := v3.2
  have p9 := v5.2
  obtain ⟨t1, t2, t3, t4⟩ := rT
  have t8 : ix (a 131 8) < 161 := t2.2
  refine J_aload_n (pc := 0) dX5_fault_0 rfl ?_
  refine J_getR (pc := 1) dX5_fault_1 fX5_30 sh0 rfl ?_
  refine J_getI (pc := 4) dX5_fault_4 fX5_88 sh39 rfl (t4) ?_
  refine K_iret (pc := 7) dX5_fault_7 rfl ?_
  exact ⟨a, rfl, hR0, hi.rf⟩
set_option maxHeartbeats 4000000 in
theorem c5_fitsOne {g : jG} {d : Nat} {h : jH} {t v : Int32} : Mi g (d + 1) YX5_fitsOne h [.int t, .int v] (fun r h' => h' = h ∧ bq (fit1 t v) r) := by
  refine M.of (by decide) rfl (Nat.le_of_ble_eq_true rfl) ?_
  refine J_iload_n (pc := 0) dX5_fitsOne_0 rfl ?_
  by_cases e0 : t = nI 0
  · subst e0
    refine J_tableIn (pc := 1) (tgt := 28) dX5_fitsOne_1 (by decide) (by decide) rfl (by decide) ?_
    refine J_iload_n (pc := 28) dX5_fitsOne_28 rfl ?_
    refine J_iconst (pc := 29) (v := nI 0) dX5_fitsOne_29 (by decide) ?_
    refine J_iconst (pc := 30) (v := nI 3) dX5_fitsOne_30 (by decide) ?_
    refine K_Si3 (pc := 31) (Y' := YX5_within) dX5_fitsOne_31 lX5_63 mX5_within sX5_within (Nat.le_of_ble_eq_true rfl) (c5_within) ?_
    rintro r h0 ⟨e0, hb⟩
    rw [e0]
    clear e0 h0
    refine K_zret (pc := 34) dX5_fitsOne_34 rfl (bq_z hb) ?_
    refine ⟨rfl, bq_congr hb ⟨fun z => Or.inl ⟨rfl, z⟩, fun z => ?_⟩⟩
    rcases z with w | w | w <;> first | exact w.2 | exact absurd w.1 (by decide)
  by_cases e1 : t = nI 1
  · subst e1
    refine J_tableIn (pc := 1) (tgt := 35) dX5_fitsOne_1 (by decide) (by decide) rfl (by decide) ?_
    refine J_iload_n (pc := 35) dX5_fitsOne_35 rfl ?_
    refine J_iconst (pc := 36) (v := nI 1) dX5_fitsOne_36 (by decide) ?_
    refine J_iconst (pc := 37) (v := nI 5) dX5_fitsOne_37 (by decide) ?_
    refine K_Si3 (pc := 38) (Y' := YX5_within) dX5_fitsOne_38 lX5_63 mX5_within sX5_within (Nat.le_of_ble_eq_true rfl) (c5_within) ?_
    rintro r h0 ⟨e0, hb⟩
    rw [e0]
    clear e0 h0
    refine K_zret (pc := 41) dX5_fitsOne_41 rfl (bq_z hb) ?_
    refine ⟨rfl, bq_congr hb ⟨fun z => Or.inr (Or.inl ⟨rfl, z⟩), fun z => ?_⟩⟩
    rcases z with w | w | w <;> first | exact w.2 | exact absurd w.1 (by decide)
  by_cases e2 : t = nI 2
  · subst e2
    refine J_tableIn (pc := 1) (tgt := 42) dX5_fitsOne_1 (by decide) (by decide) rfl (by decide) ?_
    refine J_iload_n (pc := 42) dX5_fitsOne_42 rfl ?_
    refine J_iconst (pc := 43) (v := nI 0) dX5_fitsOne_43 (by decide) ?_
    refine J_sipush (pc := 44) (v := nI 999) dX5_fitsOne_44 (by decide) ?_
    refine K_Si3 (pc := 47) (Y' := YX5_within) dX5_fitsOne_47 lX5_63 mX5_within sX5_within (Nat.le_of_ble_eq_true rfl) (c5_within) ?_
    rintro r h0 ⟨e0, hb⟩
    rw [e0]
    clear e0 h0
    refine K_zret (pc := 50) dX5_fitsOne_50 rfl (bq_z hb) ?_
    refine ⟨rfl, bq_congr hb ⟨fun z => Or.inr (Or.inr ⟨rfl, z⟩), fun z => ?_⟩⟩
    rcases z with w | w | w <;> first | exact w.2 | exact absurd w.1 (by decide)
  have hj : ∀ k, k < 3 → ¬ t = nI k := fun k hk => by
    match k, hk with
    | 0, _ => exact e0
    | 1, _ => exact e1
    | 2, _ => exact e2
  refine J_tableOut (pc := 1) (tgt := 51) dX5_fitsOne_1 (tsw_out (N := 3) (by omega) hj) (by decide) ?_
  refine J_iconst (pc := 51) (v := nI 0) dX5_fitsOne_51 (by decide) ?_
  refine K_zret (pc := 52) dX5_fitsOne_52 rfl (by decide) ?_
  exact ⟨rfl, bq_f (fun z => z.elim (fun w => e0 w.1) (fun w => w.elim (fun w => e1 w.1) (fun w => e2 w.1)))⟩
set_option maxHeartbeats 4000000 in
theorem c5_fitsCover {g : jG} {d : Nat} {h : jH} {t v : Int32} : Mi g (d + 2) YX5_fitsCover h [.int t, .int v] (fun r h' => h' = h ∧ bq (fit2 t v) r) := by
  refine M.of (by decide) rfl (Nat.le_of_ble_eq_true rfl) ?_
  refine J_iload_n (pc := 0) dX5_fitsCover_0 rfl ?_
  by_cases e0 : t = nI 2
  · subst e0
    refine J_tableIn (pc := 1) (tgt := 28) dX5_fitsCover_1 (by decide) (by decide) rfl (by decide) ?_
    refine J_iload_n (pc := 28) dX5_fitsCover_28 rfl ?_
    refine K_Si1 (pc := 29) (Y' := YX5_isWeather) dX5_fitsCover_29 lX5_121 mX5_isWeather sX5_isWeather (Nat.le_of_ble_eq_true rfl) (c5_isWeather) ?_
    rintro r h0 ⟨e0, hb⟩
    rw [e0]
    clear e0 h0
    refine K_zret (pc := 32) dX5_fitsCover_32 rfl (bq_z hb) ?_
    refine ⟨rfl, bq_congr hb ⟨fun z => Or.inl ⟨rfl, z⟩, fun z => ?_⟩⟩
    rcases z with w | w | w <;> first | exact w.2 | exact absurd w.1 (by decide)
  by_cases e1 : t = nI 3
  · subst e1
    refine J_tableIn (pc := 1) (tgt := 33) dX5_fitsCover_1 (by decide) (by decide) rfl (by decide) ?_
    refine J_iload_n (pc := 33) dX5_fitsCover_33 rfl ?_
    refine J_iconst (pc := 34) (v := nI 0) dX5_fitsCover_34 (by decide) ?_
    refine J_bipush (pc := 35) (v := nI 20) dX5_fitsCover_35 (by decide) ?_
    refine K_Si3 (pc := 37) (Y' := YX5_within) dX5_fitsCover_37 lX5_63 mX5_within sX5_within (Nat.le_of_ble_eq_true rfl) (c5_within) ?_
    rintro r h0 ⟨e0, hb⟩
    rw [e0]
    clear e0 h0
    refine K_zret (pc := 40) dX5_fitsCover_40 rfl (bq_z hb) ?_
    refine ⟨rfl, bq_congr hb ⟨fun z => Or.inr (Or.inl ⟨rfl, z⟩), fun z => ?_⟩⟩
    rcases z with w | w | w <;> first | exact w.2 | exact absurd w.1 (by decide)
  by_cases e2 : t = nI 4
  · subst e2
    refine J_tableIn (pc := 1) (tgt := 41) dX5_fitsCover_1 (by decide) (by decide) rfl (by decide) ?_
    refine J_iload_n (pc := 41) dX5_fitsCover_41 rfl ?_
    refine J_iconst (pc := 42) (v := nI 0) dX5_fitsCover_42 (by decide) ?_
    refine J_bipush (pc := 43) (v := nI 9) dX5_fitsCover_43 (by decide) ?_
    refine K_Si3 (pc := 45) (Y' := YX5_within) dX5_fitsCover_45 lX5_63 mX5_within sX5_within (Nat.le_of_ble_eq_true rfl) (c5_within) ?_
    rintro r h0 ⟨e0, hb⟩
    rw [e0]
    clear e0 h0
    refine K_zret (pc := 48) dX5_fitsCover_48 rfl (bq_z hb) ?_
    refine ⟨rfl, bq_congr hb ⟨fun z => Or.inr (Or.inr ⟨rfl, z⟩), fun z => ?_⟩⟩
    rcases z with w | w | w <;> first | exact w.2 | exact absurd w.1 (by decide)
  have hj : t.toInt < 2 ∨ 4 < t.toInt := by
    by_cases h1 : t.toInt < 2
    · exact Or.inl h1
    · by_cases h2 : 4 < t.toInt
      · exact Or.inr h2
      · have e : t.toInt = 2 ∨ t.toInt = 3 ∨ t.toInt = 4 := by omega
        rcases e with e | e | e
        · exact absurd (i_eq.mpr e) e0
        · exact absurd (i_eq.mpr e) e1
        · exact absurd (i_eq.mpr e) e2
  refine J_tableOut (pc := 1) (tgt := 49) dX5_fitsCover_1 hj (by decide) ?_
  refine J_iconst (pc := 49) (v := nI 0) dX5_fitsCover_49 (by decide) ?_
  refine K_zret (pc := 50) dX5_fitsCover_50 rfl (by decide) ?_
  exact ⟨rfl, bq_f (fun z => z.elim (fun w => e0 w.1) (fun w => w.elim (fun w => e1 w.1) (fun w => e2 w.1)))⟩
set_option maxHeartbeats 4000000 in
theorem c5_alter {g : jG} {d : Nat} {a h : jH} {p t v : Int32} (hR : RX a h) : Mi g (d + 3) YX5_alter h [.ref 0, .int p, .int t, .int v] (fun r h' => ∃ a', oAlter a p t v = (r, a') ∧ RX a' h' ∧ hi h h') := by
  refine M.of (by decide) rfl (Nat.le_of_ble_eq_true rfl) ?_
  have hR0 := hR
  have hG := hR.1.2.2.2
  obtain ⟨⟨r1, hX, hwk, ⟨⟨v1, v2, v3, v4⟩, v5, v6, v7, v8, v9, va, vb, vc, vd⟩⟩, rK, rT, rS, rH, ⟨r8, r8b, r9, ra⟩⟩ := hR
  obtain ⟨x1, x2, x3, x4, x5, x6, x7, x8, x9⟩ := id hX
  have hn4 := v1
  have n5 := r1.2
  have c6 := v3.2
  have p9 := v5.2
  refine J_aload_n (pc := 0) dX5_alter_0 rfl ?_
  refine J_iload_n (pc := 1) dX5_alter_1 rfl ?_
  refine K_Vi1 (pc := 2) (Y' := YX5_isOne) dX5_alter_2 lX5_109 mX5_isOne vX5_isOne ⟨_, _, rfl⟩ sh0 (Nat.le_of_ble_eq_true rfl) (c5_isOne (x := p) x1 hn4) ?_
  rintro x h0 ⟨e0, ⟨rfl, b2⟩ | ⟨rfl, b2⟩⟩ <;> rw [e0] <;> clear e0 h0
  · skip
    refine J_if_eq (pc := 5) (tgt := 16) dX5_alter_5 (by decide) (fun c => absurd c (by decide)) (fun _ => ?_)
    refine J_iload_n (pc := 8) dX5_alter_8 rfl ?_
    refine J_iload_n (pc := 9) dX5_alter_9 rfl ?_
    refine K_Si2 (pc := 10) (Y' := YX5_fitsOne) dX5_alter_10 lX5_142 mX5_fitsOne sX5_fitsOne (Nat.le_of_ble_eq_true rfl) (c5_fitsOne) ?_
    rintro x h0 ⟨e0, ⟨rfl, b10⟩ | ⟨rfl, b10⟩⟩ <;> rw [e0] <;> clear e0 h0
    · skip
      refine J_if_ne (pc := 13) (tgt := 18) dX5_alter_13 (by decide) (fun _ => ?_) (fun c => absurd c (by decide))
      rcases id b10 with ⟨rfl, f10⟩ | ⟨rfl, f10⟩ | ⟨rfl, f10⟩
      · skip
        have qp := b2.2
        refine J_ls (ls' := [(0, .ref 0), (1, .int (nI (ix p))), (2, .int (nI 0)), (3, .int v)]) ⟨rfl, congrArg (fun z => some (Value.int z)) b2.1, rfl, rfl, trivial⟩ ?_
        refine J_aload_n (pc := 18) dX5_alter_18 rfl ?_
        refine J_getR (pc := 19) dX5_alter_19 fX5_10 sh0 rfl ?_
        refine J_getR (pc := 22) dX5_alter_22 fX5_113 (sv0 isV1) rfl ?_
        refine J_iload_n (pc := 25) dX5_alter_25 rfl ?_
        refine J_aald (pc := 26) dX5_alter_26 (sv1 isV1) j_k2 (rfl) rfl (Nat.le_of_ble_eq_true rfl) ?_
        refine J_iload_n (pc := 27) dX5_alter_27 rfl ?_
        refine J_iald (pc := 28) dX5_alter_28 (sv2 isV1) (rfl) (by omega) ((x2 _ b2.2).1) (by decide) ?_
        refine J_istore (pc := 29) dX5_alter_29 (by decide) ?_
        refine J_aload_n (pc := 31) dX5_alter_31 rfl ?_
        refine J_getR (pc := 32) dX5_alter_32 fX5_10 sh0 rfl ?_
        refine J_getR (pc := 35) dX5_alter_35 fX5_113 (sv0 isV1) rfl ?_
        refine J_iload_n (pc := 38) dX5_alter_38 rfl ?_
        refine J_aald (pc := 39) dX5_alter_39 (sv1 isV1) j_k2 (rfl) rfl (Nat.le_of_ble_eq_true rfl) ?_
        refine J_iload_n (pc := 40) dX5_alter_40 rfl ?_
        refine J_iload_n (pc := 41) dX5_alter_41 rfl ?_
        refine J_iast (pc := 42) dX5_alter_42 (sv2 isV1) (rfl) (by omega) (by decide) ?_
        refine J_iload (pc := 43) dX5_alter_43 rfl ?_
        refine K_iret (pc := 45) dX5_alter_45 rfl ?_
        refine ⟨_, (iteR_t ⟨b2, b10⟩).trans ?_, RX_now hR0 (XV_alter (t := 0) hX hG b2.2 (by omega)) ?_ (GD_alter (t := 0) hG b2.2 (by omega) (fun _ => (in_nbc (n := 3) rfl (by omega)).mp f10) (fun z => absurd z (by omega)) (fun z => absurd z (by omega))) (xs_up xs.rf (by omega)), hi_up (by omega)⟩
        · rw [show ix (nI 0) = 0 from rfl]
          rw [show 4 * 0 + ix p = ix p by omega]
        · rw [j_up_o (by omega), upd_ne (by omega)]; exact hwk
      · skip
        have qp := b2.2
        refine J_ls (ls' := [(0, .ref 0), (1, .int (nI (ix p))), (2, .int (nI 1)), (3, .int v)]) ⟨rfl, congrArg (fun z => some (Value.int z)) b2.1, rfl, rfl, trivial⟩ ?_
        refine J_aload_n (pc := 18) dX5_alter_18 rfl ?_
        refine J_getR (pc := 19) dX5_alter_19 fX5_10 sh0 rfl ?_
        refine J_getR (pc := 22) dX5_alter_22 fX5_113 (sv0 isV1) rfl ?_
        refine J_iload_n (pc := 25) dX5_alter_25 rfl ?_
        refine J_aald (pc := 26) dX5_alter_26 (sv1 isV1) j_k2 (rfl) rfl (Nat.le_of_ble_eq_true rfl) ?_
        refine J_iload_n (pc := 27) dX5_alter_27 rfl ?_
        refine J_iald (pc := 28) dX5_alter_28 (sv3 isV1) (rfl) (by omega) ((x2 _ b2.2).2.1) (by decide) ?_
        refine J_istore (pc := 29) dX5_alter_29 (by decide) ?_
        refine J_aload_n (pc := 31) dX5_alter_31 rfl ?_
        refine J_getR (pc := 32) dX5_alter_32 fX5_10 sh0 rfl ?_
        refine J_getR (pc := 35) dX5_alter_35 fX5_113 (sv0 isV1) rfl ?_
        refine J_iload_n (pc := 38) dX5_alter_38 rfl ?_
        refine J_aald (pc := 39) dX5_alter_39 (sv1 isV1) j_k2 (rfl) rfl (Nat.le_of_ble_eq_true rfl) ?_
        refine J_iload_n (pc := 40) dX5_alter_40 rfl ?_
        refine J_iload_n (pc := 41) dX5_alter_41 rfl ?_
        refine J_iast (pc := 42) dX5_alter_42 (sv3 isV1) (rfl) (by omega) (by decide) ?_
        refine J_iload (pc := 43) dX5_alter_43 rfl ?_
        refine K_iret (pc := 45) dX5_alter_45 rfl ?_
        refine ⟨_, (iteR_t ⟨b2, b10⟩).trans ?_, RX_now hR0 (XV_alter (t := 1) hX hG b2.2 (by omega)) ?_ (GD_alter (t := 1) hG b2.2 (by omega) (fun z => absurd z (by omega)) (fun _ => (in_nbc (n := 5) rfl (by omega)).mp ⟨Int32.le_trans (by decide) f10.1, f10.2⟩) (fun z => absurd z (by omega))) (xs_up xs.rf (by omega)), hi_up (by omega)⟩
        · rw [show ix (nI 1) = 1 from rfl]
        · rw [j_up_o (by omega), upd_ne (by omega)]; exact hwk
      · skip
        have qp := b2.2
        refine J_ls (ls' := [(0, .ref 0), (1, .int (nI (ix p))), (2, .int (nI 2)), (3, .int v)]) ⟨rfl, congrArg (fun z => some (Value.int z)) b2.1, rfl, rfl, trivial⟩ ?_
        refine J_aload_n (pc := 18) dX5_alter_18 rfl ?_
        refine J_getR (pc := 19) dX5_alter_19 fX5_10 sh0 rfl ?_
        refine J_getR (pc := 22) dX5_alter_22 fX5_113 (sv0 isV1) rfl ?_
        refine J_iload_n (pc := 25) dX5_alter_25 rfl ?_
        refine J_aald (pc := 26) dX5_alter_26 (sv1 isV1) j_k2 (rfl) rfl (Nat.le_of_ble_eq_true rfl) ?_
        refine J_iload_n (pc := 27) dX5_alter_27 rfl ?_
        refine J_iald (pc := 28) dX5_alter_28 (sv4 isV1) (rfl) (by omega) ((x2 _ b2.2).2.2) (by decide) ?_
        refine J_istore (pc := 29) dX5_alter_29 (by decide) ?_
        refine J_aload_n (pc := 31) dX5_alter_31 rfl ?_
        refine J_getR (pc := 32) dX5_alter_32 fX5_10 sh0 rfl ?_
        refine J_getR (pc := 35) dX5_alter_35 fX5_113 (sv0 isV1) rfl ?_
        refine J_iload_n (pc := 38) dX5_alter_38 rfl ?_
        refine J_aald (pc := 39) dX5_alter_39 (sv1 isV1) j_k2 (rfl) rfl (Nat.le_of_ble_eq_true rfl) ?_
        refine J_iload_n (pc := 40) dX5_alter_40 rfl ?_
        refine J_iload_n (pc := 41) dX5_alter_41 rfl ?_
        refine J_iast (pc := 42) dX5_alter_42 (sv4 isV1) (rfl) (by omega) (by decide) ?_
        refine J_iload (pc := 43) dX5_alter_43 rfl ?_
        refine K_iret (pc := 45) dX5_alter_45 rfl ?_
        refine ⟨_, (iteR_t ⟨b2, b10⟩).trans ?_, RX_now hR0 (XV_alter (t := 2) hX hG b2.2 (by omega)) ?_ (GD_alter (t := 2) hG b2.2 (by omega) (fun z => absurd z (by omega)) (fun z => absurd z (by omega)) (fun _ => (in_nbc (n := 999) rfl (by omega)).mp f10)) (xs_up xs.rf (by omega)), hi_up (by omega)⟩
        · rw [show ix (nI 2) = 2 from rfl]
        · rw [j_up_o (by omega), upd_ne (by omega)]; exact hwk
    · skip
      refine J_if_ne (pc := 13) (tgt := 18) dX5_alter_13 (by decide) (fun c => absurd c (by decide)) (fun _ => ?_)
      refine J_iconst (pc := 16) (v := -1) dX5_alter_16 (by decide) ?_
      refine K_iret (pc := 17) dX5_alter_17 rfl ?_
      exact ⟨a, iteR_f (fun z => b10 z.2), hR0, hi.rf⟩
  · skip
    refine J_if_eq (pc := 5) (tgt := 16) dX5_alter_5 (by decide) (fun _ => ?_) (fun c => absurd c (by decide))
    refine J_iconst (pc := 16) (v := -1) dX5_alter_16 (by decide) ?_
    refine K_iret (pc := 17) dX5_alter_17 rfl ?_
    exact ⟨a, iteR_f (fun z => b2 z.1), hR0, hi.rf⟩
set_option maxHeartbeats 4000000 in
theorem c5_sign {g : jG} {d : Nat} {a h : jH} {c t v : Int32} (hR : RX a h) : Mi g (d + 3) YX5_sign h [.ref 0, .int c, .int t, .int v] (fun r h' => ∃ a', oSign a c t v = (r, a') ∧ RX a' h' ∧ hi h h') := by
  refine M.of (by decide) rfl (Nat.le_of_ble_eq_true rfl) ?_
  have hR0 := hR
  have hG := hR.1.2.2.2
  obtain ⟨⟨r1, hX, hwk, ⟨⟨v1, v2, v3, v4⟩, v5, v6, v7, v8, v9, va, vb, vc, vd⟩⟩, rK, rT, rS, rH, ⟨r8, r8b, r9, ra⟩⟩ := hR
  obtain ⟨x1, x2, x3, x4, x5, x6, x7, x8, x9⟩ := id hX
  have hn4 := v1
  have n5 := r1.2
  have c6 := v3.2
  have p9 := v5.2
  refine J_aload_n (pc := 0) dX5_sign_0 rfl ?_
  refine J_iload_n (pc := 1) dX5_sign_1 rfl ?_
  refine K_Vi1 (pc := 2) (Y' := YX5_isCover) dX5_sign_2 lX5_127 mX5_isCover vX5_isCover ⟨_, _, rfl⟩ sh0 (Nat.le_of_ble_eq_true rfl) (c5_isCover (x := c) (x3.trans v3.1) (by omega)) ?_
  rintro x h0 ⟨e0, ⟨rfl, b2⟩ | ⟨rfl, b2⟩⟩ <;> rw [e0] <;> clear e0 h0
  · skip
    refine J_if_eq (pc := 5) (tgt := 16) dX5_sign_5 (by decide) (fun c => absurd c (by decide)) (fun _ => ?_)
    refine J_iload_n (pc := 8) dX5_sign_8 rfl ?_
    refine J_iload_n (pc := 9) dX5_sign_9 rfl ?_
    refine K_Si2 (pc := 10) (Y' := YX5_fitsCover) dX5_sign_10 lX5_146 mX5_fitsCover sX5_fitsCover (Nat.le_of_ble_eq_true rfl) (c5_fitsCover) ?_
    rintro x h0 ⟨e0, ⟨rfl, b10⟩ | ⟨rfl, b10⟩⟩ <;> rw [e0] <;> clear e0 h0
    · skip
      refine J_if_ne (pc := 13) (tgt := 18) dX5_sign_13 (by decide) (fun _ => ?_) (fun c => absurd c (by decide))
      rcases id b10 with ⟨rfl, f10⟩ | ⟨rfl, f10⟩ | ⟨rfl, f10⟩
      · skip
        have qp := b2.2
        refine J_ls (ls' := [(0, .ref 0), (1, .int (nI (ix c))), (2, .int (nI 2)), (3, .int v)]) ⟨rfl, congrArg (fun z => some (Value.int z)) b2.1, rfl, rfl, trivial⟩ ?_
        refine J_aload_n (pc := 18) dX5_sign_18 rfl ?_
        refine J_getR (pc := 19) dX5_sign_19 fX5_10 sh0 rfl ?_
        refine J_getR (pc := 22) dX5_sign_22 fX5_130 (sv0 isV1) rfl ?_
        refine J_iload_n (pc := 25) dX5_sign_25 rfl ?_
        refine J_aald (pc := 26) dX5_sign_26 (sv5 isV1) j_k2 (rfl) rfl (Nat.le_of_ble_eq_true rfl) ?_
        refine J_iload_n (pc := 27) dX5_sign_27 rfl ?_
        refine J_iald (pc := 28) dX5_sign_28 (sv8 isV1) (rfl) (by omega) (x4 _ b2.2 2 (by omega)) (by decide) ?_
        refine J_istore (pc := 29) dX5_sign_29 (by decide) ?_
        refine J_aload_n (pc := 31) dX5_sign_31 rfl ?_
        refine J_getR (pc := 32) dX5_sign_32 fX5_10 sh0 rfl ?_
        refine J_getR (pc := 35) dX5_sign_35 fX5_130 (sv0 isV1) rfl ?_
        refine J_iload_n (pc := 38) dX5_sign_38 rfl ?_
        refine J_aald (pc := 39) dX5_sign_39 (sv5 isV1) j_k2 (rfl) rfl (Nat.le_of_ble_eq_true rfl) ?_
        refine J_iload_n (pc := 40) dX5_sign_40 rfl ?_
        refine J_iload_n (pc := 41) dX5_sign_41 rfl ?_
        refine J_iast (pc := 42) dX5_sign_42 (sv8 isV1) (rfl) (by omega) (by decide) ?_
        refine J_iload (pc := 43) dX5_sign_43 rfl ?_
        refine K_iret (pc := 45) dX5_sign_45 rfl ?_
        refine ⟨_, (iteR_t ⟨b2, b10⟩).trans ?_, RX_now hR0 (XV_sign (t := 2) hX hG b2.2 (by omega)) ?_ (GD_sign (t := 2) hG b2.2 (by omega) (by omega) (fun _ => f10) (fun z => absurd z (by omega)) (fun z => absurd z (by omega))) (xs_up xs.rf (by omega)), hi_up (by omega)⟩
        · rw [show ix (nI 2) = 2 from rfl]
        · rw [j_up_o (by omega), upd_ne (by omega)]; exact hwk
      · skip
        have qp := b2.2
        refine J_ls (ls' := [(0, .ref 0), (1, .int (nI (ix c))), (2, .int (nI 3)), (3, .int v)]) ⟨rfl, congrArg (fun z => some (Value.int z)) b2.1, rfl, rfl, trivial⟩ ?_
        refine J_aload_n (pc := 18) dX5_sign_18 rfl ?_
        refine J_getR (pc := 19) dX5_sign_19 fX5_10 sh0 rfl ?_
        refine J_getR (pc := 22) dX5_sign_22 fX5_130 (sv0 isV1) rfl ?_
        refine J_iload_n (pc := 25) dX5_sign_25 rfl ?_
        refine J_aald (pc := 26) dX5_sign_26 (sv5 isV1) j_k2 (rfl) rfl (Nat.le_of_ble_eq_true rfl) ?_
        refine J_iload_n (pc := 27) dX5_sign_27 rfl ?_
        refine J_iald (pc := 28) dX5_sign_28 (sv9 isV1) (rfl) (by omega) (x4 _ b2.2 3 (by omega)) (by decide) ?_
        refine J_istore (pc := 29) dX5_sign_29 (by decide) ?_
        refine J_aload_n (pc := 31) dX5_sign_31 rfl ?_
        refine J_getR (pc := 32) dX5_sign_32 fX5_10 sh0 rfl ?_
        refine J_getR (pc := 35) dX5_sign_35 fX5_130 (sv0 isV1) rfl ?_
        refine J_iload_n (pc := 38) dX5_sign_38 rfl ?_
        refine J_aald (pc := 39) dX5_sign_39 (sv5 isV1) j_k2 (rfl) rfl (Nat.le_of_ble_eq_true rfl) ?_
        refine J_iload_n (pc := 40) dX5_sign_40 rfl ?_
        refine J_iload_n (pc := 41) dX5_sign_41 rfl ?_
        refine J_iast (pc := 42) dX5_sign_42 (sv9 isV1) (rfl) (by omega) (by decide) ?_
        refine J_iload (pc := 43) dX5_sign_43 rfl ?_
        refine K_iret (pc := 45) dX5_sign_45 rfl ?_
        refine ⟨_, (iteR_t ⟨b2, b10⟩).trans ?_, RX_now hR0 (XV_sign (t := 3) hX hG b2.2 (by omega)) ?_ (GD_sign (t := 3) hG b2.2 (by omega) (by omega) (fun z => absurd z (by omega)) (fun _ => (in_nbc (n := 20) rfl (by omega)).mp f10) (fun z => absurd z (by omega))) (xs_up xs.rf (by omega)), hi_up (by omega)⟩
        · rw [show ix (nI 3) = 3 from rfl]
        · rw [j_up_o (by omega), upd_ne (by omega)]; exact hwk
      · skip
        have qp := b2.2
        refine J_ls (ls' := [(0, .ref 0), (1, .int (nI (ix c))), (2, .int (nI 4)), (3, .int v)]) ⟨rfl, congrArg (fun z => some (Value.int z)) b2.1, rfl, rfl, trivial⟩ ?_
        refine J_aload_n (pc := 18) dX5_sign_18 rfl ?_
        refine J_getR (pc := 19) dX5_sign_19 fX5_10 sh0 rfl ?_
        refine J_getR (pc := 22) dX5_sign_22 fX5_130 (sv0 isV1) rfl ?_
        refine J_iload_n (pc := 25) dX5_sign_25 rfl ?_
        refine J_aald (pc := 26) dX5_sign_26 (sv5 isV1) j_k2 (rfl) rfl (Nat.le_of_ble_eq_true rfl) ?_
        refine J_iload_n (pc := 27) dX5_sign_27 rfl ?_
        refine J_iald (pc := 28) dX5_sign_28 (sv10 isV1) (rfl) (by omega) (x4 _ b2.2 4 (by omega)) (by decide) ?_
        refine J_istore (pc := 29) dX5_sign_29 (by decide) ?_
        refine J_aload_n (pc := 31) dX5_sign_31 rfl ?_
        refine J_getR (pc := 32) dX5_sign_32 fX5_10 sh0 rfl ?_
        refine J_getR (pc := 35) dX5_sign_35 fX5_130 (sv0 isV1) rfl ?_
        refine J_iload_n (pc := 38) dX5_sign_38 rfl ?_
        refine J_aald (pc := 39) dX5_sign_39 (sv5 isV1) j_k2 (rfl) rfl (Nat.le_of_ble_eq_true rfl) ?_
        refine J_iload_n (pc := 40) dX5_sign_40 rfl ?_
        refine J_iload_n (pc := 41) dX5_sign_41 rfl ?_
        refine J_iast (pc := 42) dX5_sign_42 (sv10 isV1) (rfl) (by omega) (by decide) ?_
        refine J_iload (pc := 43) dX5_sign_43 rfl ?_
        refine K_iret (pc := 45) dX5_sign_45 rfl ?_
        refine ⟨_, (iteR_t ⟨b2, b10⟩).trans ?_, RX_now hR0 (XV_sign (t := 4) hX hG b2.2 (by omega)) ?_ (GD_sign (t := 4) hG b2.2 (by omega) (by omega) (fun z => absurd z (by omega)) (fun z => absurd z (by omega)) (fun _ => (in_nbc (n := 9) rfl (by omega)).mp f10)) (xs_up xs.rf (by omega)), hi_up (by omega)⟩
        · rw [show ix (nI 4) = 4 from rfl]
        · rw [j_up_o (by omega), upd_ne (by omega)]; exact hwk
    · skip
      refine J_if_ne (pc := 13) (tgt := 18) dX5_sign_13 (by decide) (fun c => absurd c (by decide)) (fun _ => ?_)
      refine J_iconst (pc := 16) (v := -1) dX5_sign_16 (by decide) ?_
      refine K_iret (pc := 17) dX5_sign_17 rfl ?_
      exact ⟨a, iteR_f (fun z => b10 z.2), hR0, hi.rf⟩
  · skip
    refine J_if_eq (pc := 5) (tgt := 16) dX5_sign_5 (by decide) (fun _ => ?_) (fun c => absurd c (by decide))
    refine J_iconst (pc := 16) (v := -1) dX5_sign_16 (by decide) ?_
    refine K_iret (pc := 17) dX5_sign_17 rfl ?_
    exact ⟨a, iteR_f (fun z => b2 z.1), hR0, hi.rf⟩
set_option maxHeartbeats 4000000 in
theorem c4_addCover {g : jG} {d : Nat} {h : jH} {v c : Nat} {p q w x y : Int32} (hv : isV v) (hc : h v 3 = nI c) (hc5 : c < 5) : Mv g d YX4_addCover h [.ref v, .int p, .int q, .int w, .int x, .int y] (fun h' => h' = acH h v c p q w x y) := by
  refine M.of (by decide) rfl (Nat.le_of_ble_eq_true rfl) ?_
  refine J_aload_n (pc := 0) dX4_addCover_0 rfl ?_
  refine J_getI (pc := 1) dX4_addCover_1 fX4_39 (sv0 hv) rfl (hc) ?_
  refine J_iconst (pc := 4) (v := nI 5) dX4_addCover_4 (by decide) ?_
  refine J_icmp_ge (pc := 5) (tgt := 80) dX4_addCover_5 (by decide) (fun c5 => ?_) (fun c5 => ?_)
  · skip
    exact absurd ((nI_leI (by omega) (by omega)).mp c5) (by omega)
  · skip
    refine J_aload_n (pc := 8) dX4_addCover_8 rfl ?_
    refine J_getR (pc := 9) dX4_addCover_9 fX4_20 (sv0 hv) rfl ?_
    refine J_iconst (pc := 12) (v := nI 0) dX4_addCover_12 (by decide) ?_
    refine J_aald (pc := 13) dX4_addCover_13 (sv5 hv) j_k2 (rfl) rfl (Nat.le_of_ble_eq_true rfl) ?_
    refine J_aload_n (pc := 14) dX4_addCover_14 rfl ?_
    refine J_getI (pc := 15) dX4_addCover_15 fX4_39 (sv0 hv) rfl (hc) ?_
    refine J_iload_n (pc := 18) dX4_addCover_18 rfl ?_
    refine J_iast (pc := 19) dX4_addCover_19 (sv6 hv) (rfl) (by omega) (by decide) ?_
    refine J_aload_n (pc := 20) dX4_addCover_20 rfl ?_
    refine J_getR (pc := 21) dX4_addCover_21 fX4_20 (sv0 hv) rfl ?_
    refine J_iconst (pc := 24) (v := nI 1) dX4_addCover_24 (by decide) ?_
    refine J_aald (pc := 25) dX4_addCover_25 (sv5 hv) j_k2 (rfl) rfl (Nat.le_of_ble_eq_true rfl) ?_
    refine J_aload_n (pc := 26) dX4_addCover_26 rfl ?_
    refine J_getI (pc := 27) dX4_addCover_27 fX4_39 (sv0 hv) rfl (j_up_x (by omega) hc) ?_
    refine J_iload_n (pc := 30) dX4_addCover_30 rfl ?_
    refine J_iast (pc := 31) dX4_addCover_31 (sv7 hv) (rfl) (by omega) (by decide) ?_
    refine J_aload_n (pc := 32) dX4_addCover_32 rfl ?_
    refine J_getR (pc := 33) dX4_addCover_33 fX4_20 (sv0 hv) rfl ?_
    refine J_iconst (pc := 36) (v := nI 2) dX4_addCover_36 (by decide) ?_
    refine J_aald (pc := 37) dX4_addCover_37 (sv5 hv) j_k2 (rfl) rfl (Nat.le_of_ble_eq_true rfl) ?_
    refine J_aload_n (pc := 38) dX4_addCover_38 rfl ?_
    refine J_getI (pc := 39) dX4_addCover_39 fX4_39 (sv0 hv) rfl (j_up_x (by omega) (j_up_x (by omega) hc)) ?_
    refine J_iload_n (pc := 42) dX4_addCover_42 rfl ?_
    refine J_iast (pc := 43) dX4_addCover_43 (sv8 hv) (rfl) (by omega) (by decide) ?_
    refine J_aload_n (pc := 44) dX4_addCover_44 rfl ?_
    refine J_getR (pc := 45) dX4_addCover_45 fX4_20 (sv0 hv) rfl ?_
    refine J_iconst (pc := 48) (v := nI 3) dX4_addCover_48 (by decide) ?_
    refine J_aald (pc := 49) dX4_addCover_49 (sv5 hv) j_k2 (rfl) rfl (Nat.le_of_ble_eq_true rfl) ?_
    refine J_aload_n (pc := 50) dX4_addCover_50 rfl ?_
    refine J_getI (pc := 51) dX4_addCover_51 fX4_39 (sv0 hv) rfl (j_up_x (by omega) (j_up_x (by omega) (j_up_x (by omega) hc))) ?_
    refine J_iload (pc := 54) dX4_addCover_54 rfl ?_
    refine J_iast (pc := 56) dX4_addCover_56 (sv9 hv) (rfl) (by omega) (by decide) ?_
    refine J_aload_n (pc := 57) dX4_addCover_57 rfl ?_
    refine J_getR (pc := 58) dX4_addCover_58 fX4_20 (sv0 hv) rfl ?_
    refine J_iconst (pc := 61) (v := nI 4) dX4_addCover_61 (by decide) ?_
    refine J_aald (pc := 62) dX4_addCover_62 (sv5 hv) j_k2 (rfl) rfl (Nat.le_of_ble_eq_true rfl) ?_
    refine J_aload_n (pc := 63) dX4_addCover_63 rfl ?_
    refine J_getI (pc := 64) dX4_addCover_64 fX4_39 (sv0 hv) rfl (j_up_x (by omega) (j_up_x (by omega) (j_up_x (by omega) (j_up_x (by omega) hc)))) ?_
    refine J_iload (pc := 67) dX4_addCover_67 rfl ?_
    refine J_iast (pc := 69) dX4_addCover_69 (sv10 hv) (rfl) (by omega) (by decide) ?_
    refine J_aload_n (pc := 70) dX4_addCover_70 rfl ?_
    refine J_dup (pc := 71) dX4_addCover_71 rfl ?_
    refine J_getI (pc := 72) dX4_addCover_72 fX4_39 (sv0 hv) rfl (j_up_x (by omega) (j_up_x (by omega) (j_up_x (by omega) (j_up_x (by omega) (j_up_x (by omega) hc))))) ?_
    refine J_iconst (pc := 75) (v := nI 1) dX4_addCover_75 (by decide) ?_
    refine J_iadd (pc := 76) dX4_addCover_76 (rfl) ?_
    refine J_putI (pc := 77) dX4_addCover_77 fX4_39 (sv0 hv) rfl ?_
    refine K_ret (pc := 80) dX4_addCover_80 rfl ?_
    exact rfl
set_option maxHeartbeats 4000000 in
theorem c4_addPlanned {g : jG} {d : Nat} {h : jH} {v c : Nat} {w : Int32} (hv : isV v) (hc : h v 7 = nI c) (hc8 : c < 8) : Mv g d YX4_addPlanned h [.ref v, .int w] (fun h' => h' = j_up (j_up h (v + 12) c w) v 7 (nI c + nI 1)) := by
  refine M.of (by decide) rfl (Nat.le_of_ble_eq_true rfl) ?_
  refine J_aload_n (pc := 0) dX4_addPlanned_0 rfl ?_
  refine J_getI (pc := 1) dX4_addPlanned_1 fX4_45 (sv0 hv) rfl (hc) ?_
  refine J_bipush (pc := 4) (v := nI 8) dX4_addPlanned_4 (by decide) ?_
  refine J_icmp_ge (pc := 6) (tgt := 29) dX4_addPlanned_6 (by decide) (fun c6 => ?_) (fun c6 => ?_)
  · skip
    exact absurd ((nI_leI (by omega) (by omega)).mp c6) (by omega)
  · skip
    refine J_aload_n (pc := 9) dX4_addPlanned_9 rfl ?_
    refine J_getR (pc := 10) dX4_addPlanned_10 fX4_26 (sv0 hv) rfl ?_
    refine J_aload_n (pc := 13) dX4_addPlanned_13 rfl ?_
    refine J_getI (pc := 14) dX4_addPlanned_14 fX4_45 (sv0 hv) rfl (hc) ?_
    refine J_iload_n (pc := 17) dX4_addPlanned_17 rfl ?_
    refine J_iast (pc := 18) dX4_addPlanned_18 (sv12 hv) (rfl) (by omega) (by decide) ?_
    refine J_aload_n (pc := 19) dX4_addPlanned_19 rfl ?_
    refine J_dup (pc := 20) dX4_addPlanned_20 rfl ?_
    refine J_getI (pc := 21) dX4_addPlanned_21 fX4_45 (sv0 hv) rfl (j_up_x (by omega) hc) ?_
    refine J_iconst (pc := 24) (v := nI 1) dX4_addPlanned_24 (by decide) ?_
    refine J_iadd (pc := 25) dX4_addPlanned_25 (rfl) ?_
    refine J_putI (pc := 26) dX4_addPlanned_26 fX4_45 (sv0 hv) rfl ?_
    refine K_ret (pc := 29) dX4_addPlanned_29 rfl ?_
    exact rfl
set_option maxHeartbeats 4000000 in
theorem c5_insure {g : jG} {d : Nat} {a h : jH} {p q w x y : Int32} (hR : RX a h) : Mi g (d + 3) YX5_insure h [.ref 0, .int p, .int q, .int w, .int x, .int y] (fun r h' => ∃ a', oInsure a p q w x y = (r, a') ∧ RX a' h' ∧ hi h h') := by
  refine M.of (by decide) rfl (Nat.le_of_ble_eq_true rfl) ?_
  have hR0 := hR
  have hG := hR.1.2.2.2
  obtain ⟨⟨r1, hX, hwk, ⟨⟨v1, v2, v3, v4⟩, v5, v6, v7, v8, v9, va, vb, vc, vd⟩⟩, rK, rT, rS, rH, ⟨r8, r8b, r9, ra⟩⟩ := hR
  obtain ⟨x1, x2, x3, x4, x5, x6, x7, x8, x9⟩ := id hX
  have hn4 := v1
  have n5 := r1.2
  have c6 := v3.2
  have p9 := v5.2
  refine J_aload_n (pc := 0) dX5_insure_0 rfl ?_
  refine J_iload_n (pc := 1) dX5_insure_1 rfl ?_
  refine K_Vi1 (pc := 2) (Y' := YX5_isOne) dX5_insure_2 lX5_109 mX5_isOne vX5_isOne ⟨_, _, rfl⟩ sh0 (Nat.le_of_ble_eq_true rfl) (c5_isOne (x := p) x1 hn4) ?_
  rintro x h0 ⟨e0, ⟨rfl, b2⟩ | ⟨rfl, b2⟩⟩ <;> rw [e0] <;> clear e0 h0
  · skip
    refine J_if_eq (pc := 5) (tgt := 21) dX5_insure_5 (by decide) (fun c => absurd c (by decide)) (fun _ => ?_)
    refine J_aload_n (pc := 8) dX5_insure_8 rfl ?_
    refine J_iload_n (pc := 9) dX5_insure_9 rfl ?_
    refine K_Vi1 (pc := 10) (Y' := YX5_isOne) dX5_insure_10 lX5_109 mX5_isOne vX5_isOne ⟨_, _, rfl⟩ sh0 (Nat.le_of_ble_eq_true rfl) (c5_isOne (x := q) x1 hn4) ?_
    rintro x h0 ⟨e0, ⟨rfl, b10⟩ | ⟨rfl, b10⟩⟩ <;> rw [e0] <;> clear e0 h0
    · skip
      refine J_if_eq (pc := 13) (tgt := 21) dX5_insure_13 (by decide) (fun c => absurd c (by decide)) (fun _ => ?_)
      refine J_iload_n (pc := 16) dX5_insure_16 rfl ?_
      refine J_iload_n (pc := 17) dX5_insure_17 rfl ?_
      refine J_icmp_ne (pc := 18) (tgt := 23) dX5_insure_18 (by decide) (fun c18 => ?_) (fun c18 => ?_)
      · skip
        refine J_iconst (pc := 23) (v := nI 2) dX5_insure_23 (by decide) ?_
        refine J_iload_n (pc := 24) dX5_insure_24 rfl ?_
        refine K_Si2 (pc := 25) (Y' := YX5_fitsCover) dX5_insure_25 lX5_146 mX5_fitsCover sX5_fitsCover (Nat.le_of_ble_eq_true rfl) (c5_fitsCover) ?_
        rintro x h0 ⟨e0, ⟨rfl, b25⟩ | ⟨rfl, b25⟩⟩ <;> rw [e0] <;> clear e0 h0
        · skip
          refine J_if_eq (pc := 28) (tgt := 49) dX5_insure_28 (by decide) (fun c => absurd c (by decide)) (fun _ => ?_)
          refine J_iconst (pc := 31) (v := nI 3) dX5_insure_31 (by decide) ?_
          refine J_iload (pc := 32) dX5_insure_32 rfl ?_
          refine K_Si2 (pc := 34) (Y' := YX5_fitsCover) dX5_insure_34 lX5_146 mX5_fitsCover sX5_fitsCover (Nat.le_of_ble_eq_true rfl) (c5_fitsCover) ?_
          rintro x h0 ⟨e0, ⟨rfl, b34⟩ | ⟨rfl, b34⟩⟩ <;> rw [e0] <;> clear e0 h0
          · skip
            refine J_if_eq (pc := 37) (tgt := 49) dX5_insure_37 (by decide) (fun c => absurd c (by decide)) (fun _ => ?_)
            refine J_iconst (pc := 40) (v := nI 4) dX5_insure_40 (by decide) ?_
            refine J_iload (pc := 41) dX5_insure_41 rfl ?_
            refine K_Si2 (pc := 43) (Y' := YX5_fitsCover) dX5_insure_43 lX5_146 mX5_fitsCover sX5_fitsCover (Nat.le_of_ble_eq_true rfl) (c5_fitsCover) ?_
            rintro x h0 ⟨e0, ⟨rfl, b43⟩ | ⟨rfl, b43⟩⟩ <;> rw [e0] <;> clear e0 h0
            · skip
              refine J_if_ne (pc := 46) (tgt := 51) dX5_insure_46 (by decide) (fun _ => ?_) (fun c => absurd c (by decide))
              have f25 : nb 4 w := by rcases b25 with z | z | z <;> first | exact z.2 | exact absurd z.1 (by decide)
              have f34 : nI 0 ≤ x ∧ x ≤ nI 20 := by rcases b34 with z | z | z <;> first | exact z.2 | exact absurd z.1 (by decide)
              have f43 : nI 0 ≤ y ∧ y ≤ nI 9 := by rcases b43 with z | z | z <;> first | exact z.2 | exact absurd z.1 (by decide)
              have cc := x3.trans v3.1
              have ht : nb (ix (a 131 2)) p ∧ nb (ix (a 131 2)) q ∧ ¬ p = q ∧ nb 4 w ∧ (nI 0 ≤ x ∧ x ≤ nI 20) ∧ nI 0 ≤ y ∧ y ≤ nI 9 := ⟨b2, b10, c18, f25, f34, f43⟩
              refine J_aload_n (pc := 51) dX5_insure_51 rfl ?_
              refine J_getR (pc := 52) dX5_insure_52 fX5_10 sh0 rfl ?_
              refine J_getI (pc := 55) dX5_insure_55 fX5_94 (sv0 isV1) rfl (cc) ?_
              refine J_iconst (pc := 58) (v := nI 5) dX5_insure_58 (by decide) ?_
              refine J_icmp_lt (pc := 59) (tgt := 65) dX5_insure_59 (by decide) (fun c59 => ?_) (fun c59 => ?_)
              · skip
                have q59 : ix (pg a 0 37) < 5 := (nI_ltI (by omega) (by omega)).mp c59
                refine J_aload_n (pc := 65) dX5_insure_65 rfl ?_
                refine J_getR (pc := 66) dX5_insure_66 fX5_10 sh0 rfl ?_
                refine J_iload_n (pc := 69) dX5_insure_69 rfl ?_
                refine J_iload_n (pc := 70) dX5_insure_70 rfl ?_
                refine J_iload_n (pc := 71) dX5_insure_71 rfl ?_
                refine J_iload (pc := 72) dX5_insure_72 rfl ?_
                refine J_iload (pc := 74) dX5_insure_74 rfl ?_
                refine K_Vv5 (pc := 76) (Y' := YX4_addCover) dX5_insure_76 lX5_149 mX4_addCover vX4_addCover ⟨_, _, rfl⟩ (sv0 isV1) (Nat.le_of_ble_eq_true rfl) (c4_addCover isV1 cc (by omega)) ?_
                rintro h0 e0
                rw [e0]
                clear e0 h0
                refine J_aload_n (pc := 79) dX5_insure_79 rfl ?_
                refine J_getR (pc := 80) dX5_insure_80 fX5_10 sh0 rfl ?_
                refine J_getI (pc := 83) dX5_insure_83 fX5_94 (sv0 isV1) rfl ((XV_add (p := p) (q := q) (w := w) (x := x) (y := y) hX hn4 p9 v3.1 q59).2.2.1.trans (addP_at q59).2.2.2.2.2) ?_
                refine J_iconst (pc := 86) (v := nI 1) dX5_insure_86 (by decide) ?_
                refine J_isub (pc := 87) dX5_insure_87 (rfl) ?_
                refine K_iret (pc := 88) dX5_insure_88 rfl ?_
                have ne : ¬ pg a 0 37 = nI 5 := fun z => by
                  have := congrArg ix z
                  rw [ix_nI (by omega)] at this
                  omega
                refine ⟨_, (iteR_t ht).trans (iteR_f ne), RX_now hR0 (XV_add hX hn4 p9 v3.1 q59) ?_ (GD_add hG v3.1 q59 b2 b10 c18 f25 ((in_nbc (n := 20) rfl (by omega)).mp f34) ((in_nbc (n := 9) rfl (by omega)).mp f43)) acH_fr.xs, acH_fr.hi isV1⟩
                rw [acH_ne (by omega) (by omega), addP_ne (by omega) (by omega)]; exact hwk
              · skip
                have q59 : ¬ ix (pg a 0 37) < 5 := fun z => c59 ((nI_ltI (by omega) (by omega)).mpr z)
                refine J_bipush (pc := 62) (v := -3) dX5_insure_62 (by decide) ?_
                refine K_iret (pc := 64) dX5_insure_64 rfl ?_
                exact ⟨a, (iteR_t ht).trans (iteR_t (v3.1.trans (congrArg nI (show ix (pg a 0 37) = 5 by omega)))), hR0, hi.rf⟩
            · skip
              refine J_if_ne (pc := 46) (tgt := 51) dX5_insure_46 (by decide) (fun c => absurd c (by decide)) (fun _ => ?_)
              refine J_iconst (pc := 49) (v := -1) dX5_insure_49 (by decide) ?_
              refine K_iret (pc := 50) dX5_insure_50 rfl ?_
              exact ⟨a, iteR_f (fun z => b43 (Or.inr (Or.inr ⟨rfl, z.2.2.2.2.2⟩))), hR0, hi.rf⟩
          · skip
            refine J_if_eq (pc := 37) (tgt := 49) dX5_insure_37 (by decide) (fun _ => ?_) (fun c => absurd c (by decide))
            refine J_iconst (pc := 49) (v := -1) dX5_insure_49 (by decide) ?_
            refine K_iret (pc := 50) dX5_insure_50 rfl ?_
            exact ⟨a, iteR_f (fun z => b34 (Or.inr (Or.inl ⟨rfl, z.2.2.2.2.1⟩))), hR0, hi.rf⟩
        · skip
          refine J_if_eq (pc := 28) (tgt := 49) dX5_insure_28 (by decide) (fun _ => ?_) (fun c => absurd c (by decide))
          refine J_iconst (pc := 49) (v := -1) dX5_insure_49 (by decide) ?_
          refine K_iret (pc := 50) dX5_insure_50 rfl ?_
          exact ⟨a, iteR_f (fun z => b25 (Or.inl ⟨rfl, z.2.2.2.1⟩)), hR0, hi.rf⟩
      · skip
        refine J_iconst (pc := 21) (v := -1) dX5_insure_21 (by decide) ?_
        refine K_iret (pc := 22) dX5_insure_22 rfl ?_
        exact ⟨a, iteR_f (fun z => z.2.2.1 c18), hR0, hi.rf⟩
    · skip
      refine J_if_eq (pc := 13) (tgt := 21) dX5_insure_13 (by decide) (fun _ => ?_) (fun c => absurd c (by decide))
      refine J_iconst (pc := 21) (v := -1) dX5_insure_21 (by decide) ?_
      refine K_iret (pc := 22) dX5_insure_22 rfl ?_
      exact ⟨a, iteR_f (fun z => b10 z.2.1), hR0, hi.rf⟩
  · skip
    refine J_if_eq (pc := 5) (tgt := 21) dX5_insure_5 (by decide) (fun _ => ?_) (fun c => absurd c (by decide))
    refine J_iconst (pc := 21) (v := -1) dX5_insure_21 (by decide) ?_
    refine K_iret (pc := 22) dX5_insure_22 rfl ?_
    exact ⟨a, iteR_f (fun z => b2 z.1), hR0, hi.rf⟩
set_option maxHeartbeats 4000000 in
theorem l4_rem2 {g : jG} {d : Nat} {h : jH} {Q : kQ} {v c M j : Nat} (hv : isV v) (hM : h v 3 = nI M) (hM5 : M < 5) (hc : c ≤ M) (hj : j < 5) (kx : K g d YX4_removeCover (rcI h v c M j (M - c)) 51 [(0, .ref v), (1, .int (nI c)), (2, .int (nI j)), (3, .int (nI (c + (M - c))))] [] Q) : ∀ (mm k : Nat) , k ≤ (M - c) → (M - c) < k + mm → K g d YX4_removeCover (rcI h v c M j k) 19 [(0, .ref v), (1, .int (nI c)), (2, .int (nI j)), (3, .int (nI (c + k)))] [] Q := by
  intro mm
  induction mm with
  | zero => intro k  hk1 hk2 ; omega
  | succ mm ih =>
    intro k  hk1 hk2 
    refine J_iload_n (pc := 19) dX4_removeCover_19 rfl ?_
    refine J_aload_n (pc := 20) dX4_removeCover_20 rfl ?_
    refine J_getI (pc := 21) dX4_removeCover_21 fX4_39 (sv0 hv) rfl ((rcI_o (by omega)).trans hM) ?_
    refine J_icmp_ge (pc := 24) (tgt := 51) dX4_removeCover_24 (by decide) (fun c24 => ?_) (fun c24 => ?_)
    · skip
      have q24 : M ≤ c + k := (nI_leI (by omega) (by omega)).mp c24
      have e_k : k = (M - c) := by omega
      refine J_ls (ls' := [(0, .ref v), (1, .int (nI c)), (2, .int (nI j)), (3, .int (nI (c + k)))]) ⟨rfl, rfl, rfl, rfl, trivial⟩ ?_
      rw [e_k]
      exact kx
    · skip
      have q24 : c + k < M := Nat.lt_of_not_le (fun z => c24 ((nI_leI (by omega) (by omega)).mpr z))
      refine J_aload_n (pc := 27) dX4_removeCover_27 rfl ?_
      refine J_getR (pc := 28) dX4_removeCover_28 fX4_20 (sv0 hv) rfl ?_
      refine J_iload_n (pc := 31) dX4_removeCover_31 rfl ?_
      refine J_aald (pc := 32) dX4_removeCover_32 (sv5 hv) j_k2 (rfl) (termsR (by omega)) (Nat.le_of_ble_eq_true rfl) ?_
      refine J_iload_n (pc := 33) dX4_removeCover_33 rfl ?_
      refine J_aload_n (pc := 34) dX4_removeCover_34 rfl ?_
      refine J_getR (pc := 35) dX4_removeCover_35 fX4_20 (sv0 hv) rfl ?_
      refine J_iload_n (pc := 38) dX4_removeCover_38 rfl ?_
      refine J_aald (pc := 39) dX4_removeCover_39 (sv5 hv) j_k2 (rfl) (termsR (by omega)) (Nat.le_of_ble_eq_true rfl) ?_
      refine J_iload_n (pc := 40) dX4_removeCover_40 rfl ?_
      refine J_iconst (pc := 41) (v := nI 1) dX4_removeCover_41 (by decide) ?_
      refine J_iadd (pc := 42) dX4_removeCover_42 (nI_add _ _) ?_
      refine J_iald (pc := 43) dX4_removeCover_43 (termsRS hv (by omega)) (rfl) (by omega) (rcI_o (by omega)) (by decide) ?_
      refine J_iast (pc := 44) dX4_removeCover_44 (termsRS hv (by omega)) (rfl) (by omega) (by decide) ?_
      rw [rcI_s q24]
      refine J_iinc (pc := 45) dX4_removeCover_45 rfl (v := nI ((c + k) + 1)) (by exact nI_add _ _) (by decide) ?_
      refine J_goto (pc := 48) (tgt := 19) dX4_removeCover_48 (by decide) ?_
      exact J_ls (ls' := [(0, .ref v), (1, .int (nI c)), (2, .int (nI j)), (3, .int (nI (c + (k + 1))))]) ⟨rfl, rfl, rfl, rfl, trivial⟩ (ih (k + 1)  (by omega) (by omega) )
set_option maxHeartbeats 4000000 in
theorem l4_rem1 {g : jG} {d : Nat} {h : jH} {Q : kQ} {v c M : Nat} (hv : isV v) (hM : h v 3 = nI M) (hM5 : M < 5) (hc : c ≤ M) (kx : K g d YX4_removeCover (rcI h v c M 5 0) 57 [(0, .ref v), (1, .int (nI c)), (2, .int (nI 5))] [] Q) : ∀ (mm k : Nat) , k ≤ 5 → 5 < k + mm → K g d YX4_removeCover (rcI h v c M k 0) 12 [(0, .ref v), (1, .int (nI c)), (2, .int (nI k))] [] Q := by
  intro mm
  induction mm with
  | zero => intro k  hk1 hk2 ; omega
  | succ mm ih =>
    intro k  hk1 hk2 
    refine J_iload_n (pc := 12) dX4_removeCover_12 rfl ?_
    refine J_iconst (pc := 13) (v := nI 5) dX4_removeCover_13 (by decide) ?_
    refine J_icmp_ge (pc := 14) (tgt := 57) dX4_removeCover_14 (by decide) (fun c14 => ?_) (fun c14 => ?_)
    · skip
      have q14 : 5 ≤ k := (nI_leI (by omega) (by omega)).mp c14
      have e_k : k = 5 := by omega
      refine J_ls (ls' := [(0, .ref v), (1, .int (nI c)), (2, .int (nI k))]) ⟨rfl, rfl, rfl, trivial⟩ ?_
      rw [e_k]
      exact kx
    · skip
      have q14 : k < 5 := Nat.lt_of_not_le (fun z => c14 ((nI_leI (by omega) (by omega)).mpr z))
      refine J_iload_n (pc := 17) dX4_removeCover_17 rfl ?_
      refine J_istore_n (pc := 18) dX4_removeCover_18 (by decide) ?_
      refine J_ls (ls' := [(0, .ref v), (1, .int (nI c)), (2, .int (nI k)), (3, .int (nI (c + 0)))]) ⟨rfl, rfl, rfl, rfl, trivial⟩ ?_
      refine l4_rem2 hv hM hM5 hc q14 ?_ (M - c + 1) 0 (Nat.zero_le _) (by omega)
      rw [rcI_n hc]
      refine J_iinc (pc := 51) dX4_removeCover_51 rfl (v := nI (k + 1)) (by exact nI_add _ _) (by decide) ?_
      refine J_goto (pc := 54) (tgt := 12) dX4_removeCover_54 (by decide) ?_
      exact J_ls (ls' := [(0, .ref v), (1, .int (nI c)), (2, .int (nI (k + 1)))]) ⟨rfl, rfl, rfl, trivial⟩ (ih (k + 1) (by omega) (by omega))
set_option maxHeartbeats 4000000 in
theorem c4_removeCover {g : jG} {d : Nat} {h : jH} {v c m : Nat} (hv : isV v) (hm : h v 3 = nI m) (hm6 : m < 6) (hc : c < m) : Mv g d YX4_removeCover h [.ref v, .int (nI c)] (fun h' => h' = rcH h v c (m - 1)) := by
  refine M.of (by decide) rfl (Nat.le_of_ble_eq_true rfl) ?_
  refine J_aload_n (pc := 0) dX4_removeCover_0 rfl ?_
  refine J_dup (pc := 1) dX4_removeCover_1 rfl ?_
  refine J_getI (pc := 2) dX4_removeCover_2 fX4_39 (sv0 hv) rfl (hm) ?_
  refine J_iconst (pc := 5) (v := nI 1) dX4_removeCover_5 (by decide) ?_
  refine J_isub (pc := 6) dX4_removeCover_6 (pred_nI (by omega) (by omega)) ?_
  refine J_putI (pc := 7) dX4_removeCover_7 fX4_39 (sv0 hv) rfl ?_
  refine J_iconst (pc := 10) (v := nI 0) dX4_removeCover_10 (by decide) ?_
  refine J_istore_n (pc := 11) dX4_removeCover_11 (by decide) ?_
  refine J_h (h' := rcI (j_up h v 3 (nI (m - 1))) v c (m - 1) 0 0) (by rw [rcI_0]) ?_
  refine J_ls (ls' := [(0, .ref v), (1, .int (nI c)), (2, .int (nI 0))]) ⟨rfl, rfl, rfl, trivial⟩ ?_
  refine l4_rem1 hv j_up_s (by omega) (by omega) ?_ 6 0 (Nat.zero_le _) (by omega)
  refine K_ret (pc := 57) dX4_removeCover_57 rfl ?_
  exact rfl
set_option maxHeartbeats 4000000 in
theorem c5_drop {g : jG} {d : Nat} {a h : jH} {c : Int32} (hR : RX a h) : Mi g (d + 3) YX5_drop h [.ref 0, .int c] (fun r h' => ∃ a', oDrop a c = (r, a') ∧ RX a' h' ∧ hi h h') := by
  refine M.of (by decide) rfl (Nat.le_of_ble_eq_true rfl) ?_
  have hR0 := hR
  have hG := hR.1.2.2.2
  obtain ⟨⟨r1, hX, hwk, ⟨⟨v1, v2, v3, v4⟩, v5, v6, v7, v8, v9, va, vb, vc, vd⟩⟩, rK, rT, rS, rH, ⟨r8, r8b, r9, ra⟩⟩ := hR
  obtain ⟨x1, x2, x3, x4, x5, x6, x7, x8, x9⟩ := id hX
  have hn4 := v1
  have n5 := r1.2
  have c6 := v3.2
  have p9 := v5.2
  refine J_aload_n (pc := 0) dX5_drop_0 rfl ?_
  refine J_iload_n (pc := 1) dX5_drop_1 rfl ?_
  refine K_Vi1 (pc := 2) (Y' := YX5_isCover) dX5_drop_2 lX5_127 mX5_isCover vX5_isCover ⟨_, _, rfl⟩ sh0 (Nat.le_of_ble_eq_true rfl) (c5_isCover (x := c) (x3.trans v3.1) (by omega)) ?_
  rintro x h0 ⟨e0, ⟨rfl, b2⟩ | ⟨rfl, b2⟩⟩ <;> rw [e0] <;> clear e0 h0
  · skip
    refine J_if_ne (pc := 5) (tgt := 10) dX5_drop_5 (by decide) (fun _ => ?_) (fun c => absurd c (by decide))
    have qc := b2.2
    refine J_ls (ls' := [(0, .ref 0), (1, .int (nI (ix c)))]) ⟨rfl, congrArg (fun z => some (Value.int z)) b2.1, trivial⟩ ?_
    refine J_aload_n (pc := 10) dX5_drop_10 rfl ?_
    refine J_getR (pc := 11) dX5_drop_11 fX5_10 sh0 rfl ?_
    refine J_iload_n (pc := 14) dX5_drop_14 rfl ?_
    refine K_Vv1 (pc := 15) (Y' := YX4_removeCover) dX5_drop_15 lX5_153 mX4_removeCover vX4_removeCover ⟨_, _, rfl⟩ (sv0 isV1) (Nat.le_of_ble_eq_true rfl) (c4_removeCover isV1 (x3.trans v3.1) c6 b2.2) ?_
    rintro h0 e0
    rw [e0]
    clear e0 h0
    refine J_aload_n (pc := 18) dX5_drop_18 rfl ?_
    refine J_getR (pc := 19) dX5_drop_19 fX5_10 sh0 rfl ?_
    refine J_getI (pc := 22) dX5_drop_22 fX5_94 (sv0 isV1) rfl ((XV_drop (c := ix c) hX hn4 p9 v3.1 c6 b2.2).2.2.1.trans dropP_37) ?_
    refine K_iret (pc := 25) dX5_drop_25 rfl ?_
    refine ⟨_, iteR_t b2, RX_now hR0 (XV_drop hX hn4 p9 v3.1 c6 b2.2) ?_ (GD_drop hG v3.1 c6 b2.2) rcH_fr.xs, rcH_fr.hi isV1⟩
    rw [rcH_fr.2, dropP_ne (by omega) (by omega)]; exact hwk
  · skip
    refine J_if_ne (pc := 5) (tgt := 10) dX5_drop_5 (by decide) (fun c => absurd c (by decide)) (fun _ => ?_)
    refine J_iconst (pc := 8) (v := -1) dX5_drop_8 (by decide) ?_
    refine K_iret (pc := 9) dX5_drop_9 rfl ?_
    exact ⟨a, iteR_f b2, hR0, hi.rf⟩
set_option maxHeartbeats 4000000 in
theorem c5_shift {g : jG} {d : Nat} {a h : jH} {w u : Int32} (hR : RX a h) : Mi g (d + 3) YX5_shift h [.ref 0, .int w, .int u] (fun r h' => ∃ a', oShift a w u = (r, a') ∧ RX a' h' ∧ hi h h') := by
  refine M.of (by decide) rfl (Nat.le_of_ble_eq_true rfl) ?_
  have hR0 := hR
  have hG := hR.1.2.2.2
  obtain ⟨⟨r1, hX, hwk, ⟨⟨v1, v2, v3, v4⟩, v5, v6, v7, v8, v9, va, vb, vc, vd⟩⟩, rK, rT, rS, rH, ⟨r8, r8b, r9, ra⟩⟩ := hR
  obtain ⟨x1, x2, x3, x4, x5, x6, x7, x8, x9⟩ := id hX
  have hn4 := v1
  have n5 := r1.2
  have c6 := v3.2
  have p9 := v5.2
  refine J_iload_n (pc := 0) dX5_shift_0 rfl ?_
  refine K_Si1 (pc := 1) (Y' := YX5_isWeather) dX5_shift_1 lX5_121 mX5_isWeather sX5_isWeather (Nat.le_of_ble_eq_true rfl) (c5_isWeather (x := w)) ?_
  rintro x h0 ⟨e0, ⟨rfl, b1⟩ | ⟨rfl, b1⟩⟩ <;> rw [e0] <;> clear e0 h0
  · skip
    refine J_if_eq (pc := 4) (tgt := 19) dX5_shift_4 (by decide) (fun c => absurd c (by decide)) (fun _ => ?_)
    refine J_iload_n (pc := 7) dX5_shift_7 rfl ?_
    refine K_Si1 (pc := 8) (Y' := YX5_isWeather) dX5_shift_8 lX5_121 mX5_isWeather sX5_isWeather (Nat.le_of_ble_eq_true rfl) (c5_isWeather (x := u)) ?_
    rintro x h0 ⟨e0, ⟨rfl, b8⟩ | ⟨rfl, b8⟩⟩ <;> rw [e0] <;> clear e0 h0
    · skip
      refine J_if_eq (pc := 11) (tgt := 19) dX5_shift_11 (by decide) (fun c => absurd c (by decide)) (fun _ => ?_)
      refine J_iload_n (pc := 14) dX5_shift_14 rfl ?_
      refine J_iload_n (pc := 15) dX5_shift_15 rfl ?_
      refine J_icmp_ne (pc := 16) (tgt := 21) dX5_shift_16 (by decide) (fun c16 => ?_) (fun c16 => ?_)
      · skip
        have qw := b1.2
        have qu := b8.2
        refine J_ls (ls' := [(0, .ref 0), (1, .int (nI (ix w))), (2, .int (nI (ix u)))]) ⟨rfl, congrArg (fun z => some (Value.int z)) b1.1, congrArg (fun z => some (Value.int z)) b8.1, trivial⟩ ?_
        have hwu : ix w ≠ ix u := fun z => c16 (b1.1.trans ((congrArg nI z).trans b8.1.symm))
        refine J_aload_n (pc := 21) dX5_shift_21 rfl ?_
        refine J_getR (pc := 22) dX5_shift_22 fX5_10 sh0 rfl ?_
        refine J_getR (pc := 25) dX5_shift_25 fX5_133 (sv0 isV1) rfl ?_
        refine J_iload_n (pc := 28) dX5_shift_28 rfl ?_
        refine J_iald (pc := 29) dX5_shift_29 (sv11 isV1) (rfl) (b1.2) (x5 _ b1.2) (by decide) ?_
        refine J_if_ne (pc := 30) (tgt := 36) dX5_shift_30 (by decide) (fun c30 => ?_) (fun c30 => ?_)
        · skip
          refine J_aload_n (pc := 36) dX5_shift_36 rfl ?_
          refine J_getR (pc := 37) dX5_shift_37 fX5_10 sh0 rfl ?_
          refine J_getR (pc := 40) dX5_shift_40 fX5_133 (sv0 isV1) rfl ?_
          refine J_iload_n (pc := 43) dX5_shift_43 rfl ?_
          refine J_dup2 (pc := 44) dX5_shift_44 rfl rfl ?_
          refine J_iald (pc := 45) dX5_shift_45 (sv11 isV1) (rfl) (b1.2) (rfl) (by decide) ?_
          refine J_iconst (pc := 46) (v := nI 1) dX5_shift_46 (by decide) ?_
          refine J_isub (pc := 47) dX5_shift_47 (rfl) ?_
          refine J_iast (pc := 48) dX5_shift_48 (sv11 isV1) (rfl) (b1.2) (by decide) ?_
          refine J_aload_n (pc := 49) dX5_shift_49 rfl ?_
          refine J_getR (pc := 50) dX5_shift_50 fX5_10 sh0 rfl ?_
          refine J_getR (pc := 53) dX5_shift_53 fX5_133 (sv0 isV1) rfl ?_
          refine J_iload_n (pc := 56) dX5_shift_56 rfl ?_
          refine J_dup2 (pc := 57) dX5_shift_57 rfl rfl ?_
          refine J_iald (pc := 58) dX5_shift_58 (sv11 isV1) (rfl) (b8.2) (j_up_o (by omega)) (by decide) ?_
          refine J_iconst (pc := 59) (v := nI 1) dX5_shift_59 (by decide) ?_
          refine J_iadd (pc := 60) dX5_shift_60 (rfl) ?_
          refine J_iast (pc := 61) dX5_shift_61 (sv11 isV1) (rfl) (b8.2) (by decide) ?_
          refine J_aload_n (pc := 62) dX5_shift_62 rfl ?_
          refine J_getR (pc := 63) dX5_shift_63 fX5_10 sh0 rfl ?_
          refine J_getR (pc := 66) dX5_shift_66 fX5_133 (sv0 isV1) rfl ?_
          refine J_iload_n (pc := 69) dX5_shift_69 rfl ?_
          refine J_iald (pc := 70) dX5_shift_70 (sv11 isV1) (rfl) (b8.2) (j_up_s) (by decide) ?_
          refine K_iret (pc := 71) dX5_shift_71 rfl ?_
          refine ⟨_, ((iteR_t ⟨b1, b8, c16⟩).trans (iteR_f c30)).trans ?_, RX_now hR0 (XV_shift hX hG b1.2 b8.2 hwu) ?_ (GD_shift hG b1.2 b8.2 hwu c30) (xs_up (xs_up xs.rf (by omega)) (by omega)), hi_upt (hi_up (by omega)) (by omega)⟩
          · rw [x5 _ b8.2, Int32.add_assoc, Int32.add_assoc, Int32.add_comm (nI 1)]
          · rw [j_up_o (by omega), j_up_o (by omega), shiftP_ne (by omega) (by omega)]; exact hwk
        · skip
          refine J_bipush (pc := 33) (v := -2) dX5_shift_33 (by decide) ?_
          refine K_iret (pc := 35) dX5_shift_35 rfl ?_
          exact ⟨a, (iteR_t ⟨b1, b8, c16⟩).trans (iteR_t c30), hR0, hi.rf⟩
      · skip
        refine J_iconst (pc := 19) (v := -1) dX5_shift_19 (by decide) ?_
        refine K_iret (pc := 20) dX5_shift_20 rfl ?_
        exact ⟨a, iteR_f (fun z => z.2.2 c16), hR0, hi.rf⟩
    · skip
      refine J_if_eq (pc := 11) (tgt := 19) dX5_shift_11 (by decide) (fun _ => ?_) (fun c => absurd c (by decide))
      refine J_iconst (pc := 19) (v := -1) dX5_shift_19 (by decide) ?_
      refine K_iret (pc := 20) dX5_shift_20 rfl ?_
      exact ⟨a, iteR_f (fun z => b8 z.2.1), hR0, hi.rf⟩
  · skip
    refine J_if_eq (pc := 4) (tgt := 19) dX5_shift_4 (by decide) (fun _ => ?_) (fun c => absurd c (by decide))
    refine J_iconst (pc := 19) (v := -1) dX5_shift_19 (by decide) ?_
    refine K_iret (pc := 20) dX5_shift_20 rfl ?_
    exact ⟨a, iteR_f (fun z => b1 z.1), hR0, hi.rf⟩
set_option maxHeartbeats 4000000 in
theorem c5_floor {g : jG} {d : Nat} {a h : jH} {v : Int32} (hR : RX a h) : Mi g (d + 3) YX5_floor h [.ref 0, .int v] (fun r h' => ∃ a', oFloor a v = (r, a') ∧ RX a' h' ∧ hi h h') := by
  refine M.of (by decide) rfl (Nat.le_of_ble_eq_true rfl) ?_
  have hR0 := hR
  have hG := hR.1.2.2.2
  obtain ⟨⟨r1, hX, hwk, ⟨⟨v1, v2, v3, v4⟩, v5, v6, v7, v8, v9, va, vb, vc, vd⟩⟩, rK, rT, rS, rH, ⟨r8, r8b, r9, ra⟩⟩ := hR
  obtain ⟨x1, x2, x3, x4, x5, x6, x7, x8, x9⟩ := id hX
  have hn4 := v1
  have n5 := r1.2
  have c6 := v3.2
  have p9 := v5.2
  refine J_iload_n (pc := 0) dX5_floor_0 rfl ?_
  refine J_iconst (pc := 1) (v := nI 0) dX5_floor_1 (by decide) ?_
  refine J_bipush (pc := 2) (v := nI 99) dX5_floor_2 (by decide) ?_
  refine K_Si3 (pc := 4) (Y' := YX5_within) dX5_floor_4 lX5_63 mX5_within sX5_within (Nat.le_of_ble_eq_true rfl) (c5_within) ?_
  rintro x h0 ⟨e0, ⟨rfl, b4⟩ | ⟨rfl, b4⟩⟩ <;> rw [e0] <;> clear e0 h0
  · skip
    refine J_if_ne (pc := 7) (tgt := 12) dX5_floor_7 (by decide) (fun _ => ?_) (fun c => absurd c (by decide))
    refine J_aload_n (pc := 12) dX5_floor_12 rfl ?_
    refine J_getR (pc := 13) dX5_floor_13 fX5_10 sh0 rfl ?_
    refine J_getI (pc := 16) dX5_floor_16 fX5_97 (sv0 isV1) rfl (x6) ?_
    refine J_istore_n (pc := 19) dX5_floor_19 (by decide) ?_
    refine J_aload_n (pc := 20) dX5_floor_20 rfl ?_
    refine J_getR (pc := 21) dX5_floor_21 fX5_10 sh0 rfl ?_
    refine J_iload_n (pc := 24) dX5_floor_24 rfl ?_
    refine J_putI (pc := 25) dX5_floor_25 fX5_97 (sv0 isV1) rfl ?_
    refine J_iload_n (pc := 28) dX5_floor_28 rfl ?_
    refine K_iret (pc := 29) dX5_floor_29 rfl ?_
    refine ⟨_, iteR_t b4, RX_now hR0 (XV_floor hX hG) ?_ (GD_floor hG ((in_nbc (n := 99) rfl (by omega)).mp b4)) (xs_up xs.rf (by omega)), hi_up (by omega)⟩
    rw [j_up_o (by omega), upd_ne (by omega)]; exact hwk
  · skip
    refine J_if_ne (pc := 7) (tgt := 12) dX5_floor_7 (by decide) (fun c => absurd c (by decide)) (fun _ => ?_)
    refine J_iconst (pc := 10) (v := -1) dX5_floor_10 (by decide) ?_
    refine K_iret (pc := 11) dX5_floor_11 rfl ?_
    exact ⟨a, iteR_f b4, hR0, hi.rf⟩
set_option maxHeartbeats 4000000 in
theorem c5_cut {g : jG} {d : Nat} {a h : jH} {n : Int32} (hR : RX a h) : Mi g (d + 3) YX5_cut h [.ref 0, .int n] (fun r h' => ∃ a', oCut a n = (r, a') ∧ RX a' h' ∧ hi h h') := by
  refine M.of (by decide) rfl (Nat.le_of_ble_eq_true rfl) ?_
  have hR0 := hR
  have hG := hR.1.2.2.2
  obtain ⟨⟨r1, hX, hwk, ⟨⟨v1, v2, v3, v4⟩, v5, v6, v7, v8, v9, va, vb, vc, vd⟩⟩, rK, rT, rS, rH, ⟨r8, r8b, r9, ra⟩⟩ := hR
  obtain ⟨x1, x2, x3, x4, x5, x6, x7, x8, x9⟩ := id hX
  have hn4 := v1
  have n5 := r1.2
  have c6 := v3.2
  have p9 := v5.2
  refine J_iload_n (pc := 0) dX5_cut_0 rfl ?_
  refine J_iconst (pc := 1) (v := nI 0) dX5_cut_1 (by decide) ?_
  refine J_aload_n (pc := 2) dX5_cut_2 rfl ?_
  refine J_getR (pc := 3) dX5_cut_3 fX5_10 sh0 rfl ?_
  refine J_getI (pc := 6) dX5_cut_6 fX5_103 (sv0 isV1) rfl (x7) ?_
  refine K_Si3 (pc := 9) (Y' := YX5_within) dX5_cut_9 lX5_63 mX5_within sX5_within (Nat.le_of_ble_eq_true rfl) (c5_within) ?_
  rintro x h0 ⟨e0, ⟨rfl, b9⟩ | ⟨rfl, b9⟩⟩ <;> rw [e0] <;> clear e0 h0
  · skip
    have bx : nb (ix (pg a 0 51) + 1) n := (in_nbc (n := ix (pg a 0 51)) v5.1 (by omega)).mp b9
    have bx2 := bx.2
    refine J_if_ne (pc := 12) (tgt := 17) dX5_cut_12 (by decide) (fun _ => ?_) (fun c => absurd c (by decide))
    refine J_aload_n (pc := 17) dX5_cut_17 rfl ?_
    refine J_getR (pc := 18) dX5_cut_18 fX5_10 sh0 rfl ?_
    refine J_getI (pc := 21) dX5_cut_21 fX5_103 (sv0 isV1) rfl (x7) ?_
    refine J_istore_n (pc := 24) dX5_cut_24 (by decide) ?_
    refine J_aload_n (pc := 25) dX5_cut_25 rfl ?_
    refine J_getR (pc := 26) dX5_cut_26 fX5_10 sh0 rfl ?_
    refine J_iload_n (pc := 29) dX5_cut_29 rfl ?_
    refine J_putI (pc := 30) dX5_cut_30 fX5_103 (sv0 isV1) rfl ?_
    refine J_iload_n (pc := 33) dX5_cut_33 rfl ?_
    refine K_iret (pc := 34) dX5_cut_34 rfl ?_
    refine ⟨_, iteR_t b9, RX_now hR0 (XV_cut hX hG (by omega)) ?_ (GD_cut hG (nb_le bx (by omega)) (by omega)) (xs_up xs.rf (by omega)), hi_up (by omega)⟩
    rw [j_up_o (by omega), upd_ne (by omega)]; exact hwk
  · skip
    refine J_if_ne (pc := 12) (tgt := 17) dX5_cut_12 (by decide) (fun c => absurd c (by decide)) (fun _ => ?_)
    refine J_iconst (pc := 15) (v := -1) dX5_cut_15 (by decide) ?_
    refine K_iret (pc := 16) dX5_cut_16 rfl ?_
    exact ⟨a, iteR_f b9, hR0, hi.rf⟩
set_option maxHeartbeats 4000000 in
theorem c5_plan {g : jG} {d : Nat} {a h : jH} {w : Int32} (hR : RX a h) : Mi g (d + 3) YX5_plan h [.ref 0, .int w] (fun r h' => ∃ a', oPlan a w = (r, a') ∧ RX a' h' ∧ hi h h') := by
  refine M.of (by decide) rfl (Nat.le_of_ble_eq_true rfl) ?_
  have hR0 := hR
  have hG := hR.1.2.2.2
  obtain ⟨⟨r1, hX, hwk, ⟨⟨v1, v2, v3, v4⟩, v5, v6, v7, v8, v9, va, vb, vc, vd⟩⟩, rK, rT, rS, rH, ⟨r8, r8b, r9, ra⟩⟩ := hR
  obtain ⟨x1, x2, x3, x4, x5, x6, x7, x8, x9⟩ := id hX
  have hn4 := v1
  have n5 := r1.2
  have c6 := v3.2
  have p9 := v5.2
  refine J_iload_n (pc := 0) dX5_plan_0 rfl ?_
  refine K_Si1 (pc := 1) (Y' := YX5_isWeather) dX5_plan_1 lX5_121 mX5_isWeather sX5_isWeather (Nat.le_of_ble_eq_true rfl) (c5_isWeather (x := w)) ?_
  rintro x h0 ⟨e0, ⟨rfl, b1⟩ | ⟨rfl, b1⟩⟩ <;> rw [e0] <;> clear e0 h0
  · skip
    refine J_if_ne (pc := 4) (tgt := 9) dX5_plan_4 (by decide) (fun _ => ?_) (fun c => absurd c (by decide))
    refine J_aload_n (pc := 9) dX5_plan_9 rfl ?_
    refine J_getR (pc := 10) dX5_plan_10 fX5_10 sh0 rfl ?_
    refine J_getI (pc := 13) dX5_plan_13 fX5_103 (sv0 isV1) rfl (x7.trans v5.1) ?_
    refine J_bipush (pc := 16) (v := nI 8) dX5_plan_16 (by decide) ?_
    refine J_icmp_lt (pc := 18) (tgt := 24) dX5_plan_18 (by decide) (fun c18 => ?_) (fun c18 => ?_)
    · skip
      have q18 : ix (pg a 0 51) < 8 := (nI_ltI (by omega) (by omega)).mp c18
      refine J_aload_n (pc := 24) dX5_plan_24 rfl ?_
      refine J_getR (pc := 25) dX5_plan_25 fX5_10 sh0 rfl ?_
      refine J_iload_n (pc := 28) dX5_plan_28 rfl ?_
      refine K_Vv1 (pc := 29) (Y' := YX4_addPlanned) dX5_plan_29 lX5_157 mX4_addPlanned vX4_addPlanned ⟨_, _, rfl⟩ (sv0 isV1) (Nat.le_of_ble_eq_true rfl) (c4_addPlanned isV1 (x7.trans v5.1) q18) ?_
      rintro h0 e0
      rw [e0]
      clear e0 h0
      refine J_aload_n (pc := 32) dX5_plan_32 rfl ?_
      refine J_getR (pc := 33) dX5_plan_33 fX5_10 sh0 rfl ?_
      refine J_getI (pc := 36) dX5_plan_36 fX5_103 (sv0 isV1) rfl (j_up_s) ?_
      refine K_iret (pc := 39) dX5_plan_39 rfl ?_
      have ne : ¬ pg a 0 51 = nI 8 := fun z => by
        have := congrArg ix z
        rw [ix_nI (by omega)] at this
        omega
      refine ⟨_, ((iteR_t b1).trans (iteR_f ne)).trans (by rw [← v5.1]), RX_now hR0 (XV_plan hX hn4 c6 v5.1 q18) ?_ (GD_plan hG v5.1 q18 b1) (xs_up (xs_up xs.rf (by omega)) (by omega)), hi_upt (hi_up (by omega)) (by omega)⟩
      rw [j_up_o (by omega), j_up_o (by omega)]
      unfold planP
      rw [upd_ne (by omega), upd_ne (by omega)]; exact hwk
    · skip
      have q18 : ¬ ix (pg a 0 51) < 8 := fun z => c18 ((nI_ltI (by omega) (by omega)).mpr z)
      refine J_bipush (pc := 21) (v := -3) dX5_plan_21 (by decide) ?_
      refine K_iret (pc := 23) dX5_plan_23 rfl ?_
      exact ⟨a, (iteR_t b1).trans (iteR_t (v5.1.trans (congrArg nI (show ix (pg a 0 51) = 8 by omega)))), hR0, hi.rf⟩
  · skip
    refine J_if_ne (pc := 4) (tgt := 9) dX5_plan_4 (by decide) (fun c => absurd c (by decide)) (fun _ => ?_)
    refine J_iconst (pc := 7) (v := -1) dX5_plan_7 (by decide) ?_
    refine K_iret (pc := 8) dX5_plan_8 rfl ?_
    exact ⟨a, iteR_f b1, hR0, hi.rf⟩
/-- a week that counts -/
def gwQ (n : Nat) (P : Nat → Int32) (h : jH) (v : Nat) (w r : Int32) (h' : jH) : Prop :=
  (¬ nb 4 w ∧ r = -1 ∧ h' = h) ∨ (nb 4 w ∧ P 52 = nI 999 ∧ r = -3 ∧ h' = h) ∨ (nb 4 w ∧ ¬ P 52 = nI 999 ∧ r = (weekP n (γP P (ix w)) (ix w) P).2 ∧ XV n (weekP n (γP P (ix w)) (ix w) P).1 h' v ∧ h' v 9 = (weekP n (γP P (ix w)) (ix w) P).1 52 ∧ GD n (weekP n (γP P (ix w)) (ix w) P).1 ∧ ∀ b, (b < v ∨ v + 18 ≤ b) → h' b = h b)
set_option maxHeartbeats 4000000 in
theorem c4_goWeek {g : jG} {d : Nat} {h : jH} {v n : Nat} {P : Nat → Int32} {w : Int32} (hv : isV v) (hX : XV n P h v) (hG : GD n P) (hwk : h v 9 = P 52) : Mi g (d + 2) YX4_goWeek h [.ref v, .int w] (fun r h' => gwQ n P h v w r h') := by
  refine M.of (by decide) rfl (Nat.le_of_ble_eq_true rfl) ?_
  refine J_iload_n (pc := 0) dX4_goWeek_0 rfl ?_
  refine K_Si1 (pc := 1) (Y' := YX5_isWeather) dX4_goWeek_1 lX4_73 mX5_isWeather sX5_isWeather (Nat.le_of_ble_eq_true rfl) (c5_isWeather (x := w)) ?_
  rintro x h0 ⟨e0, ⟨rfl, b1⟩ | ⟨rfl, b1⟩⟩ <;> rw [e0] <;> clear e0 h0
  · skip
    refine J_if_ne (pc := 4) (tgt := 9) dX4_goWeek_4 (by decide) (fun _ => ?_) (fun c => absurd c (by decide))
    refine J_aload_n (pc := 9) dX4_goWeek_9 rfl ?_
    refine J_getI (pc := 10) dX4_goWeek_10 fX4_48 (sv0 hv) rfl (hwk) ?_
    refine J_sipush (pc := 13) (v := nI 999) dX4_goWeek_13 (by decide) ?_
    refine J_icmp_lt (pc := 16) (tgt := 22) dX4_goWeek_16 (by decide) (fun c16 => ?_) (fun c16 => ?_)
    · skip
      have n52 := hG.2.2.2.2.2.2.2.2.1
      have ne : ¬ P 52 = nI 999 := fun z => by
        rw [z] at c16
        exact absurd c16 (by decide)
      have qw := b1.2
      refine J_ls (ls' := [(0, .ref v), (1, .int (nI (ix w)))]) ⟨rfl, congrArg (fun z => some (Value.int z)) b1.1, trivial⟩ ?_
      refine J_aload_n (pc := 22) dX4_goWeek_22 rfl ?_
      refine J_dup (pc := 23) dX4_goWeek_23 rfl ?_
      refine J_getI (pc := 24) dX4_goWeek_24 fX4_48 (sv0 hv) rfl (hwk) ?_
      refine J_iconst (pc := 27) (v := nI 1) dX4_goWeek_27 (by decide) ?_
      refine J_iadd (pc := 28) dX4_goWeek_28 (rfl) ?_
      refine J_putI (pc := 29) dX4_goWeek_29 fX4_48 (sv0 hv) rfl ?_
      refine J_aload_n (pc := 32) dX4_goWeek_32 rfl ?_
      refine J_iload_n (pc := 33) dX4_goWeek_33 rfl ?_
      refine K_Vi1 (pc := 34) (Y' := YX4_live) dX4_goWeek_34 lX4_77 mX4_live vX4_live ⟨_, _, rfl⟩ (sv0 hv) (Nat.le_of_ble_eq_true rfl) (c4_live hv (XV_9 hX) hG.1 hG.2.1.2 b1.2) ?_
      rintro r h0 ⟨e1, e2, e3⟩
      rw [e2]
      refine K_iret (pc := 37) dX4_goWeek_37 rfl ?_
      have e52 : (liveP n (ix w) P).1 52 = P 52 := liveP_keep hG.1 (by omega)
      have g52 := GD_live (w := ix w) hG
      have n52 := hG.2.2.2.2.2.2.2.2.1
      have q52 := n52.2
      have lt : ix (P 52) ≠ 999 := fun z => ne (n52.1.trans (congrArg nI z))
      refine Or.inr (Or.inr ⟨b1, ne, rfl, ?_, ?_, ?_, fun b hb => ?_⟩)
      · rw [weekP_live]
        exact XV_52 e1 hG.1.1 g52.1.2.2.1.2 g52.2.1.2
      · rw [weekP_live]
        show _ = upd (liveP n (ix w) P).1 52 ((liveP n (ix w) P).1 52 + nI 1) 52
        rw [upd_at, e52, e3 v (by omega) (by omega), j_up_s]
      · rw [weekP_live]
        refine GD_52 g52 ?_
        rw [e52]
        exact nb_le (ix_suc n52 (by omega)).1 (by rw [(ix_suc n52 (by omega)).2]; omega)
      · rw [e3 b (by omega) (by omega), j_up_ne b (by omega)]
    · skip
      have n52 := hG.2.2.2.2.2.2.2.2.1
      have q52 := n52.2
      have e9 : P 52 = nI 999 := by
        rw [n52.1] at c16
        have z : ¬ ix (P 52) < 999 := fun z => c16 ((nI_ltI (by omega) (by omega)).mpr z)
        exact n52.1.trans (congrArg nI (show ix (P 52) = 999 by omega))
      refine J_bipush (pc := 19) (v := -3) dX4_goWeek_19 (by decide) ?_
      refine K_iret (pc := 21) dX4_goWeek_21 rfl ?_
      exact Or.inr (Or.inl ⟨b1, e9, rfl, rfl⟩)
  · skip
    refine J_if_ne (pc := 4) (tgt := 9) dX4_goWeek_4 (by decide) (fun c => absurd c (by decide)) (fun _ => ?_)
    refine J_iconst (pc := 7) (v := -1) dX4_goWeek_7 (by decide) ?_
    refine K_iret (pc := 8) dX4_goWeek_8 rfl ?_
    exact Or.inl ⟨b1, rfl, rfl⟩
set_option maxHeartbeats 4000000 in
theorem c5_week {g : jG} {d : Nat} {a h : jH} {w : Int32} (hR : RX a h) : Mi g (d + 3) YX5_week h [.ref 0, .int w] (fun r h' => ∃ a', oWeek a w = (r, a') ∧ RX a' h' ∧ hi h h') := by
  refine M.of (by decide) rfl (Nat.le_of_ble_eq_true rfl) ?_
  have hR0 := hR
  have hG := hR.1.2.2.2
  obtain ⟨⟨r1, hX, hwk, ⟨⟨v1, v2, v3, v4⟩, v5, v6, v7, v8, v9, va, vb, vc, vd⟩⟩, rK, rT, rS, rH, ⟨r8, r8b, r9, ra⟩⟩ := hR
  obtain ⟨x1, x2, x3, x4, x5, x6, x7, x8, x9⟩ := id hX
  have hn4 := v1
  have n5 := r1.2
  have c6 := v3.2
  have p9 := v5.2
  refine J_aload_n (pc := 0) dX5_week_0 rfl ?_
  refine J_getR (pc := 1) dX5_week_1 fX5_10 sh0 rfl ?_
  refine J_iload_n (pc := 4) dX5_week_4 rfl ?_
  refine K_Vi1 (pc := 5) (Y' := YX4_goWeek) dX5_week_5 lX5_160 mX4_goWeek vX4_goWeek ⟨_, _, rfl⟩ (sv0 isV1) (Nat.le_of_ble_eq_true rfl) (c4_goWeek (w := w) isV1 hX hG hwk) ?_
  rintro r h0 (⟨e1, rfl, rfl⟩ | ⟨e1, e2, rfl, rfl⟩ | ⟨e1, e2, rfl, e3, e4, e5, e6⟩) <;> refine K_iret (pc := 8) dX5_week_8 rfl ?_
  · exact ⟨a, iteR_f e1, hR0, hi.rf⟩
  · exact ⟨a, (iteR_t e1).trans (iteR_t e2), hR0, hi.rf⟩
  · exact ⟨_, (iteR_t e1).trans (iteR_f e2), RX_now hR0 e3 e4 e5 (fun b hb => e6 b (by omega)), fun b hb => e6 b (by omega)⟩
def cdI (h : jH) (v p q : Nat) : jH := fun b j => if (v + 14 ≤ b ∧ b < v + 14 + p ∧ j < 4) ∨ (b = v + 14 + p ∧ j < q) then 0 else h b j
theorem cdI_0 {h : jH} {v : Nat} : cdI h v 0 0 = h := by
  funext b j
  simp only [cdI, show ¬ ((v + 14 ≤ b ∧ b < v + 14 + 0 ∧ j < 4) ∨ (b = v + 14 + 0 ∧ j < 0)) by omega, if_false]
theorem cdI_n {h : jH} {v p : Nat} : cdI h v p 4 = cdI h v (p + 1) 0 := by
  funext b j
  have : ((v + 14 ≤ b ∧ b < v + 14 + p ∧ j < 4) ∨ (b = v + 14 + p ∧ j < 4)) ↔ ((v + 14 ≤ b ∧ b < v + 14 + (p + 1) ∧ j < 4) ∨ (b = v + 14 + (p + 1) ∧ j < 0)) := by omega
  simp only [cdI, this]
theorem cdI_s {h : jH} {v p q : Nat} : j_up (cdI h v p q) (v + 14 + p) q (nI 0) = cdI h v p (q + 1) := by
  funext b j
  unfold j_up
  by_cases z : b = v + 14 + p ∧ j = q
  · obtain ⟨rfl, rfl⟩ := z
    rw [if_pos ⟨rfl, rfl⟩, cdI, if_pos (by omega)]; rfl
  · rw [if_neg z]
    have : ((v + 14 ≤ b ∧ b < v + 14 + p ∧ j < 4) ∨ (b = v + 14 + p ∧ j < q)) ↔ ((v + 14 ≤ b ∧ b < v + 14 + p ∧ j < 4) ∨ (b = v + 14 + p ∧ j < q + 1)) := by omega
    simp only [cdI, this]
theorem cdI_o {h : jH} {v b : Nat} (hb : b < v + 14 ∨ v + 18 ≤ b) : cdI h v 4 0 b = h b := by
  funext j
  simp only [cdI, show ¬ ((v + 14 ≤ b ∧ b < v + 14 + 4 ∧ j < 4) ∨ (b = v + 14 + 4 ∧ j < 0)) by omega, if_false]
theorem cdI_z {h : jH} {v p q : Nat} (hp : p < 4) (hq : q < 4) : cdI h v 4 0 (v + 14 + p) q = 0 := by
  simp only [cdI, show ((v + 14 ≤ v + 14 + p ∧ v + 14 + p < v + 14 + 4 ∧ q < 4) ∨ (v + 14 + p = v + 14 + 4 ∧ q < 0)) by omega, if_true]
set_option maxHeartbeats 4000000 in
theorem l4_clr2 {g : jG} {d : Nat} {h : jH} {Q : kQ} {v p : Nat} (hv : isV v) (hp : p < 4) (kx : K g d YX4_clearDebts (cdI h v p 4) 29 [(0, .ref v), (1, .int (nI p)), (2, .int (nI 4))] [] Q) : ∀ (mm k : Nat) , k ≤ 4 → 4 < k + mm → K g d YX4_clearDebts (cdI h v p k) 9 [(0, .ref v), (1, .int (nI p)), (2, .int (nI k))] [] Q := by
  intro mm
  induction mm with
  | zero => intro k  hk1 hk2 ; omega
  | succ mm ih =>
    intro k  hk1 hk2 
    refine J_iload_n (pc := 9) dX4_clearDebts_9 rfl ?_
    refine J_iconst (pc := 10) (v := nI 4) dX4_clearDebts_10 (by decide) ?_
    refine J_icmp_ge (pc := 11) (tgt := 29) dX4_clearDebts_11 (by decide) (fun c11 => ?_) (fun c11 => ?_)
    · skip
      have q11 : 4 ≤ k := (nI_leI (by omega) (by omega)).mp c11
      have e_k : k = 4 := by omega
      refine J_ls (ls' := [(0, .ref v), (1, .int (nI p)), (2, .int (nI k))]) ⟨rfl, rfl, rfl, trivial⟩ ?_
      rw [e_k]
      exact kx
    · skip
      have q11 : k < 4 := Nat.lt_of_not_le (fun z => c11 ((nI_leI (by omega) (by omega)).mpr z))
      refine J_aload_n (pc := 14) dX4_clearDebts_14 rfl ?_
      refine J_getR (pc := 15) dX4_clearDebts_15 fX4_29 (sv0 hv) rfl ?_
      refine J_iload_n (pc := 18) dX4_clearDebts_18 rfl ?_
      refine J_aald (pc := 19) dX4_clearDebts_19 (sv13 hv) j_k2 (rfl) (debtsR (by omega)) (Nat.le_of_ble_eq_true rfl) ?_
      refine J_iload_n (pc := 20) dX4_clearDebts_20 rfl ?_
      refine J_iconst (pc := 21) (v := nI 0) dX4_clearDebts_21 (by decide) ?_
      refine J_iast (pc := 22) dX4_clearDebts_22 (debtsRS hv (by omega)) (rfl) (by omega) (by decide) ?_
      rw [cdI_s]
      refine J_iinc (pc := 23) dX4_clearDebts_23 rfl (v := nI (k + 1)) (by exact nI_add _ _) (by decide) ?_
      refine J_goto (pc := 26) (tgt := 9) dX4_clearDebts_26 (by decide) ?_
      exact J_ls (ls' := [(0, .ref v), (1, .int (nI p)), (2, .int (nI (k + 1)))]) ⟨rfl, rfl, rfl, trivial⟩ (ih (k + 1)  (by omega) (by omega) )
set_option maxHeartbeats 4000000 in
theorem l4_clr1 {g : jG} {d : Nat} {h : jH} {Q : kQ} {v : Nat} (hv : isV v) (kx : K g d YX4_clearDebts (cdI h v 4 0) 35 [(0, .ref v), (1, .int (nI 4))] [] Q) : ∀ (mm k : Nat) , k ≤ 4 → 4 < k + mm → K g d YX4_clearDebts (cdI h v k 0) 2 [(0, .ref v), (1, .int (nI k))] [] Q := by
  intro mm
  induction mm with
  | zero => intro k  hk1 hk2 ; omega
  | succ mm ih =>
    intro k  hk1 hk2 
    refine J_iload_n (pc := 2) dX4_clearDebts_2 rfl ?_
    refine J_iconst (pc := 3) (v := nI 4) dX4_clearDebts_3 (by decide) ?_
    refine J_icmp_ge (pc := 4) (tgt := 35) dX4_clearDebts_4 (by decide) (fun c4 => ?_) (fun c4 => ?_)
    · skip
      have q4 : 4 ≤ k := (nI_leI (by omega) (by omega)).mp c4
      have e_k : k = 4 := by omega
      refine J_ls (ls' := [(0, .ref v), (1, .int (nI k))]) ⟨rfl, rfl, trivial⟩ ?_
      rw [e_k]
      exact kx
    · skip
      have q4 : k < 4 := Nat.lt_of_not_le (fun z => c4 ((nI_leI (by omega) (by omega)).mpr z))
      refine J_iconst (pc := 7) (v := nI 0) dX4_clearDebts_7 (by decide) ?_
      refine J_istore_n (pc := 8) dX4_clearDebts_8 (by decide) ?_
      refine J_ls (ls' := [(0, .ref v), (1, .int (nI k)), (2, .int (nI 0))]) ⟨rfl, rfl, rfl, trivial⟩ ?_
      refine l4_clr2 hv q4 ?_ 5 0 (Nat.zero_le _) (by omega)
      rw [cdI_n]
      refine J_iinc (pc := 29) dX4_clearDebts_29 rfl (v := nI (k + 1)) (by exact nI_add _ _) (by decide) ?_
      refine J_goto (pc := 32) (tgt := 2) dX4_clearDebts_32 (by decide) ?_
      exact J_ls (ls' := [(0, .ref v), (1, .int (nI (k + 1)))]) ⟨rfl, rfl, trivial⟩ (ih (k + 1) (by omega) (by omega))
set_option maxHeartbeats 4000000 in
theorem c4_clearDebts {g : jG} {d : Nat} {h : jH} {v : Nat} (hv : isV v) : Mv g d YX4_clearDebts h [.ref v] (fun h' => h' = cdI h v 4 0) := by
  refine M.of (by decide) rfl (Nat.le_of_ble_eq_true rfl) ?_
  refine J_iconst (pc := 0) (v := nI 0) dX4_clearDebts_0 (by decide) ?_
  refine J_istore_n (pc := 1) dX4_clearDebts_1 (by decide) ?_
  refine J_h (h' := cdI h v 0 0) (by rw [cdI_0]) ?_
  refine J_ls (ls' := [(0, .ref v), (1, .int (nI 0))]) ⟨rfl, rfl, trivial⟩ ?_
  refine l4_clr1 hv ?_ 5 0 (Nat.zero_le _) (by omega)
  refine K_ret (pc := 35) dX4_clearDebts_35 rfl ?_
  exact rfl
set_option maxHeartbeats 4000000 in
theorem c5_forgive {g : jG} {d : Nat} {a h : jH} (hR : RX a h) : Mi g (d + 3) YX5_forgive h [.ref 0] (fun r h' => ∃ a', oForgive a  = (r, a') ∧ RX a' h' ∧ hi h h') := by
  refine M.of (by decide) rfl (Nat.le_of_ble_eq_true rfl) ?_
  have hR0 := hR
  have hG := hR.1.2.2.2
  obtain ⟨⟨r1, hX, hwk, ⟨⟨v1, v2, v3, v4⟩, v5, v6, v7, v8, v9, va, vb, vc, vd⟩⟩, rK, rT, rS, rH, ⟨r8, r8b, r9, ra⟩⟩ := hR
  obtain ⟨x1, x2, x3, x4, x5, x6, x7, x8, x9⟩ := id hX
  have hn4 := v1
  have n5 := r1.2
  have c6 := v3.2
  have p9 := v5.2
  refine J_aload_n (pc := 0) dX5_forgive_0 rfl ?_
  refine J_getR (pc := 1) dX5_forgive_1 fX5_10 sh0 rfl ?_
  refine K_Vi0 (pc := 4) (Y' := YX4_allDebts) dX5_forgive_4 lX5_170 mX4_allDebts vX4_allDebts ⟨_, _, rfl⟩ (sv0 isV1) (Nat.le_of_ble_eq_true rfl) (c4_allDebts isV1 hX hn4) ?_
  rintro r h0 ⟨e0, rfl⟩
  rw [e0]
  clear e0 h0
  refine J_istore_n (pc := 7) dX5_forgive_7 (by decide) ?_
  refine J_aload_n (pc := 8) dX5_forgive_8 rfl ?_
  refine J_getR (pc := 9) dX5_forgive_9 fX5_10 sh0 rfl ?_
  refine K_Vv0 (pc := 12) (Y' := YX4_clearDebts) dX5_forgive_12 lX5_237 mX4_clearDebts vX4_clearDebts ⟨_, _, rfl⟩ (sv0 isV1) (Nat.le_of_ble_eq_true rfl) (c4_clearDebts isV1) ?_
  rintro h0 e0
  rw [e0]
  clear e0 h0
  refine J_iload_n (pc := 15) dX5_forgive_15 rfl ?_
  refine K_iret (pc := 16) dX5_forgive_16 rfl ?_
  refine ⟨_, ?_, RX_now hR0 (XV_free hX hG (fun b hb => cdI_o (by omega)) (fun p q hp hq => cdI_z hp hq)) ?_ (GD_free hG) (fun b hb => cdI_o (by omega)), fun b hb => cdI_o (by omega)⟩
  · rw [adG_all hn4 vd]; rfl
  · rw [cdI_o (by omega)]; exact hwk
set_option maxHeartbeats 4000000 in
theorem c3_add {g : jG} {d : Nat} {h : jH} {c : Nat} {p n v : Int32} (hc : h 81 0 = nI c) (hc6 : c < 6) : Mv g d YX3_add h [.ref 81, .int p, .int n, .int v] (fun h' => h' = j_up (j_up (j_up (j_up h 82 c p) 83 c n) 84 c v) 81 0 (nI c + nI 1)) := by
  refine M.of (by decide) rfl (Nat.le_of_ble_eq_true rfl) ?_
  refine J_aload_n (pc := 0) dX3_add_0 rfl ?_
  refine J_getI (pc := 1) dX3_add_1 fX3_21 sh81 rfl (hc) ?_
  refine J_bipush (pc := 4) (v := nI 6) dX3_add_4 (by decide) ?_
  refine J_icmp_ge (pc := 6) (tgt := 49) dX3_add_6 (by decide) (fun c6 => ?_) (fun c6 => ?_)
  · skip
    exact absurd ((nI_leI (by omega) (by omega)).mp c6) (by omega)
  · skip
    refine J_aload_n (pc := 9) dX3_add_9 rfl ?_
    refine J_getR (pc := 10) dX3_add_10 fX3_9 sh81 rfl ?_
    refine J_aload_n (pc := 13) dX3_add_13 rfl ?_
    refine J_getI (pc := 14) dX3_add_14 fX3_21 sh81 rfl (hc) ?_
    refine J_iload_n (pc := 17) dX3_add_17 rfl ?_
    refine J_iast (pc := 18) dX3_add_18 sh82 (rfl) (by omega) (by decide) ?_
    refine J_aload_n (pc := 19) dX3_add_19 rfl ?_
    refine J_getR (pc := 20) dX3_add_20 fX3_15 sh81 rfl ?_
    refine J_aload_n (pc := 23) dX3_add_23 rfl ?_
    refine J_getI (pc := 24) dX3_add_24 fX3_21 sh81 rfl (j_up_x (by omega) hc) ?_
    refine J_iload_n (pc := 27) dX3_add_27 rfl ?_
    refine J_iast (pc := 28) dX3_add_28 sh83 (rfl) (by omega) (by decide) ?_
    refine J_aload_n (pc := 29) dX3_add_29 rfl ?_
    refine J_getR (pc := 30) dX3_add_30 fX3_18 sh81 rfl ?_
    refine J_aload_n (pc := 33) dX3_add_33 rfl ?_
    refine J_getI (pc := 34) dX3_add_34 fX3_21 sh81 rfl (j_up_x (by omega) (j_up_x (by omega) hc)) ?_
    refine J_iload_n (pc := 37) dX3_add_37 rfl ?_
    refine J_iast (pc := 38) dX3_add_38 sh84 (rfl) (by omega) (by decide) ?_
    refine J_aload_n (pc := 39) dX3_add_39 rfl ?_
    refine J_dup (pc := 40) dX3_add_40 rfl ?_
    refine J_getI (pc := 41) dX3_add_41 fX3_21 sh81 rfl (j_up_x (by omega) (j_up_x (by omega) (j_up_x (by omega) hc))) ?_
    refine J_iconst (pc := 44) (v := nI 1) dX3_add_44 (by decide) ?_
    refine J_iadd (pc := 45) dX3_add_45 (rfl) ?_
    refine J_putI (pc := 46) dX3_add_46 fX3_21 sh81 rfl ?_
    refine K_ret (pc := 49) dX3_add_49 rfl ?_
    exact rfl
set_option maxHeartbeats 4000000 in
theorem c5_see {g : jG} {d : Nat} {a h : jH} {p n v : Int32} (hR : RX a h) : Mi g (d + 3) YX5_see h [.ref 0, .int p, .int n, .int v] (fun r h' => ∃ a', oSee a p n v = (r, a') ∧ RX a' h' ∧ hi h h') := by
  refine M.of (by decide) rfl (Nat.le_of_ble_eq_true rfl) ?_
  have hR0 := hR
  have hG := hR.1.2.2.2
  obtain ⟨⟨r1, hX, hwk, ⟨⟨v1, v2, v3, v4⟩, v5, v6, v7, v8, v9, va, vb, vc, vd⟩⟩, rK, rT, rS, rH, ⟨r8, r8b, r9, ra⟩⟩ := hR
  obtain ⟨x1, x2, x3, x4, x5, x6, x7, x8, x9⟩ := id hX
  have hn4 := v1
  have n5 := r1.2
  have c6 := v3.2
  have p9 := v5.2
  obtain ⟨s1, s2, s3⟩ := rS
  have s8 : ix (a 131 21) < 7 := s2.2
  refine J_aload_n (pc := 0) dX5_see_0 rfl ?_
  refine J_iload_n (pc := 1) dX5_see_1 rfl ?_
  refine K_Vi1 (pc := 2) (Y' := YX5_isOne) dX5_see_2 lX5_109 mX5_isOne vX5_isOne ⟨_, _, rfl⟩ sh0 (Nat.le_of_ble_eq_true rfl) (c5_isOne (x := p) x1 hn4) ?_
  rintro x h0 ⟨e0, ⟨rfl, b2⟩ | ⟨rfl, b2⟩⟩ <;> rw [e0] <;> clear e0 h0
  · skip
    refine J_if_eq (pc := 5) (tgt := 28) dX5_see_5 (by decide) (fun c => absurd c (by decide)) (fun _ => ?_)
    refine J_iload_n (pc := 8) dX5_see_8 rfl ?_
    refine J_iconst (pc := 9) (v := nI 1) dX5_see_9 (by decide) ?_
    refine J_iconst (pc := 10) (v := nI 4) dX5_see_10 (by decide) ?_
    refine K_Si3 (pc := 11) (Y' := YX5_within) dX5_see_11 lX5_63 mX5_within sX5_within (Nat.le_of_ble_eq_true rfl) (c5_within) ?_
    rintro x h0 ⟨e0, ⟨rfl, b11⟩ | ⟨rfl, b11⟩⟩ <;> rw [e0] <;> clear e0 h0
    · skip
      refine J_if_eq (pc := 14) (tgt := 28) dX5_see_14 (by decide) (fun c => absurd c (by decide)) (fun _ => ?_)
      refine J_iload_n (pc := 17) dX5_see_17 rfl ?_
      refine J_iconst (pc := 18) (v := nI 0) dX5_see_18 (by decide) ?_
      refine J_sipush (pc := 19) (v := nI 255) dX5_see_19 (by decide) ?_
      refine K_Si3 (pc := 22) (Y' := YX5_within) dX5_see_22 lX5_63 mX5_within sX5_within (Nat.le_of_ble_eq_true rfl) (c5_within) ?_
      rintro x h0 ⟨e0, ⟨rfl, b22⟩ | ⟨rfl, b22⟩⟩ <;> rw [e0] <;> clear e0 h0
      · skip
        refine J_if_ne (pc := 25) (tgt := 30) dX5_see_25 (by decide) (fun _ => ?_) (fun c => absurd c (by decide))
        refine J_aload_n (pc := 30) dX5_see_30 rfl ?_
        refine J_getR (pc := 31) dX5_see_31 fX5_44 sh0 rfl ?_
        refine J_getI (pc := 34) dX5_see_34 fX5_85 sh81 rfl (s1.trans s2.1) ?_
        refine J_bipush (pc := 37) (v := nI 6) dX5_see_37 (by decide) ?_
        refine J_icmp_lt (pc := 39) (tgt := 45) dX5_see_39 (by decide) (fun c39 => ?_) (fun c39 => ?_)
        · skip
          have q39 : ix (a 131 21) < 6 := (nI_ltI (by omega) (by omega)).mp c39
          refine J_aload_n (pc := 45) dX5_see_45 rfl ?_
          refine J_getR (pc := 46) dX5_see_46 fX5_44 sh0 rfl ?_
          refine J_iload_n (pc := 49) dX5_see_49 rfl ?_
          refine J_iload_n (pc := 50) dX5_see_50 rfl ?_
          refine J_iload_n (pc := 51) dX5_see_51 rfl ?_
          refine K_Vv3 (pc := 52) (Y' := YX3_add) dX5_see_52 lX5_240 mX3_add vX3_add ⟨_, _, rfl⟩ sh81 (Nat.le_of_ble_eq_true rfl) (c3_add (s1.trans s2.1) q39) ?_
          rintro h0 e0
          rw [e0]
          clear e0 h0
          refine J_aload_n (pc := 55) dX5_see_55 rfl ?_
          refine J_getR (pc := 56) dX5_see_56 fX5_44 sh0 rfl ?_
          refine J_getI (pc := 59) dX5_see_59 fX5_85 sh81 rfl (j_up_s) ?_
          refine K_iret (pc := 62) dX5_see_62 rfl ?_
          have ne : ¬ a 131 21 = nI 6 := fun z => by
            have := congrArg ix z
            rw [ix_nI (by omega)] at this
            omega
          have e21 := s2.1
          have bn : nb 5 n := (in_nbc (n := 4) rfl (by omega)).mp ⟨Int32.le_trans (by decide) b11.1, b11.2⟩
          have bn1 : 1 ≤ ix n := by
            have h1 := bn.toInt (by omega)
            have h2 := i_le.mp b11.1
            have e1 : (nI 1).toInt = 1 := rfl
            omega
          refine ⟨_, ((iteR_t ⟨b2, b11, b22⟩).trans (iteR_f ne)).trans (by rw [← e21]), ?_, hi_upt (hi_upt (hi_upt (hi_up (by omega)) (by omega)) (by omega)) (by omega)⟩
          refine RX_S hR0 ⟨?_, ?_, fun i hi' => ?_⟩ (fun b k h1 h2 => by rw [j_up_o (by omega), j_up_o (by omega), j_up_o (by omega), j_up_o (by omega)]) (fun b hb => by rw [j_up_ne b (by omega), j_up_ne b (by omega), j_up_ne b (by omega), j_up_ne b (by omega)])
          · rw [j_up_s, j_up_s, ← e21]
          · rw [j_up_s, e21]; exact nb_succ (by omega) (by omega)
          · rw [j_up_s, e21, ix_succ (by omega)] at hi'
            rw [show ∀ x y z u, j_up (j_up (j_up (j_up a 139 (3 * ix (a 131 21)) x) 139 (3 * ix (a 131 21) + 1) y) 139 (3 * ix (a 131 21) + 2) z) 131 21 u 131 2 = a 131 2 from fun x y z u => by rw [j_up_o (by omega), j_up_o (by omega), j_up_o (by omega), j_up_o (by omega)]]
            by_cases z : i = ix (a 131 21)
            · subst z
              have f0 : ∀ x y z u, j_up (j_up (j_up (j_up a 139 (3 * ix (a 131 21)) x) 139 (3 * ix (a 131 21) + 1) y) 139 (3 * ix (a 131 21) + 2) z) 131 21 u 139 (3 * ix (a 131 21)) = x := fun x y z u => by rw [j_up_o (by omega), j_up_o (by omega), j_up_o (by omega), j_up_s]
              have f1 : ∀ x y z u, j_up (j_up (j_up (j_up a 139 (3 * ix (a 131 21)) x) 139 (3 * ix (a 131 21) + 1) y) 139 (3 * ix (a 131 21) + 2) z) 131 21 u 139 (3 * ix (a 131 21) + 1) = y := fun x y z u => by rw [j_up_o (by omega), j_up_o (by omega), j_up_s]
              have f2 : ∀ x y z u, j_up (j_up (j_up (j_up a 139 (3 * ix (a 131 21)) x) 139 (3 * ix (a 131 21) + 1) y) 139 (3 * ix (a 131 21) + 2) z) 131 21 u 139 (3 * ix (a 131 21) + 2) = z := fun x y z u => by rw [j_up_o (by omega), j_up_s]
              rw [f0, f1, f2]
              refine ⟨?_, ?_, ?_, b2, bn, bn1⟩
              · rw [j_up_o (by omega), j_up_o (by omega), j_up_o (by omega), j_up_s]
              · rw [j_up_o (by omega), j_up_o (by omega), j_up_s]
              · rw [j_up_o (by omega), j_up_s]
            · have fo : ∀ x y z u t, t < 3 → j_up (j_up (j_up (j_up a 139 (3 * ix (a 131 21)) x) 139 (3 * ix (a 131 21) + 1) y) 139 (3 * ix (a 131 21) + 2) z) 131 21 u 139 (3 * i + t) = a 139 (3 * i + t) := fun x y z u t ht => by rw [j_up_o (by omega), j_up_o (by omega), j_up_o (by omega), j_up_o (by omega)]
              have fo0 : ∀ x y z u, j_up (j_up (j_up (j_up a 139 (3 * ix (a 131 21)) x) 139 (3 * ix (a 131 21) + 1) y) 139 (3 * ix (a 131 21) + 2) z) 131 21 u 139 (3 * i) = a 139 (3 * i) := fun x y z u => fo x y z u 0 (by omega)
              rw [fo0, fo _ _ _ _ 1 (by omega), fo _ _ _ _ 2 (by omega), j_up_o (b := 82) (by omega), j_up_o (b := 82) (by omega), j_up_o (b := 82) (by omega), j_up_o (b := 82) (by omega), j_up_o (b := 83) (by omega), j_up_o (b := 83) (by omega), j_up_o (b := 83) (by omega), j_up_o (b := 83) (by omega), j_up_o (b := 84) (by omega), j_up_o (b := 84) (by omega), j_up_o (b := 84) (by omega), j_up_o (b := 84) (by omega)]
              exact s3 i (by omega)
        · skip
          have q39 : ¬ ix (a 131 21) < 6 := fun z => c39 ((nI_ltI (by omega) (by omega)).mpr z)
          refine J_bipush (pc := 42) (v := -3) dX5_see_42 (by decide) ?_
          refine K_iret (pc := 44) dX5_see_44 rfl ?_
          exact ⟨a, (iteR_t ⟨b2, b11, b22⟩).trans (iteR_t (s2.1.trans (congrArg nI (show ix (a 131 21) = 6 by omega)))), hR0, hi.rf⟩
      · skip
        refine J_if_ne (pc := 25) (tgt := 30) dX5_see_25 (by decide) (fun c => absurd c (by decide)) (fun _ => ?_)
        refine J_iconst (pc := 28) (v := -1) dX5_see_28 (by decide) ?_
        refine K_iret (pc := 29) dX5_see_29 rfl ?_
        exact ⟨a, iteR_f (fun z => b22 z.2.2), hR0, hi.rf⟩
    · skip
      refine J_if_eq (pc := 14) (tgt := 28) dX5_see_14 (by decide) (fun _ => ?_) (fun c => absurd c (by decide))
      refine J_iconst (pc := 28) (v := -1) dX5_see_28 (by decide) ?_
      refine K_iret (pc := 29) dX5_see_29 rfl ?_
      exact ⟨a, iteR_f (fun z => b11 z.2.1), hR0, hi.rf⟩
  · skip
    refine J_if_eq (pc := 5) (tgt := 28) dX5_see_5 (by decide) (fun _ => ?_) (fun c => absurd c (by decide))
    refine J_iconst (pc := 28) (v := -1) dX5_see_28 (by decide) ?_
    refine K_iret (pc := 29) dX5_see_29 rfl ?_
    exact ⟨a, iteR_f (fun z => b2 z.1), hR0, hi.rf⟩
set_option maxHeartbeats 4000000 in
theorem c5_forget {g : jG} {d : Nat} {a h : jH} {n : Int32} (hR : RX a h) : Mi g (d + 3) YX5_forget h [.ref 0, .int n] (fun r h' => ∃ a', oForget a n = (r, a') ∧ RX a' h' ∧ hi h h') := by
  refine M.of (by decide) rfl (Nat.le_of_ble_eq_true rfl) ?_
  have hR0 := hR
  have hG := hR.1.2.2.2
  obtain ⟨⟨r1, hX, hwk, ⟨⟨v1, v2, v3, v4⟩, v5, v6, v7, v8, v9, va, vb, vc, vd⟩⟩, rK, rT, rS, rH, ⟨r8, r8b, r9, ra⟩⟩ := hR
  obtain ⟨x1, x2, x3, x4, x5, x6, x7, x8, x9⟩ := id hX
  have hn4 := v1
  have n5 := r1.2
  have c6 := v3.2
  have p9 := v5.2
  obtain ⟨s1, s2, s3⟩ := rS
  have s8 : ix (a 131 21) < 7 := s2.2
  refine J_iload_n (pc := 0) dX5_forget_0 rfl ?_
  refine J_iconst (pc := 1) (v := nI 0) dX5_forget_1 (by decide) ?_
  refine J_aload_n (pc := 2) dX5_forget_2 rfl ?_
  refine J_getR (pc := 3) dX5_forget_3 fX5_44 sh0 rfl ?_
  refine J_getI (pc := 6) dX5_forget_6 fX5_85 sh81 rfl (s1) ?_
  refine K_Si3 (pc := 9) (Y' := YX5_within) dX5_forget_9 lX5_63 mX5_within sX5_within (Nat.le_of_ble_eq_true rfl) (c5_within) ?_
  rintro x h0 ⟨e0, ⟨rfl, b9⟩ | ⟨rfl, b9⟩⟩ <;> rw [e0] <;> clear e0 h0
  · skip
    have bx : nb (ix (a 131 21) + 1) n := (in_nbc (n := ix (a 131 21)) s2.1 (by omega)).mp b9
    have bx2 := bx.2
    refine J_if_ne (pc := 12) (tgt := 17) dX5_forget_12 (by decide) (fun _ => ?_) (fun c => absurd c (by decide))
    refine J_aload_n (pc := 17) dX5_forget_17 rfl ?_
    refine J_getR (pc := 18) dX5_forget_18 fX5_44 sh0 rfl ?_
    refine J_getI (pc := 21) dX5_forget_21 fX5_85 sh81 rfl (s1) ?_
    refine J_istore_n (pc := 24) dX5_forget_24 (by decide) ?_
    refine J_aload_n (pc := 25) dX5_forget_25 rfl ?_
    refine J_getR (pc := 26) dX5_forget_26 fX5_44 sh0 rfl ?_
    refine J_iload_n (pc := 29) dX5_forget_29 rfl ?_
    refine J_putI (pc := 30) dX5_forget_30 fX5_85 sh81 rfl ?_
    refine J_iload_n (pc := 33) dX5_forget_33 rfl ?_
    refine K_iret (pc := 34) dX5_forget_34 rfl ?_
    refine ⟨_, iteR_t b9, ?_, hi_up (by omega)⟩
    refine RX_S hR0 ⟨?_, ?_, fun i hi' => ?_⟩ (fun b k h1 h2 => j_up_o (by omega)) (fun b hb => j_up_ne b (by omega))
    · rw [j_up_s, j_up_s]
    · rw [j_up_s]; exact nb_le bx (by omega)
    · rw [j_up_s] at hi'
      rw [j_up_o (b := 82) (by omega), j_up_o (b := 83) (by omega), j_up_o (b := 84) (by omega), j_up_o (b := 139) (by omega), j_up_o (b := 139) (by omega), j_up_o (b := 139) (by omega), j_up_o (b := 131) (by omega)]
      exact s3 i (by omega)
  · skip
    refine J_if_ne (pc := 12) (tgt := 17) dX5_forget_12 (by decide) (fun c => absurd c (by decide)) (fun _ => ?_)
    refine J_iconst (pc := 15) (v := -1) dX5_forget_15 (by decide) ?_
    refine K_iret (pc := 16) dX5_forget_16 rfl ?_
    exact ⟨a, iteR_f b9, hR0, hi.rf⟩
