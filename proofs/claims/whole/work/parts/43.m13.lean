set_option maxHeartbeats 4000000 in
theorem l6_planGoes {g : jG} {d : Nat} {h : jH} {Q : kQ} (hR : MR h) (kx : ∀ (T : Nat → Int32), e52 (plF (ix (h 131 2)) (pg h 0) (ix (pg h 0 51))).1 T → K g (d + 2) YX6_planGoes (mset (j_up h 131 18 (plF (ix (h 131 2)) (pg h 0) (ix (pg h 0 51))).2.2) 276 T) 81 [(0, .ref 131), (1, .int (plF (ix (h 131 2)) (pg h 0) (ix (pg h 0 51))).2.1), (2, .int (nI (ix (pg h 0 51))))] [] Q) : ∀ (m k : Nat) (T : Nat → Int32), k ≤ (ix (pg h 0 51)) → (ix (pg h 0 51)) < k + m → e52 (plF (ix (h 131 2)) (pg h 0) k).1 T → K g (d + 2) YX6_planGoes (mset (j_up h 131 18 (plF (ix (h 131 2)) (pg h 0) k).2.2) 276 T) 18 [(0, .ref 131), (1, .int (plF (ix (h 131 2)) (pg h 0) k).2.1), (2, .int (nI k))] [] Q := by
  intro m
  induction m with
  | zero => intro k T hk1 hk2 hI; omega
  | succ m ih =>
    intro k T hk1 hk2 hI
    have hR0 := hR
    have hG : GD (ix (h 131 2)) (pg h 0) := hR.2.1
    obtain ⟨r1, ⟨⟨v1, v2, v3, v4⟩, v5, v6, v7, v8, v9, va, vb, vc, vd⟩, r3, r4, ⟨r5, r6⟩, r7, r8, r9, ra⟩ := hR
    have hn := r1.1
    have hn4 := v1
    have n5 := r1.2
    have c6 : ix (h 132 37) < 6 := v3.2
    have p9 : ix (h 132 51) < 9 := v5.2
    have p9' : ix (pg h 0 51) < 9 := v5.2
    have hn1 : (j_up h 131 18 (plF (ix (h 131 2)) (pg h 0) k).2.2) 131 2 = nI (ix (h 131 2)) := (j_up_o (by omega)).trans hn
    have h132 : (j_up h 131 18 (plF (ix (h 131 2)) (pg h 0) k).2.2) 132 = h 132 := j_up_ne 132 (by omega)
    have h133 : (j_up h 131 18 (plF (ix (h 131 2)) (pg h 0) k).2.2) 133 = h 133 := j_up_ne 133 (by omega)
    have gk := plF_ok hG k
    have tk : ∀ j, j < 8 → T j = pg h 0 j := fun j hj => (hI j (by omega)).trans (gk.2 j (by omega))
    have we := fun (_ : True) => week_e (w := ix (pg h 0 (43 + k))) gk.1.1 hI
    refine J_iload_n (pc := 18) dX6_planGoes_18 rfl ?_
    refine J_aload_n (pc := 19) dX6_planGoes_19 rfl ?_
    refine J_getR (pc := 20) dX6_planGoes_20 fX6_7 sh131 rfl ?_
    refine J_bipush (pc := 23) (v := nI 51) dX6_planGoes_23 (by decide) ?_
    refine J_iald (pc := 25) dX6_planGoes_25 sh132 (rfl) (by omega) (((mset_out (by omega)).trans (j_up_o (by omega))).trans v5.1) (by decide) ?_
    refine J_icmp_ge (pc := 26) (tgt := 81) dX6_planGoes_26 (by decide) (fun c26 => ?_) (fun c26 => ?_)
    · skip
      have q26 : (ix (pg h 0 51)) ≤ k := (nI_leI (by omega) (by omega)).mp c26
      have e_k : k = (ix (pg h 0 51)) := by omega
      refine J_ls (ls' := [(0, .ref 131), (1, .int (plF (ix (h 131 2)) (pg h 0) k).2.1), (2, .int (nI k))]) ⟨rfl, rfl, rfl, trivial⟩ ?_
      rw [e_k] at hI ⊢
      exact kx T hI
    · skip
      have q26 : k < (ix (pg h 0 51)) := Nat.lt_of_not_le (fun z => c26 ((nI_leI (by omega) (by omega)).mpr z))
      refine J_aload_n (pc := 29) dX6_planGoes_29 rfl ?_
      refine J_sipush (pc := 30) (v := nI 276) dX6_planGoes_30 (by decide) ?_
      refine J_aload_n (pc := 33) dX6_planGoes_33 rfl ?_
      refine J_getR (pc := 34) dX6_planGoes_34 fX6_7 sh131 rfl ?_
      refine J_bipush (pc := 37) (v := nI 43) dX6_planGoes_37 (by decide) ?_
      refine J_iload_n (pc := 39) dX6_planGoes_39 rfl ?_
      refine J_iadd (pc := 40) dX6_planGoes_40 (nI_add _ _) ?_
      refine J_iald (pc := 41) dX6_planGoes_41 sh132 (rfl) (by omega) (((mset_out (by omega)).trans (j_up_o (by omega))).trans (pg0.symm.trans (v6 k q26).1)) (by decide) ?_
      refine K_Vi2 (pc := 42) (Y' := YX6_weekOn) dX6_planGoes_42 lX6_206 mX6_weekOn vX6_weekOn ⟨_, _, rfl⟩ sh131 (Nat.le_of_ble_eq_true rfl) (c6_weekOn (h := (j_up h 131 18 (plF (ix (h 131 2)) (pg h 0) k).2.2)) (o := 276) (n := ix (h 131 2)) (P := T) (γ := γP T (ix (pg h 0 (43 + k)))) (w := (ix (pg h 0 (43 + k)))) (by omega) (Or.inr (by omega)) hn1 hn4 (v6 k q26).2 (fun p hp => by rw [mset_out (by omega), h132]; have := v2 p hp; rw [pg0] at this; exact this) (fun p hp => by
    have k4 := (v2 p hp).2
    have hw4 : (ix (pg h 0 (43 + k))) < 4 := (v6 k q26).2
    rw [pg0] at k4
    unfold gM γP
    rw [mset_out (by omega), mset_out (by omega), mset_ne (b := 133) (by decide), h133, h132, r8 _ (by omega), tk p (by omega), tk (4 + p) (by omega)]
    simp only [pg0]) (gdV_e gk.1.1 hI).cv) ?_
      rintro r h0 ⟨e0, e1⟩
      rw [e0, e1]
      clear e0 e1 h0
      have we := we trivial
      rw [we.2]
      refine J_istore_n (pc := 45) dX6_planGoes_45 (by decide) ?_
      refine J_aload_n (pc := 46) dX6_planGoes_46 rfl ?_
      refine J_iload_n (pc := 47) dX6_planGoes_47 rfl ?_
      refine J_if_le (pc := 48) (tgt := 64) dX6_planGoes_48 (by decide) (fun c48 => ?_) (fun c48 => ?_)
      · skip
        refine J_aload_n (pc := 64) dX6_planGoes_64 rfl ?_
        refine J_getI (pc := 65) dX6_planGoes_65 fX6_212 sh131 rfl (mset_b (by decide) j_up_s) ?_
        refine J_putI (pc := 68) dX6_planGoes_68 fX6_212 sh131 rfl ?_
        rw [mset_f, up_up]
        refine J_iload_n (pc := 71) dX6_planGoes_71 rfl ?_
        refine J_iload_n (pc := 72) dX6_planGoes_72 rfl ?_
        refine J_iadd (pc := 73) dX6_planGoes_73 (rfl) ?_
        refine J_istore_n (pc := 74) dX6_planGoes_74 (by decide) ?_
        refine J_iinc (pc := 75) dX6_planGoes_75 rfl (v := nI (k + 1)) (by exact nI_add _ _) (by decide) ?_
        refine J_goto (pc := 78) (tgt := 18) dX6_planGoes_78 (by decide) ?_
        have i := ih (k + 1) _ (by omega) (by omega) we.1
        rw [show (plF (ix (h 131 2)) (pg h 0) (k + 1)).2.2 = (plF (ix (h 131 2)) (pg h 0) k).2.2 from if_neg (fun z => absurd c48 (Int32.not_le.mpr z.1))] at i
        refine J_ls ?_ i
        exact ⟨rfl, rfl, rfl, trivial⟩
      · skip
        refine J_aload_n (pc := 51) dX6_planGoes_51 rfl ?_
        refine J_getI (pc := 52) dX6_planGoes_52 fX6_212 sh131 rfl (mset_b (by decide) j_up_s) ?_
        refine J_bipush (pc := 55) (v := -4) dX6_planGoes_55 (by decide) ?_
        refine J_icmp_ne (pc := 57) (tgt := 64) dX6_planGoes_57 (by decide) (fun c57 => ?_) (fun c57 => ?_)
        · skip
          refine J_aload_n (pc := 64) dX6_planGoes_64 rfl ?_
          refine J_getI (pc := 65) dX6_planGoes_65 fX6_212 sh131 rfl (mset_b (by decide) j_up_s) ?_
          refine J_putI (pc := 68) dX6_planGoes_68 fX6_212 sh131 rfl ?_
          rw [mset_f, up_up]
          refine J_iload_n (pc := 71) dX6_planGoes_71 rfl ?_
          refine J_iload_n (pc := 72) dX6_planGoes_72 rfl ?_
          refine J_iadd (pc := 73) dX6_planGoes_73 (rfl) ?_
          refine J_istore_n (pc := 74) dX6_planGoes_74 (by decide) ?_
          refine J_iinc (pc := 75) dX6_planGoes_75 rfl (v := nI (k + 1)) (by exact nI_add _ _) (by decide) ?_
          refine J_goto (pc := 78) (tgt := 18) dX6_planGoes_78 (by decide) ?_
          have i := ih (k + 1) _ (by omega) (by omega) we.1
          rw [show (plF (ix (h 131 2)) (pg h 0) (k + 1)).2.2 = (plF (ix (h 131 2)) (pg h 0) k).2.2 from if_neg (fun z => c57 z.2)] at i
          refine J_ls ?_ i
          exact ⟨rfl, rfl, rfl, trivial⟩
        · skip
          refine J_iload_n (pc := 60) dX6_planGoes_60 rfl ?_
          refine J_goto (pc := 61) (tgt := 68) dX6_planGoes_61 (by decide) ?_
          refine J_putI (pc := 68) dX6_planGoes_68 fX6_212 sh131 rfl ?_
          rw [mset_f, up_up]
          refine J_iload_n (pc := 71) dX6_planGoes_71 rfl ?_
          refine J_iload_n (pc := 72) dX6_planGoes_72 rfl ?_
          refine J_iadd (pc := 73) dX6_planGoes_73 (rfl) ?_
          refine J_istore_n (pc := 74) dX6_planGoes_74 (by decide) ?_
          refine J_iinc (pc := 75) dX6_planGoes_75 rfl (v := nI (k + 1)) (by exact nI_add _ _) (by decide) ?_
          refine J_goto (pc := 78) (tgt := 18) dX6_planGoes_78 (by decide) ?_
          have i := ih (k + 1) _ (by omega) (by omega) we.1
          rw [show (plF (ix (h 131 2)) (pg h 0) (k + 1)).2.2 = nI k from if_pos ⟨Int32.not_le.mp c48, c57⟩] at i
          refine J_ls ?_ i
          exact ⟨rfl, rfl, rfl, trivial⟩
set_option maxHeartbeats 4000000 in
theorem c6_planGoes {g : jG} {d : Nat} {h : jH} (hR : MR h) : Mi g (d + 2) YX6_planGoes h [.ref 131] (fun r h' => r = (plF (ix (h 131 2)) (pg h 0) (ix (pg h 0 51))).2.1 ∧ ∃ T, e52 (plF (ix (h 131 2)) (pg h 0) (ix (pg h 0 51))).1 T ∧ h' = mset (j_up h 131 18 (plF (ix (h 131 2)) (pg h 0) (ix (pg h 0 51))).2.2) 276 T) := by
  refine M.of (by decide) rfl (Nat.le_of_ble_eq_true rfl) ?_
  refine J_iconst (pc := 0) (v := nI 0) dX6_planGoes_0 (by decide) ?_
  refine J_istore_n (pc := 1) dX6_planGoes_1 (by decide) ?_
  refine J_aload_n (pc := 2) dX6_planGoes_2 rfl ?_
  refine J_bipush (pc := 3) (v := -4) dX6_planGoes_3 (by decide) ?_
  refine J_putI (pc := 5) dX6_planGoes_5 fX6_212 sh131 rfl ?_
  refine J_aload_n (pc := 8) dX6_planGoes_8 rfl ?_
  refine J_iconst (pc := 9) (v := nI 0) dX6_planGoes_9 (by decide) ?_
  refine J_sipush (pc := 10) (v := nI 276) dX6_planGoes_10 (by decide) ?_
  refine K_Vv2 (pc := 13) (Y' := YX6_copies) dX6_planGoes_13 lX6_215 mX6_copies vX6_copies ⟨_, _, rfl⟩ sh131 (Nat.le_of_ble_eq_true rfl) (c6_copies (a := 0) (o := 276) (by omega) (by omega) (by omega)) ?_
  rintro h0 e0
  rw [e0]
  clear e0 h0
  refine J_iconst (pc := 16) (v := nI 0) dX6_planGoes_16 (by decide) ?_
  refine J_istore_n (pc := 17) dX6_planGoes_17 (by decide) ?_
  have e0 : e52 (plF (ix (h 131 2)) (pg h 0) 0).1 (pg (j_up h 131 18 (-4)) 0) := fun j hj => by
    show j_up h 131 18 (-4) 132 (0 + j) = pg h 0 j
    rw [j_up_o (by omega)]; rfl
  refine J_ls (ls' := [(0, .ref 131), (1, .int (plF (ix (h 131 2)) (pg h 0) 0).2.1), (2, .int (nI 0))]) ⟨rfl, rfl, rfl, trivial⟩ ?_
  refine l6_planGoes hR ?_ (ix (pg h 0 51) + 1) 0 _ (Nat.zero_le _) (by omega) e0
  intro T hT
  refine J_iload_n (pc := 81) dX6_planGoes_81 rfl ?_
  refine K_iret (pc := 82) dX6_planGoes_82 rfl ?_
  exact ⟨rfl, T, hT, rfl⟩
set_option maxHeartbeats 4000000 in
theorem c6_runs {g : jG} {d : Nat} {h : jH} {x : Int32} (hR : MR h) : Mi g (d + 3) YX6_runs h [.ref 131, .int x] (fun r h' => r = (oRuns h x).1 ∧ sameP (oRuns h x).2 h' ∧ lo h h') := by
  refine M.of (by decide) rfl (Nat.le_of_ble_eq_true rfl) ?_
  have hR0 := hR
  have hG : GD (ix (h 131 2)) (pg h 0) := hR.2.1
  obtain ⟨r1, ⟨⟨v1, v2, v3, v4⟩, v5, v6, v7, v8, v9, va, vb, vc, vd⟩, r3, r4, ⟨r5, r6⟩, r7, r8, r9, ra⟩ := hR
  have hn := r1.1
  have hn4 := v1
  have n5 := r1.2
  have c6 : ix (h 132 37) < 6 := v3.2
  have p9 : ix (h 132 51) < 9 := v5.2
  have p9' : ix (pg h 0 51) < 9 := v5.2
  refine J_iload_n (pc := 0) dX6_runs_0 rfl ?_
  refine J_i2l (pc := 1) dX6_runs_1 (rfl) ?_
  refine J_lconst (pc := 2) (v := 0) dX6_runs_2 (by decide) ?_
  refine J_ldc2 (pc := 3) dX6_runs_3 kX6_164 ?_
  refine K_Si3 (pc := 6) (Y' := YX6_in) dX6_runs_6 lX6_55 mX6_in sX6_in (Nat.le_of_ble_eq_true rfl) (c6_inI x (nI 0) (nI 4) rfl (by decide) (by decide)) ?_
  rintro x h0 ⟨e0, ⟨rfl, b6⟩ | ⟨rfl, b6⟩⟩ <;> rw [e0] <;> clear e0 h0
  · skip
    have bx : nb 5 x := (in_nbc (n := 4) rfl (by omega)).mp b6
    have bx2 := bx.2
    refine J_if_ne (pc := 9) (tgt := 14) dX6_runs_9 (by decide) (fun _ => ?_) (fun c => absurd c (by decide))
    refine J_aload_n (pc := 14) dX6_runs_14 rfl ?_
    refine K_Vi0 (pc := 15) (Y' := YX6_planGoes) dX6_runs_15 lX6_219 mX6_planGoes vX6_planGoes ⟨_, _, rfl⟩ sh131 (Nat.le_of_ble_eq_true rfl) (c6_planGoes hR0) ?_
    rintro r h0 ⟨e1, T, hT, e0⟩
    rw [e0, e1]
    clear e0 e1
    have gk := plF_ok hG (ix (pg h 0 51))
    have sp : sameP h (mset (j_up h 131 18 (plF (ix (h 131 2)) (pg h 0) (ix (pg h 0 51))).2.2) 276 T) := sameP_18.tr (sameP_scr (by omega))
    have lp : lo h (mset (j_up h 131 18 (plF (ix (h 131 2)) (pg h 0) (ix (pg h 0 51))).2.2) 276 T) := (lo_up (by omega)).tr lo_mset
    have hn1 : mset (j_up h 131 18 (plF (ix (h 131 2)) (pg h 0) (ix (pg h 0 51))).2.2) 276 T 131 2 = nI (ix (h 131 2)) := mset_b (by decide) ((j_up_o (by omega)).trans hn)
    have t276 : ∀ j, j < 69 → j ≠ 52 → mset (j_up h 131 18 (plF (ix (h 131 2)) (pg h 0) (ix (pg h 0 51))).2.2) 276 T 132 (276 + j) = (plF (ix (h 131 2)) (pg h 0) (ix (pg h 0 51))).1 j := fun j hj h52 => (mset_at j hj rfl).trans (hT j h52)
    refine J_istore_n (pc := 18) dX6_runs_18 (by decide) ?_
    refine J_iload_n (pc := 19) dX6_runs_19 rfl ?_
    by_cases e0 : x = nI 0
    · subst e0
      refine J_tableIn (pc := 20) (tgt := 52) dX6_runs_20 (by decide) (by decide) rfl (by decide) ?_
      refine J_iload_n (pc := 52) dX6_runs_52 rfl ?_
      refine K_iret (pc := 53) dX6_runs_53 rfl ?_
      exact ⟨rfl, sp, lp⟩
    by_cases e1 : x = nI 1
    · subst e1
      refine J_tableIn (pc := 20) (tgt := 54) dX6_runs_20 (by decide) (by decide) rfl (by decide) ?_
      refine J_aload_n (pc := 54) dX6_runs_54 rfl ?_
      refine J_sipush (pc := 55) (v := nI 276) dX6_runs_55 (by decide) ?_
      refine K_Vi1 (pc := 58) (Y' := YX6_belowOn) dX6_runs_58 lX6_157 mX6_belowOn vX6_belowOn ⟨_, _, rfl⟩ sh131 (Nat.le_of_ble_eq_true rfl) (c6_belowOn (o := 276) hn1 hn4 (by omega)) ?_
      rintro r h0 ⟨e0, rfl⟩
      rw [e0]
      clear e0 h0
      refine K_iret (pc := 61) dX6_runs_61 rfl ?_
      refine ⟨?_, sp, lp⟩
      rw [show mset (j_up h 131 18 (plF (ix (h 131 2)) (pg h 0) (ix (pg h 0 51))).2.2) 276 T 132 42 = pg h 0 42 from (mset_out (by omega)).trans (j_up_o (by omega))]
      exact blw_cong (fun p hp => (congrArg _ (by omega)).trans (t276 (8 + p) (by omega) (by omega)))
    by_cases e2 : x = nI 2
    · subst e2
      refine J_tableIn (pc := 20) (tgt := 62) dX6_runs_20 (by decide) (by decide) rfl (by decide) ?_
      refine J_aload_n (pc := 62) dX6_runs_62 rfl ?_
      refine J_getI (pc := 63) dX6_runs_63 fX6_212 sh131 rfl (mset_b (by decide) j_up_s) ?_
      refine K_iret (pc := 66) dX6_runs_66 rfl ?_
      exact ⟨rfl, sp, lp⟩
    by_cases e3 : x = nI 3
    · subst e3
      refine J_tableIn (pc := 20) (tgt := 67) dX6_runs_20 (by decide) (by decide) rfl (by decide) ?_
      refine J_aload_n (pc := 67) dX6_runs_67 rfl ?_
      refine J_sipush (pc := 68) (v := nI 276) dX6_runs_68 (by decide) ?_
      refine K_Vi1 (pc := 71) (Y' := YX6_pursesOn) dX6_runs_71 lX6_222 mX6_pursesOn vX6_pursesOn ⟨_, _, rfl⟩ sh131 (Nat.le_of_ble_eq_true rfl) (c6_pursesOn (o := 276) hn1 hn4 (by omega)) ?_
      rintro r h0 ⟨e0, rfl⟩
      rw [e0]
      clear e0 h0
      refine K_iret (pc := 74) dX6_runs_74 rfl ?_
      exact ⟨sumZ_cong (fun p hp => (congrArg _ (by omega)).trans (t276 (8 + p) (by omega) (by omega))), sp, lp⟩
    have e4 : x = nI 4 := by
      have z := bx.1
      have : ix x = 4 := by
        by_cases z0 : ix x = 0
        · exact absurd (z.trans (congrArg nI z0)) e0
        by_cases z1 : ix x = 1
        · exact absurd (z.trans (congrArg nI z1)) e1
        by_cases z2 : ix x = 2
        · exact absurd (z.trans (congrArg nI z2)) e2
        by_cases z3 : ix x = 3
        · exact absurd (z.trans (congrArg nI z3)) e3
        omega
      exact z.trans (congrArg nI this)
    subst e4
    refine J_tableOut (pc := 20) (tgt := 75) dX6_runs_20 (by decide) (by decide) ?_
    refine J_aload_n (pc := 75) dX6_runs_75 rfl ?_
    refine J_sipush (pc := 76) (v := nI 276) dX6_runs_76 (by decide) ?_
    refine K_Vi1 (pc := 79) (Y' := YX6_owedOn) dX6_runs_79 lX6_225 mX6_owedOn vX6_owedOn ⟨_, _, rfl⟩ sh131 (Nat.le_of_ble_eq_true rfl) (c6_owedOn (o := 276) (by omega)) ?_
    rintro r h0 ⟨e0, rfl⟩
    rw [e0]
    clear e0 h0
    refine K_iret (pc := 82) dX6_runs_82 rfl ?_
    exact ⟨sumZ_cong (fun p hp => (congrArg _ (by omega)).trans (t276 (53 + p) (by omega) (by omega))), sp, lp⟩
  · skip
    refine J_if_ne (pc := 9) (tgt := 14) dX6_runs_9 (by decide) (fun c => absurd c (by decide)) (fun _ => ?_)
    refine J_iconst (pc := 12) (v := -1) dX6_runs_12 (by decide) ?_
    refine K_iret (pc := 13) dX6_runs_13 rfl ?_
    exact ⟨(sel_out (fun j h1 h2 z => b6 (by rw [z]; exact (in_nbc (n := 4) rfl (by omega)).mpr (nb_nI (show j < 5 from by simpa using h2) (by omega))))).symm, sameP.rf, lo.rf⟩
set_option maxHeartbeats 4000000 in
theorem c6_ahead {g : jG} {d : Nat} {h : jH} {p : Int32} (hR : MR h) : Mi g (d + 3) YX6_ahead h [.ref 131, .int p] (fun r h' => r = (oAhead h p).1 ∧ sameP (oAhead h p).2 h' ∧ lo h h') := by
  refine M.of (by decide) rfl (Nat.le_of_ble_eq_true rfl) ?_
  have hR0 := hR
  have hG : GD (ix (h 131 2)) (pg h 0) := hR.2.1
  obtain ⟨r1, ⟨⟨v1, v2, v3, v4⟩, v5, v6, v7, v8, v9, va, vb, vc, vd⟩, r3, r4, ⟨r5, r6⟩, r7, r8, r9, ra⟩ := hR
  have hn := r1.1
  have hn4 := v1
  have n5 := r1.2
  have c6 : ix (h 132 37) < 6 := v3.2
  have p9 : ix (h 132 51) < 9 := v5.2
  have p9' : ix (pg h 0 51) < 9 := v5.2
  refine J_aload_n (pc := 0) dX6_ahead_0 rfl ?_
  refine J_iload_n (pc := 1) dX6_ahead_1 rfl ?_
  refine K_Vi1 (pc := 2) (Y' := YX6_isOne) dX6_ahead_2 lX6_160 mX6_isOne vX6_isOne ⟨_, _, rfl⟩ sh131 (Nat.le_of_ble_eq_true rfl) (c6_isOne (x := p) hn hn4) ?_
  rintro x h0 ⟨e0, ⟨rfl, b2⟩ | ⟨rfl, b2⟩⟩ <;> rw [e0] <;> clear e0 h0
  · skip
    refine J_if_ne (pc := 5) (tgt := 10) dX6_ahead_5 (by decide) (fun _ => ?_) (fun c => absurd c (by decide))
    refine J_aload_n (pc := 10) dX6_ahead_10 rfl ?_
    refine K_Vi0 (pc := 11) (Y' := YX6_planGoes) dX6_ahead_11 lX6_219 mX6_planGoes vX6_planGoes ⟨_, _, rfl⟩ sh131 (Nat.le_of_ble_eq_true rfl) (c6_planGoes hR0) ?_
    rintro r h0 ⟨e1, T, hT, e0⟩
    rw [e0, e1]
    clear e0 e1
    have gk := plF_ok hG (ix (pg h 0 51))
    have sp : sameP h (mset (j_up h 131 18 (plF (ix (h 131 2)) (pg h 0) (ix (pg h 0 51))).2.2) 276 T) := sameP_18.tr (sameP_scr (by omega))
    have lp : lo h (mset (j_up h 131 18 (plF (ix (h 131 2)) (pg h 0) (ix (pg h 0 51))).2.2) 276 T) := (lo_up (by omega)).tr lo_mset
    have hn1 : mset (j_up h 131 18 (plF (ix (h 131 2)) (pg h 0) (ix (pg h 0 51))).2.2) 276 T 131 2 = nI (ix (h 131 2)) := mset_b (by decide) ((j_up_o (by omega)).trans hn)
    have t276 : ∀ j, j < 69 → j ≠ 52 → mset (j_up h 131 18 (plF (ix (h 131 2)) (pg h 0) (ix (pg h 0 51))).2.2) 276 T 132 (276 + j) = (plF (ix (h 131 2)) (pg h 0) (ix (pg h 0 51))).1 j := fun j hj h52 => (mset_at j hj rfl).trans (hT j h52)
    refine J_pop (pc := 14) dX6_ahead_14 rfl ?_
    have qp := b2.2
    refine J_ls (ls' := [(0, .ref 131), (1, .int (nI (ix p)))]) ⟨rfl, congrArg (fun z => some (Value.int z)) b2.1, trivial⟩ ?_
    refine J_aload_n (pc := 15) dX6_ahead_15 rfl ?_
    refine J_getR (pc := 16) dX6_ahead_16 fX6_7 sh131 rfl ?_
    refine J_sipush (pc := 19) (v := nI 284) dX6_ahead_19 (by decide) ?_
    refine J_iload_n (pc := 22) dX6_ahead_22 rfl ?_
    refine J_iadd (pc := 23) dX6_ahead_23 (nI_add _ _) ?_
    refine J_iald (pc := 24) dX6_ahead_24 sh132 (rfl) (by omega) ((congrArg _ (show 284 + ix p = 276 + (8 + ix p) by omega)).trans (t276 (8 + ix p) (by omega) (by omega))) (by decide) ?_
    refine K_iret (pc := 25) dX6_ahead_25 rfl ?_
    exact by rw [oAhead, iteR_t b2]; exact ⟨rfl, sp, lp⟩
  · skip
    refine J_if_ne (pc := 5) (tgt := 10) dX6_ahead_5 (by decide) (fun c => absurd c (by decide)) (fun _ => ?_)
    refine J_iconst (pc := 8) (v := -1) dX6_ahead_8 (by decide) ?_
    refine K_iret (pc := 9) dX6_ahead_9 rfl ?_
    exact by rw [oAhead, iteR_f b2]; exact ⟨rfl, sameP.rf, lo.rf⟩
set_option maxHeartbeats 4000000 in
theorem c6_weatherOf {g : jG} {d : Nat} {h : jH} {n t : Nat} (hG : GD n (pg h 0)) (ht : t < 10) : Mi g (d + 2) YX6_weatherOf h [.ref 131, .int (nI t)] (fun r h' => h' = h ∧ r = nI (wthr (pg h 0) t)) := by
  refine M.of (by decide) rfl (Nat.le_of_ble_eq_true rfl) ?_
  have g8 := hG.2.2.2.2.1
  have g9 := hG.2.2.2.2.2.1
  have b0 := (g8 0 (by omega)).2
  have b1 := (g8 1 (by omega)).2
  have b2 := (g8 2 (by omega)).2
  have b3 := (g8 3 (by omega)).2
  refine J_iconst (pc := 0) (v := nI 0) dX6_weatherOf_0 (by decide) ?_
  refine J_istore_n (pc := 1) dX6_weatherOf_1 (by decide) ?_
  refine J_aload_n (pc := 2) dX6_weatherOf_2 rfl ?_
  refine J_iconst (pc := 3) (v := nI 0) dX6_weatherOf_3 (by decide) ?_
  refine K_Vi1 (pc := 4) (Y' := YX6_oddsOf) dX6_weatherOf_4 lX6_178 mX6_oddsOf vX6_oddsOf ⟨_, _, rfl⟩ sh131 (Nat.le_of_ble_eq_true rfl) (c6_oddsOf (w := 0) (by omega)) ?_
  rintro r h0 ⟨e0, rfl⟩
  rw [e0, show h 132 (38 + 0) + fo 0 = nI (ix (pg h 0 38 + fo 0)) from (congrArg (· + fo 0) pg0.symm).trans (g8 0 (by omega)).1]
  clear e0 h0
  refine J_istore_n (pc := 7) dX6_weatherOf_7 (by decide) ?_
  refine J_iload_n (pc := 8) dX6_weatherOf_8 rfl ?_
  refine J_iload_n (pc := 9) dX6_weatherOf_9 rfl ?_
  refine J_icmp_lt (pc := 10) (tgt := 27) dX6_weatherOf_10 (by decide) (fun c10 => ?_) (fun c10 => ?_)
  · skip
    have q0 : t < ix (pg h 0 38 + fo 0) := (nI_ltI (by omega) (by omega)).mp c10
    refine J_iload_n (pc := 27) dX6_weatherOf_27 rfl ?_
    refine K_iret (pc := 28) dX6_weatherOf_28 rfl ?_
    exact ⟨rfl, by rw [wthr, if_pos q0]⟩
  · skip
    have q0 : ¬ t < ix (pg h 0 38 + fo 0) := fun z => c10 ((nI_ltI (by omega) (by omega)).mpr z)
    refine J_iinc (pc := 13) dX6_weatherOf_13 rfl (v := nI 1) (by decide) (by decide) ?_
    refine J_iload_n (pc := 16) dX6_weatherOf_16 rfl ?_
    refine J_aload_n (pc := 17) dX6_weatherOf_17 rfl ?_
    refine J_iload_n (pc := 18) dX6_weatherOf_18 rfl ?_
    refine K_Vi1 (pc := 19) (Y' := YX6_oddsOf) dX6_weatherOf_19 lX6_178 mX6_oddsOf vX6_oddsOf ⟨_, _, rfl⟩ sh131 (Nat.le_of_ble_eq_true rfl) (c6_oddsOf (w := 1) (by omega)) ?_
    rintro r h0 ⟨e0, rfl⟩
    rw [e0, show h 132 (38 + 1) + fo 1 = nI (ix (pg h 0 39 + fo 1)) from (congrArg (· + fo 1) pg0.symm).trans (g8 1 (by omega)).1]
    clear e0 h0
    refine J_iadd (pc := 22) dX6_weatherOf_22 (nI_add _ _) ?_
    refine J_istore_n (pc := 23) dX6_weatherOf_23 (by decide) ?_
    refine J_goto (pc := 24) (tgt := 8) dX6_weatherOf_24 (by decide) ?_
    refine J_iload_n (pc := 8) dX6_weatherOf_8 rfl ?_
    refine J_iload_n (pc := 9) dX6_weatherOf_9 rfl ?_
    refine J_icmp_lt (pc := 10) (tgt := 27) dX6_weatherOf_10 (by decide) (fun c10 => ?_) (fun c10 => ?_)
    · skip
      have q1 : t < ix (pg h 0 38 + fo 0) + ix (pg h 0 39 + fo 1) := (nI_ltI (by omega) (by omega)).mp c10
      refine J_iload_n (pc := 27) dX6_weatherOf_27 rfl ?_
      refine K_iret (pc := 28) dX6_weatherOf_28 rfl ?_
      exact ⟨rfl, by rw [wthr, if_neg q0, if_pos q1]⟩
    · skip
      have q1 : ¬ t < ix (pg h 0 38 + fo 0) + ix (pg h 0 39 + fo 1) := fun z => c10 ((nI_ltI (by omega) (by omega)).mpr z)
      refine J_iinc (pc := 13) dX6_weatherOf_13 rfl (v := nI 2) (by decide) (by decide) ?_
      refine J_iload_n (pc := 16) dX6_weatherOf_16 rfl ?_
      refine J_aload_n (pc := 17) dX6_weatherOf_17 rfl ?_
      refine J_iload_n (pc := 18) dX6_weatherOf_18 rfl ?_
      refine K_Vi1 (pc := 19) (Y' := YX6_oddsOf) dX6_weatherOf_19 lX6_178 mX6_oddsOf vX6_oddsOf ⟨_, _, rfl⟩ sh131 (Nat.le_of_ble_eq_true rfl) (c6_oddsOf (w := 2) (by omega)) ?_
      rintro r h0 ⟨e0, rfl⟩
      rw [e0, show h 132 (38 + 2) + fo 2 = nI (ix (pg h 0 40 + fo 2)) from (congrArg (· + fo 2) pg0.symm).trans (g8 2 (by omega)).1]
      clear e0 h0
      refine J_iadd (pc := 22) dX6_weatherOf_22 (nI_add _ _) ?_
      refine J_istore_n (pc := 23) dX6_weatherOf_23 (by decide) ?_
      refine J_goto (pc := 24) (tgt := 8) dX6_weatherOf_24 (by decide) ?_
      refine J_iload_n (pc := 8) dX6_weatherOf_8 rfl ?_
      refine J_iload_n (pc := 9) dX6_weatherOf_9 rfl ?_
      refine J_icmp_lt (pc := 10) (tgt := 27) dX6_weatherOf_10 (by decide) (fun c10 => ?_) (fun c10 => ?_)
      · skip
        have q2 : t < ix (pg h 0 38 + fo 0) + ix (pg h 0 39 + fo 1) + ix (pg h 0 40 + fo 2) := (nI_ltI (by omega) (by omega)).mp c10
        refine J_iload_n (pc := 27) dX6_weatherOf_27 rfl ?_
        refine K_iret (pc := 28) dX6_weatherOf_28 rfl ?_
        exact ⟨rfl, by rw [wthr, if_neg q0, if_neg q1, if_pos q2]⟩
      · skip
        have q2 : ¬ t < ix (pg h 0 38 + fo 0) + ix (pg h 0 39 + fo 1) + ix (pg h 0 40 + fo 2) := fun z => c10 ((nI_ltI (by omega) (by omega)).mpr z)
        refine J_iinc (pc := 13) dX6_weatherOf_13 rfl (v := nI 3) (by decide) (by decide) ?_
        refine J_iload_n (pc := 16) dX6_weatherOf_16 rfl ?_
        refine J_aload_n (pc := 17) dX6_weatherOf_17 rfl ?_
        refine J_iload_n (pc := 18) dX6_weatherOf_18 rfl ?_
        refine K_Vi1 (pc := 19) (Y' := YX6_oddsOf) dX6_weatherOf_19 lX6_178 mX6_oddsOf vX6_oddsOf ⟨_, _, rfl⟩ sh131 (Nat.le_of_ble_eq_true rfl) (c6_oddsOf (w := 3) (by omega)) ?_
        rintro r h0 ⟨e0, rfl⟩
        rw [e0, show h 132 (38 + 3) + fo 3 = nI (ix (pg h 0 41 + fo 3)) from (congrArg (· + fo 3) pg0.symm).trans (g8 3 (by omega)).1]
        clear e0 h0
        refine J_iadd (pc := 22) dX6_weatherOf_22 (nI_add _ _) ?_
        refine J_istore_n (pc := 23) dX6_weatherOf_23 (by decide) ?_
        refine J_goto (pc := 24) (tgt := 8) dX6_weatherOf_24 (by decide) ?_
        refine J_iload_n (pc := 8) dX6_weatherOf_8 rfl ?_
        refine J_iload_n (pc := 9) dX6_weatherOf_9 rfl ?_
        refine J_icmp_lt (pc := 10) (tgt := 27) dX6_weatherOf_10 (by decide) (fun c10 => ?_) (fun c10 => ?_)
        · skip
          have q3 : t < ix (pg h 0 38 + fo 0) + ix (pg h 0 39 + fo 1) + ix (pg h 0 40 + fo 2) + ix (pg h 0 41 + fo 3) := (nI_ltI (by omega) (by omega)).mp c10
          refine J_iload_n (pc := 27) dX6_weatherOf_27 rfl ?_
          refine K_iret (pc := 28) dX6_weatherOf_28 rfl ?_
          exact ⟨rfl, by rw [wthr, if_neg q0, if_neg q1, if_neg q2]⟩
        · skip
          have q3 : ¬ t < ix (pg h 0 38 + fo 0) + ix (pg h 0 39 + fo 1) + ix (pg h 0 40 + fo 2) + ix (pg h 0 41 + fo 3) := fun z => c10 ((nI_ltI (by omega) (by omega)).mpr z)
          exact absurd (show t < 10 from ht) (by omega)
set_option maxHeartbeats 4000000 in
theorem l6_drift {g : jG} {d : Nat} {h : jH} {Q : kQ} {s n x : Int32} (hR : MR h) (hn60 : nb 61 n) (kx : ∀ (T : Nat → Int32), e52 (dfF (ix (h 131 2)) (pg h 0) s (ix n)).1 T → K g (d + 3) YX6_drift (mset h 276 T) 93 [(0, .ref 131), (1, .int s), (2, .int n), (3, .int x), (4, .int (dfF (ix (h 131 2)) (pg h 0) s (ix n)).2.2), (5, .int (dfF (ix (h 131 2)) (pg h 0) s (ix n)).2.1), (6, .int (nI (ix n)))] [] Q) : ∀ (m k : Nat) (T : Nat → Int32), k ≤ (ix n) → (ix n) < k + m → e52 (dfF (ix (h 131 2)) (pg h 0) s k).1 T → K g (d + 3) YX6_drift (mset h 276 T) 41 [(0, .ref 131), (1, .int s), (2, .int n), (3, .int x), (4, .int (dfF (ix (h 131 2)) (pg h 0) s k).2.2), (5, .int (dfF (ix (h 131 2)) (pg h 0) s k).2.1), (6, .int (nI k))] [] Q := by
  intro m
  induction m with
  | zero => intro k T hk1 hk2 hI; omega
  | succ m ih =>
    intro k T hk1 hk2 hI
    have hR0 := hR
    have hG : GD (ix (h 131 2)) (pg h 0) := hR.2.1
    obtain ⟨r1, ⟨⟨v1, v2, v3, v4⟩, v5, v6, v7, v8, v9, va, vb, vc, vd⟩, r3, r4, ⟨r5, r6⟩, r7, r8, r9, ra⟩ := hR
    have hn := r1.1
    have hn4 := v1
    have n5 := r1.2
    have c6 : ix (h 132 37) < 6 := v3.2
    have p9 : ix (h 132 51) < 9 := v5.2
    have p9' : ix (pg h 0 51) < 9 := v5.2
    have hn1 := hn
    have h132 : h 132 = h 132 := rfl
    have h133 : h 133 = h 133 := rfl
    have n61 := hn60.2
    have gk := dfF_ok (s := s) hG k
    have tk : ∀ j, j < 8 → T j = pg h 0 j := fun j hj => (hI j (by omega)).trans (gk.2 j (by omega))
    have we := week_e (w := wthr (pg h 0) (tenth (drw (dfF (ix (h 131 2)) (pg h 0) s k).2.2))) gk.1.1 hI
    have hGm : GD (ix (h 131 2)) (pg (mset h 276 T) 0) := GD_congr hG (fun j hj => mset_out (by omega))
    have ew : ∀ t, wthr (pg (mset h 276 T) 0) t = wthr (pg h 0) t := fun t => by
      unfold wthr
      rw [show pg (mset h 276 T) 0 38 = pg h 0 38 from mset_out (by omega), show pg (mset h 276 T) 0 39 = pg h 0 39 from mset_out (by omega), show pg (mset h 276 T) 0 40 = pg h 0 40 from mset_out (by omega)]
    refine J_ls (ls' := [(0, .ref 131), (1, .int s), (2, .int (nI (ix n))), (3, .int x), (4, .int (dfF (ix (h 131 2)) (pg h 0) s k).2.2), (5, .int (dfF (ix (h 131 2)) (pg h 0) s k).2.1), (6, .int (nI k))]) ⟨rfl, rfl, congrArg (fun z => some (Value.int z)) hn60.1, rfl, rfl, rfl, rfl, trivial⟩ ?_
    refine J_iload (pc := 41) dX6_drift_41 rfl ?_
    refine J_iload_n (pc := 43) dX6_drift_43 rfl ?_
    refine J_icmp_ge (pc := 44) (tgt := 93) dX6_drift_44 (by decide) (fun c44 => ?_) (fun c44 => ?_)
    · skip
      have q44 : (ix n) ≤ k := (nI_leI (by omega) (by omega)).mp c44
      have e_k : k = ix n := by omega
      refine J_ls (ls' := [(0, .ref 131), (1, .int s), (2, .int n), (3, .int x), (4, .int (dfF (ix (h 131 2)) (pg h 0) s k).2.2), (5, .int (dfF (ix (h 131 2)) (pg h 0) s k).2.1), (6, .int (nI k))]) ⟨rfl, rfl, congrArg (fun z => some (Value.int z)) hn60.1.symm, rfl, rfl, rfl, rfl, trivial⟩ ?_
      rw [e_k] at hI ⊢
      exact kx T hI
    · skip
      have q44 : k < (ix n) := Nat.lt_of_not_le (fun z => c44 ((nI_leI (by omega) (by omega)).mpr z))
      refine J_iload (pc := 47) dX6_drift_47 rfl ?_
      refine J_ldcw (pc := 49) dX6_drift_49 kX6_274 ?_
      refine J_imul (pc := 52) dX6_drift_52 (rfl) ?_
      refine J_sipush (pc := 53) (v := nI 12345) dX6_drift_53 (by decide) ?_
      refine J_iadd (pc := 56) dX6_drift_56 (rfl) ?_
      refine J_istore (pc := 57) dX6_drift_57 (by decide) ?_
      refine J_iload (pc := 59) dX6_drift_59 rfl ?_
      refine J_aload_n (pc := 61) dX6_drift_61 rfl ?_
      refine J_sipush (pc := 62) (v := nI 276) dX6_drift_62 (by decide) ?_
      refine J_aload_n (pc := 65) dX6_drift_65 rfl ?_
      refine J_iload (pc := 66) dX6_drift_66 rfl ?_
      refine J_bipush (pc := 68) (v := nI 16) dX6_drift_68 (by decide) ?_
      refine J_ishr (pc := 70) dX6_drift_70 (rfl) ?_
      refine J_sipush (pc := 71) (v := nI 32767) dX6_drift_71 (by decide) ?_
      refine J_iand (pc := 74) dX6_drift_74 (tenth_s _) ?_
      refine J_bipush (pc := 75) (v := nI 10) dX6_drift_75 (by decide) ?_
      refine J_irem (pc := 77) dX6_drift_77 (by decide) (tenth_r _) ?_
      refine K_Vi1 (pc := 78) (Y' := YX6_weatherOf) dX6_drift_78 lX6_275 mX6_weatherOf vX6_weatherOf ⟨_, _, rfl⟩ sh131 (Nat.le_of_ble_eq_true rfl) (c6_weatherOf hGm (tenth_lt _)) ?_
      rintro r h0 ⟨e0, rfl⟩
      rw [e0, ew]
      clear e0 h0
      refine K_Vi2 (pc := 81) (Y' := YX6_weekOn) dX6_drift_81 lX6_206 mX6_weekOn vX6_weekOn ⟨_, _, rfl⟩ sh131 (Nat.le_of_ble_eq_true rfl) (c6_weekOn (h := h) (o := 276) (n := ix (h 131 2)) (P := T) (γ := γP T (wthr (pg h 0) (tenth (drw (dfF (ix (h 131 2)) (pg h 0) s k).2.2)))) (w := (wthr (pg h 0) (tenth (drw (dfF (ix (h 131 2)) (pg h 0) s k).2.2)))) (by omega) (Or.inr (by omega)) hn1 hn4 wthr_lt (fun p hp => by rw [mset_out (by omega), h132]; have := v2 p hp; rw [pg0] at this; exact this) (fun p hp => by
    have k4 := (v2 p hp).2
    have hw4 : (wthr (pg h 0) (tenth (drw (dfF (ix (h 131 2)) (pg h 0) s k).2.2))) < 4 := wthr_lt
    rw [pg0] at k4
    unfold gM γP
    rw [mset_out (by omega), mset_out (by omega), mset_ne (b := 133) (by decide), h133, h132, r8 _ (by omega), tk p (by omega), tk (4 + p) (by omega)]
    simp only [pg0]) (gdV_e gk.1.1 hI).cv) ?_
      rintro r h0 ⟨e0, e1⟩
      rw [e0, e1]
      clear e0 e1 h0
      rw [we.2]
      refine J_iadd (pc := 84) dX6_drift_84 (rfl) ?_
      refine J_istore (pc := 85) dX6_drift_85 (by decide) ?_
      refine J_iinc (pc := 87) dX6_drift_87 rfl (v := nI (k + 1)) (by exact nI_add _ _) (by decide) ?_
      refine J_goto (pc := 90) (tgt := 41) dX6_drift_90 (by decide) ?_
      have i := ih (k + 1) _ (by omega) (by omega) we.1
      refine J_ls ?_ i
      exact ⟨rfl, rfl, congrArg (fun z => some (Value.int z)) hn60.1.symm, rfl, rfl, rfl, rfl, trivial⟩
set_option maxHeartbeats 4000000 in
theorem c6_drift {g : jG} {d : Nat} {h : jH} {s n x : Int32} (hR : MR h) : Mi g (d + 4) YX6_drift h [.ref 131, .int s, .int n, .int x] (fun r h' => r = (oDrift h s n x).1 ∧ sameP (oDrift h s n x).2 h' ∧ lo h h') := by
  refine M.of (by decide) rfl (Nat.le_of_ble_eq_true rfl) ?_
  have hR0 := hR
  have hG : GD (ix (h 131 2)) (pg h 0) := hR.2.1
  obtain ⟨r1, ⟨⟨v1, v2, v3, v4⟩, v5, v6, v7, v8, v9, va, vb, vc, vd⟩, r3, r4, ⟨r5, r6⟩, r7, r8, r9, ra⟩ := hR
  have hn := r1.1
  have hn4 := v1
  have n5 := r1.2
  have c6 : ix (h 132 37) < 6 := v3.2
  have p9 : ix (h 132 51) < 9 := v5.2
  have p9' : ix (pg h 0 51) < 9 := v5.2
  refine J_iload_n (pc := 0) dX6_drift_0 rfl ?_
  refine J_i2l (pc := 1) dX6_drift_1 (rfl) ?_
  refine J_lconst (pc := 2) (v := 1) dX6_drift_2 (by decide) ?_
  refine J_ldc2 (pc := 3) dX6_drift_3 kX6_272 ?_
  refine K_Si3 (pc := 6) (Y' := YX6_in) dX6_drift_6 lX6_55 mX6_in sX6_in (Nat.le_of_ble_eq_true rfl) (c6_inI n (nI 1) (nI 60) rfl (by decide) (by decide)) ?_
  rintro x h0 ⟨e0, ⟨rfl, b6⟩ | ⟨rfl, b6⟩⟩ <;> rw [e0] <;> clear e0 h0
  · skip
    refine J_if_eq (pc := 9) (tgt := 22) dX6_drift_9 (by decide) (fun c => absurd c (by decide)) (fun _ => ?_)
    refine J_iload_n (pc := 12) dX6_drift_12 rfl ?_
    refine J_i2l (pc := 13) dX6_drift_13 (rfl) ?_
    refine J_lconst (pc := 14) (v := 0) dX6_drift_14 (by decide) ?_
    refine J_lconst (pc := 15) (v := 1) dX6_drift_15 (by decide) ?_
    refine K_Si3 (pc := 16) (Y' := YX6_in) dX6_drift_16 lX6_55 mX6_in sX6_in (Nat.le_of_ble_eq_true rfl) (c6_inI x (nI 0) (nI 1) rfl (by decide) (by decide)) ?_
    rintro x h0 ⟨e0, ⟨rfl, b16⟩ | ⟨rfl, b16⟩⟩ <;> rw [e0] <;> clear e0 h0
    · skip
      refine J_if_ne (pc := 19) (tgt := 24) dX6_drift_19 (by decide) (fun _ => ?_) (fun c => absurd c (by decide))
      refine J_aload_n (pc := 24) dX6_drift_24 rfl ?_
      refine J_iconst (pc := 25) (v := nI 0) dX6_drift_25 (by decide) ?_
      refine J_sipush (pc := 26) (v := nI 276) dX6_drift_26 (by decide) ?_
      refine K_Vv2 (pc := 29) (Y' := YX6_copies) dX6_drift_29 lX6_215 mX6_copies vX6_copies ⟨_, _, rfl⟩ sh131 (Nat.le_of_ble_eq_true rfl) (c6_copies (a := 0) (o := 276) (by omega) (by omega) (by omega)) ?_
      rintro h0 e0
      rw [e0]
      clear e0 h0
      refine J_iload_n (pc := 32) dX6_drift_32 rfl ?_
      refine J_istore (pc := 33) dX6_drift_33 (by decide) ?_
      refine J_iconst (pc := 35) (v := nI 0) dX6_drift_35 (by decide) ?_
      refine J_istore (pc := 36) dX6_drift_36 (by decide) ?_
      refine J_iconst (pc := 38) (v := nI 0) dX6_drift_38 (by decide) ?_
      refine J_istore (pc := 39) dX6_drift_39 (by decide) ?_
      have bn : nb 61 n := (in_nbc (n := 60) rfl (by omega)).mp ⟨Int32.le_trans (by decide) b6.1, b6.2⟩
      refine J_ls (ls' := [(0, .ref 131), (1, .int s), (2, .int n), (3, .int x), (4, .int (dfF (ix (h 131 2)) (pg h 0) s 0).2.2), (5, .int (dfF (ix (h 131 2)) (pg h 0) s 0).2.1), (6, .int (nI 0))]) ⟨rfl, rfl, rfl, rfl, rfl, rfl, rfl, trivial⟩ ?_
      refine l6_drift hR0 bn ?_ (ix n + 1) 0 _ (Nat.zero_le _) (by omega) e52.rf
      intro T hT
      have sp : sameP h (mset h 276 T) := sameP_scr (by omega)
      have hn1 : mset h 276 T 131 2 = nI (ix (h 131 2)) := mset_b (by decide) hn
      refine J_iload_n (pc := 93) dX6_drift_93 rfl ?_
      refine J_if_ne (pc := 94) (tgt := 102) dX6_drift_94 (by decide) (fun c94 => ?_) (fun c94 => ?_)
      · skip
        refine J_aload_n (pc := 102) dX6_drift_102 rfl ?_
        refine J_sipush (pc := 103) (v := nI 276) dX6_drift_103 (by decide) ?_
        refine K_Vi1 (pc := 106) (Y' := YX6_pursesOn) dX6_drift_106 lX6_222 mX6_pursesOn vX6_pursesOn ⟨_, _, rfl⟩ sh131 (Nat.le_of_ble_eq_true rfl) (c6_pursesOn (o := 276) hn1 hn4 (by omega)) ?_
        rintro r h0 ⟨e0, rfl⟩
        rw [e0]
        clear e0 h0
        refine K_iret (pc := 109) dX6_drift_109 rfl ?_
        exact by rw [oDrift, iteR_t ⟨b6, b16⟩]; exact ⟨(sumZ_cong (fun p hp => ((mset_at (8 + p) (by omega) (by omega)).trans (hT (8 + p) (by omega))))).trans (iteP_f c94).symm, sp, lo_mset⟩
      · skip
        refine J_iload (pc := 97) dX6_drift_97 rfl ?_
        refine J_goto (pc := 99) (tgt := 109) dX6_drift_99 (by decide) ?_
        refine K_iret (pc := 109) dX6_drift_109 rfl ?_
        exact by rw [oDrift, iteR_t ⟨b6, b16⟩]; exact ⟨(iteP_t c94).symm, sp, lo_mset⟩
    · skip
      refine J_if_ne (pc := 19) (tgt := 24) dX6_drift_19 (by decide) (fun c => absurd c (by decide)) (fun _ => ?_)
      refine J_iconst (pc := 22) (v := -1) dX6_drift_22 (by decide) ?_
      refine K_iret (pc := 23) dX6_drift_23 rfl ?_
      exact by rw [oDrift, iteR_f (fun z => b16 z.2)]; exact ⟨rfl, sameP.rf, lo.rf⟩
  · skip
    refine J_if_eq (pc := 9) (tgt := 22) dX6_drift_9 (by decide) (fun _ => ?_) (fun c => absurd c (by decide))
    refine J_iconst (pc := 22) (v := -1) dX6_drift_22 (by decide) ?_
    refine K_iret (pc := 23) dX6_drift_23 rfl ?_
    exact by rw [oDrift, iteR_f (fun z => b6 z.1)]; exact ⟨rfl, sameP.rf, lo.rf⟩
