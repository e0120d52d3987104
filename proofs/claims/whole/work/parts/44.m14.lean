set_option maxHeartbeats 4000000 in
theorem l5_follow {g : jG} {d : Nat} {h : jH} {Q : kQ} {a : jH} {t : Int32} (hR : RX a h) (kx : ∀ (hh : jH), (XV (ix (a 131 2)) (plF (ix (a 131 2)) (pg a 0) (ix (pg a 0 51))).1 hh 19 ∧ ∀ b, (b < 19 ∨ 37 ≤ b) → hh b = h b) → K g (d + 2) YX5_followPlan (hh) 75 [(0, .ref 0), (1, .int t), (2, .int (plF (ix (a 131 2)) (pg a 0) (ix (pg a 0 51))).2.1), (3, .int (plF (ix (a 131 2)) (pg a 0) (ix (pg a 0 51))).2.2), (4, .int (nI (ix (pg a 0 51))))] [] Q) : ∀ (m k : Nat) (hh : jH), k ≤ (ix (pg a 0 51)) → (ix (pg a 0 51)) < k + m → (XV (ix (a 131 2)) (plF (ix (a 131 2)) (pg a 0) k).1 hh 19 ∧ ∀ b, (b < 19 ∨ 37 ≤ b) → hh b = h b) → K g (d + 2) YX5_followPlan (hh) 19 [(0, .ref 0), (1, .int t), (2, .int (plF (ix (a 131 2)) (pg a 0) k).2.1), (3, .int (plF (ix (a 131 2)) (pg a 0) k).2.2), (4, .int (nI k))] [] Q := by
  intro m
  induction m with
  | zero => intro k hh hk1 hk2 hI; omega
  | succ m ih =>
    intro k hh hk1 hk2 hI
    have hR0 := hR
    have hG := hR.1.2.2.2
    obtain ⟨⟨r1, hX, hwk, ⟨⟨v1, v2, v3, v4⟩, v5, v6, v7, v8, v9, va, vb, vc, vd⟩⟩, rK, rT, rS, rH, ⟨r8, r8b, r9, ra⟩⟩ := hR
    obtain ⟨x1, x2, x3, x4, x5, x6, x7, x8, x9⟩ := id hX
    have hn4 := v1
    have n5 := r1.2
    have c6 := v3.2
    have p9 := v5.2
    have gk := plF_ok hG k
    refine J_iload (pc := 19) dX5_followPlan_19 rfl ?_
    refine J_aload_n (pc := 21) dX5_followPlan_21 rfl ?_
    refine J_getR (pc := 22) dX5_followPlan_22 fX5_10 sh0 rfl ?_
    refine J_getI (pc := 25) dX5_followPlan_25 fX5_103 (sv0 isV1) rfl ((congrFun (hI.2 1 (by omega)) 7).trans (x7.trans v5.1)) ?_
    refine J_icmp_ge (pc := 28) (tgt := 75) dX5_followPlan_28 (by decide) (fun c28 => ?_) (fun c28 => ?_)
    · skip
      have q28 : (ix (pg a 0 51)) ≤ k := (nI_leI (by omega) (by omega)).mp c28
      have e_k : k = (ix (pg a 0 51)) := by omega
      refine J_ls (ls' := [(0, .ref 0), (1, .int t), (2, .int (plF (ix (a 131 2)) (pg a 0) k).2.1), (3, .int (plF (ix (a 131 2)) (pg a 0) k).2.2), (4, .int (nI k))]) ⟨rfl, rfl, rfl, rfl, rfl, trivial⟩ ?_
      rw [e_k] at hI ⊢
      exact kx hh hI
    · skip
      have q28 : k < (ix (pg a 0 51)) := Nat.lt_of_not_le (fun z => c28 ((nI_leI (by omega) (by omega)).mpr z))
      refine J_aload_n (pc := 31) dX5_followPlan_31 rfl ?_
      refine J_getR (pc := 32) dX5_followPlan_32 fX5_16 sh0 rfl ?_
      refine J_aload_n (pc := 35) dX5_followPlan_35 rfl ?_
      refine J_getR (pc := 36) dX5_followPlan_36 fX5_10 sh0 rfl ?_
      refine J_getR (pc := 39) dX5_followPlan_39 fX5_136 (sv0 isV1) rfl ?_
      refine J_iload (pc := 42) dX5_followPlan_42 rfl ?_
      refine J_iald (pc := 44) dX5_followPlan_44 (sv12 isV1) (rfl) (by omega) ((congrFun (hI.2 13 (by omega)) k).trans ((x8 k q28).trans (v6 k q28).1)) (by decide) ?_
      refine K_Vi1 (pc := 45) (Y' := YX4_live) dX5_followPlan_45 lX5_264 mX4_live vX4_live ⟨_, _, rfl⟩ (sv0 isV19) (Nat.le_of_ble_eq_true rfl) (c4_live isV19 hI.1 gk.1.1 gk.1.2.1.2 (v6 k q28).2) ?_
      rintro r h0 ⟨e1, e2, e3⟩
      rw [e2]
      refine J_istore (pc := 48) dX5_followPlan_48 (by decide) ?_
      refine J_iload (pc := 50) dX5_followPlan_50 rfl ?_
      refine J_if_le (pc := 52) (tgt := 64) dX5_followPlan_52 (by decide) (fun c52 => ?_) (fun c52 => ?_)
      · skip
        refine J_iload_n (pc := 64) dX5_followPlan_64 rfl ?_
        refine J_iload (pc := 65) dX5_followPlan_65 rfl ?_
        refine J_iadd (pc := 67) dX5_followPlan_67 (rfl) ?_
        refine J_istore_n (pc := 68) dX5_followPlan_68 (by decide) ?_
        refine J_iinc (pc := 69) dX5_followPlan_69 rfl (v := nI (k + 1)) (by exact nI_add _ _) (by decide) ?_
        refine J_goto (pc := 72) (tgt := 19) dX5_followPlan_72 (by decide) ?_
        have i := ih (k + 1) h0 (by omega) (by omega) ⟨e1, fun b hb => (e3 b (by omega) (by omega)).trans (hI.2 b hb)⟩
        rw [show (plF (ix (a 131 2)) (pg a 0) (k + 1)).2.2 = (plF (ix (a 131 2)) (pg a 0) k).2.2 from if_neg (fun z => absurd c52 (Int32.not_le.mpr z.1))] at i
        refine J_ls ?_ i
        exact ⟨rfl, rfl, rfl, rfl, rfl, trivial⟩
      · skip
        refine J_iload_n (pc := 55) dX5_followPlan_55 rfl ?_
        refine J_bipush (pc := 56) (v := -4) dX5_followPlan_56 (by decide) ?_
        refine J_icmp_ne (pc := 58) (tgt := 64) dX5_followPlan_58 (by decide) (fun c58 => ?_) (fun c58 => ?_)
        · skip
          refine J_iload_n (pc := 64) dX5_followPlan_64 rfl ?_
          refine J_iload (pc := 65) dX5_followPlan_65 rfl ?_
          refine J_iadd (pc := 67) dX5_followPlan_67 (rfl) ?_
          refine J_istore_n (pc := 68) dX5_followPlan_68 (by decide) ?_
          refine J_iinc (pc := 69) dX5_followPlan_69 rfl (v := nI (k + 1)) (by exact nI_add _ _) (by decide) ?_
          refine J_goto (pc := 72) (tgt := 19) dX5_followPlan_72 (by decide) ?_
          have i := ih (k + 1) h0 (by omega) (by omega) ⟨e1, fun b hb => (e3 b (by omega) (by omega)).trans (hI.2 b hb)⟩
          rw [show (plF (ix (a 131 2)) (pg a 0) (k + 1)).2.2 = (plF (ix (a 131 2)) (pg a 0) k).2.2 from if_neg (fun z => c58 z.2)] at i
          refine J_ls ?_ i
          exact ⟨rfl, rfl, rfl, rfl, rfl, trivial⟩
        · skip
          refine J_iload (pc := 61) dX5_followPlan_61 rfl ?_
          refine J_istore_n (pc := 63) dX5_followPlan_63 (by decide) ?_
          refine J_iload_n (pc := 64) dX5_followPlan_64 rfl ?_
          refine J_iload (pc := 65) dX5_followPlan_65 rfl ?_
          refine J_iadd (pc := 67) dX5_followPlan_67 (rfl) ?_
          refine J_istore_n (pc := 68) dX5_followPlan_68 (by decide) ?_
          refine J_iinc (pc := 69) dX5_followPlan_69 rfl (v := nI (k + 1)) (by exact nI_add _ _) (by decide) ?_
          refine J_goto (pc := 72) (tgt := 19) dX5_followPlan_72 (by decide) ?_
          have i := ih (k + 1) h0 (by omega) (by omega) ⟨e1, fun b hb => (e3 b (by omega) (by omega)).trans (hI.2 b hb)⟩
          rw [show (plF (ix (a 131 2)) (pg a 0) (k + 1)).2.2 = nI k from if_pos ⟨Int32.not_le.mp c52, c58⟩] at i
          refine J_ls ?_ i
          exact ⟨rfl, rfl, rfl, rfl, rfl, trivial⟩
set_option maxHeartbeats 4000000 in
theorem c5_follow0 {g : jG} {d : Nat} {a h : jH} (hR : RX a h) : Mi g (d + 3) YX5_followPlan h [.ref 0, .int (nI 0)] (fun r h' => r = (plF (ix (a 131 2)) (pg a 0) (ix (pg a 0 51))).2.1 ∧ XV (ix (a 131 2)) (plF (ix (a 131 2)) (pg a 0) (ix (pg a 0 51))).1 h' 19 ∧ ∀ b, (b < 19 ∨ 37 ≤ b) → h' b = h b) := by
  refine M.of (by decide) rfl (Nat.le_of_ble_eq_true rfl) ?_
  have hR0 := hR
  have hG := hR.1.2.2.2
  obtain ⟨⟨r1, hX, hwk, ⟨⟨v1, v2, v3, v4⟩, v5, v6, v7, v8, v9, va, vb, vc, vd⟩⟩, rK, rT, rS, rH, ⟨r8, r8b, r9, ra⟩⟩ := hR
  obtain ⟨x1, x2, x3, x4, x5, x6, x7, x8, x9⟩ := id hX
  have hn4 := v1
  have n5 := r1.2
  have c6 := v3.2
  have p9 := v5.2
  refine J_aload_n (pc := 0) dX5_followPlan_0 rfl ?_
  refine J_getR (pc := 1) dX5_followPlan_1 fX5_16 sh0 rfl ?_
  refine J_aload_n (pc := 4) dX5_followPlan_4 rfl ?_
  refine J_getR (pc := 5) dX5_followPlan_5 fX5_10 sh0 rfl ?_
  refine K_Vv1 (pc := 8) (Y' := YX4_copyFrom) dX5_followPlan_8 lX5_81 mX4_copyFrom vX4_copyFrom ⟨_, _, rfl⟩ (sv0 isV19) (Nat.le_of_ble_eq_true rfl) (c4_copyFrom isV1 isV19 (by omega)) ?_
  rintro h1 hc
  refine J_iconst (pc := 11) (v := nI 0) dX5_followPlan_11 (by decide) ?_
  refine J_istore_n (pc := 12) dX5_followPlan_12 (by decide) ?_
  refine J_bipush (pc := 13) (v := -4) dX5_followPlan_13 (by decide) ?_
  refine J_istore_n (pc := 15) dX5_followPlan_15 (by decide) ?_
  refine J_iconst (pc := 16) (v := nI 0) dX5_followPlan_16 (by decide) ?_
  refine J_istore (pc := 17) dX5_followPlan_17 (by decide) ?_
  have hR1 : RX a h1 := RX_congr hR0 sameP.rf (hc.q (Or.inl rfl))
  refine J_ls (ls' := [(0, .ref 0), (1, .int (nI 0)), (2, .int (plF (ix (a 131 2)) (pg a 0) 0).2.1), (3, .int (plF (ix (a 131 2)) (pg a 0) 0).2.2), (4, .int (nI 0))]) ⟨rfl, rfl, rfl, rfl, rfl, trivial⟩ ?_
  refine l5_follow (h := h1) hR1 ?_ (ix (pg a 0 51) + 1) 0 h1 (Nat.zero_le _) (by omega) ⟨XV_CP hX hn4 c6 p9 hc, fun b hb => rfl⟩
  intro hh hI
  refine J_iload_n (pc := 75) dX5_followPlan_75 rfl ?_
  refine J_if_eq (pc := 76) (tgt := 83) dX5_followPlan_76 (by decide) (fun _ => ?_) (fun c => absurd c (by decide))
  refine J_iload_n (pc := 83) dX5_followPlan_83 rfl ?_
  refine K_iret (pc := 84) dX5_followPlan_84 rfl ?_
  exact ⟨rfl, hI.1, fun b hb => (hI.2 b hb).trans (hc.1 b (by omega))⟩
set_option maxHeartbeats 4000000 in
theorem c5_follow1 {g : jG} {d : Nat} {a h : jH} (hR : RX a h) : Mi g (d + 3) YX5_followPlan h [.ref 0, .int (nI 1)] (fun r h' => r = (plF (ix (a 131 2)) (pg a 0) (ix (pg a 0 51))).2.2 ∧ XV (ix (a 131 2)) (plF (ix (a 131 2)) (pg a 0) (ix (pg a 0 51))).1 h' 19 ∧ ∀ b, (b < 19 ∨ 37 ≤ b) → h' b = h b) := by
  refine M.of (by decide) rfl (Nat.le_of_ble_eq_true rfl) ?_
  have hR0 := hR
  have hG := hR.1.2.2.2
  obtain ⟨⟨r1, hX, hwk, ⟨⟨v1, v2, v3, v4⟩, v5, v6, v7, v8, v9, va, vb, vc, vd⟩⟩, rK, rT, rS, rH, ⟨r8, r8b, r9, ra⟩⟩ := hR
  obtain ⟨x1, x2, x3, x4, x5, x6, x7, x8, x9⟩ := id hX
  have hn4 := v1
  have n5 := r1.2
  have c6 := v3.2
  have p9 := v5.2
  refine J_aload_n (pc := 0) dX5_followPlan_0 rfl ?_
  refine J_getR (pc := 1) dX5_followPlan_1 fX5_16 sh0 rfl ?_
  refine J_aload_n (pc := 4) dX5_followPlan_4 rfl ?_
  refine J_getR (pc := 5) dX5_followPlan_5 fX5_10 sh0 rfl ?_
  refine K_Vv1 (pc := 8) (Y' := YX4_copyFrom) dX5_followPlan_8 lX5_81 mX4_copyFrom vX4_copyFrom ⟨_, _, rfl⟩ (sv0 isV19) (Nat.le_of_ble_eq_true rfl) (c4_copyFrom isV1 isV19 (by omega)) ?_
  rintro h1 hc
  refine J_iconst (pc := 11) (v := nI 0) dX5_followPlan_11 (by decide) ?_
  refine J_istore_n (pc := 12) dX5_followPlan_12 (by decide) ?_
  refine J_bipush (pc := 13) (v := -4) dX5_followPlan_13 (by decide) ?_
  refine J_istore_n (pc := 15) dX5_followPlan_15 (by decide) ?_
  refine J_iconst (pc := 16) (v := nI 0) dX5_followPlan_16 (by decide) ?_
  refine J_istore (pc := 17) dX5_followPlan_17 (by decide) ?_
  have hR1 : RX a h1 := RX_congr hR0 sameP.rf (hc.q (Or.inl rfl))
  refine J_ls (ls' := [(0, .ref 0), (1, .int (nI 1)), (2, .int (plF (ix (a 131 2)) (pg a 0) 0).2.1), (3, .int (plF (ix (a 131 2)) (pg a 0) 0).2.2), (4, .int (nI 0))]) ⟨rfl, rfl, rfl, rfl, rfl, trivial⟩ ?_
  refine l5_follow (h := h1) hR1 ?_ (ix (pg a 0 51) + 1) 0 h1 (Nat.zero_le _) (by omega) ⟨XV_CP hX hn4 c6 p9 hc, fun b hb => rfl⟩
  intro hh hI
  refine J_iload_n (pc := 75) dX5_followPlan_75 rfl ?_
  refine J_if_eq (pc := 76) (tgt := 83) dX5_followPlan_76 (by decide) (fun c => absurd c (by decide)) (fun _ => ?_)
  refine J_iload_n (pc := 79) dX5_followPlan_79 rfl ?_
  refine J_goto (pc := 80) (tgt := 84) dX5_followPlan_80 (by decide) ?_
  refine K_iret (pc := 84) dX5_followPlan_84 rfl ?_
  exact ⟨rfl, hI.1, fun b hb => (hI.2 b hb).trans (hc.1 b (by omega))⟩
set_option maxHeartbeats 4000000 in
theorem c5_runs {g : jG} {d : Nat} {a h : jH} {x : Int32} (hR : RX a h) : Mi g (d + 4) YX5_runs h [.ref 0, .int x] (fun r h' => ∃ a', oRuns a x = (r, a') ∧ RX a' h' ∧ hi h h') := by
  refine M.of (by decide) rfl (Nat.le_of_ble_eq_true rfl) ?_
  have hR0 := hR
  have hG := hR.1.2.2.2
  obtain ⟨⟨r1, hX, hwk, ⟨⟨v1, v2, v3, v4⟩, v5, v6, v7, v8, v9, va, vb, vc, vd⟩⟩, rK, rT, rS, rH, ⟨r8, r8b, r9, ra⟩⟩ := hR
  obtain ⟨x1, x2, x3, x4, x5, x6, x7, x8, x9⟩ := id hX
  have hn4 := v1
  have n5 := r1.2
  have c6 := v3.2
  have p9 := v5.2
  refine J_iload_n (pc := 0) dX5_runs_0 rfl ?_
  by_cases e0 : x = nI 0
  · subst e0
    refine J_tableIn (pc := 1) (tgt := 36) dX5_runs_1 (by decide) (by decide) rfl (by decide) ?_
    refine J_aload_n (pc := 36) dX5_runs_36 rfl ?_
    refine J_iconst (pc := 37) (v := nI 0) dX5_runs_37 (by decide) ?_
    refine K_Vi1 (pc := 38) (Y' := YX5_followPlan) dX5_runs_38 lX5_163 mX5_followPlan vX5_followPlan ⟨_, _, rfl⟩ sh0 (Nat.le_of_ble_eq_true rfl) (c5_follow0 hR0) ?_
    rintro r h0 ⟨e1, e2, e3⟩
    rw [e1]
    clear e1
    have gk := plF_ok hG (ix (pg a 0 51))
    have e42 : (plF (ix (a 131 2)) (pg a 0) (ix (pg a 0 51))).1 42 = pg a 0 42 := gk.2 42 (by omega)
    have hq : xq h h0 := fun b hb => e3 b (by omega)
    have fin : RX a h0 ∧ hi h h0 := ⟨RX_congr hR0 sameP.rf hq, fun b hb => e3 b (by omega)⟩
    refine K_iret (pc := 41) dX5_runs_41 rfl ?_
    exact ⟨a, rfl, fin.1, fin.2⟩
  by_cases e1 : x = nI 1
  · subst e1
    refine J_tableIn (pc := 1) (tgt := 48) dX5_runs_1 (by decide) (by decide) rfl (by decide) ?_
    refine J_aload_n (pc := 48) dX5_runs_48 rfl ?_
    refine J_iconst (pc := 49) (v := nI 0) dX5_runs_49 (by decide) ?_
    refine K_Vi1 (pc := 50) (Y' := YX5_followPlan) dX5_runs_50 lX5_163 mX5_followPlan vX5_followPlan ⟨_, _, rfl⟩ sh0 (Nat.le_of_ble_eq_true rfl) (c5_follow0 hR0) ?_
    rintro r h0 ⟨e1, e2, e3⟩
    rw [e1]
    clear e1
    have gk := plF_ok hG (ix (pg a 0 51))
    have e42 : (plF (ix (a 131 2)) (pg a 0) (ix (pg a 0 51))).1 42 = pg a 0 42 := gk.2 42 (by omega)
    have hq : xq h h0 := fun b hb => e3 b (by omega)
    have fin : RX a h0 ∧ hi h h0 := ⟨RX_congr hR0 sameP.rf hq, fun b hb => e3 b (by omega)⟩
    refine J_pop (pc := 53) dX5_runs_53 rfl ?_
    refine J_aload_n (pc := 54) dX5_runs_54 rfl ?_
    refine J_getR (pc := 55) dX5_runs_55 fX5_16 sh0 rfl ?_
    refine K_Vi0 (pc := 58) (Y' := YX4_belowFloor) dX5_runs_58 lX5_106 mX4_belowFloor vX4_belowFloor ⟨_, _, rfl⟩ (sv0 isV19) (Nat.le_of_ble_eq_true rfl) (c4_belowFloor isV19 e2 hn4) ?_
    rintro r h2 ⟨ee, rfl⟩
    rw [ee]
    clear ee h2
    refine K_iret (pc := 61) dX5_runs_61 rfl ?_
    exact ⟨a, by rw [e42]; rfl, fin.1, fin.2⟩
  by_cases e2 : x = nI 2
  · subst e2
    refine J_tableIn (pc := 1) (tgt := 42) dX5_runs_1 (by decide) (by decide) rfl (by decide) ?_
    refine J_aload_n (pc := 42) dX5_runs_42 rfl ?_
    refine J_iconst (pc := 43) (v := nI 1) dX5_runs_43 (by decide) ?_
    refine K_Vi1 (pc := 44) (Y' := YX5_followPlan) dX5_runs_44 lX5_163 mX5_followPlan vX5_followPlan ⟨_, _, rfl⟩ sh0 (Nat.le_of_ble_eq_true rfl) (c5_follow1 hR0) ?_
    rintro r h0 ⟨e1, e2, e3⟩
    rw [e1]
    clear e1
    have gk := plF_ok hG (ix (pg a 0 51))
    have e42 : (plF (ix (a 131 2)) (pg a 0) (ix (pg a 0 51))).1 42 = pg a 0 42 := gk.2 42 (by omega)
    have hq : xq h h0 := fun b hb => e3 b (by omega)
    have fin : RX a h0 ∧ hi h h0 := ⟨RX_congr hR0 sameP.rf hq, fun b hb => e3 b (by omega)⟩
    refine K_iret (pc := 47) dX5_runs_47 rfl ?_
    exact ⟨a, rfl, fin.1, fin.2⟩
  by_cases e3 : x = nI 3
  · subst e3
    refine J_tableIn (pc := 1) (tgt := 62) dX5_runs_1 (by decide) (by decide) rfl (by decide) ?_
    refine J_aload_n (pc := 62) dX5_runs_62 rfl ?_
    refine J_iconst (pc := 63) (v := nI 0) dX5_runs_63 (by decide) ?_
    refine K_Vi1 (pc := 64) (Y' := YX5_followPlan) dX5_runs_64 lX5_163 mX5_followPlan vX5_followPlan ⟨_, _, rfl⟩ sh0 (Nat.le_of_ble_eq_true rfl) (c5_follow0 hR0) ?_
    rintro r h0 ⟨e1, e2, e3⟩
    rw [e1]
    clear e1
    have gk := plF_ok hG (ix (pg a 0 51))
    have e42 : (plF (ix (a 131 2)) (pg a 0) (ix (pg a 0 51))).1 42 = pg a 0 42 := gk.2 42 (by omega)
    have hq : xq h h0 := fun b hb => e3 b (by omega)
    have fin : RX a h0 ∧ hi h h0 := ⟨RX_congr hR0 sameP.rf hq, fun b hb => e3 b (by omega)⟩
    refine J_pop (pc := 67) dX5_runs_67 rfl ?_
    refine J_aload_n (pc := 68) dX5_runs_68 rfl ?_
    refine J_getR (pc := 69) dX5_runs_69 fX5_16 sh0 rfl ?_
    refine K_Vi0 (pc := 72) (Y' := YX4_allPurses) dX5_runs_72 lX5_167 mX4_allPurses vX4_allPurses ⟨_, _, rfl⟩ (sv0 isV19) (Nat.le_of_ble_eq_true rfl) (c4_allPurses isV19 e2 hn4) ?_
    rintro r h2 ⟨ee, rfl⟩
    rw [ee]
    clear ee h2
    refine K_iret (pc := 75) dX5_runs_75 rfl ?_
    exact ⟨a, rfl, fin.1, fin.2⟩
  by_cases e4 : x = nI 4
  · subst e4
    refine J_tableIn (pc := 1) (tgt := 76) dX5_runs_1 (by decide) (by decide) rfl (by decide) ?_
    refine J_aload_n (pc := 76) dX5_runs_76 rfl ?_
    refine J_iconst (pc := 77) (v := nI 0) dX5_runs_77 (by decide) ?_
    refine K_Vi1 (pc := 78) (Y' := YX5_followPlan) dX5_runs_78 lX5_163 mX5_followPlan vX5_followPlan ⟨_, _, rfl⟩ sh0 (Nat.le_of_ble_eq_true rfl) (c5_follow0 hR0) ?_
    rintro r h0 ⟨e1, e2, e3⟩
    rw [e1]
    clear e1
    have gk := plF_ok hG (ix (pg a 0 51))
    have e42 : (plF (ix (a 131 2)) (pg a 0) (ix (pg a 0 51))).1 42 = pg a 0 42 := gk.2 42 (by omega)
    have hq : xq h h0 := fun b hb => e3 b (by omega)
    have fin : RX a h0 ∧ hi h h0 := ⟨RX_congr hR0 sameP.rf hq, fun b hb => e3 b (by omega)⟩
    refine J_pop (pc := 81) dX5_runs_81 rfl ?_
    refine J_aload_n (pc := 82) dX5_runs_82 rfl ?_
    refine J_getR (pc := 83) dX5_runs_83 fX5_16 sh0 rfl ?_
    refine K_Vi0 (pc := 86) (Y' := YX4_allDebts) dX5_runs_86 lX5_170 mX4_allDebts vX4_allDebts ⟨_, _, rfl⟩ (sv0 isV19) (Nat.le_of_ble_eq_true rfl) (c4_allDebts isV19 e2 hn4) ?_
    rintro r h2 ⟨ee, rfl⟩
    rw [ee]
    clear ee h2
    refine K_iret (pc := 89) dX5_runs_89 rfl ?_
    exact ⟨a, by rw [adG_all hn4 gk.1.2.2.2.2.2.2.2.2.2]; rfl, fin.1, fin.2⟩
  have hj : ∀ k, k < 5 → ¬ x = nI k := fun k hk => by
    match k, hk with
    | 0, _ => exact e0
    | 1, _ => exact e1
    | 2, _ => exact e2
    | 3, _ => exact e3
    | 4, _ => exact e4
  refine J_tableOut (pc := 1) (tgt := 90) dX5_runs_1 (tsw_out (N := 5) (by omega) hj) (by decide) ?_
  refine J_iconst (pc := 90) (v := -1) dX5_runs_90 (by decide) ?_
  refine K_iret (pc := 91) dX5_runs_91 rfl ?_
  exact ⟨a, congrArg (fun z => (z, a)) (sel_out (fun j h1 h2 => hj j h2)), hR0, hi.rf⟩
set_option maxHeartbeats 4000000 in
theorem c5_ahead {g : jG} {d : Nat} {a h : jH} {p : Int32} (hR : RX a h) : Mi g (d + 4) YX5_ahead h [.ref 0, .int p] (fun r h' => ∃ a', oAhead a p = (r, a') ∧ RX a' h' ∧ hi h h') := by
  refine M.of (by decide) rfl (Nat.le_of_ble_eq_true rfl) ?_
  have hR0 := hR
  have hG := hR.1.2.2.2
  obtain ⟨⟨r1, hX, hwk, ⟨⟨v1, v2, v3, v4⟩, v5, v6, v7, v8, v9, va, vb, vc, vd⟩⟩, rK, rT, rS, rH, ⟨r8, r8b, r9, ra⟩⟩ := hR
  obtain ⟨x1, x2, x3, x4, x5, x6, x7, x8, x9⟩ := id hX
  have hn4 := v1
  have n5 := r1.2
  have c6 := v3.2
  have p9 := v5.2
  refine J_aload_n (pc := 0) dX5_ahead_0 rfl ?_
  refine J_iload_n (pc := 1) dX5_ahead_1 rfl ?_
  refine K_Vi1 (pc := 2) (Y' := YX5_isOne) dX5_ahead_2 lX5_109 mX5_isOne vX5_isOne ⟨_, _, rfl⟩ sh0 (Nat.le_of_ble_eq_true rfl) (c5_isOne (x := p) x1 hn4) ?_
  rintro x h0 ⟨e0, ⟨rfl, b2⟩ | ⟨rfl, b2⟩⟩ <;> rw [e0] <;> clear e0 h0
  · skip
    refine J_if_ne (pc := 5) (tgt := 10) dX5_ahead_5 (by decide) (fun _ => ?_) (fun c => absurd c (by decide))
    have qp := b2.2
    refine J_ls (ls' := [(0, .ref 0), (1, .int (nI (ix p)))]) ⟨rfl, congrArg (fun z => some (Value.int z)) b2.1, trivial⟩ ?_
    refine J_aload_n (pc := 10) dX5_ahead_10 rfl ?_
    refine J_iconst (pc := 11) (v := nI 0) dX5_ahead_11 (by decide) ?_
    refine K_Vi1 (pc := 12) (Y' := YX5_followPlan) dX5_ahead_12 lX5_163 mX5_followPlan vX5_followPlan ⟨_, _, rfl⟩ sh0 (Nat.le_of_ble_eq_true rfl) (c5_follow0 hR0) ?_
    rintro r h0 ⟨e1, e2, e3⟩
    rw [e1]
    clear e1
    have gk := plF_ok hG (ix (pg a 0 51))
    have e42 : (plF (ix (a 131 2)) (pg a 0) (ix (pg a 0 51))).1 42 = pg a 0 42 := gk.2 42 (by omega)
    have hq : xq h h0 := fun b hb => e3 b (by omega)
    have fin : RX a h0 ∧ hi h h0 := ⟨RX_congr hR0 sameP.rf hq, fun b hb => e3 b (by omega)⟩
    refine J_pop (pc := 15) dX5_ahead_15 rfl ?_
    refine J_aload_n (pc := 16) dX5_ahead_16 rfl ?_
    refine J_getR (pc := 17) dX5_ahead_17 fX5_16 sh0 rfl ?_
    refine J_getR (pc := 20) dX5_ahead_20 fX5_173 (sv0 isV19) rfl ?_
    refine J_iload_n (pc := 23) dX5_ahead_23 rfl ?_
    refine J_iald (pc := 24) dX5_ahead_24 (sv4 isV19) (rfl) (by omega) ((e2.2.1 _ b2.2).2.2) (by decide) ?_
    refine K_iret (pc := 25) dX5_ahead_25 rfl ?_
    exact ⟨a, iteR_t b2, fin.1, fin.2⟩
  · skip
    refine J_if_ne (pc := 5) (tgt := 10) dX5_ahead_5 (by decide) (fun c => absurd c (by decide)) (fun _ => ?_)
    refine J_iconst (pc := 8) (v := -1) dX5_ahead_8 (by decide) ?_
    refine K_iret (pc := 9) dX5_ahead_9 rfl ?_
    exact ⟨a, iteR_f b2, hR0, hi.rf⟩
set_option maxHeartbeats 4000000 in
theorem c4_weatherAt {g : jG} {d : Nat} {h : jH} {v n t : Nat} {P : Nat → Int32} (hv : isV v) (hX : XV n P h v) (hG : GD n P) (ht : t < 10) : Mi g d YX4_weatherAt h [.ref v, .int (nI t)] (fun r h' => h' = h ∧ r = nI (wthr P t)) := by
  refine M.of (by decide) rfl (Nat.le_of_ble_eq_true rfl) ?_
  have g8 := hG.2.2.2.2.1
  have g9 := hG.2.2.2.2.2.1
  have b0 := (g8 0 (by omega)).2
  have b1 := (g8 1 (by omega)).2
  have b2 := (g8 2 (by omega)).2
  have b3 := (g8 3 (by omega)).2
  have xc := hX.2.2.2.2.1
  refine J_iconst (pc := 0) (v := nI 0) dX4_weatherAt_0 (by decide) ?_
  refine J_istore_n (pc := 1) dX4_weatherAt_1 (by decide) ?_
  refine J_aload_n (pc := 2) dX4_weatherAt_2 rfl ?_
  refine J_getR (pc := 3) dX4_weatherAt_3 fX4_23 (sv0 hv) rfl ?_
  refine J_iconst (pc := 6) (v := nI 0) dX4_weatherAt_6 (by decide) ?_
  refine J_iald (pc := 7) dX4_weatherAt_7 (sv11 hv) (rfl) (by omega) ((xc 0 (by omega)).trans (g8 0 (by omega)).1) (by decide) ?_
  refine J_istore_n (pc := 8) dX4_weatherAt_8 (by decide) ?_
  refine J_iload_n (pc := 9) dX4_weatherAt_9 rfl ?_
  refine J_iconst (pc := 10) (v := nI 3) dX4_weatherAt_10 (by decide) ?_
  refine J_icmp_ge (pc := 11) (tgt := 34) dX4_weatherAt_11 (by decide) (fun c => absurd c (by decide)) (fun _ => ?_)
  refine J_iload_n (pc := 14) dX4_weatherAt_14 rfl ?_
  refine J_iload_n (pc := 15) dX4_weatherAt_15 rfl ?_
  refine J_icmp_lt (pc := 16) (tgt := 34) dX4_weatherAt_16 (by decide) (fun c16 => ?_) (fun c16 => ?_)
  · skip
    have q0 : t < ix (P 38 + fo 0) := (nI_ltI (by omega) (by omega)).mp c16
    refine J_iload_n (pc := 34) dX4_weatherAt_34 rfl ?_
    refine K_iret (pc := 35) dX4_weatherAt_35 rfl ?_
    exact ⟨rfl, by rw [wthr, if_pos q0]⟩
  · skip
    have q0 : ¬ t < ix (P 38 + fo 0) := fun z => c16 ((nI_ltI (by omega) (by omega)).mpr z)
    refine J_iinc (pc := 19) dX4_weatherAt_19 rfl (v := nI 1) (by decide) (by decide) ?_
    refine J_iload_n (pc := 22) dX4_weatherAt_22 rfl ?_
    refine J_aload_n (pc := 23) dX4_weatherAt_23 rfl ?_
    refine J_getR (pc := 24) dX4_weatherAt_24 fX4_23 (sv0 hv) rfl ?_
    refine J_iload_n (pc := 27) dX4_weatherAt_27 rfl ?_
    refine J_iald (pc := 28) dX4_weatherAt_28 (sv11 hv) (rfl) (by omega) ((xc 1 (by omega)).trans (g8 1 (by omega)).1) (by decide) ?_
    refine J_iadd (pc := 29) dX4_weatherAt_29 (nI_add _ _) ?_
    refine J_istore_n (pc := 30) dX4_weatherAt_30 (by decide) ?_
    refine J_goto (pc := 31) (tgt := 9) dX4_weatherAt_31 (by decide) ?_
    refine J_iload_n (pc := 9) dX4_weatherAt_9 rfl ?_
    refine J_iconst (pc := 10) (v := nI 3) dX4_weatherAt_10 (by decide) ?_
    refine J_icmp_ge (pc := 11) (tgt := 34) dX4_weatherAt_11 (by decide) (fun c => absurd c (by decide)) (fun _ => ?_)
    refine J_iload_n (pc := 14) dX4_weatherAt_14 rfl ?_
    refine J_iload_n (pc := 15) dX4_weatherAt_15 rfl ?_
    refine J_icmp_lt (pc := 16) (tgt := 34) dX4_weatherAt_16 (by decide) (fun c16 => ?_) (fun c16 => ?_)
    · skip
      have q1 : t < ix (P 38 + fo 0) + ix (P 39 + fo 1) := (nI_ltI (by omega) (by omega)).mp c16
      refine J_iload_n (pc := 34) dX4_weatherAt_34 rfl ?_
      refine K_iret (pc := 35) dX4_weatherAt_35 rfl ?_
      exact ⟨rfl, by rw [wthr, if_neg q0, if_pos q1]⟩
    · skip
      have q1 : ¬ t < ix (P 38 + fo 0) + ix (P 39 + fo 1) := fun z => c16 ((nI_ltI (by omega) (by omega)).mpr z)
      refine J_iinc (pc := 19) dX4_weatherAt_19 rfl (v := nI 2) (by decide) (by decide) ?_
      refine J_iload_n (pc := 22) dX4_weatherAt_22 rfl ?_
      refine J_aload_n (pc := 23) dX4_weatherAt_23 rfl ?_
      refine J_getR (pc := 24) dX4_weatherAt_24 fX4_23 (sv0 hv) rfl ?_
      refine J_iload_n (pc := 27) dX4_weatherAt_27 rfl ?_
      refine J_iald (pc := 28) dX4_weatherAt_28 (sv11 hv) (rfl) (by omega) ((xc 2 (by omega)).trans (g8 2 (by omega)).1) (by decide) ?_
      refine J_iadd (pc := 29) dX4_weatherAt_29 (nI_add _ _) ?_
      refine J_istore_n (pc := 30) dX4_weatherAt_30 (by decide) ?_
      refine J_goto (pc := 31) (tgt := 9) dX4_weatherAt_31 (by decide) ?_
      refine J_iload_n (pc := 9) dX4_weatherAt_9 rfl ?_
      refine J_iconst (pc := 10) (v := nI 3) dX4_weatherAt_10 (by decide) ?_
      refine J_icmp_ge (pc := 11) (tgt := 34) dX4_weatherAt_11 (by decide) (fun c => absurd c (by decide)) (fun _ => ?_)
      refine J_iload_n (pc := 14) dX4_weatherAt_14 rfl ?_
      refine J_iload_n (pc := 15) dX4_weatherAt_15 rfl ?_
      refine J_icmp_lt (pc := 16) (tgt := 34) dX4_weatherAt_16 (by decide) (fun c16 => ?_) (fun c16 => ?_)
      · skip
        have q2 : t < ix (P 38 + fo 0) + ix (P 39 + fo 1) + ix (P 40 + fo 2) := (nI_ltI (by omega) (by omega)).mp c16
        refine J_iload_n (pc := 34) dX4_weatherAt_34 rfl ?_
        refine K_iret (pc := 35) dX4_weatherAt_35 rfl ?_
        exact ⟨rfl, by rw [wthr, if_neg q0, if_neg q1, if_pos q2]⟩
      · skip
        have q2 : ¬ t < ix (P 38 + fo 0) + ix (P 39 + fo 1) + ix (P 40 + fo 2) := fun z => c16 ((nI_ltI (by omega) (by omega)).mpr z)
        refine J_iinc (pc := 19) dX4_weatherAt_19 rfl (v := nI 3) (by decide) (by decide) ?_
        refine J_iload_n (pc := 22) dX4_weatherAt_22 rfl ?_
        refine J_aload_n (pc := 23) dX4_weatherAt_23 rfl ?_
        refine J_getR (pc := 24) dX4_weatherAt_24 fX4_23 (sv0 hv) rfl ?_
        refine J_iload_n (pc := 27) dX4_weatherAt_27 rfl ?_
        refine J_iald (pc := 28) dX4_weatherAt_28 (sv11 hv) (rfl) (by omega) ((xc 3 (by omega)).trans (g8 3 (by omega)).1) (by decide) ?_
        refine J_iadd (pc := 29) dX4_weatherAt_29 (nI_add _ _) ?_
        refine J_istore_n (pc := 30) dX4_weatherAt_30 (by decide) ?_
        refine J_goto (pc := 31) (tgt := 9) dX4_weatherAt_31 (by decide) ?_
        refine J_iload_n (pc := 9) dX4_weatherAt_9 rfl ?_
        refine J_iconst (pc := 10) (v := nI 3) dX4_weatherAt_10 (by decide) ?_
        refine J_icmp_ge (pc := 11) (tgt := 34) dX4_weatherAt_11 (by decide) (fun _ => ?_) (fun c => absurd c (by decide))
        refine J_iload_n (pc := 34) dX4_weatherAt_34 rfl ?_
        refine K_iret (pc := 35) dX4_weatherAt_35 rfl ?_
        exact ⟨rfl, by rw [wthr, if_neg q0, if_neg q1, if_neg q2]⟩
set_option maxHeartbeats 4000000 in
theorem l5_drift {g : jG} {d : Nat} {h : jH} {Q : kQ} {a : jH} {s n x : Int32} (hR : RX a h) (hn60 : nb 61 n) (kx : ∀ (hh : jH), (XV (ix (a 131 2)) (dfF (ix (a 131 2)) (pg a 0) s (ix n)).1 hh 19 ∧ ∀ b, (b < 19 ∨ 37 ≤ b) → hh b = h b) → K g (d + 2) YX5_drift (hh) 96 [(0, .ref 0), (1, .int s), (2, .int n), (3, .int x), (4, .int (dfF (ix (a 131 2)) (pg a 0) s (ix n)).2.1), (5, .int (dfF (ix (a 131 2)) (pg a 0) s (ix n)).2.2), (6, .int (nI (ix n)))] [] Q) : ∀ (m k : Nat) (hh : jH), k ≤ (ix n) → (ix n) < k + m → (XV (ix (a 131 2)) (dfF (ix (a 131 2)) (pg a 0) s k).1 hh 19 ∧ ∀ b, (b < 19 ∨ 37 ≤ b) → hh b = h b) → K g (d + 2) YX5_drift (hh) 41 [(0, .ref 0), (1, .int s), (2, .int n), (3, .int x), (4, .int (dfF (ix (a 131 2)) (pg a 0) s k).2.1), (5, .int (dfF (ix (a 131 2)) (pg a 0) s k).2.2), (6, .int (nI k))] [] Q := by
  intro m
  induction m with
  | zero => intro k hh hk1 hk2 hI; omega
  | succ m ih =>
    intro k hh hk1 hk2 hI
    have hR0 := hR
    have hG := hR.1.2.2.2
    obtain ⟨⟨r1, hX, hwk, ⟨⟨v1, v2, v3, v4⟩, v5, v6, v7, v8, v9, va, vb, vc, vd⟩⟩, rK, rT, rS, rH, ⟨r8, r8b, r9, ra⟩⟩ := hR
    obtain ⟨x1, x2, x3, x4, x5, x6, x7, x8, x9⟩ := id hX
    have hn4 := v1
    have n5 := r1.2
    have c6 := v3.2
    have p9 := v5.2
    have gk := dfF_ok (s := s) hG k
    have n61 := hn60.2
    have hXn : XV (ix (a 131 2)) (pg a 0) hh 1 := XV_congr hX (fun _ _ => rfl) hn4 c6 p9 (fun b h1 h2 => hI.2 b (by omega))
    refine J_ls (ls' := [(0, .ref 0), (1, .int s), (2, .int (nI (ix n))), (3, .int x), (4, .int (dfF (ix (a 131 2)) (pg a 0) s k).2.1), (5, .int (dfF (ix (a 131 2)) (pg a 0) s k).2.2), (6, .int (nI k))]) ⟨rfl, rfl, congrArg (fun z => some (Value.int z)) hn60.1, rfl, rfl, rfl, rfl, trivial⟩ ?_
    refine J_iload (pc := 41) dX5_drift_41 rfl ?_
    refine J_iload_n (pc := 43) dX5_drift_43 rfl ?_
    refine J_icmp_ge (pc := 44) (tgt := 96) dX5_drift_44 (by decide) (fun c44 => ?_) (fun c44 => ?_)
    · skip
      have q44 : (ix n) ≤ k := (nI_leI (by omega) (by omega)).mp c44
      have e_k : k = ix n := by omega
      refine J_ls (ls' := [(0, .ref 0), (1, .int s), (2, .int n), (3, .int x), (4, .int (dfF (ix (a 131 2)) (pg a 0) s k).2.1), (5, .int (dfF (ix (a 131 2)) (pg a 0) s k).2.2), (6, .int (nI k))]) ⟨rfl, rfl, congrArg (fun z => some (Value.int z)) hn60.1.symm, rfl, rfl, rfl, rfl, trivial⟩ ?_
      rw [e_k] at hI ⊢
      exact kx hh hI
    · skip
      have q44 : k < (ix n) := Nat.lt_of_not_le (fun z => c44 ((nI_leI (by omega) (by omega)).mpr z))
      refine J_iload (pc := 47) dX5_drift_47 rfl ?_
      refine J_ldcw (pc := 49) dX5_drift_49 kX5_260 ?_
      refine J_imul (pc := 52) dX5_drift_52 (rfl) ?_
      refine J_sipush (pc := 53) (v := nI 12345) dX5_drift_53 (by decide) ?_
      refine J_iadd (pc := 56) dX5_drift_56 (rfl) ?_
      refine J_istore (pc := 57) dX5_drift_57 (by decide) ?_
      refine J_iload (pc := 59) dX5_drift_59 rfl ?_
      refine J_aload_n (pc := 61) dX5_drift_61 rfl ?_
      refine J_getR (pc := 62) dX5_drift_62 fX5_16 sh0 rfl ?_
      refine J_aload_n (pc := 65) dX5_drift_65 rfl ?_
      refine J_getR (pc := 66) dX5_drift_66 fX5_10 sh0 rfl ?_
      refine J_iload (pc := 69) dX5_drift_69 rfl ?_
      refine J_bipush (pc := 71) (v := nI 16) dX5_drift_71 (by decide) ?_
      refine J_iushr (pc := 73) dX5_drift_73 (rfl) ?_
      refine J_sipush (pc := 74) (v := nI 32767) dX5_drift_74 (by decide) ?_
      refine J_iand (pc := 77) dX5_drift_77 (tenth_u _) ?_
      refine J_bipush (pc := 78) (v := nI 10) dX5_drift_78 (by decide) ?_
      refine J_irem (pc := 80) dX5_drift_80 (by decide) (tenth_r _) ?_
      refine K_Vi1 (pc := 81) (Y' := YX4_weatherAt) dX5_drift_81 lX5_261 mX4_weatherAt vX4_weatherAt ⟨_, _, rfl⟩ (sv0 isV1) (Nat.le_of_ble_eq_true rfl) (c4_weatherAt isV1 hXn hG (tenth_lt _)) ?_
      rintro r h0 ⟨e0, rfl⟩
      rw [e0]
      clear e0 h0
      refine K_Vi1 (pc := 84) (Y' := YX4_live) dX5_drift_84 lX5_264 mX4_live vX4_live ⟨_, _, rfl⟩ (sv0 isV19) (Nat.le_of_ble_eq_true rfl) (c4_live isV19 hI.1 gk.1.1 gk.1.2.1.2 wthr_lt) ?_
      rintro r h0 ⟨e1, e2, e3⟩
      rw [e2]
      refine J_iadd (pc := 87) dX5_drift_87 (rfl) ?_
      refine J_istore (pc := 88) dX5_drift_88 (by decide) ?_
      refine J_iinc (pc := 90) dX5_drift_90 rfl (v := nI (k + 1)) (by exact nI_add _ _) (by decide) ?_
      refine J_goto (pc := 93) (tgt := 41) dX5_drift_93 (by decide) ?_
      have i := ih (k + 1) h0 (by omega) (by omega) ⟨e1, fun b hb => (e3 b (by omega) (by omega)).trans (hI.2 b hb)⟩
      refine J_ls ?_ i
      exact ⟨rfl, rfl, congrArg (fun z => some (Value.int z)) hn60.1.symm, rfl, rfl, rfl, rfl, trivial⟩
set_option maxHeartbeats 4000000 in
theorem c5_drift {g : jG} {d : Nat} {a h : jH} {s n x : Int32} (hR : RX a h) : Mi g (d + 4) YX5_drift h [.ref 0, .int s, .int n, .int x] (fun r h' => ∃ a', oDrift a s n x = (r, a') ∧ RX a' h' ∧ hi h h') := by
  refine M.of (by decide) rfl (Nat.le_of_ble_eq_true rfl) ?_
  have hR0 := hR
  have hG := hR.1.2.2.2
  obtain ⟨⟨r1, hX, hwk, ⟨⟨v1, v2, v3, v4⟩, v5, v6, v7, v8, v9, va, vb, vc, vd⟩⟩, rK, rT, rS, rH, ⟨r8, r8b, r9, ra⟩⟩ := hR
  obtain ⟨x1, x2, x3, x4, x5, x6, x7, x8, x9⟩ := id hX
  have hn4 := v1
  have n5 := r1.2
  have c6 := v3.2
  have p9 := v5.2
  refine J_iload_n (pc := 0) dX5_drift_0 rfl ?_
  refine J_iconst (pc := 1) (v := nI 1) dX5_drift_1 (by decide) ?_
  refine J_bipush (pc := 2) (v := nI 60) dX5_drift_2 (by decide) ?_
  refine K_Si3 (pc := 4) (Y' := YX5_within) dX5_drift_4 lX5_63 mX5_within sX5_within (Nat.le_of_ble_eq_true rfl) (c5_within) ?_
  rintro x h0 ⟨e0, ⟨rfl, b4⟩ | ⟨rfl, b4⟩⟩ <;> rw [e0] <;> clear e0 h0
  · skip
    refine J_if_eq (pc := 7) (tgt := 19) dX5_drift_7 (by decide) (fun c => absurd c (by decide)) (fun _ => ?_)
    refine J_iload_n (pc := 10) dX5_drift_10 rfl ?_
    refine J_iconst (pc := 11) (v := nI 0) dX5_drift_11 (by decide) ?_
    refine J_iconst (pc := 12) (v := nI 1) dX5_drift_12 (by decide) ?_
    refine K_Si3 (pc := 13) (Y' := YX5_within) dX5_drift_13 lX5_63 mX5_within sX5_within (Nat.le_of_ble_eq_true rfl) (c5_within) ?_
    rintro x h0 ⟨e0, ⟨rfl, b13⟩ | ⟨rfl, b13⟩⟩ <;> rw [e0] <;> clear e0 h0
    · skip
      refine J_if_ne (pc := 16) (tgt := 21) dX5_drift_16 (by decide) (fun _ => ?_) (fun c => absurd c (by decide))
      refine J_aload_n (pc := 21) dX5_drift_21 rfl ?_
      refine J_getR (pc := 22) dX5_drift_22 fX5_16 sh0 rfl ?_
      refine J_aload_n (pc := 25) dX5_drift_25 rfl ?_
      refine J_getR (pc := 26) dX5_drift_26 fX5_10 sh0 rfl ?_
      refine K_Vv1 (pc := 29) (Y' := YX4_copyFrom) dX5_drift_29 lX5_81 mX4_copyFrom vX4_copyFrom ⟨_, _, rfl⟩ (sv0 isV19) (Nat.le_of_ble_eq_true rfl) (c4_copyFrom isV1 isV19 (by omega)) ?_
      rintro h1 hc
      refine J_iconst (pc := 32) (v := nI 0) dX5_drift_32 (by decide) ?_
      refine J_istore (pc := 33) dX5_drift_33 (by decide) ?_
      refine J_iload_n (pc := 35) dX5_drift_35 rfl ?_
      refine J_istore (pc := 36) dX5_drift_36 (by decide) ?_
      refine J_iconst (pc := 38) (v := nI 0) dX5_drift_38 (by decide) ?_
      refine J_istore (pc := 39) dX5_drift_39 (by decide) ?_
      have bn : nb 61 n := (in_nbc (n := 60) rfl (by omega)).mp ⟨Int32.le_trans (by decide) b4.1, b4.2⟩
      have hR1 : RX a h1 := RX_congr hR0 sameP.rf (hc.q (Or.inl rfl))
      refine J_ls (ls' := [(0, .ref 0), (1, .int s), (2, .int n), (3, .int x), (4, .int (dfF (ix (a 131 2)) (pg a 0) s 0).2.1), (5, .int (dfF (ix (a 131 2)) (pg a 0) s 0).2.2), (6, .int (nI 0))]) ⟨rfl, rfl, rfl, rfl, rfl, rfl, rfl, trivial⟩ ?_
      refine l5_drift (h := h1) hR1 bn ?_ (ix n + 1) 0 h1 (Nat.zero_le _) (by omega) ⟨XV_CP hX hn4 c6 p9 hc, fun b hb => rfl⟩
      intro hh hI
      have hfr : ∀ b, (b < 19 ∨ 37 ≤ b) → hh b = h b := fun b hb => (hI.2 b hb).trans (hc.1 b (by omega))
      have fin : RX a hh ∧ hi h hh := ⟨RX_congr hR0 sameP.rf (fun b hb => hfr b (by omega)), fun b hb => hfr b (by omega)⟩
      refine J_iload_n (pc := 96) dX5_drift_96 rfl ?_
      refine J_if_ne (pc := 97) (tgt := 105) dX5_drift_97 (by decide) (fun c97 => ?_) (fun c97 => ?_)
      · skip
        refine J_aload_n (pc := 105) dX5_drift_105 rfl ?_
        refine J_getR (pc := 106) dX5_drift_106 fX5_16 sh0 rfl ?_
        refine K_Vi0 (pc := 109) (Y' := YX4_allPurses) dX5_drift_109 lX5_167 mX4_allPurses vX4_allPurses ⟨_, _, rfl⟩ (sv0 isV19) (Nat.le_of_ble_eq_true rfl) (c4_allPurses isV19 hI.1 hn4) ?_
        rintro r h0 ⟨e0, rfl⟩
        rw [e0]
        clear e0 h0
        refine K_iret (pc := 112) dX5_drift_112 rfl ?_
        exact ⟨a, (iteR_t ⟨b4, b13⟩).trans (congrArg (fun z => (z, a)) (iteP_f c97)), fin.1, fin.2⟩
      · skip
        refine J_iload (pc := 100) dX5_drift_100 rfl ?_
        refine J_goto (pc := 102) (tgt := 112) dX5_drift_102 (by decide) ?_
        refine K_iret (pc := 112) dX5_drift_112 rfl ?_
        exact ⟨a, (iteR_t ⟨b4, b13⟩).trans (congrArg (fun z => (z, a)) (iteP_t c97)), fin.1, fin.2⟩
    · skip
      refine J_if_ne (pc := 16) (tgt := 21) dX5_drift_16 (by decide) (fun c => absurd c (by decide)) (fun _ => ?_)
      refine J_iconst (pc := 19) (v := -1) dX5_drift_19 (by decide) ?_
      refine K_iret (pc := 20) dX5_drift_20 rfl ?_
      exact ⟨a, iteR_f (fun z => b13 z.2), hR0, hi.rf⟩
  · skip
    refine J_if_eq (pc := 7) (tgt := 19) dX5_drift_7 (by decide) (fun _ => ?_) (fun c => absurd c (by decide))
    refine J_iconst (pc := 19) (v := -1) dX5_drift_19 (by decide) ?_
    refine K_iret (pc := 20) dX5_drift_20 rfl ?_
    exact ⟨a, iteR_f (fun z => b4 z.1), hR0, hi.rf⟩
