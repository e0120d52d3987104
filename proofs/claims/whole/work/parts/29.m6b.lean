set_option maxHeartbeats 4000000 in
theorem c6_rule {g : jG} {d : Nat} {h : jH} {x : Int32} (hR : MR h) : Mi g (d + 2) YX6_rule h [.ref 131, .int x] (fun r h' => h' = h ∧ r = rRule (ix (h 131 2)) (pg h 0) x) := by
  refine M.of (by decide) rfl (Nat.le_of_ble_eq_true rfl) ?_
  obtain ⟨r1, ⟨⟨v1, v2, v3, v4⟩, v5, v6, v7, v8, v9, va, vb, vc, vd⟩, r3, r4, ⟨r5, r6⟩, r7, r8, r9, ra⟩ := hR
  have hn := r1.1
  have hn4 := v1
  have n5 := r1.2
  have c6 : ix (h 132 37) < 6 := v3.2
  have p9 : ix (h 132 51) < 9 := v5.2
  have p9' : ix (pg h 0 51) < 9 := v5.2
  refine J_iload_n (pc := 0) dX6_rule_0 rfl ?_
  by_cases e0 : x = nI 0
  · subst e0
    refine J_tableIn (pc := 1) (tgt := 40) dX6_rule_1 (by decide) (by decide) rfl (by decide) ?_
    refine J_aload_n (pc := 40) dX6_rule_40 rfl ?_
    refine J_getI (pc := 41) dX6_rule_41 fX6_148 sh131 rfl (hn) ?_
    refine K_iret (pc := 44) dX6_rule_44 rfl ?_
    exact ⟨rfl, rfl⟩
  by_cases e1 : x = nI 1
  · subst e1
    refine J_tableIn (pc := 1) (tgt := 45) dX6_rule_1 (by decide) (by decide) rfl (by decide) ?_
    refine J_aload_n (pc := 45) dX6_rule_45 rfl ?_
    refine J_getR (pc := 46) dX6_rule_46 fX6_7 sh131 rfl ?_
    refine J_bipush (pc := 49) (v := nI 37) dX6_rule_49 (by decide) ?_
    refine J_iald (pc := 51) dX6_rule_51 sh132 (rfl) (by omega) (rfl) (by decide) ?_
    refine K_iret (pc := 52) dX6_rule_52 rfl ?_
    exact ⟨rfl, rfl⟩
  by_cases e2 : x = nI 2
  · subst e2
    refine J_tableIn (pc := 1) (tgt := 53) dX6_rule_1 (by decide) (by decide) rfl (by decide) ?_
    refine J_aload_n (pc := 53) dX6_rule_53 rfl ?_
    refine K_Vi0 (pc := 54) (Y' := YX6_floorNow) dX6_rule_54 lX6_154 mX6_floorNow vX6_floorNow ⟨_, _, rfl⟩ sh131 (Nat.le_of_ble_eq_true rfl) (c6_floorNow) ?_
    rintro r h0 ⟨e0, rfl⟩
    rw [e0]
    clear e0 h0
    refine K_iret (pc := 57) dX6_rule_57 rfl ?_
    exact ⟨rfl, rfl⟩
  by_cases e3 : x = nI 3
  · subst e3
    refine J_tableIn (pc := 1) (tgt := 58) dX6_rule_1 (by decide) (by decide) rfl (by decide) ?_
    refine J_aload_n (pc := 58) dX6_rule_58 rfl ?_
    refine J_getR (pc := 59) dX6_rule_59 fX6_7 sh131 rfl ?_
    refine J_bipush (pc := 62) (v := nI 52) dX6_rule_62 (by decide) ?_
    refine J_iald (pc := 64) dX6_rule_64 sh132 (rfl) (by omega) (rfl) (by decide) ?_
    refine K_iret (pc := 65) dX6_rule_65 rfl ?_
    exact ⟨rfl, rfl⟩
  by_cases e4 : x = nI 4
  · subst e4
    refine J_tableIn (pc := 1) (tgt := 66) dX6_rule_1 (by decide) (by decide) rfl (by decide) ?_
    refine J_aload_n (pc := 66) dX6_rule_66 rfl ?_
    refine J_getR (pc := 67) dX6_rule_67 fX6_7 sh131 rfl ?_
    refine J_bipush (pc := 70) (v := nI 51) dX6_rule_70 (by decide) ?_
    refine J_iald (pc := 72) dX6_rule_72 sh132 (rfl) (by omega) (rfl) (by decide) ?_
    refine K_iret (pc := 73) dX6_rule_73 rfl ?_
    exact ⟨rfl, rfl⟩
  by_cases e5 : x = nI 5
  · subst e5
    refine J_tableIn (pc := 1) (tgt := 74) dX6_rule_1 (by decide) (by decide) rfl (by decide) ?_
    refine J_aload_n (pc := 74) dX6_rule_74 rfl ?_
    refine J_iconst (pc := 75) (v := nI 0) dX6_rule_75 (by decide) ?_
    refine K_Vi1 (pc := 76) (Y' := YX6_belowOn) dX6_rule_76 lX6_157 mX6_belowOn vX6_belowOn ⟨_, _, rfl⟩ sh131 (Nat.le_of_ble_eq_true rfl) (c6_belowOn hn hn4 (o := 0) (by omega)) ?_
    rintro r h0 ⟨e0, rfl⟩
    rw [e0]
    clear e0 h0
    refine K_iret (pc := 79) dX6_rule_79 rfl ?_
    exact ⟨rfl, blw_cong (fun k _ => by rw [pg0, Nat.zero_add])⟩
  have hj : ∀ k, k < 6 → ¬ x = nI k := fun k hk => by
    match k, hk with
    | 0, _ => exact e0
    | 1, _ => exact e1
    | 2, _ => exact e2
    | 3, _ => exact e3
    | 4, _ => exact e4
    | 5, _ => exact e5
  refine J_tableOut (pc := 1) (tgt := 80) dX6_rule_1 (tsw_out (N := 6) (by omega) hj) (by decide) ?_
  refine J_iconst (pc := 80) (v := -1) dX6_rule_80 (by decide) ?_
  refine K_iret (pc := 81) dX6_rule_81 rfl ?_
  refine ⟨rfl, (sel_out (fun j h1 h2 => ?_)).symm⟩
  exact hj j h2
