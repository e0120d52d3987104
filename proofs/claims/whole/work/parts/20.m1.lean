set_option maxHeartbeats 1000000 in
theorem c6_in {g : jG} {d : Nat} {h : jH} {v a b : Int64} : Mi g d YX6_in h [.long v, .long a, .long b] (fun x h' => h' = h ∧ bq (a ≤ v ∧ v ≤ b) x) := by
  refine M.of (by decide) rfl (Nat.le_of_ble_eq_true rfl) ?_
  have e1 := lg_cmp_lt v a
  have e2 := lg_cmp_gt v b
  refine J_lload_n (pc := 0) dX6_in_0 rfl ?_
  refine J_lload_n (pc := 1) dX6_in_1 rfl ?_
  refine J_lcmp (pc := 2) dX6_in_2 ?_
  refine J_if_lt (pc := 3) (tgt := 17) dX6_in_3 (by decide) (fun c3 => ?_) (fun c3 => ?_)
  · skip
    refine J_iconst (pc := 17) (v := nI 0) dX6_in_17 (by decide) ?_
    refine K_zret (pc := 18) dX6_in_18 rfl (by decide) ?_
    exact ⟨rfl, bq_f (fun z => absurd (e1.mp c3) (Int64.not_lt.mpr z.1))⟩
  · skip
    refine J_lload_n (pc := 6) dX6_in_6 rfl ?_
    refine J_lload (pc := 7) dX6_in_7 rfl ?_
    refine J_lcmp (pc := 9) dX6_in_9 ?_
    refine J_if_gt (pc := 10) (tgt := 17) dX6_in_10 (by decide) (fun c10 => ?_) (fun c10 => ?_)
    · skip
      refine J_iconst (pc := 17) (v := nI 0) dX6_in_17 (by decide) ?_
      refine K_zret (pc := 18) dX6_in_18 rfl (by decide) ?_
      exact ⟨rfl, bq_f (fun z => absurd (e2.mp c10) (Int64.not_lt.mpr z.2))⟩
    · skip
      refine J_iconst (pc := 13) (v := nI 1) dX6_in_13 (by decide) ?_
      refine J_goto (pc := 14) (tgt := 18) dX6_in_14 (by decide) ?_
      refine K_zret (pc := 18) dX6_in_18 rfl (by decide) ?_
      exact ⟨rfl, bq_t ⟨Int64.not_lt.mp (fun z => c3 (e1.mpr z)), Int64.not_lt.mp (fun z => c10 (e2.mpr z))⟩⟩
theorem c6_inI {g : jG} {d : Nat} {h : jH} {v a b : Int64} (x y z : Int32) (hv : x.toInt64 = v) (ha : y.toInt64 = a) (hb : z.toInt64 = b) : Mi g d YX6_in h [.long v, .long a, .long b] (fun r h' => h' = h ∧ bq (y ≤ x ∧ x ≤ z) r) := by
  have e : (a ≤ v ∧ v ≤ b) ↔ (y ≤ x ∧ x ≤ z) := by
    subst hv; subst ha; subst hb
    rw [l_le, l_le, i_le, i_le, i_l, i_l, i_l]
  have := c6_in (g := g) (d := d) (h := h) (v := v) (a := a) (b := b)
  simp only [e] at this
  exact this
set_option maxHeartbeats 1000000 in
theorem c5_within {g : jG} {d : Nat} {h : jH} {v a b : Int32} : Mi g d YX5_within h [.int v, .int a, .int b] (fun x h' => h' = h ∧ bq (a ≤ v ∧ v ≤ b) x) := by
  refine M.of (by decide) rfl (Nat.le_of_ble_eq_true rfl) ?_
  refine J_iload_n (pc := 0) dX5_within_0 rfl ?_
  refine J_iload_n (pc := 1) dX5_within_1 rfl ?_
  refine J_icmp_lt (pc := 2) (tgt := 14) dX5_within_2 (by decide) (fun c2 => ?_) (fun c2 => ?_)
  · skip
    refine J_iconst (pc := 14) (v := nI 0) dX5_within_14 (by decide) ?_
    refine K_zret (pc := 15) dX5_within_15 rfl (by decide) ?_
    exact ⟨rfl, bq_f (fun z => absurd c2 (i_not_lt.mpr z.1))⟩
  · skip
    refine J_iload_n (pc := 5) dX5_within_5 rfl ?_
    refine J_iload_n (pc := 6) dX5_within_6 rfl ?_
    refine J_icmp_gt (pc := 7) (tgt := 14) dX5_within_7 (by decide) (fun c7 => ?_) (fun c7 => ?_)
    · skip
      refine J_iconst (pc := 14) (v := nI 0) dX5_within_14 (by decide) ?_
      refine K_zret (pc := 15) dX5_within_15 rfl (by decide) ?_
      exact ⟨rfl, bq_f (fun z => absurd c7 (i_not_lt.mpr z.2))⟩
    · skip
      refine J_iconst (pc := 10) (v := nI 1) dX5_within_10 (by decide) ?_
      refine J_goto (pc := 11) (tgt := 15) dX5_within_11 (by decide) ?_
      refine K_zret (pc := 15) dX5_within_15 rfl (by decide) ?_
      exact ⟨rfl, bq_t ⟨i_not_lt.mp c2, i_not_lt.mp c7⟩⟩
