set_option maxHeartbeats 4000000 in
theorem one_k {g : jG} {d : Nat} {h : jH} {p : Int32} {k : Nat} (hn : h 131 2 = nI (ix (h 131 2))) (hn4 : ix (h 131 2) ≤ 4) (v3 : nb 6 (h 132 37)) (b2 : nb (ix (h 131 2)) p) (hk5 : k < 5) : K g (d + 2) YX6_one h 17 [(0, .ref 131), (1, .int p), (2, .int (nI k))] [.int (nI 1)] (fun r h' => ∃ x, r = some (.int x) ∧ (h' = h ∧ x = rOne (ix (h 131 2)) (pg h 0) p (nI k))) := by
  match k, hk5 with
  | 0, _ =>
    refine J_if_ne (pc := 17) (tgt := 22) dX6_one_17 (by decide) (fun _ => ?_) (fun c => absurd c (by decide))
    refine J_iload_n (pc := 22) dX6_one_22 rfl ?_
    refine J_iconst (pc := 23) (v := nI 3) dX6_one_23 (by decide) ?_
    refine J_icmp_ge (pc := 24) (tgt := 40) dX6_one_24 (by decide) (fun c => absurd c (by decide)) (fun _ => ?_)
    have q1 := b2.2
    refine J_ls (ls' := [(0, .ref 131), (1, .int (nI (ix p))), (2, .int (nI 0))]) ⟨rfl, congrArg (fun z => some (Value.int z)) b2.1, rfl, trivial⟩ ?_
    refine J_aload_n (pc := 27) dX6_one_27 rfl ?_
    refine J_getR (pc := 28) dX6_one_28 fX6_7 sh131 rfl ?_
    refine J_iconst (pc := 31) (v := nI 4) dX6_one_31 (by decide) ?_
    refine J_iload_n (pc := 32) dX6_one_32 rfl ?_
    refine J_imul (pc := 33) dX6_one_33 (pk_mul _ _) ?_
    refine J_iload_n (pc := 34) dX6_one_34 rfl ?_
    refine J_iadd (pc := 35) dX6_one_35 (nI_add _ _) ?_
    refine J_iald (pc := 36) dX6_one_36 sh132 (rfl) (by omega) (rfl) (by decide) ?_
    refine J_goto (pc := 37) (tgt := 48) dX6_one_37 (by decide) ?_
    refine K_iret (pc := 48) dX6_one_48 rfl ?_
    exact ⟨rfl, (show h 132 (4 * 0 + ix p) = pg h 0 (ix p) by rw [pg0]; congr 1; omega).trans (iteP_t b2).symm⟩
  | 1, _ =>
    refine J_if_ne (pc := 17) (tgt := 22) dX6_one_17 (by decide) (fun _ => ?_) (fun c => absurd c (by decide))
    refine J_iload_n (pc := 22) dX6_one_22 rfl ?_
    refine J_iconst (pc := 23) (v := nI 3) dX6_one_23 (by decide) ?_
    refine J_icmp_ge (pc := 24) (tgt := 40) dX6_one_24 (by decide) (fun c => absurd c (by decide)) (fun _ => ?_)
    have q1 := b2.2
    refine J_ls (ls' := [(0, .ref 131), (1, .int (nI (ix p))), (2, .int (nI 1))]) ⟨rfl, congrArg (fun z => some (Value.int z)) b2.1, rfl, trivial⟩ ?_
    refine J_aload_n (pc := 27) dX6_one_27 rfl ?_
    refine J_getR (pc := 28) dX6_one_28 fX6_7 sh131 rfl ?_
    refine J_iconst (pc := 31) (v := nI 4) dX6_one_31 (by decide) ?_
    refine J_iload_n (pc := 32) dX6_one_32 rfl ?_
    refine J_imul (pc := 33) dX6_one_33 (pk_mul _ _) ?_
    refine J_iload_n (pc := 34) dX6_one_34 rfl ?_
    refine J_iadd (pc := 35) dX6_one_35 (nI_add _ _) ?_
    refine J_iald (pc := 36) dX6_one_36 sh132 (rfl) (by omega) (rfl) (by decide) ?_
    refine J_goto (pc := 37) (tgt := 48) dX6_one_37 (by decide) ?_
    refine K_iret (pc := 48) dX6_one_48 rfl ?_
    exact ⟨rfl, pg0.symm.trans (iteP_t b2).symm⟩
  | 2, _ =>
    refine J_if_ne (pc := 17) (tgt := 22) dX6_one_17 (by decide) (fun _ => ?_) (fun c => absurd c (by decide))
    refine J_iload_n (pc := 22) dX6_one_22 rfl ?_
    refine J_iconst (pc := 23) (v := nI 3) dX6_one_23 (by decide) ?_
    refine J_icmp_ge (pc := 24) (tgt := 40) dX6_one_24 (by decide) (fun c => absurd c (by decide)) (fun _ => ?_)
    have q1 := b2.2
    refine J_ls (ls' := [(0, .ref 131), (1, .int (nI (ix p))), (2, .int (nI 2))]) ⟨rfl, congrArg (fun z => some (Value.int z)) b2.1, rfl, trivial⟩ ?_
    refine J_aload_n (pc := 27) dX6_one_27 rfl ?_
    refine J_getR (pc := 28) dX6_one_28 fX6_7 sh131 rfl ?_
    refine J_iconst (pc := 31) (v := nI 4) dX6_one_31 (by decide) ?_
    refine J_iload_n (pc := 32) dX6_one_32 rfl ?_
    refine J_imul (pc := 33) dX6_one_33 (pk_mul _ _) ?_
    refine J_iload_n (pc := 34) dX6_one_34 rfl ?_
    refine J_iadd (pc := 35) dX6_one_35 (nI_add _ _) ?_
    refine J_iald (pc := 36) dX6_one_36 sh132 (rfl) (by omega) (rfl) (by decide) ?_
    refine J_goto (pc := 37) (tgt := 48) dX6_one_37 (by decide) ?_
    refine K_iret (pc := 48) dX6_one_48 rfl ?_
    exact ⟨rfl, pg0.symm.trans (iteP_t b2).symm⟩
  | 3, _ =>
    refine J_if_ne (pc := 17) (tgt := 22) dX6_one_17 (by decide) (fun _ => ?_) (fun c => absurd c (by decide))
    refine J_iload_n (pc := 22) dX6_one_22 rfl ?_
    refine J_iconst (pc := 23) (v := nI 3) dX6_one_23 (by decide) ?_
    refine J_icmp_ge (pc := 24) (tgt := 40) dX6_one_24 (by decide) (fun _ => ?_) (fun c => absurd c (by decide))
    refine J_aload_n (pc := 40) dX6_one_40 rfl ?_
    refine J_iload_n (pc := 41) dX6_one_41 rfl ?_
    refine J_iload_n (pc := 42) dX6_one_42 rfl ?_
    refine J_iconst (pc := 43) (v := nI 3) dX6_one_43 (by decide) ?_
    refine J_isub (pc := 44) dX6_one_44 (show nI 3 - nI 3 = nI 0 by decide) ?_
    refine K_Vi2 (pc := 45) (Y' := YX6_coversOf) dX6_one_45 lX6_166 mX6_coversOf vX6_coversOf ⟨_, _, rfl⟩ sh131 (Nat.le_of_ble_eq_true rfl) (c6_coversOf (p := p) (t := 0) v3 (by omega)) ?_
    rintro r h0 ⟨e0, rfl⟩
    rw [e0]
    clear e0 h0
    refine K_iret (pc := 48) dX6_one_48 rfl ?_
    exact ⟨rfl, (cwF_cong (V := fun c => pg h 0 (12 + 5 * c)) (fun k _ => by rw [pg0]; rfl)).trans (iteP_t b2).symm⟩
  | 4, _ =>
    refine J_if_ne (pc := 17) (tgt := 22) dX6_one_17 (by decide) (fun _ => ?_) (fun c => absurd c (by decide))
    refine J_iload_n (pc := 22) dX6_one_22 rfl ?_
    refine J_iconst (pc := 23) (v := nI 3) dX6_one_23 (by decide) ?_
    refine J_icmp_ge (pc := 24) (tgt := 40) dX6_one_24 (by decide) (fun _ => ?_) (fun c => absurd c (by decide))
    refine J_aload_n (pc := 40) dX6_one_40 rfl ?_
    refine J_iload_n (pc := 41) dX6_one_41 rfl ?_
    refine J_iload_n (pc := 42) dX6_one_42 rfl ?_
    refine J_iconst (pc := 43) (v := nI 3) dX6_one_43 (by decide) ?_
    refine J_isub (pc := 44) dX6_one_44 (show nI 4 - nI 3 = nI 1 by decide) ?_
    refine K_Vi2 (pc := 45) (Y' := YX6_coversOf) dX6_one_45 lX6_166 mX6_coversOf vX6_coversOf ⟨_, _, rfl⟩ sh131 (Nat.le_of_ble_eq_true rfl) (c6_coversOf (p := p) (t := 1) v3 (by omega)) ?_
    rintro r h0 ⟨e0, rfl⟩
    rw [e0]
    clear e0 h0
    refine K_iret (pc := 48) dX6_one_48 rfl ?_
    exact ⟨rfl, (cwF_cong (V := fun c => pg h 0 (12 + 5 * c + 1)) (fun k _ => by rw [pg0])).trans (iteP_t b2).symm⟩
  | k + 5, hk5 => exact absurd hk5 (by omega)
set_option maxHeartbeats 4000000 in
theorem c6_one {g : jG} {d : Nat} {h : jH} {p x : Int32} (hR : MR h) : Mi g (d + 2) YX6_one h [.ref 131, .int p, .int x] (fun r h' => h' = h ∧ r = rOne (ix (h 131 2)) (pg h 0) p x) := by
  refine M.of (by decide) rfl (Nat.le_of_ble_eq_true rfl) ?_
  obtain ⟨r1, ⟨⟨v1, v2, v3, v4⟩, v5, v6, v7, v8, v9, va, vb, vc, vd⟩, r3, r4, ⟨r5, r6⟩, r7, r8, r9, ra⟩ := hR
  have hn := r1.1
  have hn4 := v1
  have n5 := r1.2
  have c6 : ix (h 132 37) < 6 := v3.2
  have p9 : ix (h 132 51) < 9 := v5.2
  have p9' : ix (pg h 0 51) < 9 := v5.2
  refine J_aload_n (pc := 0) dX6_one_0 rfl ?_
  refine J_iload_n (pc := 1) dX6_one_1 rfl ?_
  refine K_Vi1 (pc := 2) (Y' := YX6_isOne) dX6_one_2 lX6_160 mX6_isOne vX6_isOne ⟨_, _, rfl⟩ sh131 (Nat.le_of_ble_eq_true rfl) (c6_isOne (x := p) hn hn4) ?_
  rintro x h0 ⟨e0, ⟨rfl, b2⟩ | ⟨rfl, b2⟩⟩ <;> rw [e0] <;> clear e0 h0
  · skip
    refine J_if_eq (pc := 5) (tgt := 20) dX6_one_5 (by decide) (fun c => absurd c (by decide)) (fun _ => ?_)
    refine J_iload_n (pc := 8) dX6_one_8 rfl ?_
    refine J_i2l (pc := 9) dX6_one_9 (rfl) ?_
    refine J_lconst (pc := 10) (v := 0) dX6_one_10 (by decide) ?_
    refine J_ldc2 (pc := 11) dX6_one_11 kX6_164 ?_
    refine K_Si3 (pc := 14) (Y' := YX6_in) dX6_one_14 lX6_55 mX6_in sX6_in (Nat.le_of_ble_eq_true rfl) (c6_inI x 0 4 rfl (by decide) (by decide)) ?_
    rintro x h0 ⟨e0, ⟨rfl, b14⟩ | ⟨rfl, b14⟩⟩ <;> rw [e0] <;> clear e0 h0
    · skip
      have bx : nb 5 x := (in_nbc (n := 4) (by decide) (by omega)).mp b14
      have q1 := b2.2
      obtain ⟨k, hk5, rfl⟩ : ∃ k, k < 5 ∧ x = nI k := ⟨ix x, bx.2, bx.1⟩
      refine one_k hn hn4 v3 b2 hk5
    · skip
      have bx : ¬ nb 5 x := fun z => b14 ((in_nbc (n := 4) (by decide) (by omega)).mpr z)
      refine J_if_ne (pc := 17) (tgt := 22) dX6_one_17 (by decide) (fun c => absurd c (by decide)) (fun _ => ?_)
      refine J_iconst (pc := 20) (v := -1) dX6_one_20 (by decide) ?_
      refine K_iret (pc := 21) dX6_one_21 rfl ?_
      exact ⟨rfl, ((iteP_t b2).trans (sel_out (x := x) (fun j _ h2 z => bx (by rw [z]; exact nb_nI (show j < 5 from by simpa using h2) (by omega))))).symm⟩
  · skip
    refine J_if_eq (pc := 5) (tgt := 20) dX6_one_5 (by decide) (fun _ => ?_) (fun c => absurd c (by decide))
    refine J_iconst (pc := 20) (v := -1) dX6_one_20 (by decide) ?_
    refine K_iret (pc := 21) dX6_one_21 rfl ?_
    exact ⟨rfl, (iteP_f b2).symm⟩
