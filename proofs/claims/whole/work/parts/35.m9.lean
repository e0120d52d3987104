set_option maxHeartbeats 4000000 in
theorem c6_feed {g : jG} {d : Nat} {h : jH} {c : Int32} (hR : MR h) : Mi g (d + 2) YX6_feed h [.ref 131, .int c] (fun r h' => (r, h') = oFeed h c) := by
  refine M.of (by decide) rfl (Nat.le_of_ble_eq_true rfl) ?_
  obtain ⟨r1, ⟨⟨v1, v2, v3, v4⟩, v5, v6, v7, v8, v9, va, vb, vc, vd⟩, r3, r4, ⟨r5, r6⟩, r7, r8, r9, ra⟩ := hR
  have hn := r1.1
  have hn4 := v1
  have n5 := r1.2
  have c6 : ix (h 132 37) < 6 := v3.2
  have p9 : ix (h 132 51) < 9 := v5.2
  have p9' : ix (pg h 0 51) < 9 := v5.2
  have t8 : ix (h 131 8) < 161 := r4.2
  refine J_iload_n (pc := 0) dX6_feed_0 rfl ?_
  refine J_i2l (pc := 1) dX6_feed_1 (rfl) ?_
  refine J_lconst (pc := 2) (v := 0) dX6_feed_2 (by decide) ?_
  refine J_ldc2 (pc := 3) dX6_feed_3 kX6_53 ?_
  refine K_Si3 (pc := 6) (Y' := YX6_in) dX6_feed_6 lX6_55 mX6_in sX6_in (Nat.le_of_ble_eq_true rfl) (c6_inI c (nI 0) (nI 127) rfl (by decide) (by decide)) ?_
  rintro x h0 ⟨e0, ⟨rfl, b6⟩ | ⟨rfl, b6⟩⟩ <;> rw [e0] <;> clear e0 h0
  · skip
    refine J_if_ne (pc := 9) (tgt := 14) dX6_feed_9 (by decide) (fun _ => ?_) (fun c => absurd c (by decide))
    refine J_aload_n (pc := 14) dX6_feed_14 rfl ?_
    refine J_getI (pc := 15) dX6_feed_15 fX6_59 sh131 rfl (r4.1) ?_
    refine J_sipush (pc := 18) (v := nI 160) dX6_feed_18 (by decide) ?_
    refine J_icmp_ne (pc := 21) (tgt := 27) dX6_feed_21 (by decide) (fun c21 => ?_) (fun c21 => ?_)
    · skip
      have q21 : ix (h 131 8) < 160 := by
        by_cases z : ix (h 131 8) = 160
        · exact absurd (congrArg nI z) c21
        · omega
      refine J_aload_n (pc := 27) dX6_feed_27 rfl ?_
      refine J_getR (pc := 28) dX6_feed_28 fX6_19 sh131 rfl ?_
      refine J_aload_n (pc := 31) dX6_feed_31 rfl ?_
      refine J_getI (pc := 32) dX6_feed_32 fX6_59 sh131 rfl (r4.1) ?_
      refine J_iload_n (pc := 35) dX6_feed_35 rfl ?_
      refine J_iast (pc := 36) dX6_feed_36 sh135 (rfl) (by omega) (by decide) ?_
      refine J_aload_n (pc := 37) dX6_feed_37 rfl ?_
      refine J_dup (pc := 38) dX6_feed_38 rfl ?_
      refine J_getI (pc := 39) dX6_feed_39 fX6_59 sh131 rfl ((j_up_o (by omega)).trans rfl) ?_
      refine J_iconst (pc := 42) (v := nI 1) dX6_feed_42 (by decide) ?_
      refine J_iadd (pc := 43) dX6_feed_43 (rfl) ?_
      refine J_putI (pc := 44) dX6_feed_44 fX6_59 sh131 rfl ?_
      refine J_aload_n (pc := 47) dX6_feed_47 rfl ?_
      refine J_getI (pc := 48) dX6_feed_48 fX6_59 sh131 rfl (j_up_s) ?_
      refine K_iret (pc := 51) dX6_feed_51 rfl ?_
      rw [oFeed, iteR_t b6, iteR_f (fun z => c21 (r4.1.symm.trans z))]
    · skip
      refine J_bipush (pc := 24) (v := -3) dX6_feed_24 (by decide) ?_
      refine K_iret (pc := 26) dX6_feed_26 rfl ?_
      exact ((iteR_t b6).trans (iteR_t (r4.1.trans (by first | exact c21 | exact c21)))).symm
  · skip
    refine J_if_ne (pc := 9) (tgt := 14) dX6_feed_9 (by decide) (fun c => absurd c (by decide)) (fun _ => ?_)
    refine J_iconst (pc := 12) (v := -1) dX6_feed_12 (by decide) ?_
    refine K_iret (pc := 13) dX6_feed_13 rfl ?_
    exact (iteR_f b6).symm
set_option maxHeartbeats 4000000 in
theorem c6_end {g : jG} {d : Nat} {h : jH} {n : Int32} (hR : MR h) : Mi g (d + 2) YX6_end h [.ref 131, .int n] (fun r h' => (r, h') = oEnd h n) := by
  refine M.of (by decide) rfl (Nat.le_of_ble_eq_true rfl) ?_
  obtain ⟨r1, ⟨⟨v1, v2, v3, v4⟩, v5, v6, v7, v8, v9, va, vb, vc, vd⟩, r3, r4, ⟨r5, r6⟩, r7, r8, r9, ra⟩ := hR
  have hn := r1.1
  have hn4 := v1
  have n5 := r1.2
  have c6 : ix (h 132 37) < 6 := v3.2
  have p9 : ix (h 132 51) < 9 := v5.2
  have p9' : ix (pg h 0 51) < 9 := v5.2
  refine J_iload_n (pc := 0) dX6_end_0 rfl ?_
  refine J_i2l (pc := 1) dX6_end_1 (rfl) ?_
  refine J_lconst (pc := 2) (v := 0) dX6_end_2 (by decide) ?_
  refine J_aload_n (pc := 3) dX6_end_3 rfl ?_
  refine J_getI (pc := 4) dX6_end_4 fX6_59 sh131 rfl (rfl) ?_
  refine J_i2l (pc := 7) dX6_end_7 (rfl) ?_
  refine K_Si3 (pc := 8) (Y' := YX6_in) dX6_end_8 lX6_55 mX6_in sX6_in (Nat.le_of_ble_eq_true rfl) (c6_inI n (nI 0) (h 131 8) rfl (by decide) rfl) ?_
  rintro x h0 ⟨e0, ⟨rfl, b8⟩ | ⟨rfl, b8⟩⟩ <;> rw [e0] <;> clear e0 h0
  · skip
    refine J_if_ne (pc := 11) (tgt := 16) dX6_end_11 (by decide) (fun _ => ?_) (fun c => absurd c (by decide))
    refine J_aload_n (pc := 16) dX6_end_16 rfl ?_
    refine J_getI (pc := 17) dX6_end_17 fX6_59 sh131 rfl (rfl) ?_
    refine J_istore_n (pc := 20) dX6_end_20 (by decide) ?_
    refine J_aload_n (pc := 21) dX6_end_21 rfl ?_
    refine J_iload_n (pc := 22) dX6_end_22 rfl ?_
    refine J_putI (pc := 23) dX6_end_23 fX6_59 sh131 rfl ?_
    refine J_iload_n (pc := 26) dX6_end_26 rfl ?_
    refine K_iret (pc := 27) dX6_end_27 rfl ?_
    exact (iteR_t b8).symm
  · skip
    refine J_if_ne (pc := 11) (tgt := 16) dX6_end_11 (by decide) (fun c => absurd c (by decide)) (fun _ => ?_)
    refine J_iconst (pc := 14) (v := -1) dX6_end_14 (by decide) ?_
    refine K_iret (pc := 15) dX6_end_15 rfl ?_
    exact (iteR_f b8).symm
set_option maxHeartbeats 4000000 in
theorem c6_fault {g : jG} {d : Nat} {h : jH} (hR : MR h) : Mi g (d + 2) YX6_fault h [.ref 131] (fun r h' => (r, h') = oFault h ) := by
  refine M.of (by decide) rfl (Nat.le_of_ble_eq_true rfl) ?_
  obtain ⟨r1, ⟨⟨v1, v2, v3, v4⟩, v5, v6, v7, v8, v9, va, vb, vc, vd⟩, r3, r4, ⟨r5, r6⟩, r7, r8, r9, ra⟩ := hR
  have hn := r1.1
  have hn4 := v1
  have n5 := r1.2
  have c6 : ix (h 132 37) < 6 := v3.2
  have p9 : ix (h 132 51) < 9 := v5.2
  have p9' : ix (pg h 0 51) < 9 := v5.2
  refine J_aload_n (pc := 0) dX6_fault_0 rfl ?_
  refine J_getI (pc := 1) dX6_fault_1 fX6_145 sh131 rfl (rfl) ?_
  refine K_iret (pc := 4) dX6_fault_4 rfl ?_
  exact rfl
set_option maxHeartbeats 4000000 in
theorem c6_alter {g : jG} {d : Nat} {h : jH} {p t v : Int32} (hR : MR h) : Mi g (d + 2) YX6_alter h [.ref 131, .int p, .int t, .int v] (fun r h' => (r, h') = oAlter h p t v) := by
  refine M.of (by decide) rfl (Nat.le_of_ble_eq_true rfl) ?_
  obtain ⟨r1, ⟨⟨v1, v2, v3, v4⟩, v5, v6, v7, v8, v9, va, vb, vc, vd⟩, r3, r4, ⟨r5, r6⟩, r7, r8, r9, ra⟩ := hR
  have hn := r1.1
  have hn4 := v1
  have n5 := r1.2
  have c6 : ix (h 132 37) < 6 := v3.2
  have p9 : ix (h 132 51) < 9 := v5.2
  have p9' : ix (pg h 0 51) < 9 := v5.2
  by_cases e0 : t = nI 0
  · subst e0
    refine J_iload_n (pc := 0) dX6_alter_0 rfl ?_
    refine J_if_ne (pc := 1) (tgt := 16) dX6_alter_1 (by decide) (fun c => absurd c (by decide)) (fun _ => ?_)
    refine J_iload_n (pc := 4) dX6_alter_4 rfl ?_
    refine J_i2l (pc := 5) dX6_alter_5 (rfl) ?_
    refine J_lconst (pc := 6) (v := 0) dX6_alter_6 (by decide) ?_
    refine J_ldc2 (pc := 7) dX6_alter_7 kX6_111 ?_
    refine K_Si3 (pc := 10) (Y' := YX6_in) dX6_alter_10 lX6_55 mX6_in sX6_in (Nat.le_of_ble_eq_true rfl) (c6_inI v (nI 0) (nI 3) rfl (by decide) (by decide)) ?_
    rintro x h0 ⟨e0, ⟨rfl, b10⟩ | ⟨rfl, b10⟩⟩ <;> rw [e0] <;> clear e0 h0
    · skip
      refine J_goto (pc := 13) (tgt := 55) dX6_alter_13 (by decide) ?_
      refine J_istore (pc := 55) dX6_alter_55 (by decide) ?_
      refine J_aload_n (pc := 57) dX6_alter_57 rfl ?_
      refine J_aload_n (pc := 58) dX6_alter_58 rfl ?_
      refine J_iload_n (pc := 59) dX6_alter_59 rfl ?_
      refine K_Vi1 (pc := 60) (Y' := YX6_isOne) dX6_alter_60 lX6_160 mX6_isOne vX6_isOne ⟨_, _, rfl⟩ sh131 (Nat.le_of_ble_eq_true rfl) (c6_isOne (x := p) hn hn4) ?_
      rintro x h0 ⟨e0, ⟨rfl, b60⟩ | ⟨rfl, b60⟩⟩ <;> rw [e0] <;> clear e0 h0
      · skip
        refine J_if_eq (pc := 63) (tgt := 75) dX6_alter_63 (by decide) (fun c => absurd c (by decide)) (fun _ => ?_)
        refine J_iload (pc := 66) dX6_alter_66 rfl ?_
        refine J_if_eq (pc := 68) (tgt := 75) dX6_alter_68 (by decide) (fun c => absurd c (by decide)) (fun _ => ?_)
        refine J_iconst (pc := 71) (v := nI 1) dX6_alter_71 (by decide) ?_
        refine J_goto (pc := 72) (tgt := 76) dX6_alter_72 (by decide) ?_
        have qp := b60.2
        refine J_ls (ls' := [(0, .ref 131), (1, .int (nI (ix p))), (2, .int (nI 0)), (3, .int v)]) ⟨rfl, congrArg (fun z => some (Value.int z)) b60.1, rfl, rfl, trivial⟩ ?_
        refine J_iconst (pc := 76) (v := nI 4) dX6_alter_76 (by decide) ?_
        refine J_iload_n (pc := 77) dX6_alter_77 rfl ?_
        refine J_imul (pc := 78) dX6_alter_78 (pk_mul _ _) ?_
        refine J_iload_n (pc := 79) dX6_alter_79 rfl ?_
        refine J_iadd (pc := 80) dX6_alter_80 (nI_add _ _) ?_
        refine J_iload_n (pc := 81) dX6_alter_81 rfl ?_
        refine J_iconst (pc := 82) (v := nI 0) dX6_alter_82 (by decide) ?_
        refine K_Vi4 (pc := 83) (Y' := YX6_puts) dX6_alter_83 lX6_185 mX6_puts vX6_puts ⟨_, _, rfl⟩ sh131 (Nat.le_of_ble_eq_true rfl) (c6_puts1 (i := 4 * 0 + ix p) (by have := b60.2; omega)) ?_
        rintro r h0 ⟨e0, e1⟩
        rw [e0, e1]
        clear e0 e1 h0
        rw [ms1 (by have := b60.2; omega), add0, sub0, show h 132 (4 * 0 + ix p) = pg h 0 (4 * 0 + ix p) from pg0.symm]
        refine K_iret (pc := 86) dX6_alter_86 rfl ?_
        rw [oAlter, iteR_t ⟨b60, Or.inl ⟨rfl, b10⟩⟩]
        exact rfl
      · skip
        refine J_if_eq (pc := 63) (tgt := 75) dX6_alter_63 (by decide) (fun _ => ?_) (fun c => absurd c (by decide))
        refine J_iconst (pc := 75) (v := nI 0) dX6_alter_75 (by decide) ?_
        refine J_iconst (pc := 76) (v := nI 4) dX6_alter_76 (by decide) ?_
        refine J_iload_n (pc := 77) dX6_alter_77 rfl ?_
        refine J_imul (pc := 78) dX6_alter_78 (pk_mul _ _) ?_
        refine J_iload_n (pc := 79) dX6_alter_79 rfl ?_
        refine J_iadd (pc := 80) dX6_alter_80 (rfl) ?_
        refine J_iload_n (pc := 81) dX6_alter_81 rfl ?_
        refine J_iconst (pc := 82) (v := nI 0) dX6_alter_82 (by decide) ?_
        refine K_Vi4 (pc := 83) (Y' := YX6_puts) dX6_alter_83 lX6_185 mX6_puts vX6_puts ⟨_, _, rfl⟩ sh131 (Nat.le_of_ble_eq_true rfl) (c6_puts0) ?_
        rintro r h0 ⟨e0, e1⟩
        rw [e0, e1]
        clear e0 e1 h0
        refine K_iret (pc := 86) dX6_alter_86 rfl ?_
        rw [oAlter, iteR_f (fun z => b60 z.1)]
    · skip
      refine J_goto (pc := 13) (tgt := 55) dX6_alter_13 (by decide) ?_
      refine J_istore (pc := 55) dX6_alter_55 (by decide) ?_
      refine J_aload_n (pc := 57) dX6_alter_57 rfl ?_
      refine J_aload_n (pc := 58) dX6_alter_58 rfl ?_
      refine J_iload_n (pc := 59) dX6_alter_59 rfl ?_
      refine K_Vi1 (pc := 60) (Y' := YX6_isOne) dX6_alter_60 lX6_160 mX6_isOne vX6_isOne ⟨_, _, rfl⟩ sh131 (Nat.le_of_ble_eq_true rfl) (c6_isOne (x := p) hn hn4) ?_
      rintro x h0 ⟨e0, ⟨rfl, b60⟩ | ⟨rfl, b60⟩⟩ <;> rw [e0] <;> clear e0 h0
      · skip
        refine J_if_eq (pc := 63) (tgt := 75) dX6_alter_63 (by decide) (fun c => absurd c (by decide)) (fun _ => ?_)
        refine J_iload (pc := 66) dX6_alter_66 rfl ?_
        refine J_if_eq (pc := 68) (tgt := 75) dX6_alter_68 (by decide) (fun _ => ?_) (fun c => absurd c (by decide))
        refine J_iconst (pc := 75) (v := nI 0) dX6_alter_75 (by decide) ?_
        refine J_iconst (pc := 76) (v := nI 4) dX6_alter_76 (by decide) ?_
        refine J_iload_n (pc := 77) dX6_alter_77 rfl ?_
        refine J_imul (pc := 78) dX6_alter_78 (pk_mul _ _) ?_
        refine J_iload_n (pc := 79) dX6_alter_79 rfl ?_
        refine J_iadd (pc := 80) dX6_alter_80 (rfl) ?_
        refine J_iload_n (pc := 81) dX6_alter_81 rfl ?_
        refine J_iconst (pc := 82) (v := nI 0) dX6_alter_82 (by decide) ?_
        refine K_Vi4 (pc := 83) (Y' := YX6_puts) dX6_alter_83 lX6_185 mX6_puts vX6_puts ⟨_, _, rfl⟩ sh131 (Nat.le_of_ble_eq_true rfl) (c6_puts0) ?_
        rintro r h0 ⟨e0, e1⟩
        rw [e0, e1]
        clear e0 e1 h0
        refine K_iret (pc := 86) dX6_alter_86 rfl ?_
        rw [oAlter, iteR_f (fun z => b10 (by
          rcases z.2 with w | w | w
          · first | exact w.2 | exact absurd w.1 (by decide)
          · first | exact w.2 | exact absurd w.1 (by decide)
          · first | exact w.2 | exact absurd w.1 (by decide)))]
      · skip
        refine J_if_eq (pc := 63) (tgt := 75) dX6_alter_63 (by decide) (fun _ => ?_) (fun c => absurd c (by decide))
        refine J_iconst (pc := 75) (v := nI 0) dX6_alter_75 (by decide) ?_
        refine J_iconst (pc := 76) (v := nI 4) dX6_alter_76 (by decide) ?_
        refine J_iload_n (pc := 77) dX6_alter_77 rfl ?_
        refine J_imul (pc := 78) dX6_alter_78 (pk_mul _ _) ?_
        refine J_iload_n (pc := 79) dX6_alter_79 rfl ?_
        refine J_iadd (pc := 80) dX6_alter_80 (rfl) ?_
        refine J_iload_n (pc := 81) dX6_alter_81 rfl ?_
        refine J_iconst (pc := 82) (v := nI 0) dX6_alter_82 (by decide) ?_
        refine K_Vi4 (pc := 83) (Y' := YX6_puts) dX6_alter_83 lX6_185 mX6_puts vX6_puts ⟨_, _, rfl⟩ sh131 (Nat.le_of_ble_eq_true rfl) (c6_puts0) ?_
        rintro r h0 ⟨e0, e1⟩
        rw [e0, e1]
        clear e0 e1 h0
        refine K_iret (pc := 86) dX6_alter_86 rfl ?_
        rw [oAlter, iteR_f (fun z => b10 (by
          rcases z.2 with w | w | w
          · first | exact w.2 | exact absurd w.1 (by decide)
          · first | exact w.2 | exact absurd w.1 (by decide)
          · first | exact w.2 | exact absurd w.1 (by decide)))]
  by_cases e1 : t = nI 1
  · subst e1
    refine J_iload_n (pc := 0) dX6_alter_0 rfl ?_
    refine J_if_ne (pc := 1) (tgt := 16) dX6_alter_1 (by decide) (fun _ => ?_) (fun c => absurd c (by decide))
    refine J_iload_n (pc := 16) dX6_alter_16 rfl ?_
    refine J_iconst (pc := 17) (v := nI 1) dX6_alter_17 (by decide) ?_
    refine J_icmp_ne (pc := 18) (tgt := 33) dX6_alter_18 (by decide) (fun c => absurd c (by decide)) (fun _ => ?_)
    refine J_iload_n (pc := 21) dX6_alter_21 rfl ?_
    refine J_i2l (pc := 22) dX6_alter_22 (rfl) ?_
    refine J_lconst (pc := 23) (v := 1) dX6_alter_23 (by decide) ?_
    refine J_ldc2 (pc := 24) dX6_alter_24 kX6_181 ?_
    refine K_Si3 (pc := 27) (Y' := YX6_in) dX6_alter_27 lX6_55 mX6_in sX6_in (Nat.le_of_ble_eq_true rfl) (c6_inI v (nI 1) (nI 5) rfl (by decide) (by decide)) ?_
    rintro x h0 ⟨e0, ⟨rfl, b27⟩ | ⟨rfl, b27⟩⟩ <;> rw [e0] <;> clear e0 h0
    · skip
      refine J_goto (pc := 30) (tgt := 55) dX6_alter_30 (by decide) ?_
      refine J_istore (pc := 55) dX6_alter_55 (by decide) ?_
      refine J_aload_n (pc := 57) dX6_alter_57 rfl ?_
      refine J_aload_n (pc := 58) dX6_alter_58 rfl ?_
      refine J_iload_n (pc := 59) dX6_alter_59 rfl ?_
      refine K_Vi1 (pc := 60) (Y' := YX6_isOne) dX6_alter_60 lX6_160 mX6_isOne vX6_isOne ⟨_, _, rfl⟩ sh131 (Nat.le_of_ble_eq_true rfl) (c6_isOne (x := p) hn hn4) ?_
      rintro x h0 ⟨e0, ⟨rfl, b60⟩ | ⟨rfl, b60⟩⟩ <;> rw [e0] <;> clear e0 h0
      · skip
        refine J_if_eq (pc := 63) (tgt := 75) dX6_alter_63 (by decide) (fun c => absurd c (by decide)) (fun _ => ?_)
        refine J_iload (pc := 66) dX6_alter_66 rfl ?_
        refine J_if_eq (pc := 68) (tgt := 75) dX6_alter_68 (by decide) (fun c => absurd c (by decide)) (fun _ => ?_)
        refine J_iconst (pc := 71) (v := nI 1) dX6_alter_71 (by decide) ?_
        refine J_goto (pc := 72) (tgt := 76) dX6_alter_72 (by decide) ?_
        have qp := b60.2
        refine J_ls (ls' := [(0, .ref 131), (1, .int (nI (ix p))), (2, .int (nI 1)), (3, .int v)]) ⟨rfl, congrArg (fun z => some (Value.int z)) b60.1, rfl, rfl, trivial⟩ ?_
        refine J_iconst (pc := 76) (v := nI 4) dX6_alter_76 (by decide) ?_
        refine J_iload_n (pc := 77) dX6_alter_77 rfl ?_
        refine J_imul (pc := 78) dX6_alter_78 (pk_mul _ _) ?_
        refine J_iload_n (pc := 79) dX6_alter_79 rfl ?_
        refine J_iadd (pc := 80) dX6_alter_80 (nI_add _ _) ?_
        refine J_iload_n (pc := 81) dX6_alter_81 rfl ?_
        refine J_iconst (pc := 82) (v := nI 0) dX6_alter_82 (by decide) ?_
        refine K_Vi4 (pc := 83) (Y' := YX6_puts) dX6_alter_83 lX6_185 mX6_puts vX6_puts ⟨_, _, rfl⟩ sh131 (Nat.le_of_ble_eq_true rfl) (c6_puts1 (i := 4 * 1 + ix p) (by have := b60.2; omega)) ?_
        rintro r h0 ⟨e0, e1⟩
        rw [e0, e1]
        clear e0 e1 h0
        rw [ms1 (by have := b60.2; omega), add0, sub0, show h 132 (4 * 1 + ix p) = pg h 0 (4 * 1 + ix p) from pg0.symm]
        refine K_iret (pc := 86) dX6_alter_86 rfl ?_
        rw [oAlter, iteR_t ⟨b60, Or.inr (Or.inl ⟨rfl, b27⟩)⟩]
        exact rfl
      · skip
        refine J_if_eq (pc := 63) (tgt := 75) dX6_alter_63 (by decide) (fun _ => ?_) (fun c => absurd c (by decide))
        refine J_iconst (pc := 75) (v := nI 0) dX6_alter_75 (by decide) ?_
        refine J_iconst (pc := 76) (v := nI 4) dX6_alter_76 (by decide) ?_
        refine J_iload_n (pc := 77) dX6_alter_77 rfl ?_
        refine J_imul (pc := 78) dX6_alter_78 (pk_mul _ _) ?_
        refine J_iload_n (pc := 79) dX6_alter_79 rfl ?_
        refine J_iadd (pc := 80) dX6_alter_80 (rfl) ?_
        refine J_iload_n (pc := 81) dX6_alter_81 rfl ?_
        refine J_iconst (pc := 82) (v := nI 0) dX6_alter_82 (by decide) ?_
        refine K_Vi4 (pc := 83) (Y' := YX6_puts) dX6_alter_83 lX6_185 mX6_puts vX6_puts ⟨_, _, rfl⟩ sh131 (Nat.le_of_ble_eq_true rfl) (c6_puts0) ?_
        rintro r h0 ⟨e0, e1⟩
        rw [e0, e1]
        clear e0 e1 h0
        refine K_iret (pc := 86) dX6_alter_86 rfl ?_
        rw [oAlter, iteR_f (fun z => b60 z.1)]
    · skip
      refine J_goto (pc := 30) (tgt := 55) dX6_alter_30 (by decide) ?_
      refine J_istore (pc := 55) dX6_alter_55 (by decide) ?_
      refine J_aload_n (pc := 57) dX6_alter_57 rfl ?_
      refine J_aload_n (pc := 58) dX6_alter_58 rfl ?_
      refine J_iload_n (pc := 59) dX6_alter_59 rfl ?_
      refine K_Vi1 (pc := 60) (Y' := YX6_isOne) dX6_alter_60 lX6_160 mX6_isOne vX6_isOne ⟨_, _, rfl⟩ sh131 (Nat.le_of_ble_eq_true rfl) (c6_isOne (x := p) hn hn4) ?_
      rintro x h0 ⟨e0, ⟨rfl, b60⟩ | ⟨rfl, b60⟩⟩ <;> rw [e0] <;> clear e0 h0
      · skip
        refine J_if_eq (pc := 63) (tgt := 75) dX6_alter_63 (by decide) (fun c => absurd c (by decide)) (fun _ => ?_)
        refine J_iload (pc := 66) dX6_alter_66 rfl ?_
        refine J_if_eq (pc := 68) (tgt := 75) dX6_alter_68 (by decide) (fun _ => ?_) (fun c => absurd c (by decide))
        refine J_iconst (pc := 75) (v := nI 0) dX6_alter_75 (by decide) ?_
        refine J_iconst (pc := 76) (v := nI 4) dX6_alter_76 (by decide) ?_
        refine J_iload_n (pc := 77) dX6_alter_77 rfl ?_
        refine J_imul (pc := 78) dX6_alter_78 (pk_mul _ _) ?_
        refine J_iload_n (pc := 79) dX6_alter_79 rfl ?_
        refine J_iadd (pc := 80) dX6_alter_80 (rfl) ?_
        refine J_iload_n (pc := 81) dX6_alter_81 rfl ?_
        refine J_iconst (pc := 82) (v := nI 0) dX6_alter_82 (by decide) ?_
        refine K_Vi4 (pc := 83) (Y' := YX6_puts) dX6_alter_83 lX6_185 mX6_puts vX6_puts ⟨_, _, rfl⟩ sh131 (Nat.le_of_ble_eq_true rfl) (c6_puts0) ?_
        rintro r h0 ⟨e0, e1⟩
        rw [e0, e1]
        clear e0 e1 h0
        refine K_iret (pc := 86) dX6_alter_86 rfl ?_
        rw [oAlter, iteR_f (fun z => b27 (by
          rcases z.2 with w | w | w
          · first | exact w.2 | exact absurd w.1 (by decide)
          · first | exact w.2 | exact absurd w.1 (by decide)
          · first | exact w.2 | exact absurd w.1 (by decide)))]
      · skip
        refine J_if_eq (pc := 63) (tgt := 75) dX6_alter_63 (by decide) (fun _ => ?_) (fun c => absurd c (by decide))
        refine J_iconst (pc := 75) (v := nI 0) dX6_alter_75 (by decide) ?_
        refine J_iconst (pc := 76) (v := nI 4) dX6_alter_76 (by decide) ?_
        refine J_iload_n (pc := 77) dX6_alter_77 rfl ?_
        refine J_imul (pc := 78) dX6_alter_78 (pk_mul _ _) ?_
        refine J_iload_n (pc := 79) dX6_alter_79 rfl ?_
        refine J_iadd (pc := 80) dX6_alter_80 (rfl) ?_
        refine J_iload_n (pc := 81) dX6_alter_81 rfl ?_
        refine J_iconst (pc := 82) (v := nI 0) dX6_alter_82 (by decide) ?_
        refine K_Vi4 (pc := 83) (Y' := YX6_puts) dX6_alter_83 lX6_185 mX6_puts vX6_puts ⟨_, _, rfl⟩ sh131 (Nat.le_of_ble_eq_true rfl) (c6_puts0) ?_
        rintro r h0 ⟨e0, e1⟩
        rw [e0, e1]
        clear e0 e1 h0
        refine K_iret (pc := 86) dX6_alter_86 rfl ?_
        rw [oAlter, iteR_f (fun z => b27 (by
          rcases z.2 with w | w | w
          · first | exact w.2 | exact absurd w.1 (by decide)
          · first | exact w.2 | exact absurd w.1 (by decide)
          · first | exact w.2 | exact absurd w.1 (by decide)))]
  by_cases e2 : t = nI 2
  · subst e2
    refine J_iload_n (pc := 0) dX6_alter_0 rfl ?_
    refine J_if_ne (pc := 1) (tgt := 16) dX6_alter_1 (by decide) (fun _ => ?_) (fun c => absurd c (by decide))
    refine J_iload_n (pc := 16) dX6_alter_16 rfl ?_
    refine J_iconst (pc := 17) (v := nI 1) dX6_alter_17 (by decide) ?_
    refine J_icmp_ne (pc := 18) (tgt := 33) dX6_alter_18 (by decide) (fun _ => ?_) (fun c => absurd c (by decide))
    refine J_iload_n (pc := 33) dX6_alter_33 rfl ?_
    refine J_iconst (pc := 34) (v := nI 2) dX6_alter_34 (by decide) ?_
    refine J_icmp_ne (pc := 35) (tgt := 54) dX6_alter_35 (by decide) (fun c => absurd c (by decide)) (fun _ => ?_)
    refine J_iload_n (pc := 38) dX6_alter_38 rfl ?_
    refine J_i2l (pc := 39) dX6_alter_39 (rfl) ?_
    refine J_lconst (pc := 40) (v := 0) dX6_alter_40 (by decide) ?_
    refine J_ldc2 (pc := 41) dX6_alter_41 kX6_183 ?_
    refine K_Si3 (pc := 44) (Y' := YX6_in) dX6_alter_44 lX6_55 mX6_in sX6_in (Nat.le_of_ble_eq_true rfl) (c6_inI v (nI 0) (nI 999) rfl (by decide) (by decide)) ?_
    rintro x h0 ⟨e0, ⟨rfl, b44⟩ | ⟨rfl, b44⟩⟩ <;> rw [e0] <;> clear e0 h0
    · skip
      refine J_if_eq (pc := 47) (tgt := 54) dX6_alter_47 (by decide) (fun c => absurd c (by decide)) (fun _ => ?_)
      refine J_iconst (pc := 50) (v := nI 1) dX6_alter_50 (by decide) ?_
      refine J_goto (pc := 51) (tgt := 55) dX6_alter_51 (by decide) ?_
      refine J_istore (pc := 55) dX6_alter_55 (by decide) ?_
      refine J_aload_n (pc := 57) dX6_alter_57 rfl ?_
      refine J_aload_n (pc := 58) dX6_alter_58 rfl ?_
      refine J_iload_n (pc := 59) dX6_alter_59 rfl ?_
      refine K_Vi1 (pc := 60) (Y' := YX6_isOne) dX6_alter_60 lX6_160 mX6_isOne vX6_isOne ⟨_, _, rfl⟩ sh131 (Nat.le_of_ble_eq_true rfl) (c6_isOne (x := p) hn hn4) ?_
      rintro x h0 ⟨e0, ⟨rfl, b60⟩ | ⟨rfl, b60⟩⟩ <;> rw [e0] <;> clear e0 h0
      · skip
        refine J_if_eq (pc := 63) (tgt := 75) dX6_alter_63 (by decide) (fun c => absurd c (by decide)) (fun _ => ?_)
        refine J_iload (pc := 66) dX6_alter_66 rfl ?_
        refine J_if_eq (pc := 68) (tgt := 75) dX6_alter_68 (by decide) (fun c => absurd c (by decide)) (fun _ => ?_)
        refine J_iconst (pc := 71) (v := nI 1) dX6_alter_71 (by decide) ?_
        refine J_goto (pc := 72) (tgt := 76) dX6_alter_72 (by decide) ?_
        have qp := b60.2
        refine J_ls (ls' := [(0, .ref 131), (1, .int (nI (ix p))), (2, .int (nI 2)), (3, .int v)]) ⟨rfl, congrArg (fun z => some (Value.int z)) b60.1, rfl, rfl, trivial⟩ ?_
        refine J_iconst (pc := 76) (v := nI 4) dX6_alter_76 (by decide) ?_
        refine J_iload_n (pc := 77) dX6_alter_77 rfl ?_
        refine J_imul (pc := 78) dX6_alter_78 (pk_mul _ _) ?_
        refine J_iload_n (pc := 79) dX6_alter_79 rfl ?_
        refine J_iadd (pc := 80) dX6_alter_80 (nI_add _ _) ?_
        refine J_iload_n (pc := 81) dX6_alter_81 rfl ?_
        refine J_iconst (pc := 82) (v := nI 0) dX6_alter_82 (by decide) ?_
        refine K_Vi4 (pc := 83) (Y' := YX6_puts) dX6_alter_83 lX6_185 mX6_puts vX6_puts ⟨_, _, rfl⟩ sh131 (Nat.le_of_ble_eq_true rfl) (c6_puts1 (i := 4 * 2 + ix p) (by have := b60.2; omega)) ?_
        rintro r h0 ⟨e0, e1⟩
        rw [e0, e1]
        clear e0 e1 h0
        rw [ms1 (by have := b60.2; omega), add0, sub0, show h 132 (4 * 2 + ix p) = pg h 0 (4 * 2 + ix p) from pg0.symm]
        refine K_iret (pc := 86) dX6_alter_86 rfl ?_
        rw [oAlter, iteR_t ⟨b60, Or.inr (Or.inr ⟨rfl, b44⟩)⟩]
        exact rfl
      · skip
        refine J_if_eq (pc := 63) (tgt := 75) dX6_alter_63 (by decide) (fun _ => ?_) (fun c => absurd c (by decide))
        refine J_iconst (pc := 75) (v := nI 0) dX6_alter_75 (by decide) ?_
        refine J_iconst (pc := 76) (v := nI 4) dX6_alter_76 (by decide) ?_
        refine J_iload_n (pc := 77) dX6_alter_77 rfl ?_
        refine J_imul (pc := 78) dX6_alter_78 (pk_mul _ _) ?_
        refine J_iload_n (pc := 79) dX6_alter_79 rfl ?_
        refine J_iadd (pc := 80) dX6_alter_80 (rfl) ?_
        refine J_iload_n (pc := 81) dX6_alter_81 rfl ?_
        refine J_iconst (pc := 82) (v := nI 0) dX6_alter_82 (by decide) ?_
        refine K_Vi4 (pc := 83) (Y' := YX6_puts) dX6_alter_83 lX6_185 mX6_puts vX6_puts ⟨_, _, rfl⟩ sh131 (Nat.le_of_ble_eq_true rfl) (c6_puts0) ?_
        rintro r h0 ⟨e0, e1⟩
        rw [e0, e1]
        clear e0 e1 h0
        refine K_iret (pc := 86) dX6_alter_86 rfl ?_
        rw [oAlter, iteR_f (fun z => b60 z.1)]
    · skip
      refine J_if_eq (pc := 47) (tgt := 54) dX6_alter_47 (by decide) (fun _ => ?_) (fun c => absurd c (by decide))
      refine J_iconst (pc := 54) (v := nI 0) dX6_alter_54 (by decide) ?_
      refine J_istore (pc := 55) dX6_alter_55 (by decide) ?_
      refine J_aload_n (pc := 57) dX6_alter_57 rfl ?_
      refine J_aload_n (pc := 58) dX6_alter_58 rfl ?_
      refine J_iload_n (pc := 59) dX6_alter_59 rfl ?_
      refine K_Vi1 (pc := 60) (Y' := YX6_isOne) dX6_alter_60 lX6_160 mX6_isOne vX6_isOne ⟨_, _, rfl⟩ sh131 (Nat.le_of_ble_eq_true rfl) (c6_isOne (x := p) hn hn4) ?_
      rintro x h0 ⟨e0, ⟨rfl, b60⟩ | ⟨rfl, b60⟩⟩ <;> rw [e0] <;> clear e0 h0
      · skip
        refine J_if_eq (pc := 63) (tgt := 75) dX6_alter_63 (by decide) (fun c => absurd c (by decide)) (fun _ => ?_)
        refine J_iload (pc := 66) dX6_alter_66 rfl ?_
        refine J_if_eq (pc := 68) (tgt := 75) dX6_alter_68 (by decide) (fun _ => ?_) (fun c => absurd c (by decide))
        refine J_iconst (pc := 75) (v := nI 0) dX6_alter_75 (by decide) ?_
        refine J_iconst (pc := 76) (v := nI 4) dX6_alter_76 (by decide) ?_
        refine J_iload_n (pc := 77) dX6_alter_77 rfl ?_
        refine J_imul (pc := 78) dX6_alter_78 (pk_mul _ _) ?_
        refine J_iload_n (pc := 79) dX6_alter_79 rfl ?_
        refine J_iadd (pc := 80) dX6_alter_80 (rfl) ?_
        refine J_iload_n (pc := 81) dX6_alter_81 rfl ?_
        refine J_iconst (pc := 82) (v := nI 0) dX6_alter_82 (by decide) ?_
        refine K_Vi4 (pc := 83) (Y' := YX6_puts) dX6_alter_83 lX6_185 mX6_puts vX6_puts ⟨_, _, rfl⟩ sh131 (Nat.le_of_ble_eq_true rfl) (c6_puts0) ?_
        rintro r h0 ⟨e0, e1⟩
        rw [e0, e1]
        clear e0 e1 h0
        refine K_iret (pc := 86) dX6_alter_86 rfl ?_
        rw [oAlter, iteR_f (fun z => b44 (by
          rcases z.2 with w | w | w
          · first | exact w.2 | exact absurd w.1 (by decide)
          · first | exact w.2 | exact absurd w.1 (by decide)
          · first | exact w.2 | exact absurd w.1 (by decide)))]
      · skip
        refine J_if_eq (pc := 63) (tgt := 75) dX6_alter_63 (by decide) (fun _ => ?_) (fun c => absurd c (by decide))
        refine J_iconst (pc := 75) (v := nI 0) dX6_alter_75 (by decide) ?_
        refine J_iconst (pc := 76) (v := nI 4) dX6_alter_76 (by decide) ?_
        refine J_iload_n (pc := 77) dX6_alter_77 rfl ?_
        refine J_imul (pc := 78) dX6_alter_78 (pk_mul _ _) ?_
        refine J_iload_n (pc := 79) dX6_alter_79 rfl ?_
        refine J_iadd (pc := 80) dX6_alter_80 (rfl) ?_
        refine J_iload_n (pc := 81) dX6_alter_81 rfl ?_
        refine J_iconst (pc := 82) (v := nI 0) dX6_alter_82 (by decide) ?_
        refine K_Vi4 (pc := 83) (Y' := YX6_puts) dX6_alter_83 lX6_185 mX6_puts vX6_puts ⟨_, _, rfl⟩ sh131 (Nat.le_of_ble_eq_true rfl) (c6_puts0) ?_
        rintro r h0 ⟨e0, e1⟩
        rw [e0, e1]
        clear e0 e1 h0
        refine K_iret (pc := 86) dX6_alter_86 rfl ?_
        rw [oAlter, iteR_f (fun z => b44 (by
          rcases z.2 with w | w | w
          · first | exact w.2 | exact absurd w.1 (by decide)
          · first | exact w.2 | exact absurd w.1 (by decide)
          · first | exact w.2 | exact absurd w.1 (by decide)))]
  refine J_iload_n (pc := 0) dX6_alter_0 rfl ?_
  refine J_if_ne (pc := 1) (tgt := 16) dX6_alter_1 (by decide) (fun c1 => ?_) (fun c1 => ?_)
  · skip
    refine J_iload_n (pc := 16) dX6_alter_16 rfl ?_
    refine J_iconst (pc := 17) (v := nI 1) dX6_alter_17 (by decide) ?_
    refine J_icmp_ne (pc := 18) (tgt := 33) dX6_alter_18 (by decide) (fun c18 => ?_) (fun c18 => ?_)
    · skip
      refine J_iload_n (pc := 33) dX6_alter_33 rfl ?_
      refine J_iconst (pc := 34) (v := nI 2) dX6_alter_34 (by decide) ?_
      refine J_icmp_ne (pc := 35) (tgt := 54) dX6_alter_35 (by decide) (fun c35 => ?_) (fun c35 => ?_)
      · skip
        refine J_iconst (pc := 54) (v := nI 0) dX6_alter_54 (by decide) ?_
        refine J_istore (pc := 55) dX6_alter_55 (by decide) ?_
        refine J_aload_n (pc := 57) dX6_alter_57 rfl ?_
        refine J_aload_n (pc := 58) dX6_alter_58 rfl ?_
        refine J_iload_n (pc := 59) dX6_alter_59 rfl ?_
        refine K_Vi1 (pc := 60) (Y' := YX6_isOne) dX6_alter_60 lX6_160 mX6_isOne vX6_isOne ⟨_, _, rfl⟩ sh131 (Nat.le_of_ble_eq_true rfl) (c6_isOne (x := p) hn hn4) ?_
        rintro x h0 ⟨e0, ⟨rfl, b60⟩ | ⟨rfl, b60⟩⟩ <;> rw [e0] <;> clear e0 h0
        · skip
          refine J_if_eq (pc := 63) (tgt := 75) dX6_alter_63 (by decide) (fun c => absurd c (by decide)) (fun _ => ?_)
          refine J_iload (pc := 66) dX6_alter_66 rfl ?_
          refine J_if_eq (pc := 68) (tgt := 75) dX6_alter_68 (by decide) (fun _ => ?_) (fun c => absurd c (by decide))
          refine J_iconst (pc := 75) (v := nI 0) dX6_alter_75 (by decide) ?_
          refine J_iconst (pc := 76) (v := nI 4) dX6_alter_76 (by decide) ?_
          refine J_iload_n (pc := 77) dX6_alter_77 rfl ?_
          refine J_imul (pc := 78) dX6_alter_78 (rfl) ?_
          refine J_iload_n (pc := 79) dX6_alter_79 rfl ?_
          refine J_iadd (pc := 80) dX6_alter_80 (rfl) ?_
          refine J_iload_n (pc := 81) dX6_alter_81 rfl ?_
          refine J_iconst (pc := 82) (v := nI 0) dX6_alter_82 (by decide) ?_
          refine K_Vi4 (pc := 83) (Y' := YX6_puts) dX6_alter_83 lX6_185 mX6_puts vX6_puts ⟨_, _, rfl⟩ sh131 (Nat.le_of_ble_eq_true rfl) (c6_puts0) ?_
          rintro r h0 ⟨e0, e1⟩
          rw [e0, e1]
          clear e0 e1 h0
          refine K_iret (pc := 86) dX6_alter_86 rfl ?_
          rw [oAlter, iteR_f (fun z => z.2.elim (fun w => e0 w.1) (fun w => w.elim (fun w => e1 w.1) (fun w => e2 w.1)))]
        · skip
          refine J_if_eq (pc := 63) (tgt := 75) dX6_alter_63 (by decide) (fun _ => ?_) (fun c => absurd c (by decide))
          refine J_iconst (pc := 75) (v := nI 0) dX6_alter_75 (by decide) ?_
          refine J_iconst (pc := 76) (v := nI 4) dX6_alter_76 (by decide) ?_
          refine J_iload_n (pc := 77) dX6_alter_77 rfl ?_
          refine J_imul (pc := 78) dX6_alter_78 (rfl) ?_
          refine J_iload_n (pc := 79) dX6_alter_79 rfl ?_
          refine J_iadd (pc := 80) dX6_alter_80 (rfl) ?_
          refine J_iload_n (pc := 81) dX6_alter_81 rfl ?_
          refine J_iconst (pc := 82) (v := nI 0) dX6_alter_82 (by decide) ?_
          refine K_Vi4 (pc := 83) (Y' := YX6_puts) dX6_alter_83 lX6_185 mX6_puts vX6_puts ⟨_, _, rfl⟩ sh131 (Nat.le_of_ble_eq_true rfl) (c6_puts0) ?_
          rintro r h0 ⟨e0, e1⟩
          rw [e0, e1]
          clear e0 e1 h0
          refine K_iret (pc := 86) dX6_alter_86 rfl ?_
          rw [oAlter, iteR_f (fun z => z.2.elim (fun w => e0 w.1) (fun w => w.elim (fun w => e1 w.1) (fun w => e2 w.1)))]
      · skip
        exact absurd c35 e2
    · skip
      exact absurd c18 e1
  · skip
    exact absurd c1 e0
set_option maxHeartbeats 4000000 in
theorem c6_sign {g : jG} {d : Nat} {h : jH} {c t v : Int32} (hR : MR h) : Mi g (d + 2) YX6_sign h [.ref 131, .int c, .int t, .int v] (fun r h' => (r, h') = oSign h c t v) := by
  refine M.of (by decide) rfl (Nat.le_of_ble_eq_true rfl) ?_
  obtain ⟨r1, ⟨⟨v1, v2, v3, v4⟩, v5, v6, v7, v8, v9, va, vb, vc, vd⟩, r3, r4, ⟨r5, r6⟩, r7, r8, r9, ra⟩ := hR
  have hn := r1.1
  have hn4 := v1
  have n5 := r1.2
  have c6 : ix (h 132 37) < 6 := v3.2
  have p9 : ix (h 132 51) < 9 := v5.2
  have p9' : ix (pg h 0 51) < 9 := v5.2
  by_cases e2 : t = nI 2
  · subst e2
    refine J_iload_n (pc := 0) dX6_sign_0 rfl ?_
    refine J_iconst (pc := 1) (v := nI 2) dX6_sign_1 (by decide) ?_
    refine J_icmp_ne (pc := 2) (tgt := 12) dX6_sign_2 (by decide) (fun c => absurd c (by decide)) (fun _ => ?_)
    refine J_iload_n (pc := 5) dX6_sign_5 rfl ?_
    refine K_Si1 (pc := 6) (Y' := YX6_isWeather) dX6_sign_6 lX6_169 mX6_isWeather sX6_isWeather (Nat.le_of_ble_eq_true rfl) (c6_isWeather (x := v)) ?_
    rintro x h0 ⟨e0, ⟨rfl, b6⟩ | ⟨rfl, b6⟩⟩ <;> rw [e0] <;> clear e0 h0
    · skip
      refine J_goto (pc := 9) (tgt := 51) dX6_sign_9 (by decide) ?_
      refine J_istore (pc := 51) dX6_sign_51 (by decide) ?_
      refine J_aload_n (pc := 53) dX6_sign_53 rfl ?_
      refine J_aload_n (pc := 54) dX6_sign_54 rfl ?_
      refine J_iload_n (pc := 55) dX6_sign_55 rfl ?_
      refine K_Vi1 (pc := 56) (Y' := YX6_isCover) dX6_sign_56 lX6_175 mX6_isCover vX6_isCover ⟨_, _, rfl⟩ sh131 (Nat.le_of_ble_eq_true rfl) (c6_isCover (x := c) v3) ?_
      rintro x h0 ⟨e0, ⟨rfl, b56⟩ | ⟨rfl, b56⟩⟩ <;> rw [e0] <;> clear e0 h0
      · skip
        refine J_if_eq (pc := 59) (tgt := 71) dX6_sign_59 (by decide) (fun c => absurd c (by decide)) (fun _ => ?_)
        refine J_iload (pc := 62) dX6_sign_62 rfl ?_
        refine J_if_eq (pc := 64) (tgt := 71) dX6_sign_64 (by decide) (fun c => absurd c (by decide)) (fun _ => ?_)
        refine J_iconst (pc := 67) (v := nI 1) dX6_sign_67 (by decide) ?_
        refine J_goto (pc := 68) (tgt := 72) dX6_sign_68 (by decide) ?_
        have qp := b56.2
        refine J_ls (ls' := [(0, .ref 131), (1, .int (nI (ix c))), (2, .int (nI 2)), (3, .int v)]) ⟨rfl, congrArg (fun z => some (Value.int z)) b56.1, rfl, rfl, trivial⟩ ?_
        refine J_bipush (pc := 72) (v := nI 12) dX6_sign_72 (by decide) ?_
        refine J_iconst (pc := 74) (v := nI 5) dX6_sign_74 (by decide) ?_
        refine J_iload_n (pc := 75) dX6_sign_75 rfl ?_
        refine J_imul (pc := 76) dX6_sign_76 (pk_mul _ _) ?_
        refine J_iadd (pc := 77) dX6_sign_77 (nI_add _ _) ?_
        refine J_iload_n (pc := 78) dX6_sign_78 rfl ?_
        refine J_iadd (pc := 79) dX6_sign_79 (nI_add _ _) ?_
        refine J_iload_n (pc := 80) dX6_sign_80 rfl ?_
        refine J_iconst (pc := 81) (v := nI 0) dX6_sign_81 (by decide) ?_
        refine K_Vi4 (pc := 82) (Y' := YX6_puts) dX6_sign_82 lX6_185 mX6_puts vX6_puts ⟨_, _, rfl⟩ sh131 (Nat.le_of_ble_eq_true rfl) (c6_puts1 (i := 12 + 5 * ix c + 2) (by have := b56.2; omega)) ?_
        rintro r h0 ⟨e0, e1⟩
        rw [e0, e1]
        clear e0 e1 h0
        rw [ms1 (by have := b56.2; omega), add0, sub0, show h 132 (12 + 5 * ix c + 2) = pg h 0 (12 + 5 * ix c + 2) from pg0.symm]
        refine K_iret (pc := 85) dX6_sign_85 rfl ?_
        rw [oSign, iteR_t ⟨b56, Or.inl ⟨rfl, b6⟩⟩]
        exact rfl
      · skip
        refine J_if_eq (pc := 59) (tgt := 71) dX6_sign_59 (by decide) (fun _ => ?_) (fun c => absurd c (by decide))
        refine J_iconst (pc := 71) (v := nI 0) dX6_sign_71 (by decide) ?_
        refine J_bipush (pc := 72) (v := nI 12) dX6_sign_72 (by decide) ?_
        refine J_iconst (pc := 74) (v := nI 5) dX6_sign_74 (by decide) ?_
        refine J_iload_n (pc := 75) dX6_sign_75 rfl ?_
        refine J_imul (pc := 76) dX6_sign_76 (rfl) ?_
        refine J_iadd (pc := 77) dX6_sign_77 (rfl) ?_
        refine J_iload_n (pc := 78) dX6_sign_78 rfl ?_
        refine J_iadd (pc := 79) dX6_sign_79 (rfl) ?_
        refine J_iload_n (pc := 80) dX6_sign_80 rfl ?_
        refine J_iconst (pc := 81) (v := nI 0) dX6_sign_81 (by decide) ?_
        refine K_Vi4 (pc := 82) (Y' := YX6_puts) dX6_sign_82 lX6_185 mX6_puts vX6_puts ⟨_, _, rfl⟩ sh131 (Nat.le_of_ble_eq_true rfl) (c6_puts0) ?_
        rintro r h0 ⟨e0, e1⟩
        rw [e0, e1]
        clear e0 e1 h0
        refine K_iret (pc := 85) dX6_sign_85 rfl ?_
        rw [oSign, iteR_f (fun z => b56 z.1)]
    · skip
      refine J_goto (pc := 9) (tgt := 51) dX6_sign_9 (by decide) ?_
      refine J_istore (pc := 51) dX6_sign_51 (by decide) ?_
      refine J_aload_n (pc := 53) dX6_sign_53 rfl ?_
      refine J_aload_n (pc := 54) dX6_sign_54 rfl ?_
      refine J_iload_n (pc := 55) dX6_sign_55 rfl ?_
      refine K_Vi1 (pc := 56) (Y' := YX6_isCover) dX6_sign_56 lX6_175 mX6_isCover vX6_isCover ⟨_, _, rfl⟩ sh131 (Nat.le_of_ble_eq_true rfl) (c6_isCover (x := c) v3) ?_
      rintro x h0 ⟨e0, ⟨rfl, b56⟩ | ⟨rfl, b56⟩⟩ <;> rw [e0] <;> clear e0 h0
      · skip
        refine J_if_eq (pc := 59) (tgt := 71) dX6_sign_59 (by decide) (fun c => absurd c (by decide)) (fun _ => ?_)
        refine J_iload (pc := 62) dX6_sign_62 rfl ?_
        refine J_if_eq (pc := 64) (tgt := 71) dX6_sign_64 (by decide) (fun _ => ?_) (fun c => absurd c (by decide))
        refine J_iconst (pc := 71) (v := nI 0) dX6_sign_71 (by decide) ?_
        refine J_bipush (pc := 72) (v := nI 12) dX6_sign_72 (by decide) ?_
        refine J_iconst (pc := 74) (v := nI 5) dX6_sign_74 (by decide) ?_
        refine J_iload_n (pc := 75) dX6_sign_75 rfl ?_
        refine J_imul (pc := 76) dX6_sign_76 (rfl) ?_
        refine J_iadd (pc := 77) dX6_sign_77 (rfl) ?_
        refine J_iload_n (pc := 78) dX6_sign_78 rfl ?_
        refine J_iadd (pc := 79) dX6_sign_79 (rfl) ?_
        refine J_iload_n (pc := 80) dX6_sign_80 rfl ?_
        refine J_iconst (pc := 81) (v := nI 0) dX6_sign_81 (by decide) ?_
        refine K_Vi4 (pc := 82) (Y' := YX6_puts) dX6_sign_82 lX6_185 mX6_puts vX6_puts ⟨_, _, rfl⟩ sh131 (Nat.le_of_ble_eq_true rfl) (c6_puts0) ?_
        rintro r h0 ⟨e0, e1⟩
        rw [e0, e1]
        clear e0 e1 h0
        refine K_iret (pc := 85) dX6_sign_85 rfl ?_
        rw [oSign, iteR_f (fun z => b6 (by rcases z.2 with w | w | w <;> first | exact w.2 | exact absurd w.1 (by decide)))]
      · skip
        refine J_if_eq (pc := 59) (tgt := 71) dX6_sign_59 (by decide) (fun _ => ?_) (fun c => absurd c (by decide))
        refine J_iconst (pc := 71) (v := nI 0) dX6_sign_71 (by decide) ?_
        refine J_bipush (pc := 72) (v := nI 12) dX6_sign_72 (by decide) ?_
        refine J_iconst (pc := 74) (v := nI 5) dX6_sign_74 (by decide) ?_
        refine J_iload_n (pc := 75) dX6_sign_75 rfl ?_
        refine J_imul (pc := 76) dX6_sign_76 (rfl) ?_
        refine J_iadd (pc := 77) dX6_sign_77 (rfl) ?_
        refine J_iload_n (pc := 78) dX6_sign_78 rfl ?_
        refine J_iadd (pc := 79) dX6_sign_79 (rfl) ?_
        refine J_iload_n (pc := 80) dX6_sign_80 rfl ?_
        refine J_iconst (pc := 81) (v := nI 0) dX6_sign_81 (by decide) ?_
        refine K_Vi4 (pc := 82) (Y' := YX6_puts) dX6_sign_82 lX6_185 mX6_puts vX6_puts ⟨_, _, rfl⟩ sh131 (Nat.le_of_ble_eq_true rfl) (c6_puts0) ?_
        rintro r h0 ⟨e0, e1⟩
        rw [e0, e1]
        clear e0 e1 h0
        refine K_iret (pc := 85) dX6_sign_85 rfl ?_
        rw [oSign, iteR_f (fun z => b6 (by rcases z.2 with w | w | w <;> first | exact w.2 | exact absurd w.1 (by decide)))]
  by_cases e3 : t = nI 3
  · subst e3
    refine J_iload_n (pc := 0) dX6_sign_0 rfl ?_
    refine J_iconst (pc := 1) (v := nI 2) dX6_sign_1 (by decide) ?_
    refine J_icmp_ne (pc := 2) (tgt := 12) dX6_sign_2 (by decide) (fun _ => ?_) (fun c => absurd c (by decide))
    refine J_iload_n (pc := 12) dX6_sign_12 rfl ?_
    refine J_iconst (pc := 13) (v := nI 3) dX6_sign_13 (by decide) ?_
    refine J_icmp_ne (pc := 14) (tgt := 29) dX6_sign_14 (by decide) (fun c => absurd c (by decide)) (fun _ => ?_)
    refine J_iload_n (pc := 17) dX6_sign_17 rfl ?_
    refine J_i2l (pc := 18) dX6_sign_18 (rfl) ?_
    refine J_lconst (pc := 19) (v := 0) dX6_sign_19 (by decide) ?_
    refine J_ldc2 (pc := 20) dX6_sign_20 kX6_189 ?_
    refine K_Si3 (pc := 23) (Y' := YX6_in) dX6_sign_23 lX6_55 mX6_in sX6_in (Nat.le_of_ble_eq_true rfl) (c6_inI v (nI 0) (nI 20) rfl (by decide) (by decide)) ?_
    rintro x h0 ⟨e0, ⟨rfl, b23⟩ | ⟨rfl, b23⟩⟩ <;> rw [e0] <;> clear e0 h0
    · skip
      refine J_goto (pc := 26) (tgt := 51) dX6_sign_26 (by decide) ?_
      refine J_istore (pc := 51) dX6_sign_51 (by decide) ?_
      refine J_aload_n (pc := 53) dX6_sign_53 rfl ?_
      refine J_aload_n (pc := 54) dX6_sign_54 rfl ?_
      refine J_iload_n (pc := 55) dX6_sign_55 rfl ?_
      refine K_Vi1 (pc := 56) (Y' := YX6_isCover) dX6_sign_56 lX6_175 mX6_isCover vX6_isCover ⟨_, _, rfl⟩ sh131 (Nat.le_of_ble_eq_true rfl) (c6_isCover (x := c) v3) ?_
      rintro x h0 ⟨e0, ⟨rfl, b56⟩ | ⟨rfl, b56⟩⟩ <;> rw [e0] <;> clear e0 h0
      · skip
        refine J_if_eq (pc := 59) (tgt := 71) dX6_sign_59 (by decide) (fun c => absurd c (by decide)) (fun _ => ?_)
        refine J_iload (pc := 62) dX6_sign_62 rfl ?_
        refine J_if_eq (pc := 64) (tgt := 71) dX6_sign_64 (by decide) (fun c => absurd c (by decide)) (fun _ => ?_)
        refine J_iconst (pc := 67) (v := nI 1) dX6_sign_67 (by decide) ?_
        refine J_goto (pc := 68) (tgt := 72) dX6_sign_68 (by decide) ?_
        have qp := b56.2
        refine J_ls (ls' := [(0, .ref 131), (1, .int (nI (ix c))), (2, .int (nI 3)), (3, .int v)]) ⟨rfl, congrArg (fun z => some (Value.int z)) b56.1, rfl, rfl, trivial⟩ ?_
        refine J_bipush (pc := 72) (v := nI 12) dX6_sign_72 (by decide) ?_
        refine J_iconst (pc := 74) (v := nI 5) dX6_sign_74 (by decide) ?_
        refine J_iload_n (pc := 75) dX6_sign_75 rfl ?_
        refine J_imul (pc := 76) dX6_sign_76 (pk_mul _ _) ?_
        refine J_iadd (pc := 77) dX6_sign_77 (nI_add _ _) ?_
        refine J_iload_n (pc := 78) dX6_sign_78 rfl ?_
        refine J_iadd (pc := 79) dX6_sign_79 (nI_add _ _) ?_
        refine J_iload_n (pc := 80) dX6_sign_80 rfl ?_
        refine J_iconst (pc := 81) (v := nI 0) dX6_sign_81 (by decide) ?_
        refine K_Vi4 (pc := 82) (Y' := YX6_puts) dX6_sign_82 lX6_185 mX6_puts vX6_puts ⟨_, _, rfl⟩ sh131 (Nat.le_of_ble_eq_true rfl) (c6_puts1 (i := 12 + 5 * ix c + 3) (by have := b56.2; omega)) ?_
        rintro r h0 ⟨e0, e1⟩
        rw [e0, e1]
        clear e0 e1 h0
        rw [ms1 (by have := b56.2; omega), add0, sub0, show h 132 (12 + 5 * ix c + 3) = pg h 0 (12 + 5 * ix c + 3) from pg0.symm]
        refine K_iret (pc := 85) dX6_sign_85 rfl ?_
        rw [oSign, iteR_t ⟨b56, Or.inr (Or.inl ⟨rfl, b23⟩)⟩]
        exact rfl
      · skip
        refine J_if_eq (pc := 59) (tgt := 71) dX6_sign_59 (by decide) (fun _ => ?_) (fun c => absurd c (by decide))
        refine J_iconst (pc := 71) (v := nI 0) dX6_sign_71 (by decide) ?_
        refine J_bipush (pc := 72) (v := nI 12) dX6_sign_72 (by decide) ?_
        refine J_iconst (pc := 74) (v := nI 5) dX6_sign_74 (by decide) ?_
        refine J_iload_n (pc := 75) dX6_sign_75 rfl ?_
        refine J_imul (pc := 76) dX6_sign_76 (rfl) ?_
        refine J_iadd (pc := 77) dX6_sign_77 (rfl) ?_
        refine J_iload_n (pc := 78) dX6_sign_78 rfl ?_
        refine J_iadd (pc := 79) dX6_sign_79 (rfl) ?_
        refine J_iload_n (pc := 80) dX6_sign_80 rfl ?_
        refine J_iconst (pc := 81) (v := nI 0) dX6_sign_81 (by decide) ?_
        refine K_Vi4 (pc := 82) (Y' := YX6_puts) dX6_sign_82 lX6_185 mX6_puts vX6_puts ⟨_, _, rfl⟩ sh131 (Nat.le_of_ble_eq_true rfl) (c6_puts0) ?_
        rintro r h0 ⟨e0, e1⟩
        rw [e0, e1]
        clear e0 e1 h0
        refine K_iret (pc := 85) dX6_sign_85 rfl ?_
        rw [oSign, iteR_f (fun z => b56 z.1)]
    · skip
      refine J_goto (pc := 26) (tgt := 51) dX6_sign_26 (by decide) ?_
      refine J_istore (pc := 51) dX6_sign_51 (by decide) ?_
      refine J_aload_n (pc := 53) dX6_sign_53 rfl ?_
      refine J_aload_n (pc := 54) dX6_sign_54 rfl ?_
      refine J_iload_n (pc := 55) dX6_sign_55 rfl ?_
      refine K_Vi1 (pc := 56) (Y' := YX6_isCover) dX6_sign_56 lX6_175 mX6_isCover vX6_isCover ⟨_, _, rfl⟩ sh131 (Nat.le_of_ble_eq_true rfl) (c6_isCover (x := c) v3) ?_
      rintro x h0 ⟨e0, ⟨rfl, b56⟩ | ⟨rfl, b56⟩⟩ <;> rw [e0] <;> clear e0 h0
      · skip
        refine J_if_eq (pc := 59) (tgt := 71) dX6_sign_59 (by decide) (fun c => absurd c (by decide)) (fun _ => ?_)
        refine J_iload (pc := 62) dX6_sign_62 rfl ?_
        refine J_if_eq (pc := 64) (tgt := 71) dX6_sign_64 (by decide) (fun _ => ?_) (fun c => absurd c (by decide))
        refine J_iconst (pc := 71) (v := nI 0) dX6_sign_71 (by decide) ?_
        refine J_bipush (pc := 72) (v := nI 12) dX6_sign_72 (by decide) ?_
        refine J_iconst (pc := 74) (v := nI 5) dX6_sign_74 (by decide) ?_
        refine J_iload_n (pc := 75) dX6_sign_75 rfl ?_
        refine J_imul (pc := 76) dX6_sign_76 (rfl) ?_
        refine J_iadd (pc := 77) dX6_sign_77 (rfl) ?_
        refine J_iload_n (pc := 78) dX6_sign_78 rfl ?_
        refine J_iadd (pc := 79) dX6_sign_79 (rfl) ?_
        refine J_iload_n (pc := 80) dX6_sign_80 rfl ?_
        refine J_iconst (pc := 81) (v := nI 0) dX6_sign_81 (by decide) ?_
        refine K_Vi4 (pc := 82) (Y' := YX6_puts) dX6_sign_82 lX6_185 mX6_puts vX6_puts ⟨_, _, rfl⟩ sh131 (Nat.le_of_ble_eq_true rfl) (c6_puts0) ?_
        rintro r h0 ⟨e0, e1⟩
        rw [e0, e1]
        clear e0 e1 h0
        refine K_iret (pc := 85) dX6_sign_85 rfl ?_
        rw [oSign, iteR_f (fun z => b23 (by rcases z.2 with w | w | w <;> first | exact w.2 | exact absurd w.1 (by decide)))]
      · skip
        refine J_if_eq (pc := 59) (tgt := 71) dX6_sign_59 (by decide) (fun _ => ?_) (fun c => absurd c (by decide))
        refine J_iconst (pc := 71) (v := nI 0) dX6_sign_71 (by decide) ?_
        refine J_bipush (pc := 72) (v := nI 12) dX6_sign_72 (by decide) ?_
        refine J_iconst (pc := 74) (v := nI 5) dX6_sign_74 (by decide) ?_
        refine J_iload_n (pc := 75) dX6_sign_75 rfl ?_
        refine J_imul (pc := 76) dX6_sign_76 (rfl) ?_
        refine J_iadd (pc := 77) dX6_sign_77 (rfl) ?_
        refine J_iload_n (pc := 78) dX6_sign_78 rfl ?_
        refine J_iadd (pc := 79) dX6_sign_79 (rfl) ?_
        refine J_iload_n (pc := 80) dX6_sign_80 rfl ?_
        refine J_iconst (pc := 81) (v := nI 0) dX6_sign_81 (by decide) ?_
        refine K_Vi4 (pc := 82) (Y' := YX6_puts) dX6_sign_82 lX6_185 mX6_puts vX6_puts ⟨_, _, rfl⟩ sh131 (Nat.le_of_ble_eq_true rfl) (c6_puts0) ?_
        rintro r h0 ⟨e0, e1⟩
        rw [e0, e1]
        clear e0 e1 h0
        refine K_iret (pc := 85) dX6_sign_85 rfl ?_
        rw [oSign, iteR_f (fun z => b23 (by rcases z.2 with w | w | w <;> first | exact w.2 | exact absurd w.1 (by decide)))]
  by_cases e4 : t = nI 4
  · subst e4
    refine J_iload_n (pc := 0) dX6_sign_0 rfl ?_
    refine J_iconst (pc := 1) (v := nI 2) dX6_sign_1 (by decide) ?_
    refine J_icmp_ne (pc := 2) (tgt := 12) dX6_sign_2 (by decide) (fun _ => ?_) (fun c => absurd c (by decide))
    refine J_iload_n (pc := 12) dX6_sign_12 rfl ?_
    refine J_iconst (pc := 13) (v := nI 3) dX6_sign_13 (by decide) ?_
    refine J_icmp_ne (pc := 14) (tgt := 29) dX6_sign_14 (by decide) (fun _ => ?_) (fun c => absurd c (by decide))
    refine J_iload_n (pc := 29) dX6_sign_29 rfl ?_
    refine J_iconst (pc := 30) (v := nI 4) dX6_sign_30 (by decide) ?_
    refine J_icmp_ne (pc := 31) (tgt := 50) dX6_sign_31 (by decide) (fun c => absurd c (by decide)) (fun _ => ?_)
    refine J_iload_n (pc := 34) dX6_sign_34 rfl ?_
    refine J_i2l (pc := 35) dX6_sign_35 (rfl) ?_
    refine J_lconst (pc := 36) (v := 0) dX6_sign_36 (by decide) ?_
    refine J_ldc2 (pc := 37) dX6_sign_37 kX6_191 ?_
    refine K_Si3 (pc := 40) (Y' := YX6_in) dX6_sign_40 lX6_55 mX6_in sX6_in (Nat.le_of_ble_eq_true rfl) (c6_inI v (nI 0) (nI 9) rfl (by decide) (by decide)) ?_
    rintro x h0 ⟨e0, ⟨rfl, b40⟩ | ⟨rfl, b40⟩⟩ <;> rw [e0] <;> clear e0 h0
    · skip
      refine J_if_eq (pc := 43) (tgt := 50) dX6_sign_43 (by decide) (fun c => absurd c (by decide)) (fun _ => ?_)
      refine J_iconst (pc := 46) (v := nI 1) dX6_sign_46 (by decide) ?_
      refine J_goto (pc := 47) (tgt := 51) dX6_sign_47 (by decide) ?_
      refine J_istore (pc := 51) dX6_sign_51 (by decide) ?_
      refine J_aload_n (pc := 53) dX6_sign_53 rfl ?_
      refine J_aload_n (pc := 54) dX6_sign_54 rfl ?_
      refine J_iload_n (pc := 55) dX6_sign_55 rfl ?_
      refine K_Vi1 (pc := 56) (Y' := YX6_isCover) dX6_sign_56 lX6_175 mX6_isCover vX6_isCover ⟨_, _, rfl⟩ sh131 (Nat.le_of_ble_eq_true rfl) (c6_isCover (x := c) v3) ?_
      rintro x h0 ⟨e0, ⟨rfl, b56⟩ | ⟨rfl, b56⟩⟩ <;> rw [e0] <;> clear e0 h0
      · skip
        refine J_if_eq (pc := 59) (tgt := 71) dX6_sign_59 (by decide) (fun c => absurd c (by decide)) (fun _ => ?_)
        refine J_iload (pc := 62) dX6_sign_62 rfl ?_
        refine J_if_eq (pc := 64) (tgt := 71) dX6_sign_64 (by decide) (fun c => absurd c (by decide)) (fun _ => ?_)
        refine J_iconst (pc := 67) (v := nI 1) dX6_sign_67 (by decide) ?_
        refine J_goto (pc := 68) (tgt := 72) dX6_sign_68 (by decide) ?_
        have qp := b56.2
        refine J_ls (ls' := [(0, .ref 131), (1, .int (nI (ix c))), (2, .int (nI 4)), (3, .int v)]) ⟨rfl, congrArg (fun z => some (Value.int z)) b56.1, rfl, rfl, trivial⟩ ?_
        refine J_bipush (pc := 72) (v := nI 12) dX6_sign_72 (by decide) ?_
        refine J_iconst (pc := 74) (v := nI 5) dX6_sign_74 (by decide) ?_
        refine J_iload_n (pc := 75) dX6_sign_75 rfl ?_
        refine J_imul (pc := 76) dX6_sign_76 (pk_mul _ _) ?_
        refine J_iadd (pc := 77) dX6_sign_77 (nI_add _ _) ?_
        refine J_iload_n (pc := 78) dX6_sign_78 rfl ?_
        refine J_iadd (pc := 79) dX6_sign_79 (nI_add _ _) ?_
        refine J_iload_n (pc := 80) dX6_sign_80 rfl ?_
        refine J_iconst (pc := 81) (v := nI 0) dX6_sign_81 (by decide) ?_
        refine K_Vi4 (pc := 82) (Y' := YX6_puts) dX6_sign_82 lX6_185 mX6_puts vX6_puts ⟨_, _, rfl⟩ sh131 (Nat.le_of_ble_eq_true rfl) (c6_puts1 (i := 12 + 5 * ix c + 4) (by have := b56.2; omega)) ?_
        rintro r h0 ⟨e0, e1⟩
        rw [e0, e1]
        clear e0 e1 h0
        rw [ms1 (by have := b56.2; omega), add0, sub0, show h 132 (12 + 5 * ix c + 4) = pg h 0 (12 + 5 * ix c + 4) from pg0.symm]
        refine K_iret (pc := 85) dX6_sign_85 rfl ?_
        rw [oSign, iteR_t ⟨b56, Or.inr (Or.inr ⟨rfl, b40⟩)⟩]
        exact rfl
      · skip
        refine J_if_eq (pc := 59) (tgt := 71) dX6_sign_59 (by decide) (fun _ => ?_) (fun c => absurd c (by decide))
        refine J_iconst (pc := 71) (v := nI 0) dX6_sign_71 (by decide) ?_
        refine J_bipush (pc := 72) (v := nI 12) dX6_sign_72 (by decide) ?_
        refine J_iconst (pc := 74) (v := nI 5) dX6_sign_74 (by decide) ?_
        refine J_iload_n (pc := 75) dX6_sign_75 rfl ?_
        refine J_imul (pc := 76) dX6_sign_76 (rfl) ?_
        refine J_iadd (pc := 77) dX6_sign_77 (rfl) ?_
        refine J_iload_n (pc := 78) dX6_sign_78 rfl ?_
        refine J_iadd (pc := 79) dX6_sign_79 (rfl) ?_
        refine J_iload_n (pc := 80) dX6_sign_80 rfl ?_
        refine J_iconst (pc := 81) (v := nI 0) dX6_sign_81 (by decide) ?_
        refine K_Vi4 (pc := 82) (Y' := YX6_puts) dX6_sign_82 lX6_185 mX6_puts vX6_puts ⟨_, _, rfl⟩ sh131 (Nat.le_of_ble_eq_true rfl) (c6_puts0) ?_
        rintro r h0 ⟨e0, e1⟩
        rw [e0, e1]
        clear e0 e1 h0
        refine K_iret (pc := 85) dX6_sign_85 rfl ?_
        rw [oSign, iteR_f (fun z => b56 z.1)]
    · skip
      refine J_if_eq (pc := 43) (tgt := 50) dX6_sign_43 (by decide) (fun _ => ?_) (fun c => absurd c (by decide))
      refine J_iconst (pc := 50) (v := nI 0) dX6_sign_50 (by decide) ?_
      refine J_istore (pc := 51) dX6_sign_51 (by decide) ?_
      refine J_aload_n (pc := 53) dX6_sign_53 rfl ?_
      refine J_aload_n (pc := 54) dX6_sign_54 rfl ?_
      refine J_iload_n (pc := 55) dX6_sign_55 rfl ?_
      refine K_Vi1 (pc := 56) (Y' := YX6_isCover) dX6_sign_56 lX6_175 mX6_isCover vX6_isCover ⟨_, _, rfl⟩ sh131 (Nat.le_of_ble_eq_true rfl) (c6_isCover (x := c) v3) ?_
      rintro x h0 ⟨e0, ⟨rfl, b56⟩ | ⟨rfl, b56⟩⟩ <;> rw [e0] <;> clear e0 h0
      · skip
        refine J_if_eq (pc := 59) (tgt := 71) dX6_sign_59 (by decide) (fun c => absurd c (by decide)) (fun _ => ?_)
        refine J_iload (pc := 62) dX6_sign_62 rfl ?_
        refine J_if_eq (pc := 64) (tgt := 71) dX6_sign_64 (by decide) (fun _ => ?_) (fun c => absurd c (by decide))
        refine J_iconst (pc := 71) (v := nI 0) dX6_sign_71 (by decide) ?_
        refine J_bipush (pc := 72) (v := nI 12) dX6_sign_72 (by decide) ?_
        refine J_iconst (pc := 74) (v := nI 5) dX6_sign_74 (by decide) ?_
        refine J_iload_n (pc := 75) dX6_sign_75 rfl ?_
        refine J_imul (pc := 76) dX6_sign_76 (rfl) ?_
        refine J_iadd (pc := 77) dX6_sign_77 (rfl) ?_
        refine J_iload_n (pc := 78) dX6_sign_78 rfl ?_
        refine J_iadd (pc := 79) dX6_sign_79 (rfl) ?_
        refine J_iload_n (pc := 80) dX6_sign_80 rfl ?_
        refine J_iconst (pc := 81) (v := nI 0) dX6_sign_81 (by decide) ?_
        refine K_Vi4 (pc := 82) (Y' := YX6_puts) dX6_sign_82 lX6_185 mX6_puts vX6_puts ⟨_, _, rfl⟩ sh131 (Nat.le_of_ble_eq_true rfl) (c6_puts0) ?_
        rintro r h0 ⟨e0, e1⟩
        rw [e0, e1]
        clear e0 e1 h0
        refine K_iret (pc := 85) dX6_sign_85 rfl ?_
        rw [oSign, iteR_f (fun z => b40 (by rcases z.2 with w | w | w <;> first | exact w.2 | exact absurd w.1 (by decide)))]
      · skip
        refine J_if_eq (pc := 59) (tgt := 71) dX6_sign_59 (by decide) (fun _ => ?_) (fun c => absurd c (by decide))
        refine J_iconst (pc := 71) (v := nI 0) dX6_sign_71 (by decide) ?_
        refine J_bipush (pc := 72) (v := nI 12) dX6_sign_72 (by decide) ?_
        refine J_iconst (pc := 74) (v := nI 5) dX6_sign_74 (by decide) ?_
        refine J_iload_n (pc := 75) dX6_sign_75 rfl ?_
        refine J_imul (pc := 76) dX6_sign_76 (rfl) ?_
        refine J_iadd (pc := 77) dX6_sign_77 (rfl) ?_
        refine J_iload_n (pc := 78) dX6_sign_78 rfl ?_
        refine J_iadd (pc := 79) dX6_sign_79 (rfl) ?_
        refine J_iload_n (pc := 80) dX6_sign_80 rfl ?_
        refine J_iconst (pc := 81) (v := nI 0) dX6_sign_81 (by decide) ?_
        refine K_Vi4 (pc := 82) (Y' := YX6_puts) dX6_sign_82 lX6_185 mX6_puts vX6_puts ⟨_, _, rfl⟩ sh131 (Nat.le_of_ble_eq_true rfl) (c6_puts0) ?_
        rintro r h0 ⟨e0, e1⟩
        rw [e0, e1]
        clear e0 e1 h0
        refine K_iret (pc := 85) dX6_sign_85 rfl ?_
        rw [oSign, iteR_f (fun z => b40 (by rcases z.2 with w | w | w <;> first | exact w.2 | exact absurd w.1 (by decide)))]
  refine J_iload_n (pc := 0) dX6_sign_0 rfl ?_
  refine J_iconst (pc := 1) (v := nI 2) dX6_sign_1 (by decide) ?_
  refine J_icmp_ne (pc := 2) (tgt := 12) dX6_sign_2 (by decide) (fun c2 => ?_) (fun c2 => ?_)
  · skip
    refine J_iload_n (pc := 12) dX6_sign_12 rfl ?_
    refine J_iconst (pc := 13) (v := nI 3) dX6_sign_13 (by decide) ?_
    refine J_icmp_ne (pc := 14) (tgt := 29) dX6_sign_14 (by decide) (fun c14 => ?_) (fun c14 => ?_)
    · skip
      refine J_iload_n (pc := 29) dX6_sign_29 rfl ?_
      refine J_iconst (pc := 30) (v := nI 4) dX6_sign_30 (by decide) ?_
      refine J_icmp_ne (pc := 31) (tgt := 50) dX6_sign_31 (by decide) (fun c31 => ?_) (fun c31 => ?_)
      · skip
        refine J_iconst (pc := 50) (v := nI 0) dX6_sign_50 (by decide) ?_
        refine J_istore (pc := 51) dX6_sign_51 (by decide) ?_
        refine J_aload_n (pc := 53) dX6_sign_53 rfl ?_
        refine J_aload_n (pc := 54) dX6_sign_54 rfl ?_
        refine J_iload_n (pc := 55) dX6_sign_55 rfl ?_
        refine K_Vi1 (pc := 56) (Y' := YX6_isCover) dX6_sign_56 lX6_175 mX6_isCover vX6_isCover ⟨_, _, rfl⟩ sh131 (Nat.le_of_ble_eq_true rfl) (c6_isCover (x := c) v3) ?_
        rintro x h0 ⟨e0, ⟨rfl, b56⟩ | ⟨rfl, b56⟩⟩ <;> rw [e0] <;> clear e0 h0
        · skip
          refine J_if_eq (pc := 59) (tgt := 71) dX6_sign_59 (by decide) (fun c => absurd c (by decide)) (fun _ => ?_)
          refine J_iload (pc := 62) dX6_sign_62 rfl ?_
          refine J_if_eq (pc := 64) (tgt := 71) dX6_sign_64 (by decide) (fun _ => ?_) (fun c => absurd c (by decide))
          refine J_iconst (pc := 71) (v := nI 0) dX6_sign_71 (by decide) ?_
          refine J_bipush (pc := 72) (v := nI 12) dX6_sign_72 (by decide) ?_
          refine J_iconst (pc := 74) (v := nI 5) dX6_sign_74 (by decide) ?_
          refine J_iload_n (pc := 75) dX6_sign_75 rfl ?_
          refine J_imul (pc := 76) dX6_sign_76 (rfl) ?_
          refine J_iadd (pc := 77) dX6_sign_77 (rfl) ?_
          refine J_iload_n (pc := 78) dX6_sign_78 rfl ?_
          refine J_iadd (pc := 79) dX6_sign_79 (rfl) ?_
          refine J_iload_n (pc := 80) dX6_sign_80 rfl ?_
          refine J_iconst (pc := 81) (v := nI 0) dX6_sign_81 (by decide) ?_
          refine K_Vi4 (pc := 82) (Y' := YX6_puts) dX6_sign_82 lX6_185 mX6_puts vX6_puts ⟨_, _, rfl⟩ sh131 (Nat.le_of_ble_eq_true rfl) (c6_puts0) ?_
          rintro r h0 ⟨e0, e1⟩
          rw [e0, e1]
          clear e0 e1 h0
          refine K_iret (pc := 85) dX6_sign_85 rfl ?_
          rw [oSign, iteR_f (fun z => z.2.elim (fun w => e2 w.1) (fun w => w.elim (fun w => e3 w.1) (fun w => e4 w.1)))]
        · skip
          refine J_if_eq (pc := 59) (tgt := 71) dX6_sign_59 (by decide) (fun _ => ?_) (fun c => absurd c (by decide))
          refine J_iconst (pc := 71) (v := nI 0) dX6_sign_71 (by decide) ?_
          refine J_bipush (pc := 72) (v := nI 12) dX6_sign_72 (by decide) ?_
          refine J_iconst (pc := 74) (v := nI 5) dX6_sign_74 (by decide) ?_
          refine J_iload_n (pc := 75) dX6_sign_75 rfl ?_
          refine J_imul (pc := 76) dX6_sign_76 (rfl) ?_
          refine J_iadd (pc := 77) dX6_sign_77 (rfl) ?_
          refine J_iload_n (pc := 78) dX6_sign_78 rfl ?_
          refine J_iadd (pc := 79) dX6_sign_79 (rfl) ?_
          refine J_iload_n (pc := 80) dX6_sign_80 rfl ?_
          refine J_iconst (pc := 81) (v := nI 0) dX6_sign_81 (by decide) ?_
          refine K_Vi4 (pc := 82) (Y' := YX6_puts) dX6_sign_82 lX6_185 mX6_puts vX6_puts ⟨_, _, rfl⟩ sh131 (Nat.le_of_ble_eq_true rfl) (c6_puts0) ?_
          rintro r h0 ⟨e0, e1⟩
          rw [e0, e1]
          clear e0 e1 h0
          refine K_iret (pc := 85) dX6_sign_85 rfl ?_
          rw [oSign, iteR_f (fun z => z.2.elim (fun w => e2 w.1) (fun w => w.elim (fun w => e3 w.1) (fun w => e4 w.1)))]
      · skip
        exact absurd c31 e4
    · skip
      exact absurd c14 e3
  · skip
    exact absurd c2 e2
set_option maxHeartbeats 4000000 in
theorem c6_adds {g : jG} {d : Nat} {h : jH} {P : Nat → Int32} {c : Nat} {p q w x y : Int32} (hc : P 37 = nI c) (hc5 : c < 5) : Mv g d YX6_adds (mset h 0 P) [.ref 131, .int p, .int q, .int w, .int x, .int y] (fun h' => h' = mset h 0 (addP c p q w x y P)) := by
  refine M.of (by decide) rfl (Nat.le_of_ble_eq_true rfl) ?_
  refine J_bipush (pc := 0) (v := nI 12) dX6_adds_0 (by decide) ?_
  refine J_iconst (pc := 2) (v := nI 5) dX6_adds_2 (by decide) ?_
  refine J_aload_n (pc := 3) dX6_adds_3 rfl ?_
  refine J_getR (pc := 4) dX6_adds_4 fX6_7 sh131 rfl ?_
  refine J_bipush (pc := 7) (v := nI 37) dX6_adds_7 (by decide) ?_
  refine J_iald (pc := 9) dX6_adds_9 sh132 (rfl) (by omega) ((mset_at 37 (by omega) rfl).trans hc) (by decide) ?_
  refine J_imul (pc := 10) dX6_adds_10 (pk_mul _ _) ?_
  refine J_iadd (pc := 11) dX6_adds_11 (nI_add _ _) ?_
  refine J_istore (pc := 12) dX6_adds_12 (by decide) ?_
  refine J_aload_n (pc := 14) dX6_adds_14 rfl ?_
  refine J_getR (pc := 15) dX6_adds_15 fX6_7 sh131 rfl ?_
  refine J_iload (pc := 18) dX6_adds_18 rfl ?_
  refine J_iload_n (pc := 20) dX6_adds_20 rfl ?_
  refine J_iast (pc := 21) dX6_adds_21 sh132 (rfl) (by omega) (by decide) ?_
  rw [mset_up (i := 12 + 5 * c) (12 + 5 * c) (by omega) (by omega)]
  refine J_aload_n (pc := 22) dX6_adds_22 rfl ?_
  refine J_getR (pc := 23) dX6_adds_23 fX6_7 sh131 rfl ?_
  refine J_iload (pc := 26) dX6_adds_26 rfl ?_
  refine J_iconst (pc := 28) (v := nI 1) dX6_adds_28 (by decide) ?_
  refine J_iadd (pc := 29) dX6_adds_29 (nI_add _ _) ?_
  refine J_iload_n (pc := 30) dX6_adds_30 rfl ?_
  refine J_iast (pc := 31) dX6_adds_31 sh132 (rfl) (by omega) (by decide) ?_
  rw [mset_up (i := 12 + 5 * c + 1) (12 + 5 * c + 1) (by omega) (by omega)]
  refine J_aload_n (pc := 32) dX6_adds_32 rfl ?_
  refine J_getR (pc := 33) dX6_adds_33 fX6_7 sh131 rfl ?_
  refine J_iload (pc := 36) dX6_adds_36 rfl ?_
  refine J_iconst (pc := 38) (v := nI 2) dX6_adds_38 (by decide) ?_
  refine J_iadd (pc := 39) dX6_adds_39 (nI_add _ _) ?_
  refine J_iload_n (pc := 40) dX6_adds_40 rfl ?_
  refine J_iast (pc := 41) dX6_adds_41 sh132 (rfl) (by omega) (by decide) ?_
  rw [mset_up (i := 12 + 5 * c + 2) (12 + 5 * c + 2) (by omega) (by omega)]
  refine J_aload_n (pc := 42) dX6_adds_42 rfl ?_
  refine J_getR (pc := 43) dX6_adds_43 fX6_7 sh131 rfl ?_
  refine J_iload (pc := 46) dX6_adds_46 rfl ?_
  refine J_iconst (pc := 48) (v := nI 3) dX6_adds_48 (by decide) ?_
  refine J_iadd (pc := 49) dX6_adds_49 (nI_add _ _) ?_
  refine J_iload (pc := 50) dX6_adds_50 rfl ?_
  refine J_iast (pc := 52) dX6_adds_52 sh132 (rfl) (by omega) (by decide) ?_
  rw [mset_up (i := 12 + 5 * c + 3) (12 + 5 * c + 3) (by omega) (by omega)]
  refine J_aload_n (pc := 53) dX6_adds_53 rfl ?_
  refine J_getR (pc := 54) dX6_adds_54 fX6_7 sh131 rfl ?_
  refine J_iload (pc := 57) dX6_adds_57 rfl ?_
  refine J_iconst (pc := 59) (v := nI 4) dX6_adds_59 (by decide) ?_
  refine J_iadd (pc := 60) dX6_adds_60 (nI_add _ _) ?_
  refine J_iload (pc := 61) dX6_adds_61 rfl ?_
  refine J_iast (pc := 63) dX6_adds_63 sh132 (rfl) (by omega) (by decide) ?_
  rw [mset_up (i := 12 + 5 * c + 4) (12 + 5 * c + 4) (by omega) (by omega)]
  refine J_aload_n (pc := 64) dX6_adds_64 rfl ?_
  refine J_getR (pc := 65) dX6_adds_65 fX6_7 sh131 rfl ?_
  refine J_bipush (pc := 68) (v := nI 37) dX6_adds_68 (by decide) ?_
  refine J_dup2 (pc := 70) dX6_adds_70 rfl rfl ?_
  refine J_iald (pc := 71) dX6_adds_71 sh132 (rfl) (by omega) ((mset_at 37 (by omega) rfl).trans ((upd_ne (by omega)).trans ((upd_ne (by omega)).trans ((upd_ne (by omega)).trans ((upd_ne (by omega)).trans ((upd_ne (by omega)).trans hc)))))) (by decide) ?_
  refine J_iconst (pc := 72) (v := nI 1) dX6_adds_72 (by decide) ?_
  refine J_iadd (pc := 73) dX6_adds_73 (rfl) ?_
  refine J_iast (pc := 74) dX6_adds_74 sh132 (rfl) (by omega) (by decide) ?_
  rw [mset_up (i := 37) 37 (by omega) (by omega)]
  refine K_ret (pc := 75) dX6_adds_75 rfl ?_
  exact rfl
set_option maxHeartbeats 4000000 in
theorem c6_insure {g : jG} {d : Nat} {h : jH} {p q w x y : Int32} (hR : MR h) : Mi g (d + 2) YX6_insure h [.ref 131, .int p, .int q, .int w, .int x, .int y] (fun r h' => (r, h') = oInsure h p q w x y) := by
  refine M.of (by decide) rfl (Nat.le_of_ble_eq_true rfl) ?_
  obtain ⟨r1, ⟨⟨v1, v2, v3, v4⟩, v5, v6, v7, v8, v9, va, vb, vc, vd⟩, r3, r4, ⟨r5, r6⟩, r7, r8, r9, ra⟩ := hR
  have hn := r1.1
  have hn4 := v1
  have n5 := r1.2
  have c6 : ix (h 132 37) < 6 := v3.2
  have p9 : ix (h 132 51) < 9 := v5.2
  have p9' : ix (pg h 0 51) < 9 := v5.2
  refine J_aload_n (pc := 0) dX6_insure_0 rfl ?_
  refine J_iload_n (pc := 1) dX6_insure_1 rfl ?_
  refine K_Vi1 (pc := 2) (Y' := YX6_isOne) dX6_insure_2 lX6_160 mX6_isOne vX6_isOne ⟨_, _, rfl⟩ sh131 (Nat.le_of_ble_eq_true rfl) (c6_isOne (x := p) hn hn4) ?_
  rintro x h0 ⟨e0, ⟨rfl, b2⟩ | ⟨rfl, b2⟩⟩ <;> rw [e0] <;> clear e0 h0
  · skip
    refine J_if_eq (pc := 5) (tgt := 54) dX6_insure_5 (by decide) (fun c => absurd c (by decide)) (fun _ => ?_)
    refine J_aload_n (pc := 8) dX6_insure_8 rfl ?_
    refine J_iload_n (pc := 9) dX6_insure_9 rfl ?_
    refine K_Vi1 (pc := 10) (Y' := YX6_isOne) dX6_insure_10 lX6_160 mX6_isOne vX6_isOne ⟨_, _, rfl⟩ sh131 (Nat.le_of_ble_eq_true rfl) (c6_isOne (x := q) hn hn4) ?_
    rintro x h0 ⟨e0, ⟨rfl, b10⟩ | ⟨rfl, b10⟩⟩ <;> rw [e0] <;> clear e0 h0
    · skip
      refine J_if_eq (pc := 13) (tgt := 54) dX6_insure_13 (by decide) (fun c => absurd c (by decide)) (fun _ => ?_)
      refine J_iload_n (pc := 16) dX6_insure_16 rfl ?_
      refine J_iload_n (pc := 17) dX6_insure_17 rfl ?_
      refine J_icmp_eq (pc := 18) (tgt := 54) dX6_insure_18 (by decide) (fun c18 => ?_) (fun c18 => ?_)
      · skip
        refine J_iconst (pc := 54) (v := -1) dX6_insure_54 (by decide) ?_
        refine K_iret (pc := 55) dX6_insure_55 rfl ?_
        rw [oInsure, iteR_f (fun z => z.2.2.1 c18)]
      · skip
        refine J_iload_n (pc := 21) dX6_insure_21 rfl ?_
        refine K_Si1 (pc := 22) (Y' := YX6_isWeather) dX6_insure_22 lX6_169 mX6_isWeather sX6_isWeather (Nat.le_of_ble_eq_true rfl) (c6_isWeather (x := w)) ?_
        rintro x h0 ⟨e0, ⟨rfl, b22⟩ | ⟨rfl, b22⟩⟩ <;> rw [e0] <;> clear e0 h0
        · skip
          refine J_if_eq (pc := 25) (tgt := 54) dX6_insure_25 (by decide) (fun c => absurd c (by decide)) (fun _ => ?_)
          refine J_iload (pc := 28) dX6_insure_28 rfl ?_
          refine J_i2l (pc := 30) dX6_insure_30 (rfl) ?_
          refine J_lconst (pc := 31) (v := 0) dX6_insure_31 (by decide) ?_
          refine J_ldc2 (pc := 32) dX6_insure_32 kX6_189 ?_
          refine K_Si3 (pc := 35) (Y' := YX6_in) dX6_insure_35 lX6_55 mX6_in sX6_in (Nat.le_of_ble_eq_true rfl) (c6_inI x (nI 0) (nI 20) rfl (by decide) (by decide)) ?_
          rintro x h0 ⟨e0, ⟨rfl, b35⟩ | ⟨rfl, b35⟩⟩ <;> rw [e0] <;> clear e0 h0
          · skip
            refine J_if_eq (pc := 38) (tgt := 54) dX6_insure_38 (by decide) (fun c => absurd c (by decide)) (fun _ => ?_)
            refine J_iload (pc := 41) dX6_insure_41 rfl ?_
            refine J_i2l (pc := 43) dX6_insure_43 (rfl) ?_
            refine J_lconst (pc := 44) (v := 0) dX6_insure_44 (by decide) ?_
            refine J_ldc2 (pc := 45) dX6_insure_45 kX6_191 ?_
            refine K_Si3 (pc := 48) (Y' := YX6_in) dX6_insure_48 lX6_55 mX6_in sX6_in (Nat.le_of_ble_eq_true rfl) (c6_inI y (nI 0) (nI 9) rfl (by decide) (by decide)) ?_
            rintro x h0 ⟨e0, ⟨rfl, b48⟩ | ⟨rfl, b48⟩⟩ <;> rw [e0] <;> clear e0 h0
            · skip
              refine J_if_ne (pc := 51) (tgt := 56) dX6_insure_51 (by decide) (fun _ => ?_) (fun c => absurd c (by decide))
              refine J_aload_n (pc := 56) dX6_insure_56 rfl ?_
              refine J_getR (pc := 57) dX6_insure_57 fX6_7 sh131 rfl ?_
              refine J_bipush (pc := 60) (v := nI 37) dX6_insure_60 (by decide) ?_
              refine J_iald (pc := 62) dX6_insure_62 sh132 (rfl) (by omega) (v3.1) (by decide) ?_
              refine J_iconst (pc := 63) (v := nI 5) dX6_insure_63 (by decide) ?_
              refine J_icmp_ne (pc := 64) (tgt := 70) dX6_insure_64 (by decide) (fun c64 => ?_) (fun c64 => ?_)
              · skip
                have q64 : ix (pg h 0 37) < 5 := by
                  have := v3.2
                  by_cases z : ix (pg h 0 37) = 5
                  · exact absurd (congrArg nI z) c64
                  · omega
                refine J_h (mset_pg (h := h) (o := 0)).symm ?_
                refine J_aload_n (pc := 70) dX6_insure_70 rfl ?_
                refine J_iload_n (pc := 71) dX6_insure_71 rfl ?_
                refine J_iload_n (pc := 72) dX6_insure_72 rfl ?_
                refine J_iload_n (pc := 73) dX6_insure_73 rfl ?_
                refine J_iload (pc := 74) dX6_insure_74 rfl ?_
                refine J_iload (pc := 76) dX6_insure_76 rfl ?_
                refine K_Vv5 (pc := 78) (Y' := YX6_adds) dX6_insure_78 lX6_193 mX6_adds vX6_adds ⟨_, _, rfl⟩ sh131 (Nat.le_of_ble_eq_true rfl) (c6_adds (P := pg h 0) (c := ix (pg h 0 37)) v3.1 (by omega)) ?_
                rintro h0 e0
                rw [e0]
                clear e0 h0
                refine J_aload_n (pc := 81) dX6_insure_81 rfl ?_
                refine J_getR (pc := 82) dX6_insure_82 fX6_7 sh131 rfl ?_
                refine J_bipush (pc := 85) (v := nI 37) dX6_insure_85 (by decide) ?_
                refine J_iald (pc := 87) dX6_insure_87 sh132 (rfl) (by omega) (mset_at (P := addP (ix (pg h 0 37)) p q w x y (pg h 0)) 37 (by omega) rfl) (by decide) ?_
                refine J_iconst (pc := 88) (v := nI 1) dX6_insure_88 (by decide) ?_
                refine J_isub (pc := 89) dX6_insure_89 (rfl) ?_
                refine K_iret (pc := 90) dX6_insure_90 rfl ?_
                rw [oInsure, iteR_t ⟨b2, b10, c18, b22, b35, b48⟩, iteR_f (fun z => c64 (v3.1.symm.trans z)), show addP (ix (pg h 0 37)) p q w x y (pg h 0) 37 = nI (ix (pg h 0 37)) + nI 1 from upd_at]
              · skip
                refine J_bipush (pc := 67) (v := -3) dX6_insure_67 (by decide) ?_
                refine K_iret (pc := 69) dX6_insure_69 rfl ?_
                rw [oInsure, iteR_t ⟨b2, b10, c18, b22, b35, b48⟩, iteR_t (v3.1.trans c64)]
            · skip
              refine J_if_ne (pc := 51) (tgt := 56) dX6_insure_51 (by decide) (fun c => absurd c (by decide)) (fun _ => ?_)
              refine J_iconst (pc := 54) (v := -1) dX6_insure_54 (by decide) ?_
              refine K_iret (pc := 55) dX6_insure_55 rfl ?_
              rw [oInsure, iteR_f (fun z => b48 z.2.2.2.2.2)]
          · skip
            refine J_if_eq (pc := 38) (tgt := 54) dX6_insure_38 (by decide) (fun _ => ?_) (fun c => absurd c (by decide))
            refine J_iconst (pc := 54) (v := -1) dX6_insure_54 (by decide) ?_
            refine K_iret (pc := 55) dX6_insure_55 rfl ?_
            rw [oInsure, iteR_f (fun z => b35 z.2.2.2.2.1)]
        · skip
          refine J_if_eq (pc := 25) (tgt := 54) dX6_insure_25 (by decide) (fun _ => ?_) (fun c => absurd c (by decide))
          refine J_iconst (pc := 54) (v := -1) dX6_insure_54 (by decide) ?_
          refine K_iret (pc := 55) dX6_insure_55 rfl ?_
          rw [oInsure, iteR_f (fun z => b22 z.2.2.2.1)]
    · skip
      refine J_if_eq (pc := 13) (tgt := 54) dX6_insure_13 (by decide) (fun _ => ?_) (fun c => absurd c (by decide))
      refine J_iconst (pc := 54) (v := -1) dX6_insure_54 (by decide) ?_
      refine K_iret (pc := 55) dX6_insure_55 rfl ?_
      rw [oInsure, iteR_f (fun z => b10 z.2.1)]
  · skip
    refine J_if_eq (pc := 5) (tgt := 54) dX6_insure_5 (by decide) (fun _ => ?_) (fun c => absurd c (by decide))
    refine J_iconst (pc := 54) (v := -1) dX6_insure_54 (by decide) ?_
    refine K_iret (pc := 55) dX6_insure_55 rfl ?_
    rw [oInsure, iteR_f (fun z => b2 z.1)]
def drF (c : Nat) (P : Nat → Int32) (k : Nat) : Nat → Int32 := fun j => if 12 + 5 * c ≤ j ∧ j < 12 + 5 * c + k then P (j + 5) else P j
theorem drF_0 {c : Nat} {P : Nat → Int32} : drF c P 0 = P := by
  funext j
  simp only [drF, show ¬ (12 + 5 * c ≤ j ∧ j < 12 + 5 * c + 0) by omega, if_false]
theorem drF_s {c k : Nat} {P : Nat → Int32} : upd (drF c P k) (12 + 5 * c + k) (P (12 + 5 * c + k + 5)) = drF c P (k + 1) := by
  funext j
  unfold upd drF
  by_cases e : j = 12 + 5 * c + k
  · subst e; simp
  · by_cases e2 : 12 + 5 * c ≤ j ∧ j < 12 + 5 * c + k
    · have e3 : 12 + 5 * c ≤ j ∧ j < 12 + 5 * c + (k + 1) := by omega
      rw [if_neg e, if_pos e2, if_pos e3]
    · have e3 : ¬ (12 + 5 * c ≤ j ∧ j < 12 + 5 * c + (k + 1)) := by omega
      rw [if_neg e, if_neg e2, if_neg e3]
theorem drF_e {c : Nat} {P : Nat → Int32} (hc : c < 5) : upd (drF c P (20 - 5 * c)) 37 (P 37 - nI 1) = dropP c P := by
  funext j
  unfold upd drF dropP
  by_cases e : j = 37
  · subst e; simp
  · rw [if_neg e, if_neg e]
    have : (12 + 5 * c ≤ j ∧ j < 12 + 5 * c + (20 - 5 * c)) ↔ (12 + 5 * c ≤ j ∧ j < 32) := by omega
    simp only [this]
set_option maxHeartbeats 4000000 in
theorem l6_drops {g : jG} {d : Nat} {h : jH} {Q : kQ} {c : Nat} {P : Nat → Int32} (hc : c < 5) (kx : K g d YX6_drops (mset h 0 (drF c P (20 - 5 * c))) 33 [(0, .ref 131), (1, .int (nI c)), (2, .int (nI (12 + 5 * c + (20 - 5 * c))))] [] Q) : ∀ (m k : Nat) , k ≤ (20 - 5 * c) → (20 - 5 * c) < k + m → K g d YX6_drops (mset h 0 (drF c P k)) 7 [(0, .ref 131), (1, .int (nI c)), (2, .int (nI (12 + 5 * c + k)))] [] Q := by
  intro m
  induction m with
  | zero => intro k  hk1 hk2 ; omega
  | succ m ih =>
    intro k  hk1 hk2 
    refine J_iload_n (pc := 7) dX6_drops_7 rfl ?_
    refine J_bipush (pc := 8) (v := nI 32) dX6_drops_8 (by decide) ?_
    refine J_icmp_ge (pc := 10) (tgt := 33) dX6_drops_10 (by decide) (fun c10 => ?_) (fun c10 => ?_)
    · skip
      have q10 : 32 ≤ 12 + 5 * c + k := (nI_leI (by omega) (by omega)).mp c10
      have e_k : k = (20 - 5 * c) := by omega
      refine J_ls (ls' := [(0, .ref 131), (1, .int (nI c)), (2, .int (nI (12 + 5 * c + k)))]) ⟨rfl, rfl, rfl, trivial⟩ ?_
      rw [e_k]
      exact kx
    · skip
      have q10 : 12 + 5 * c + k < 32 := Nat.lt_of_not_le (fun z => c10 ((nI_leI (by omega) (by omega)).mpr z))
      refine J_aload_n (pc := 13) dX6_drops_13 rfl ?_
      refine J_getR (pc := 14) dX6_drops_14 fX6_7 sh131 rfl ?_
      refine J_iload_n (pc := 17) dX6_drops_17 rfl ?_
      refine J_aload_n (pc := 18) dX6_drops_18 rfl ?_
      refine J_getR (pc := 19) dX6_drops_19 fX6_7 sh131 rfl ?_
      refine J_iload_n (pc := 22) dX6_drops_22 rfl ?_
      refine J_iconst (pc := 23) (v := nI 5) dX6_drops_23 (by decide) ?_
      refine J_iadd (pc := 24) dX6_drops_24 (nI_add _ _) ?_
      refine J_iald (pc := 25) dX6_drops_25 sh132 (rfl) (by omega) ((mset_at (12 + 5 * c + k + 5) (by omega) (by omega)).trans (if_neg (by omega))) (by decide) ?_
      refine J_iast (pc := 26) dX6_drops_26 sh132 (rfl) (by omega) (by decide) ?_
      rw [mset_up (i := 12 + 5 * c + k) (12 + 5 * c + k) (by omega) (by omega), drF_s]
      refine J_iinc (pc := 27) dX6_drops_27 rfl (v := nI ((12 + 5 * c + k) + 1)) (by exact nI_add _ _) (by decide) ?_
      refine J_goto (pc := 30) (tgt := 7) dX6_drops_30 (by decide) ?_
      exact J_ls (ls' := [(0, .ref 131), (1, .int (nI c)), (2, .int (nI (12 + 5 * c + (k + 1))))]) ⟨rfl, rfl, rfl, trivial⟩ (ih (k + 1)  (by omega) (by omega) )
set_option maxHeartbeats 4000000 in
theorem c6_drops {g : jG} {d : Nat} {h : jH} {c : Nat} {P : Nat → Int32} (hc : c < 5) : Mv g d YX6_drops (mset h 0 P) [.ref 131, .int (nI c)] (fun h' => h' = mset h 0 (dropP c P)) := by
  refine M.of (by decide) rfl (Nat.le_of_ble_eq_true rfl) ?_
  refine J_bipush (pc := 0) (v := nI 12) dX6_drops_0 (by decide) ?_
  refine J_iconst (pc := 2) (v := nI 5) dX6_drops_2 (by decide) ?_
  refine J_iload_n (pc := 3) dX6_drops_3 rfl ?_
  refine J_imul (pc := 4) dX6_drops_4 (pk_mul _ _) ?_
  refine J_iadd (pc := 5) dX6_drops_5 (nI_add _ _) ?_
  refine J_istore_n (pc := 6) dX6_drops_6 (by decide) ?_
  refine J_h (h' := mset h 0 (drF c P 0)) (by rw [drF_0]) ?_
  refine J_ls (ls' := [(0, .ref 131), (1, .int (nI c)), (2, .int (nI (12 + 5 * c + 0)))]) ⟨rfl, rfl, rfl, trivial⟩ ?_
  refine l6_drops hc ?_ (20 - 5 * c + 1) 0 (Nat.zero_le _) (by omega)
  refine J_aload_n (pc := 33) dX6_drops_33 rfl ?_
  refine J_getR (pc := 34) dX6_drops_34 fX6_7 sh131 rfl ?_
  refine J_bipush (pc := 37) (v := nI 37) dX6_drops_37 (by decide) ?_
  refine J_dup2 (pc := 39) dX6_drops_39 rfl rfl ?_
  refine J_iald (pc := 40) dX6_drops_40 sh132 (rfl) (by omega) ((mset_at 37 (by omega) rfl).trans (if_neg (by omega))) (by decide) ?_
  refine J_iconst (pc := 41) (v := nI 1) dX6_drops_41 (by decide) ?_
  refine J_isub (pc := 42) dX6_drops_42 (rfl) ?_
  refine J_iast (pc := 43) dX6_drops_43 sh132 (rfl) (by omega) (by decide) ?_
  rw [mset_up (i := 37) 37 (by omega) (by omega), drF_e hc]
  refine K_ret (pc := 44) dX6_drops_44 rfl ?_
  exact rfl
set_option maxHeartbeats 4000000 in
theorem c6_drop {g : jG} {d : Nat} {h : jH} {c : Int32} (hR : MR h) : Mi g (d + 2) YX6_drop h [.ref 131, .int c] (fun r h' => (r, h') = oDrop h c) := by
  refine M.of (by decide) rfl (Nat.le_of_ble_eq_true rfl) ?_
  obtain ⟨r1, ⟨⟨v1, v2, v3, v4⟩, v5, v6, v7, v8, v9, va, vb, vc, vd⟩, r3, r4, ⟨r5, r6⟩, r7, r8, r9, ra⟩ := hR
  have hn := r1.1
  have hn4 := v1
  have n5 := r1.2
  have c6 : ix (h 132 37) < 6 := v3.2
  have p9 : ix (h 132 51) < 9 := v5.2
  have p9' : ix (pg h 0 51) < 9 := v5.2
  refine J_aload_n (pc := 0) dX6_drop_0 rfl ?_
  refine J_iload_n (pc := 1) dX6_drop_1 rfl ?_
  refine K_Vi1 (pc := 2) (Y' := YX6_isCover) dX6_drop_2 lX6_175 mX6_isCover vX6_isCover ⟨_, _, rfl⟩ sh131 (Nat.le_of_ble_eq_true rfl) (c6_isCover (x := c) v3) ?_
  rintro x h0 ⟨e0, ⟨rfl, b2⟩ | ⟨rfl, b2⟩⟩ <;> rw [e0] <;> clear e0 h0
  · skip
    refine J_if_ne (pc := 5) (tgt := 10) dX6_drop_5 (by decide) (fun _ => ?_) (fun c => absurd c (by decide))
    refine J_h (mset_pg (h := h) (o := 0)).symm ?_
    refine J_ls (ls' := [(0, .ref 131), (1, .int (nI (ix c)))]) ⟨rfl, congrArg (fun z => some (Value.int z)) b2.1, trivial⟩ ?_
    refine J_aload_n (pc := 10) dX6_drop_10 rfl ?_
    refine J_iload_n (pc := 11) dX6_drop_11 rfl ?_
    refine K_Vv1 (pc := 12) (Y' := YX6_drops) dX6_drop_12 lX6_197 mX6_drops vX6_drops ⟨_, _, rfl⟩ sh131 (Nat.le_of_ble_eq_true rfl) (c6_drops (P := pg h 0) (c := ix c) (by have := b2.2; omega)) ?_
    rintro h0 e0
    rw [e0]
    clear e0 h0
    refine J_aload_n (pc := 15) dX6_drop_15 rfl ?_
    refine J_getR (pc := 16) dX6_drop_16 fX6_7 sh131 rfl ?_
    refine J_bipush (pc := 19) (v := nI 37) dX6_drop_19 (by decide) ?_
    refine J_iald (pc := 21) dX6_drop_21 sh132 (rfl) (by omega) (mset_at (P := dropP (ix c) (pg h 0)) 37 (by omega) rfl) (by decide) ?_
    refine K_iret (pc := 22) dX6_drop_22 rfl ?_
    have e : dropP (ix c) (pg h 0) 37 = pg h 0 37 - nI 1 := by simp [dropP]
    rw [e]
    exact (iteR_t b2).symm
  · skip
    refine J_if_ne (pc := 5) (tgt := 10) dX6_drop_5 (by decide) (fun c => absurd c (by decide)) (fun _ => ?_)
    refine J_iconst (pc := 8) (v := -1) dX6_drop_8 (by decide) ?_
    refine K_iret (pc := 9) dX6_drop_9 rfl ?_
    exact (iteR_f b2).symm
set_option maxHeartbeats 4000000 in
theorem c6_shift {g : jG} {d : Nat} {h : jH} {w u : Int32} (hR : MR h) : Mi g (d + 2) YX6_shift h [.ref 131, .int w, .int u] (fun r h' => (r, h') = oShift h w u) := by
  refine M.of (by decide) rfl (Nat.le_of_ble_eq_true rfl) ?_
  obtain ⟨r1, ⟨⟨v1, v2, v3, v4⟩, v5, v6, v7, v8, v9, va, vb, vc, vd⟩, r3, r4, ⟨r5, r6⟩, r7, r8, r9, ra⟩ := hR
  have hn := r1.1
  have hn4 := v1
  have n5 := r1.2
  have c6 : ix (h 132 37) < 6 := v3.2
  have p9 : ix (h 132 51) < 9 := v5.2
  have p9' : ix (pg h 0 51) < 9 := v5.2
  refine J_iload_n (pc := 0) dX6_shift_0 rfl ?_
  refine K_Si1 (pc := 1) (Y' := YX6_isWeather) dX6_shift_1 lX6_169 mX6_isWeather sX6_isWeather (Nat.le_of_ble_eq_true rfl) (c6_isWeather (x := w)) ?_
  rintro x h0 ⟨e0, ⟨rfl, b1⟩ | ⟨rfl, b1⟩⟩ <;> rw [e0] <;> clear e0 h0
  · skip
    refine J_if_eq (pc := 4) (tgt := 19) dX6_shift_4 (by decide) (fun c => absurd c (by decide)) (fun _ => ?_)
    refine J_iload_n (pc := 7) dX6_shift_7 rfl ?_
    refine K_Si1 (pc := 8) (Y' := YX6_isWeather) dX6_shift_8 lX6_169 mX6_isWeather sX6_isWeather (Nat.le_of_ble_eq_true rfl) (c6_isWeather (x := u)) ?_
    rintro x h0 ⟨e0, ⟨rfl, b8⟩ | ⟨rfl, b8⟩⟩ <;> rw [e0] <;> clear e0 h0
    · skip
      refine J_if_eq (pc := 11) (tgt := 19) dX6_shift_11 (by decide) (fun c => absurd c (by decide)) (fun _ => ?_)
      refine J_iload_n (pc := 14) dX6_shift_14 rfl ?_
      refine J_iload_n (pc := 15) dX6_shift_15 rfl ?_
      refine J_icmp_ne (pc := 16) (tgt := 21) dX6_shift_16 (by decide) (fun c16 => ?_) (fun c16 => ?_)
      · skip
        have hw := b1.2
        have hu := b8.2
        refine J_ls (ls' := [(0, .ref 131), (1, .int (nI (ix w))), (2, .int (nI (ix u)))]) ⟨rfl, congrArg (fun z => some (Value.int z)) b1.1, congrArg (fun z => some (Value.int z)) b8.1, trivial⟩ ?_
        refine J_aload_n (pc := 21) dX6_shift_21 rfl ?_
        refine J_iload_n (pc := 22) dX6_shift_22 rfl ?_
        refine K_Vi1 (pc := 23) (Y' := YX6_oddsOf) dX6_shift_23 lX6_178 mX6_oddsOf vX6_oddsOf ⟨_, _, rfl⟩ sh131 (Nat.le_of_ble_eq_true rfl) (c6_oddsOf (w := ix w) b1.2) ?_
        rintro r h0 ⟨e0, rfl⟩
        rw [e0]
        clear e0 h0
        refine J_if_ne (pc := 26) (tgt := 32) dX6_shift_26 (by decide) (fun c26 => ?_) (fun c26 => ?_)
        · skip
          have hne : ix w ≠ ix u := fun z => c16 (b1.1.trans ((congrArg nI z).trans b8.1.symm))
          refine J_h (mset_pg (h := h) (o := 0)).symm ?_
          refine J_aload_n (pc := 32) dX6_shift_32 rfl ?_
          refine J_getR (pc := 33) dX6_shift_33 fX6_7 sh131 rfl ?_
          refine J_bipush (pc := 36) (v := nI 38) dX6_shift_36 (by decide) ?_
          refine J_iload_n (pc := 38) dX6_shift_38 rfl ?_
          refine J_iadd (pc := 39) dX6_shift_39 (nI_add _ _) ?_
          refine J_dup2 (pc := 40) dX6_shift_40 rfl rfl ?_
          refine J_iald (pc := 41) dX6_shift_41 sh132 (rfl) (by omega) (mset_at (38 + ix w) (by omega) (by omega)) (by decide) ?_
          refine J_iconst (pc := 42) (v := nI 1) dX6_shift_42 (by decide) ?_
          refine J_isub (pc := 43) dX6_shift_43 (rfl) ?_
          refine J_iast (pc := 44) dX6_shift_44 sh132 (rfl) (by omega) (by decide) ?_
          rw [mset_up (i := 38 + ix w) (38 + ix w) (by omega) (by omega)]
          refine J_aload_n (pc := 45) dX6_shift_45 rfl ?_
          refine J_getR (pc := 46) dX6_shift_46 fX6_7 sh131 rfl ?_
          refine J_bipush (pc := 49) (v := nI 38) dX6_shift_49 (by decide) ?_
          refine J_iload_n (pc := 51) dX6_shift_51 rfl ?_
          refine J_iadd (pc := 52) dX6_shift_52 (nI_add _ _) ?_
          refine J_dup2 (pc := 53) dX6_shift_53 rfl rfl ?_
          refine J_iald (pc := 54) dX6_shift_54 sh132 (rfl) (by omega) ((mset_at (38 + ix u) (by omega) (by omega)).trans (upd_ne (by omega))) (by decide) ?_
          refine J_iconst (pc := 55) (v := nI 1) dX6_shift_55 (by decide) ?_
          refine J_iadd (pc := 56) dX6_shift_56 (rfl) ?_
          refine J_iast (pc := 57) dX6_shift_57 sh132 (rfl) (by omega) (by decide) ?_
          rw [mset_up (i := 38 + ix u) (38 + ix u) (by omega) (by omega)]
          refine J_aload_n (pc := 58) dX6_shift_58 rfl ?_
          refine J_iload_n (pc := 59) dX6_shift_59 rfl ?_
          refine K_Vi1 (pc := 60) (Y' := YX6_oddsOf) dX6_shift_60 lX6_178 mX6_oddsOf vX6_oddsOf ⟨_, _, rfl⟩ sh131 (Nat.le_of_ble_eq_true rfl) (c6_oddsOf (w := ix u) b8.2) ?_
          rintro r h0 ⟨e0, rfl⟩
          rw [e0]
          clear e0 h0
          refine K_iret (pc := 63) dX6_shift_63 rfl ?_
          rw [mset_at (38 + ix u) (by omega) (by omega), upd_at, oShift, iteR_t ⟨b1, b8, c16⟩, iteR_f (by rw [pg0]; exact c26)]
          exact rfl
        · skip
          refine J_bipush (pc := 29) (v := -2) dX6_shift_29 (by decide) ?_
          refine K_iret (pc := 31) dX6_shift_31 rfl ?_
          rw [oShift, iteR_t ⟨b1, b8, c16⟩, iteR_t (by rw [pg0]; exact c26)]
      · skip
        refine J_iconst (pc := 19) (v := -1) dX6_shift_19 (by decide) ?_
        refine K_iret (pc := 20) dX6_shift_20 rfl ?_
        rw [oShift, iteR_f (fun z => z.2.2 c16)]
    · skip
      refine J_if_eq (pc := 11) (tgt := 19) dX6_shift_11 (by decide) (fun _ => ?_) (fun c => absurd c (by decide))
      refine J_iconst (pc := 19) (v := -1) dX6_shift_19 (by decide) ?_
      refine K_iret (pc := 20) dX6_shift_20 rfl ?_
      rw [oShift, iteR_f (fun z => b8 z.2.1)]
  · skip
    refine J_if_eq (pc := 4) (tgt := 19) dX6_shift_4 (by decide) (fun _ => ?_) (fun c => absurd c (by decide))
    refine J_iconst (pc := 19) (v := -1) dX6_shift_19 (by decide) ?_
    refine K_iret (pc := 20) dX6_shift_20 rfl ?_
    rw [oShift, iteR_f (fun z => b1 z.1)]
set_option maxHeartbeats 4000000 in
theorem c6_floor {g : jG} {d : Nat} {h : jH} {v : Int32} (hR : MR h) : Mi g (d + 2) YX6_floor h [.ref 131, .int v] (fun r h' => (r, h') = oFloor h v) := by
  refine M.of (by decide) rfl (Nat.le_of_ble_eq_true rfl) ?_
  obtain ⟨r1, ⟨⟨v1, v2, v3, v4⟩, v5, v6, v7, v8, v9, va, vb, vc, vd⟩, r3, r4, ⟨r5, r6⟩, r7, r8, r9, ra⟩ := hR
  have hn := r1.1
  have hn4 := v1
  have n5 := r1.2
  have c6 : ix (h 132 37) < 6 := v3.2
  have p9 : ix (h 132 51) < 9 := v5.2
  have p9' : ix (pg h 0 51) < 9 := v5.2
  refine J_aload_n (pc := 0) dX6_floor_0 rfl ?_
  refine J_iload_n (pc := 1) dX6_floor_1 rfl ?_
  refine J_i2l (pc := 2) dX6_floor_2 (rfl) ?_
  refine J_lconst (pc := 3) (v := 0) dX6_floor_3 (by decide) ?_
  refine J_ldc2 (pc := 4) dX6_floor_4 kX6_200 ?_
  refine K_Si3 (pc := 7) (Y' := YX6_in) dX6_floor_7 lX6_55 mX6_in sX6_in (Nat.le_of_ble_eq_true rfl) (c6_inI v (nI 0) (nI 99) rfl (by decide) (by decide)) ?_
  rintro x h0 ⟨e0, ⟨rfl, b7⟩ | ⟨rfl, b7⟩⟩ <;> rw [e0] <;> clear e0 h0
  · skip
    refine J_bipush (pc := 10) (v := nI 42) dX6_floor_10 (by decide) ?_
    refine J_iload_n (pc := 12) dX6_floor_12 rfl ?_
    refine J_iconst (pc := 13) (v := nI 5) dX6_floor_13 (by decide) ?_
    refine K_Vi4 (pc := 14) (Y' := YX6_puts) dX6_floor_14 lX6_185 mX6_puts vX6_puts ⟨_, _, rfl⟩ sh131 (Nat.le_of_ble_eq_true rfl) (c6_puts1 (i := 42) (by omega)) ?_
    rintro r h0 ⟨e0, e1⟩
    rw [e0, e1]
    clear e0 e1 h0
    rw [ms1 (by omega)]
    refine K_iret (pc := 17) dX6_floor_17 rfl ?_
    exact (iteR_t b7).symm
  · skip
    refine J_bipush (pc := 10) (v := nI 42) dX6_floor_10 (by decide) ?_
    refine J_iload_n (pc := 12) dX6_floor_12 rfl ?_
    refine J_iconst (pc := 13) (v := nI 5) dX6_floor_13 (by decide) ?_
    refine K_Vi4 (pc := 14) (Y' := YX6_puts) dX6_floor_14 lX6_185 mX6_puts vX6_puts ⟨_, _, rfl⟩ sh131 (Nat.le_of_ble_eq_true rfl) (c6_puts0) ?_
    rintro r h0 ⟨e0, e1⟩
    rw [e0, e1]
    clear e0 e1 h0
    refine K_iret (pc := 17) dX6_floor_17 rfl ?_
    exact (iteR_f b7).symm
set_option maxHeartbeats 4000000 in
theorem c6_cut {g : jG} {d : Nat} {h : jH} {n : Int32} (hR : MR h) : Mi g (d + 2) YX6_cut h [.ref 131, .int n] (fun r h' => (r, h') = oCut h n) := by
  refine M.of (by decide) rfl (Nat.le_of_ble_eq_true rfl) ?_
  obtain ⟨r1, ⟨⟨v1, v2, v3, v4⟩, v5, v6, v7, v8, v9, va, vb, vc, vd⟩, r3, r4, ⟨r5, r6⟩, r7, r8, r9, ra⟩ := hR
  have hn := r1.1
  have hn4 := v1
  have n5 := r1.2
  have c6 : ix (h 132 37) < 6 := v3.2
  have p9 : ix (h 132 51) < 9 := v5.2
  have p9' : ix (pg h 0 51) < 9 := v5.2
  refine J_aload_n (pc := 0) dX6_cut_0 rfl ?_
  refine J_iload_n (pc := 1) dX6_cut_1 rfl ?_
  refine J_i2l (pc := 2) dX6_cut_2 (rfl) ?_
  refine J_lconst (pc := 3) (v := 0) dX6_cut_3 (by decide) ?_
  refine J_aload_n (pc := 4) dX6_cut_4 rfl ?_
  refine J_getR (pc := 5) dX6_cut_5 fX6_7 sh131 rfl ?_
  refine J_bipush (pc := 8) (v := nI 51) dX6_cut_8 (by decide) ?_
  refine J_iald (pc := 10) dX6_cut_10 sh132 (rfl) (by omega) (pg0.symm) (by decide) ?_
  refine J_i2l (pc := 11) dX6_cut_11 (rfl) ?_
  refine K_Si3 (pc := 12) (Y' := YX6_in) dX6_cut_12 lX6_55 mX6_in sX6_in (Nat.le_of_ble_eq_true rfl) (c6_inI n (nI 0) (pg h 0 51) rfl (by decide) rfl) ?_
  rintro x h0 ⟨e0, ⟨rfl, b12⟩ | ⟨rfl, b12⟩⟩ <;> rw [e0] <;> clear e0 h0
  · skip
    refine J_bipush (pc := 15) (v := nI 51) dX6_cut_15 (by decide) ?_
    refine J_iload_n (pc := 17) dX6_cut_17 rfl ?_
    refine J_iconst (pc := 18) (v := nI 0) dX6_cut_18 (by decide) ?_
    refine K_Vi4 (pc := 19) (Y' := YX6_puts) dX6_cut_19 lX6_185 mX6_puts vX6_puts ⟨_, _, rfl⟩ sh131 (Nat.le_of_ble_eq_true rfl) (c6_puts1 (i := 51) (by omega)) ?_
    rintro r h0 ⟨e0, e1⟩
    rw [e0, e1]
    clear e0 e1 h0
    rw [ms1 (by omega)]
    refine K_iret (pc := 22) dX6_cut_22 rfl ?_
    rw [add0, sub0]
    exact (iteR_t b12).symm
  · skip
    refine J_bipush (pc := 15) (v := nI 51) dX6_cut_15 (by decide) ?_
    refine J_iload_n (pc := 17) dX6_cut_17 rfl ?_
    refine J_iconst (pc := 18) (v := nI 0) dX6_cut_18 (by decide) ?_
    refine K_Vi4 (pc := 19) (Y' := YX6_puts) dX6_cut_19 lX6_185 mX6_puts vX6_puts ⟨_, _, rfl⟩ sh131 (Nat.le_of_ble_eq_true rfl) (c6_puts0) ?_
    rintro r h0 ⟨e0, e1⟩
    rw [e0, e1]
    clear e0 e1 h0
    refine K_iret (pc := 22) dX6_cut_22 rfl ?_
    exact (iteR_f b12).symm
set_option maxHeartbeats 4000000 in
theorem c6_plan {g : jG} {d : Nat} {h : jH} {w : Int32} (hR : MR h) : Mi g (d + 2) YX6_plan h [.ref 131, .int w] (fun r h' => (r, h') = oPlan h w) := by
  refine M.of (by decide) rfl (Nat.le_of_ble_eq_true rfl) ?_
  obtain ⟨r1, ⟨⟨v1, v2, v3, v4⟩, v5, v6, v7, v8, v9, va, vb, vc, vd⟩, r3, r4, ⟨r5, r6⟩, r7, r8, r9, ra⟩ := hR
  have hn := r1.1
  have hn4 := v1
  have n5 := r1.2
  have c6 : ix (h 132 37) < 6 := v3.2
  have p9 : ix (h 132 51) < 9 := v5.2
  have p9' : ix (pg h 0 51) < 9 := v5.2
  refine J_iload_n (pc := 0) dX6_plan_0 rfl ?_
  refine K_Si1 (pc := 1) (Y' := YX6_isWeather) dX6_plan_1 lX6_169 mX6_isWeather sX6_isWeather (Nat.le_of_ble_eq_true rfl) (c6_isWeather (x := w)) ?_
  rintro x h0 ⟨e0, ⟨rfl, b1⟩ | ⟨rfl, b1⟩⟩ <;> rw [e0] <;> clear e0 h0
  · skip
    refine J_if_ne (pc := 4) (tgt := 9) dX6_plan_4 (by decide) (fun _ => ?_) (fun c => absurd c (by decide))
    refine J_aload_n (pc := 9) dX6_plan_9 rfl ?_
    refine J_getR (pc := 10) dX6_plan_10 fX6_7 sh131 rfl ?_
    refine J_bipush (pc := 13) (v := nI 51) dX6_plan_13 (by decide) ?_
    refine J_iald (pc := 15) dX6_plan_15 sh132 (rfl) (by omega) (v5.1) (by decide) ?_
    refine J_bipush (pc := 16) (v := nI 8) dX6_plan_16 (by decide) ?_
    refine J_icmp_ne (pc := 18) (tgt := 24) dX6_plan_18 (by decide) (fun c18 => ?_) (fun c18 => ?_)
    · skip
      have q18 : ix (pg h 0 51) < 8 := by
        have := v5.2
        by_cases z : ix (pg h 0 51) = 8
        · exact absurd (congrArg nI z) c18
        · omega
      refine J_h (mset_pg (h := h) (o := 0)).symm ?_
      refine J_aload_n (pc := 24) dX6_plan_24 rfl ?_
      refine J_getR (pc := 25) dX6_plan_25 fX6_7 sh131 rfl ?_
      refine J_bipush (pc := 28) (v := nI 43) dX6_plan_28 (by decide) ?_
      refine J_aload_n (pc := 30) dX6_plan_30 rfl ?_
      refine J_getR (pc := 31) dX6_plan_31 fX6_7 sh131 rfl ?_
      refine J_bipush (pc := 34) (v := nI 51) dX6_plan_34 (by decide) ?_
      refine J_iald (pc := 36) dX6_plan_36 sh132 (rfl) (by omega) ((mset_at 51 (by omega) rfl).trans v5.1) (by decide) ?_
      refine J_iadd (pc := 37) dX6_plan_37 (nI_add _ _) ?_
      refine J_iload_n (pc := 38) dX6_plan_38 rfl ?_
      refine J_iast (pc := 39) dX6_plan_39 sh132 (rfl) (by omega) (by decide) ?_
      rw [mset_up (i := 43 + ix (pg h 0 51)) (43 + ix (pg h 0 51)) (by omega) (by omega)]
      refine J_aload_n (pc := 40) dX6_plan_40 rfl ?_
      refine J_getR (pc := 41) dX6_plan_41 fX6_7 sh131 rfl ?_
      refine J_bipush (pc := 44) (v := nI 51) dX6_plan_44 (by decide) ?_
      refine J_dup2 (pc := 46) dX6_plan_46 rfl rfl ?_
      refine J_iald (pc := 47) dX6_plan_47 sh132 (rfl) (by omega) ((mset_at 51 (by omega) rfl).trans (upd_ne (by omega))) (by decide) ?_
      refine J_iconst (pc := 48) (v := nI 1) dX6_plan_48 (by decide) ?_
      refine J_iadd (pc := 49) dX6_plan_49 (rfl) ?_
      refine J_iast (pc := 50) dX6_plan_50 sh132 (rfl) (by omega) (by decide) ?_
      rw [mset_up (i := 51) 51 (by omega) (by omega)]
      refine J_aload_n (pc := 51) dX6_plan_51 rfl ?_
      refine J_getR (pc := 52) dX6_plan_52 fX6_7 sh131 rfl ?_
      refine J_bipush (pc := 55) (v := nI 51) dX6_plan_55 (by decide) ?_
      refine J_iald (pc := 57) dX6_plan_57 sh132 (rfl) (by omega) ((mset_at 51 (by omega) rfl).trans upd_at) (by decide) ?_
      refine K_iret (pc := 58) dX6_plan_58 rfl ?_
      exact ((iteR_t b1).trans (iteR_f (fun z => c18 (v5.1.symm.trans z)))).symm
    · skip
      refine J_bipush (pc := 21) (v := -3) dX6_plan_21 (by decide) ?_
      refine K_iret (pc := 23) dX6_plan_23 rfl ?_
      exact ((iteR_t b1).trans (iteR_t (v5.1.trans c18))).symm
  · skip
    refine J_if_ne (pc := 4) (tgt := 9) dX6_plan_4 (by decide) (fun c => absurd c (by decide)) (fun _ => ?_)
    refine J_iconst (pc := 7) (v := -1) dX6_plan_7 (by decide) ?_
    refine K_iret (pc := 8) dX6_plan_8 rfl ?_
    exact (iteR_f b1).symm
set_option maxHeartbeats 4000000 in
theorem c6_weeks {g : jG} {d : Nat} {h : jH} {w : Int32} (hR : MR h) : Mi g (d + 2) YX6_weeks h [.ref 131, .int w] (fun r h' => (r, h') = oWeek h w) := by
  refine M.of (by decide) rfl (Nat.le_of_ble_eq_true rfl) ?_
  obtain ⟨r1, ⟨⟨v1, v2, v3, v4⟩, v5, v6, v7, v8, v9, va, vb, vc, vd⟩, r3, r4, ⟨r5, r6⟩, r7, r8, r9, ra⟩ := hR
  have hn := r1.1
  have hn4 := v1
  have n5 := r1.2
  have c6 : ix (h 132 37) < 6 := v3.2
  have p9 : ix (h 132 51) < 9 := v5.2
  have p9' : ix (pg h 0 51) < 9 := v5.2
  have hg : ∀ w : Nat, w < 4 → ∀ p, p < ix (h 131 2) → gM (mset h 0 (pg h 0)) p w = γP (pg h 0) w p := fun w hw p hp => by
    have k4 := (v2 p hp).2
    rw [mset_pg]
    unfold gM γP
    rw [pg0] at k4
    rw [pg0, pg0, r8 _ (by omega)]
  refine J_iload_n (pc := 0) dX6_weeks_0 rfl ?_
  refine K_Si1 (pc := 1) (Y' := YX6_isWeather) dX6_weeks_1 lX6_169 mX6_isWeather sX6_isWeather (Nat.le_of_ble_eq_true rfl) (c6_isWeather (x := w)) ?_
  rintro x h0 ⟨e0, ⟨rfl, b1⟩ | ⟨rfl, b1⟩⟩ <;> rw [e0] <;> clear e0 h0
  · skip
    refine J_if_ne (pc := 4) (tgt := 9) dX6_weeks_4 (by decide) (fun _ => ?_) (fun c => absurd c (by decide))
    refine J_aload_n (pc := 9) dX6_weeks_9 rfl ?_
    refine J_getR (pc := 10) dX6_weeks_10 fX6_7 sh131 rfl ?_
    refine J_bipush (pc := 13) (v := nI 52) dX6_weeks_13 (by decide) ?_
    refine J_iald (pc := 15) dX6_weeks_15 sh132 (rfl) (by omega) (pg0.symm) (by decide) ?_
    refine J_sipush (pc := 16) (v := nI 999) dX6_weeks_16 (by decide) ?_
    refine J_icmp_ne (pc := 19) (tgt := 27) dX6_weeks_19 (by decide) (fun c19 => ?_) (fun c19 => ?_)
    · skip
      refine J_h (mset_pg (h := h) (o := 0)).symm ?_
      refine J_ls (ls' := [(0, .ref 131), (1, .int (nI (ix w)))]) ⟨rfl, congrArg (fun z => some (Value.int z)) b1.1, trivial⟩ ?_
      refine J_aload_n (pc := 27) dX6_weeks_27 rfl ?_
      refine J_iconst (pc := 28) (v := nI 0) dX6_weeks_28 (by decide) ?_
      refine J_iload_n (pc := 29) dX6_weeks_29 rfl ?_
      refine K_Vi2 (pc := 30) (Y' := YX6_weekOn) dX6_weeks_30 lX6_206 mX6_weekOn vX6_weekOn ⟨_, _, rfl⟩ sh131 (Nat.le_of_ble_eq_true rfl) (c6_weekOn (o := 0) (n := ix (h 131 2)) (P := pg h 0) (γ := γP (pg h 0) (ix w)) (by omega) (Or.inl rfl) hn hn4 b1.2 (fun p hp => by rw [mset_pg]; have := v2 p hp; rw [pg0] at this; exact this) (hg _ b1.2) (gdV.cv ⟨v1, v2, v3, v4⟩)) ?_
      rintro r h0 ⟨e0, e1⟩
      rw [e0, e1]
      clear e0 e1 h0
      refine K_iret (pc := 33) dX6_weeks_33 rfl ?_
      exact ((iteR_t b1).trans (iteR_f c19)).symm
    · skip
      refine J_bipush (pc := 22) (v := -3) dX6_weeks_22 (by decide) ?_
      refine J_goto (pc := 24) (tgt := 33) dX6_weeks_24 (by decide) ?_
      refine K_iret (pc := 33) dX6_weeks_33 rfl ?_
      exact ((iteR_t b1).trans (iteR_t c19)).symm
  · skip
    refine J_if_ne (pc := 4) (tgt := 9) dX6_weeks_4 (by decide) (fun c => absurd c (by decide)) (fun _ => ?_)
    refine J_iconst (pc := 7) (v := -1) dX6_weeks_7 (by decide) ?_
    refine K_iret (pc := 8) dX6_weeks_8 rfl ?_
    exact (iteR_f b1).symm
set_option maxHeartbeats 4000000 in
theorem c6_week {g : jG} {d : Nat} {h : jH} {w : Int32} (hR : MR h) : Mi g (d + 3) YX6_week h [.ref 131, .int w] (fun r h' => (r, h') = oWeek h w) := by
  refine M.of (by decide) rfl (Nat.le_of_ble_eq_true rfl) ?_
  refine J_aload_n (pc := 0) dX6_week_0 rfl ?_
  refine J_iload_n (pc := 1) dX6_week_1 rfl ?_
  refine K_Vi1 (pc := 2) (Y' := YX6_weeks) dX6_week_2 lX6_209 mX6_weeks vX6_weeks ⟨_, _, rfl⟩ sh131 (Nat.le_of_ble_eq_true rfl) (c6_weeks hR) ?_
  rintro r h0 e0
  exact K_iret (pc := 5) dX6_week_5 rfl e0
def frF (P : Nat → Int32) (k : Nat) : Nat → Int32 := fun j => if 53 ≤ j ∧ j < 53 + k then 0 else P j
theorem frF_0 {P : Nat → Int32} : frF P 0 = P := by
  funext j
  simp only [frF, show ¬ (53 ≤ j ∧ j < 53 + 0) by omega, if_false]
theorem frF_s {k : Nat} {P : Nat → Int32} : upd (frF P k) (53 + k) (nI 0) = frF P (k + 1) := by
  funext j
  unfold upd frF
  by_cases e : j = 53 + k
  · subst e; simp [nI0]
  · have : (53 ≤ j ∧ j < 53 + (k + 1)) ↔ (53 ≤ j ∧ j < 53 + k) := by omega
    simp only [if_neg e, this]
theorem frF_e {h : jH} {P : Nat → Int32} : mset h 0 (frF P 16) = mset h 0 (freeP P) := mset_cong (fun k hk => by
  have : (53 ≤ k ∧ k < 53 + 16) ↔ 53 ≤ k := by omega
  simp only [frF, freeP, this])
set_option maxHeartbeats 4000000 in
theorem l6_forgive {g : jG} {d : Nat} {h : jH} {Q : kQ} {P : Nat → Int32} {s : Int32} (kx : K g (d + 1) YX6_forgive (mset h 0 (frF P 16)) 30 [(0, .ref 131), (1, .int s), (2, .int (nI 16))] [] Q) : ∀ (m k : Nat) , k ≤ 16 → 16 < k + m → K g (d + 1) YX6_forgive (mset h 0 (frF P k)) 8 [(0, .ref 131), (1, .int s), (2, .int (nI k))] [] Q := by
  intro m
  induction m with
  | zero => intro k  hk1 hk2 ; omega
  | succ m ih =>
    intro k  hk1 hk2 
    refine J_iload_n (pc := 8) dX6_forgive_8 rfl ?_
    refine J_bipush (pc := 9) (v := nI 16) dX6_forgive_9 (by decide) ?_
    refine J_icmp_ge (pc := 11) (tgt := 30) dX6_forgive_11 (by decide) (fun c11 => ?_) (fun c11 => ?_)
    · skip
      have q11 : 16 ≤ k := (nI_leI (by omega) (by omega)).mp c11
      have e_k : k = 16 := by omega
      refine J_ls (ls' := [(0, .ref 131), (1, .int s), (2, .int (nI k))]) ⟨rfl, rfl, rfl, trivial⟩ ?_
      rw [e_k]
      exact kx
    · skip
      have q11 : k < 16 := Nat.lt_of_not_le (fun z => c11 ((nI_leI (by omega) (by omega)).mpr z))
      refine J_aload_n (pc := 14) dX6_forgive_14 rfl ?_
      refine J_getR (pc := 15) dX6_forgive_15 fX6_7 sh131 rfl ?_
      refine J_bipush (pc := 18) (v := nI 53) dX6_forgive_18 (by decide) ?_
      refine J_iload_n (pc := 20) dX6_forgive_20 rfl ?_
      refine J_iadd (pc := 21) dX6_forgive_21 (nI_add _ _) ?_
      refine J_iconst (pc := 22) (v := nI 0) dX6_forgive_22 (by decide) ?_
      refine J_iast (pc := 23) dX6_forgive_23 sh132 (rfl) (by omega) (by decide) ?_
      rw [mset_up (i := 53 + k) (53 + k) (by omega) (by omega), frF_s]
      refine J_iinc (pc := 24) dX6_forgive_24 rfl (v := nI (k + 1)) (by exact nI_add _ _) (by decide) ?_
      refine J_goto (pc := 27) (tgt := 8) dX6_forgive_27 (by decide) ?_
      exact J_ls (ls' := [(0, .ref 131), (1, .int s), (2, .int (nI (k + 1)))]) ⟨rfl, rfl, rfl, trivial⟩ (ih (k + 1)  (by omega) (by omega) )
set_option maxHeartbeats 4000000 in
theorem c6_forgive {g : jG} {d : Nat} {h : jH} (hR : MR h) : Mi g (d + 2) YX6_forgive h [.ref 131] (fun r h' => (r, h') = oForgive h ) := by
  refine M.of (by decide) rfl (Nat.le_of_ble_eq_true rfl) ?_
  obtain ⟨r1, ⟨⟨v1, v2, v3, v4⟩, v5, v6, v7, v8, v9, va, vb, vc, vd⟩, r3, r4, ⟨r5, r6⟩, r7, r8, r9, ra⟩ := hR
  have hn := r1.1
  have hn4 := v1
  have n5 := r1.2
  have c6 : ix (h 132 37) < 6 := v3.2
  have p9 : ix (h 132 51) < 9 := v5.2
  have p9' : ix (pg h 0 51) < 9 := v5.2
  refine J_aload_n (pc := 0) dX6_forgive_0 rfl ?_
  refine J_iconst (pc := 1) (v := nI 0) dX6_forgive_1 (by decide) ?_
  refine K_Vi1 (pc := 2) (Y' := YX6_owedOn) dX6_forgive_2 lX6_225 mX6_owedOn vX6_owedOn ⟨_, _, rfl⟩ sh131 (Nat.le_of_ble_eq_true rfl) (c6_owedOn (o := 0) (by omega)) ?_
  rintro r h0 ⟨e0, rfl⟩
  rw [e0]
  clear e0 h0
  refine J_istore_n (pc := 5) dX6_forgive_5 (by decide) ?_
  refine J_iconst (pc := 6) (v := nI 0) dX6_forgive_6 (by decide) ?_
  refine J_istore_n (pc := 7) dX6_forgive_7 (by decide) ?_
  refine J_h (h' := mset h 0 (frF (pg h 0) 0)) (by rw [frF_0, mset_pg]) ?_
  refine J_ls (ls' := [(0, .ref 131), (1, .int (sumZ (fun p => h 132 (0 + 53 + p)) 16)), (2, .int (nI 0))]) ⟨rfl, rfl, rfl, trivial⟩ ?_
  refine l6_forgive ?_ 17 0 (Nat.zero_le _) (by omega)
  refine J_iload_n (pc := 30) dX6_forgive_30 rfl ?_
  refine K_iret (pc := 31) dX6_forgive_31 rfl ?_
  rw [frF_e]
  exact congrArg (fun z => (z, mset h 0 (freeP (pg h 0)))) (sumZ_cong (fun k _ => by rw [pg0, Nat.zero_add]))
set_option maxHeartbeats 4000000 in
theorem c6_see {g : jG} {d : Nat} {h : jH} {p n v : Int32} (hR : MR h) : Mi g (d + 2) YX6_see h [.ref 131, .int p, .int n, .int v] (fun r h' => (r, h') = oSee h p n v) := by
  refine M.of (by decide) rfl (Nat.le_of_ble_eq_true rfl) ?_
  obtain ⟨r1, ⟨⟨v1, v2, v3, v4⟩, v5, v6, v7, v8, v9, va, vb, vc, vd⟩, r3, r4, ⟨r5, r6⟩, r7, r8, r9, ra⟩ := hR
  have hn := r1.1
  have hn4 := v1
  have n5 := r1.2
  have c6 : ix (h 132 37) < 6 := v3.2
  have p9 : ix (h 132 51) < 9 := v5.2
  have p9' : ix (pg h 0 51) < 9 := v5.2
  have s7 : ix (h 131 21) < 7 := r5.2
  refine J_aload_n (pc := 0) dX6_see_0 rfl ?_
  refine J_iload_n (pc := 1) dX6_see_1 rfl ?_
  refine K_Vi1 (pc := 2) (Y' := YX6_isOne) dX6_see_2 lX6_160 mX6_isOne vX6_isOne ⟨_, _, rfl⟩ sh131 (Nat.le_of_ble_eq_true rfl) (c6_isOne (x := p) hn hn4) ?_
  rintro x h0 ⟨e0, ⟨rfl, b2⟩ | ⟨rfl, b2⟩⟩ <;> rw [e0] <;> clear e0 h0
  · skip
    refine J_if_eq (pc := 5) (tgt := 32) dX6_see_5 (by decide) (fun c => absurd c (by decide)) (fun _ => ?_)
    refine J_iload_n (pc := 8) dX6_see_8 rfl ?_
    refine J_i2l (pc := 9) dX6_see_9 (rfl) ?_
    refine J_lconst (pc := 10) (v := 1) dX6_see_10 (by decide) ?_
    refine J_ldc2 (pc := 11) dX6_see_11 kX6_164 ?_
    refine K_Si3 (pc := 14) (Y' := YX6_in) dX6_see_14 lX6_55 mX6_in sX6_in (Nat.le_of_ble_eq_true rfl) (c6_inI n (nI 1) (nI 4) rfl (by decide) (by decide)) ?_
    rintro x h0 ⟨e0, ⟨rfl, b14⟩ | ⟨rfl, b14⟩⟩ <;> rw [e0] <;> clear e0 h0
    · skip
      refine J_if_eq (pc := 17) (tgt := 32) dX6_see_17 (by decide) (fun c => absurd c (by decide)) (fun _ => ?_)
      refine J_iload_n (pc := 20) dX6_see_20 rfl ?_
      refine J_i2l (pc := 21) dX6_see_21 (rfl) ?_
      refine J_lconst (pc := 22) (v := 0) dX6_see_22 (by decide) ?_
      refine J_ldc2 (pc := 23) dX6_see_23 kX6_262 ?_
      refine K_Si3 (pc := 26) (Y' := YX6_in) dX6_see_26 lX6_55 mX6_in sX6_in (Nat.le_of_ble_eq_true rfl) (c6_inI v (nI 0) (nI 255) rfl (by decide) (by decide)) ?_
      rintro x h0 ⟨e0, ⟨rfl, b26⟩ | ⟨rfl, b26⟩⟩ <;> rw [e0] <;> clear e0 h0
      · skip
        refine J_if_ne (pc := 29) (tgt := 34) dX6_see_29 (by decide) (fun _ => ?_) (fun c => absurd c (by decide))
        refine J_aload_n (pc := 34) dX6_see_34 rfl ?_
        refine J_getI (pc := 35) dX6_see_35 fX6_151 sh131 rfl (r5.1) ?_
        refine J_bipush (pc := 38) (v := nI 6) dX6_see_38 (by decide) ?_
        refine J_icmp_ne (pc := 40) (tgt := 46) dX6_see_40 (by decide) (fun c40 => ?_) (fun c40 => ?_)
        · skip
          have q40 : ix (h 131 21) < 6 := by
            by_cases z : ix (h 131 21) = 6
            · exact absurd (congrArg nI z) c40
            · omega
          refine J_aload_n (pc := 46) dX6_see_46 rfl ?_
          refine J_getR (pc := 47) dX6_see_47 fX6_31 sh131 rfl ?_
          refine J_iconst (pc := 50) (v := nI 3) dX6_see_50 (by decide) ?_
          refine J_aload_n (pc := 51) dX6_see_51 rfl ?_
          refine J_getI (pc := 52) dX6_see_52 fX6_151 sh131 rfl (r5.1) ?_
          refine J_imul (pc := 55) dX6_see_55 (pk_mul _ _) ?_
          refine J_iload_n (pc := 56) dX6_see_56 rfl ?_
          refine J_iast (pc := 57) dX6_see_57 sh139 (rfl) (by omega) (by decide) ?_
          refine J_aload_n (pc := 58) dX6_see_58 rfl ?_
          refine J_getR (pc := 59) dX6_see_59 fX6_31 sh131 rfl ?_
          refine J_iconst (pc := 62) (v := nI 3) dX6_see_62 (by decide) ?_
          refine J_aload_n (pc := 63) dX6_see_63 rfl ?_
          refine J_getI (pc := 64) dX6_see_64 fX6_151 sh131 rfl ((j_up_o (by omega)).trans r5.1) ?_
          refine J_imul (pc := 67) dX6_see_67 (pk_mul _ _) ?_
          refine J_iconst (pc := 68) (v := nI 1) dX6_see_68 (by decide) ?_
          refine J_iadd (pc := 69) dX6_see_69 (nI_add _ _) ?_
          refine J_iload_n (pc := 70) dX6_see_70 rfl ?_
          refine J_iast (pc := 71) dX6_see_71 sh139 (rfl) (by omega) (by decide) ?_
          refine J_aload_n (pc := 72) dX6_see_72 rfl ?_
          refine J_getR (pc := 73) dX6_see_73 fX6_31 sh131 rfl ?_
          refine J_iconst (pc := 76) (v := nI 3) dX6_see_76 (by decide) ?_
          refine J_aload_n (pc := 77) dX6_see_77 rfl ?_
          refine J_getI (pc := 78) dX6_see_78 fX6_151 sh131 rfl ((j_up_o (by omega)).trans ((j_up_o (by omega)).trans r5.1)) ?_
          refine J_imul (pc := 81) dX6_see_81 (pk_mul _ _) ?_
          refine J_iconst (pc := 82) (v := nI 2) dX6_see_82 (by decide) ?_
          refine J_iadd (pc := 83) dX6_see_83 (nI_add _ _) ?_
          refine J_iload_n (pc := 84) dX6_see_84 rfl ?_
          refine J_iast (pc := 85) dX6_see_85 sh139 (rfl) (by omega) (by decide) ?_
          refine J_aload_n (pc := 86) dX6_see_86 rfl ?_
          refine J_dup (pc := 87) dX6_see_87 rfl ?_
          refine J_getI (pc := 88) dX6_see_88 fX6_151 sh131 rfl ((j_up_o (by omega)).trans ((j_up_o (by omega)).trans (j_up_o (by omega)))) ?_
          refine J_iconst (pc := 91) (v := nI 1) dX6_see_91 (by decide) ?_
          refine J_iadd (pc := 92) dX6_see_92 (rfl) ?_
          refine J_putI (pc := 93) dX6_see_93 fX6_151 sh131 rfl ?_
          refine J_aload_n (pc := 96) dX6_see_96 rfl ?_
          refine J_getI (pc := 97) dX6_see_97 fX6_151 sh131 rfl (j_up_s) ?_
          refine K_iret (pc := 100) dX6_see_100 rfl ?_
          rw [oSee, iteR_t ⟨b2, b14, b26⟩, iteR_f (fun z => c40 (r5.1.symm.trans z))]
        · skip
          refine J_bipush (pc := 43) (v := -3) dX6_see_43 (by decide) ?_
          refine K_iret (pc := 45) dX6_see_45 rfl ?_
          rw [oSee, iteR_t ⟨b2, b14, b26⟩, iteR_t (r5.1.trans c40)]
      · skip
        refine J_if_ne (pc := 29) (tgt := 34) dX6_see_29 (by decide) (fun c => absurd c (by decide)) (fun _ => ?_)
        refine J_iconst (pc := 32) (v := -1) dX6_see_32 (by decide) ?_
        refine K_iret (pc := 33) dX6_see_33 rfl ?_
        rw [oSee, iteR_f (fun z => b26 z.2.2)]
    · skip
      refine J_if_eq (pc := 17) (tgt := 32) dX6_see_17 (by decide) (fun _ => ?_) (fun c => absurd c (by decide))
      refine J_iconst (pc := 32) (v := -1) dX6_see_32 (by decide) ?_
      refine K_iret (pc := 33) dX6_see_33 rfl ?_
      rw [oSee, iteR_f (fun z => b14 z.2.1)]
  · skip
    refine J_if_eq (pc := 5) (tgt := 32) dX6_see_5 (by decide) (fun _ => ?_) (fun c => absurd c (by decide))
    refine J_iconst (pc := 32) (v := -1) dX6_see_32 (by decide) ?_
    refine K_iret (pc := 33) dX6_see_33 rfl ?_
    rw [oSee, iteR_f (fun z => b2 z.1)]
set_option maxHeartbeats 4000000 in
theorem c6_forget {g : jG} {d : Nat} {h : jH} {n : Int32} (hR : MR h) : Mi g (d + 2) YX6_forget h [.ref 131, .int n] (fun r h' => (r, h') = oForget h n) := by
  refine M.of (by decide) rfl (Nat.le_of_ble_eq_true rfl) ?_
  obtain ⟨r1, ⟨⟨v1, v2, v3, v4⟩, v5, v6, v7, v8, v9, va, vb, vc, vd⟩, r3, r4, ⟨r5, r6⟩, r7, r8, r9, ra⟩ := hR
  have hn := r1.1
  have hn4 := v1
  have n5 := r1.2
  have c6 : ix (h 132 37) < 6 := v3.2
  have p9 : ix (h 132 51) < 9 := v5.2
  have p9' : ix (pg h 0 51) < 9 := v5.2
  refine J_iload_n (pc := 0) dX6_forget_0 rfl ?_
  refine J_i2l (pc := 1) dX6_forget_1 (rfl) ?_
  refine J_lconst (pc := 2) (v := 0) dX6_forget_2 (by decide) ?_
  refine J_aload_n (pc := 3) dX6_forget_3 rfl ?_
  refine J_getI (pc := 4) dX6_forget_4 fX6_151 sh131 rfl (rfl) ?_
  refine J_i2l (pc := 7) dX6_forget_7 (rfl) ?_
  refine K_Si3 (pc := 8) (Y' := YX6_in) dX6_forget_8 lX6_55 mX6_in sX6_in (Nat.le_of_ble_eq_true rfl) (c6_inI n (nI 0) (h 131 21) rfl (by decide) rfl) ?_
  rintro x h0 ⟨e0, ⟨rfl, b8⟩ | ⟨rfl, b8⟩⟩ <;> rw [e0] <;> clear e0 h0
  · skip
    refine J_if_ne (pc := 11) (tgt := 16) dX6_forget_11 (by decide) (fun _ => ?_) (fun c => absurd c (by decide))
    refine J_aload_n (pc := 16) dX6_forget_16 rfl ?_
    refine J_getI (pc := 17) dX6_forget_17 fX6_151 sh131 rfl (rfl) ?_
    refine J_istore_n (pc := 20) dX6_forget_20 (by decide) ?_
    refine J_aload_n (pc := 21) dX6_forget_21 rfl ?_
    refine J_iload_n (pc := 22) dX6_forget_22 rfl ?_
    refine J_putI (pc := 23) dX6_forget_23 fX6_151 sh131 rfl ?_
    refine J_iload_n (pc := 26) dX6_forget_26 rfl ?_
    refine K_iret (pc := 27) dX6_forget_27 rfl ?_
    exact (iteR_t b8).symm
  · skip
    refine J_if_ne (pc := 11) (tgt := 16) dX6_forget_11 (by decide) (fun c => absurd c (by decide)) (fun _ => ?_)
    refine J_iconst (pc := 14) (v := -1) dX6_forget_14 (by decide) ?_
    refine K_iret (pc := 15) dX6_forget_15 rfl ?_
    exact (iteR_f b8).symm
