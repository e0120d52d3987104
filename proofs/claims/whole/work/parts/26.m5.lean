set_option maxHeartbeats 4000000 in
theorem c6_isOne {g : jG} {d : Nat} {h : jH} {n : Nat} {x : Int32} (hn : h 131 2 = nI n) (hn4 : n ≤ 4) : Mi g (d + 1) YX6_isOne h [.ref 131, .int x] (fun r h' => h' = h ∧ bq (nb n x) r) := by
  refine M.of (by decide) rfl (Nat.le_of_ble_eq_true rfl) ?_
  refine J_iload_n (pc := 0) dX6_isOne_0 rfl ?_
  refine J_i2l (pc := 1) dX6_isOne_1 (rfl) ?_
  refine J_lconst (pc := 2) (v := 0) dX6_isOne_2 (by decide) ?_
  refine J_aload_n (pc := 3) dX6_isOne_3 rfl ?_
  refine J_getI (pc := 4) dX6_isOne_4 fX6_148 sh131 rfl (hn) ?_
  refine J_iconst (pc := 7) (v := nI 1) dX6_isOne_7 (by decide) ?_
  refine J_isub (pc := 8) dX6_isOne_8 (rfl) ?_
  refine J_i2l (pc := 9) dX6_isOne_9 (rfl) ?_
  refine K_Si3 (pc := 10) (Y' := YX6_in) dX6_isOne_10 lX6_55 mX6_in sX6_in (Nat.le_of_ble_eq_true rfl) (c6_inI x 0 (nI n - nI 1) rfl (by decide) rfl) ?_
  rintro r h0 ⟨rfl, hb⟩
  refine K_zret (pc := 13) dX6_isOne_13 rfl (bq_z hb) ?_
  exact ⟨rfl, bq_congr hb (in_nb0 (by omega))⟩
set_option maxHeartbeats 4000000 in
theorem c6_isWeather {g : jG} {d : Nat} {h : jH} {x : Int32} : Mi g (d + 1) YX6_isWeather h [.int x] (fun r h' => h' = h ∧ bq (nb 4 x) r) := by
  refine M.of (by decide) rfl (Nat.le_of_ble_eq_true rfl) ?_
  refine J_iload_n (pc := 0) dX6_isWeather_0 rfl ?_
  refine J_i2l (pc := 1) dX6_isWeather_1 (rfl) ?_
  refine J_lconst (pc := 2) (v := 0) dX6_isWeather_2 (by decide) ?_
  refine J_ldc2 (pc := 3) dX6_isWeather_3 kX6_111 ?_
  refine K_Si3 (pc := 6) (Y' := YX6_in) dX6_isWeather_6 lX6_55 mX6_in sX6_in (Nat.le_of_ble_eq_true rfl) (c6_inI x 0 3 rfl (by decide) (by decide)) ?_
  rintro r h0 ⟨rfl, hb⟩
  refine K_zret (pc := 9) dX6_isWeather_9 rfl (bq_z hb) ?_
  exact ⟨rfl, bq_congr hb (in_nbc (n := 3) (by decide) (by omega))⟩
set_option maxHeartbeats 4000000 in
theorem c6_isCover {g : jG} {d : Nat} {h : jH} {x : Int32} (hc : nb 6 (h 132 37)) : Mi g (d + 1) YX6_isCover h [.ref 131, .int x] (fun r h' => h' = h ∧ bq (nb (ix (h 132 37)) x) r) := by
  refine M.of (by decide) rfl (Nat.le_of_ble_eq_true rfl) ?_
  have hc2 := hc.2
  refine J_iload_n (pc := 0) dX6_isCover_0 rfl ?_
  refine J_i2l (pc := 1) dX6_isCover_1 (rfl) ?_
  refine J_lconst (pc := 2) (v := 0) dX6_isCover_2 (by decide) ?_
  refine J_aload_n (pc := 3) dX6_isCover_3 rfl ?_
  refine J_getR (pc := 4) dX6_isCover_4 fX6_7 sh131 rfl ?_
  refine J_bipush (pc := 7) (v := nI 37) dX6_isCover_7 (by decide) ?_
  refine J_iald (pc := 9) dX6_isCover_9 sh132 (rfl) (by omega) (hc.1) (by decide) ?_
  refine J_iconst (pc := 10) (v := nI 1) dX6_isCover_10 (by decide) ?_
  refine J_isub (pc := 11) dX6_isCover_11 (rfl) ?_
  refine J_i2l (pc := 12) dX6_isCover_12 (rfl) ?_
  refine K_Si3 (pc := 13) (Y' := YX6_in) dX6_isCover_13 lX6_55 mX6_in sX6_in (Nat.le_of_ble_eq_true rfl) (c6_inI x 0 (nI (ix (h 132 37)) - nI 1) rfl (by decide) rfl) ?_
  rintro r h0 ⟨rfl, hb⟩
  refine K_zret (pc := 16) dX6_isCover_16 rfl (bq_z hb) ?_
  exact ⟨rfl, bq_congr hb (in_nb0 (by omega))⟩
set_option maxHeartbeats 4000000 in
theorem c6_floorNow {g : jG} {d : Nat} {h : jH} : Mi g d YX6_floorNow h [.ref 131] (fun r h' => h' = h ∧ r = h 132 42 + nI 5) := by
  refine M.of (by decide) rfl (Nat.le_of_ble_eq_true rfl) ?_
  refine J_aload_n (pc := 0) dX6_floorNow_0 rfl ?_
  refine J_getR (pc := 1) dX6_floorNow_1 fX6_7 sh131 rfl ?_
  refine J_bipush (pc := 4) (v := nI 42) dX6_floorNow_4 (by decide) ?_
  refine J_iald (pc := 6) dX6_floorNow_6 sh132 (rfl) (by omega) (rfl) (by decide) ?_
  refine J_iconst (pc := 7) (v := nI 5) dX6_floorNow_7 (by decide) ?_
  refine J_iadd (pc := 8) dX6_floorNow_8 (rfl) ?_
  refine K_iret (pc := 9) dX6_floorNow_9 rfl ?_
  exact ⟨rfl, rfl⟩
set_option maxHeartbeats 4000000 in
theorem c6_oddsOf {g : jG} {d : Nat} {h : jH} {w : Nat} (hw : w < 4) : Mi g (d + 1) YX6_oddsOf h [.ref 131, .int (nI w)] (fun r h' => h' = h ∧ r = h 132 (38 + w) + fo w) := by
  refine M.of (by decide) rfl (Nat.le_of_ble_eq_true rfl) ?_
  refine J_aload_n (pc := 0) dX6_oddsOf_0 rfl ?_
  refine J_getR (pc := 1) dX6_oddsOf_1 fX6_7 sh131 rfl ?_
  refine J_bipush (pc := 4) (v := nI 38) dX6_oddsOf_4 (by decide) ?_
  refine J_iload_n (pc := 6) dX6_oddsOf_6 rfl ?_
  refine J_iadd (pc := 7) dX6_oddsOf_7 (nI_add _ _) ?_
  refine J_iald (pc := 8) dX6_oddsOf_8 sh132 (rfl) (by omega) (rfl) (by decide) ?_
  refine J_iload_n (pc := 9) dX6_oddsOf_9 rfl ?_
  refine K_Si1 (pc := 10) (Y' := YX6_firstOdds) dX6_oddsOf_10 lX6_119 mX6_firstOdds sX6_firstOdds (Nat.le_of_ble_eq_true rfl) (c6_firstOdds hw) ?_
  rintro r h0 ⟨rfl, rfl⟩
  refine J_iadd (pc := 13) dX6_oddsOf_13 (rfl) ?_
  refine K_iret (pc := 14) dX6_oddsOf_14 rfl ?_
  exact ⟨rfl, rfl⟩
set_option maxHeartbeats 4000000 in
theorem c6_powerOf {g : jG} {d : Nat} {h : jH} {n : Nat} (hn : n ≤ 4) : Mi g d YX6_powerOf h [.int (nI n)] (fun r h' => h' = h ∧ r = nI (4 ^ n)) := by
  refine M.of (by decide) rfl (Nat.le_of_ble_eq_true rfl) ?_
  refine J_iconst (pc := 0) (v := nI 1) dX6_powerOf_0 (by decide) ?_
  refine J_iconst (pc := 1) (v := nI 2) dX6_powerOf_1 (by decide) ?_
  refine J_iload_n (pc := 2) dX6_powerOf_2 rfl ?_
  refine J_imul (pc := 3) dX6_powerOf_3 (pk_mul _ _) ?_
  refine J_ishl (pc := 4) dX6_powerOf_4 (pow4_shl hn) ?_
  refine K_iret (pc := 5) dX6_powerOf_5 rfl ?_
  exact ⟨rfl, rfl⟩
set_option maxHeartbeats 4000000 in
theorem l6_belowOn {g : jG} {d : Nat} {h : jH} {Q : kQ} {n o : Nat} (hn : h 131 2 = nI n) (hn4 : n ≤ 4) (ho : o + 69 ≤ 414) (kx : K g (d + 1) YX6_belowOn (h) 46 [(0, .ref 131), (1, .int (nI o)), (2, .int (blw (fun p => h 132 (o + 8 + p)) (h 132 42 + nI 5) n)), (3, .int (nI n))] [] Q) : ∀ (m k : Nat) , k ≤ n → n < k + m → K g (d + 1) YX6_belowOn (h) 4 [(0, .ref 131), (1, .int (nI o)), (2, .int (blw (fun p => h 132 (o + 8 + p)) (h 132 42 + nI 5) k)), (3, .int (nI k))] [] Q := by
  intro m
  induction m with
  | zero => intro k  hk1 hk2 ; omega
  | succ m ih =>
    intro k  hk1 hk2 
    refine J_iload_n (pc := 4) dX6_belowOn_4 rfl ?_
    refine J_aload_n (pc := 5) dX6_belowOn_5 rfl ?_
    refine J_getI (pc := 6) dX6_belowOn_6 fX6_148 sh131 rfl (hn) ?_
    refine J_icmp_ge (pc := 9) (tgt := 46) dX6_belowOn_9 (by decide) (fun c9 => ?_) (fun c9 => ?_)
    · skip
      have q9 : n ≤ k := (nI_leI (by omega) (by omega)).mp c9
      have e_k : k = n := by omega
      refine J_ls (ls' := [(0, .ref 131), (1, .int (nI o)), (2, .int (blw (fun p => h 132 (o + 8 + p)) (h 132 42 + nI 5) k)), (3, .int (nI k))]) ⟨rfl, rfl, rfl, rfl, trivial⟩ ?_
      rw [e_k]
      exact kx
    · skip
      have q9 : k < n := Nat.lt_of_not_le (fun z => c9 ((nI_leI (by omega) (by omega)).mpr z))
      refine J_iload_n (pc := 12) dX6_belowOn_12 rfl ?_
      refine J_aload_n (pc := 13) dX6_belowOn_13 rfl ?_
      refine J_getR (pc := 14) dX6_belowOn_14 fX6_7 sh131 rfl ?_
      refine J_iload_n (pc := 17) dX6_belowOn_17 rfl ?_
      refine J_bipush (pc := 18) (v := nI 8) dX6_belowOn_18 (by decide) ?_
      refine J_iadd (pc := 20) dX6_belowOn_20 (nI_add _ _) ?_
      refine J_iload_n (pc := 21) dX6_belowOn_21 rfl ?_
      refine J_iadd (pc := 22) dX6_belowOn_22 (nI_add _ _) ?_
      refine J_iald (pc := 23) dX6_belowOn_23 sh132 (rfl) (by omega) (rfl) (by decide) ?_
      refine J_aload_n (pc := 24) dX6_belowOn_24 rfl ?_
      refine K_Vi0 (pc := 25) (Y' := YX6_floorNow) dX6_belowOn_25 lX6_154 mX6_floorNow vX6_floorNow ⟨_, _, rfl⟩ sh131 (Nat.le_of_ble_eq_true rfl) (c6_floorNow) ?_
      rintro r h0 ⟨rfl, rfl⟩
      refine J_icmp_ge (pc := 28) (tgt := 37) dX6_belowOn_28 (by decide) (fun c28 => ?_) (fun c28 => ?_)
      · skip
        refine J_iconst (pc := 37) (v := nI 0) dX6_belowOn_37 (by decide) ?_
        refine J_ior (pc := 38) dX6_belowOn_38 (rfl) ?_
        refine J_istore_n (pc := 39) dX6_belowOn_39 (by decide) ?_
        refine J_iinc (pc := 40) dX6_belowOn_40 rfl (v := nI (k + 1)) (by exact nI_add _ _) (by decide) ?_
        refine J_goto (pc := 43) (tgt := 4) dX6_belowOn_43 (by decide) ?_
        have i := ih (k + 1) (by omega) (by omega)
        first | rw [blw, if_pos c28] at i | rw [blw, if_neg c28] at i
        refine J_ls ?_ i
        first | exact ⟨rfl, rfl, rfl, rfl, trivial⟩ | exact ⟨rfl, rfl, congrArg (fun z => some (Value.int z)) (or0 _), rfl, trivial⟩
      · skip
        refine J_iconst (pc := 31) (v := nI 1) dX6_belowOn_31 (by decide) ?_
        refine J_iload_n (pc := 32) dX6_belowOn_32 rfl ?_
        refine J_ishl (pc := 33) dX6_belowOn_33 (rfl) ?_
        refine J_goto (pc := 34) (tgt := 38) dX6_belowOn_34 (by decide) ?_
        refine J_ior (pc := 38) dX6_belowOn_38 (rfl) ?_
        refine J_istore_n (pc := 39) dX6_belowOn_39 (by decide) ?_
        refine J_iinc (pc := 40) dX6_belowOn_40 rfl (v := nI (k + 1)) (by exact nI_add _ _) (by decide) ?_
        refine J_goto (pc := 43) (tgt := 4) dX6_belowOn_43 (by decide) ?_
        have i := ih (k + 1) (by omega) (by omega)
        first | rw [blw, if_pos c28] at i | rw [blw, if_neg c28] at i
        refine J_ls ?_ i
        first | exact ⟨rfl, rfl, rfl, rfl, trivial⟩ | exact ⟨rfl, rfl, congrArg (fun z => some (Value.int z)) (or0 _), rfl, trivial⟩
set_option maxHeartbeats 4000000 in
theorem c6_belowOn {g : jG} {d : Nat} {h : jH} {n o : Nat} (hn : h 131 2 = nI n) (hn4 : n ≤ 4) (ho : o + 69 ≤ 414) : Mi g (d + 1) YX6_belowOn h [.ref 131, .int (nI o)] (fun r h' => h' = h ∧ r = blw (fun p => h 132 (o + 8 + p)) (h 132 42 + nI 5) n) := by
  refine M.of (by decide) rfl (Nat.le_of_ble_eq_true rfl) ?_
  refine J_iconst (pc := 0) (v := nI 0) dX6_belowOn_0 (by decide) ?_
  refine J_istore_n (pc := 1) dX6_belowOn_1 (by decide) ?_
  refine J_iconst (pc := 2) (v := nI 0) dX6_belowOn_2 (by decide) ?_
  refine J_istore_n (pc := 3) dX6_belowOn_3 (by decide) ?_
  refine J_ls (ls' := [(0, .ref 131), (1, .int (nI o)), (2, .int (nI 0)), (3, .int (nI 0))]) ⟨rfl, rfl, rfl, rfl, trivial⟩ ?_
  refine l6_belowOn hn hn4 ho ?_ (n + 1) 0 (Nat.zero_le _) (by omega)
  refine J_iload_n (pc := 46) dX6_belowOn_46 rfl ?_
  refine K_iret (pc := 47) dX6_belowOn_47 rfl ?_
  exact ⟨rfl, rfl⟩
set_option maxHeartbeats 4000000 in
theorem l6_pursesOn {g : jG} {d : Nat} {h : jH} {Q : kQ} {n o : Nat} (hn : h 131 2 = nI n) (hn4 : n ≤ 4) (ho : o + 69 ≤ 414) (kx : K g d YX6_pursesOn (h) 32 [(0, .ref 131), (1, .int (nI o)), (2, .int (sumZ (fun p => h 132 (o + 8 + p)) n)), (3, .int (nI n))] [] Q) : ∀ (m k : Nat) , k ≤ n → n < k + m → K g d YX6_pursesOn (h) 4 [(0, .ref 131), (1, .int (nI o)), (2, .int (sumZ (fun p => h 132 (o + 8 + p)) k)), (3, .int (nI k))] [] Q := by
  intro m
  induction m with
  | zero => intro k  hk1 hk2 ; omega
  | succ m ih =>
    intro k  hk1 hk2 
    refine J_iload_n (pc := 4) dX6_pursesOn_4 rfl ?_
    refine J_aload_n (pc := 5) dX6_pursesOn_5 rfl ?_
    refine J_getI (pc := 6) dX6_pursesOn_6 fX6_148 sh131 rfl (hn) ?_
    refine J_icmp_ge (pc := 9) (tgt := 32) dX6_pursesOn_9 (by decide) (fun c9 => ?_) (fun c9 => ?_)
    · skip
      have q9 : n ≤ k := (nI_leI (by omega) (by omega)).mp c9
      have e_k : k = n := by omega
      refine J_ls (ls' := [(0, .ref 131), (1, .int (nI o)), (2, .int (sumZ (fun p => h 132 (o + 8 + p)) k)), (3, .int (nI k))]) ⟨rfl, rfl, rfl, rfl, trivial⟩ ?_
      rw [e_k]
      exact kx
    · skip
      have q9 : k < n := Nat.lt_of_not_le (fun z => c9 ((nI_leI (by omega) (by omega)).mpr z))
      refine J_iload_n (pc := 12) dX6_pursesOn_12 rfl ?_
      refine J_aload_n (pc := 13) dX6_pursesOn_13 rfl ?_
      refine J_getR (pc := 14) dX6_pursesOn_14 fX6_7 sh131 rfl ?_
      refine J_iload_n (pc := 17) dX6_pursesOn_17 rfl ?_
      refine J_bipush (pc := 18) (v := nI 8) dX6_pursesOn_18 (by decide) ?_
      refine J_iadd (pc := 20) dX6_pursesOn_20 (nI_add _ _) ?_
      refine J_iload_n (pc := 21) dX6_pursesOn_21 rfl ?_
      refine J_iadd (pc := 22) dX6_pursesOn_22 (nI_add _ _) ?_
      refine J_iald (pc := 23) dX6_pursesOn_23 sh132 (rfl) (by omega) (rfl) (by decide) ?_
      refine J_iadd (pc := 24) dX6_pursesOn_24 (rfl) ?_
      refine J_istore_n (pc := 25) dX6_pursesOn_25 (by decide) ?_
      refine J_iinc (pc := 26) dX6_pursesOn_26 rfl (v := nI (k + 1)) (by exact nI_add _ _) (by decide) ?_
      refine J_goto (pc := 29) (tgt := 4) dX6_pursesOn_29 (by decide) ?_
      exact J_ls (ls' := [(0, .ref 131), (1, .int (nI o)), (2, .int (sumZ (fun p => h 132 (o + 8 + p)) (k + 1))), (3, .int (nI (k + 1)))]) ⟨rfl, rfl, rfl, rfl, trivial⟩ (ih (k + 1)  (by omega) (by omega) )
set_option maxHeartbeats 4000000 in
theorem c6_pursesOn {g : jG} {d : Nat} {h : jH} {n o : Nat} (hn : h 131 2 = nI n) (hn4 : n ≤ 4) (ho : o + 69 ≤ 414) : Mi g d YX6_pursesOn h [.ref 131, .int (nI o)] (fun r h' => h' = h ∧ r = sumZ (fun p => h 132 (o + 8 + p)) n) := by
  refine M.of (by decide) rfl (Nat.le_of_ble_eq_true rfl) ?_
  refine J_iconst (pc := 0) (v := nI 0) dX6_pursesOn_0 (by decide) ?_
  refine J_istore_n (pc := 1) dX6_pursesOn_1 (by decide) ?_
  refine J_iconst (pc := 2) (v := nI 0) dX6_pursesOn_2 (by decide) ?_
  refine J_istore_n (pc := 3) dX6_pursesOn_3 (by decide) ?_
  refine J_ls (ls' := [(0, .ref 131), (1, .int (nI o)), (2, .int (nI 0)), (3, .int (nI 0))]) ⟨rfl, rfl, rfl, rfl, trivial⟩ ?_
  refine l6_pursesOn hn hn4 ho ?_ (n + 1) 0 (Nat.zero_le _) (by omega)
  refine J_iload_n (pc := 32) dX6_pursesOn_32 rfl ?_
  refine K_iret (pc := 33) dX6_pursesOn_33 rfl ?_
  exact ⟨rfl, rfl⟩
set_option maxHeartbeats 4000000 in
theorem l6_owedOn {g : jG} {d : Nat} {h : jH} {Q : kQ} {o : Nat} (ho : o + 69 ≤ 414) (kx : K g d YX6_owedOn (h) 30 [(0, .ref 131), (1, .int (nI o)), (2, .int (sumZ (fun p => h 132 (o + 53 + p)) 16)), (3, .int (nI 16))] [] Q) : ∀ (m k : Nat) , k ≤ 16 → 16 < k + m → K g d YX6_owedOn (h) 4 [(0, .ref 131), (1, .int (nI o)), (2, .int (sumZ (fun p => h 132 (o + 53 + p)) k)), (3, .int (nI k))] [] Q := by
  intro m
  induction m with
  | zero => intro k  hk1 hk2 ; omega
  | succ m ih =>
    intro k  hk1 hk2 
    refine J_iload_n (pc := 4) dX6_owedOn_4 rfl ?_
    refine J_bipush (pc := 5) (v := nI 16) dX6_owedOn_5 (by decide) ?_
    refine J_icmp_ge (pc := 7) (tgt := 30) dX6_owedOn_7 (by decide) (fun c7 => ?_) (fun c7 => ?_)
    · skip
      have q7 : 16 ≤ k := (nI_leI (by omega) (by omega)).mp c7
      have e_k : k = 16 := by omega
      refine J_ls (ls' := [(0, .ref 131), (1, .int (nI o)), (2, .int (sumZ (fun p => h 132 (o + 53 + p)) k)), (3, .int (nI k))]) ⟨rfl, rfl, rfl, rfl, trivial⟩ ?_
      rw [e_k]
      exact kx
    · skip
      have q7 : k < 16 := Nat.lt_of_not_le (fun z => c7 ((nI_leI (by omega) (by omega)).mpr z))
      refine J_iload_n (pc := 10) dX6_owedOn_10 rfl ?_
      refine J_aload_n (pc := 11) dX6_owedOn_11 rfl ?_
      refine J_getR (pc := 12) dX6_owedOn_12 fX6_7 sh131 rfl ?_
      refine J_iload_n (pc := 15) dX6_owedOn_15 rfl ?_
      refine J_bipush (pc := 16) (v := nI 53) dX6_owedOn_16 (by decide) ?_
      refine J_iadd (pc := 18) dX6_owedOn_18 (nI_add _ _) ?_
      refine J_iload_n (pc := 19) dX6_owedOn_19 rfl ?_
      refine J_iadd (pc := 20) dX6_owedOn_20 (nI_add _ _) ?_
      refine J_iald (pc := 21) dX6_owedOn_21 sh132 (rfl) (by omega) (rfl) (by decide) ?_
      refine J_iadd (pc := 22) dX6_owedOn_22 (rfl) ?_
      refine J_istore_n (pc := 23) dX6_owedOn_23 (by decide) ?_
      refine J_iinc (pc := 24) dX6_owedOn_24 rfl (v := nI (k + 1)) (by exact nI_add _ _) (by decide) ?_
      refine J_goto (pc := 27) (tgt := 4) dX6_owedOn_27 (by decide) ?_
      exact J_ls (ls' := [(0, .ref 131), (1, .int (nI o)), (2, .int (sumZ (fun p => h 132 (o + 53 + p)) (k + 1))), (3, .int (nI (k + 1)))]) ⟨rfl, rfl, rfl, rfl, trivial⟩ (ih (k + 1)  (by omega) (by omega) )
set_option maxHeartbeats 4000000 in
theorem c6_owedOn {g : jG} {d : Nat} {h : jH} {o : Nat} (ho : o + 69 ≤ 414) : Mi g d YX6_owedOn h [.ref 131, .int (nI o)] (fun r h' => h' = h ∧ r = sumZ (fun p => h 132 (o + 53 + p)) 16) := by
  refine M.of (by decide) rfl (Nat.le_of_ble_eq_true rfl) ?_
  refine J_iconst (pc := 0) (v := nI 0) dX6_owedOn_0 (by decide) ?_
  refine J_istore_n (pc := 1) dX6_owedOn_1 (by decide) ?_
  refine J_iconst (pc := 2) (v := nI 0) dX6_owedOn_2 (by decide) ?_
  refine J_istore_n (pc := 3) dX6_owedOn_3 (by decide) ?_
  refine J_ls (ls' := [(0, .ref 131), (1, .int (nI o)), (2, .int (nI 0)), (3, .int (nI 0))]) ⟨rfl, rfl, rfl, rfl, trivial⟩ ?_
  refine l6_owedOn ho ?_ 17 0 (Nat.zero_le _) (by omega)
  refine J_iload_n (pc := 30) dX6_owedOn_30 rfl ?_
  refine K_iret (pc := 31) dX6_owedOn_31 rfl ?_
  exact ⟨rfl, rfl⟩
set_option maxHeartbeats 4000000 in
theorem l6_coversOf {g : jG} {d : Nat} {h : jH} {Q : kQ} {p : Int32} {t : Nat} (hc : nb 6 (h 132 37)) (ht : t < 5) (kx : K g d YX6_coversOf (h) 52 [(0, .ref 131), (1, .int p), (2, .int (nI t)), (3, .int (cwF (fun c => h 132 (12 + 5 * c + t)) p (ix (h 132 37)))), (4, .int (nI (ix (h 132 37))))] [] Q) : ∀ (m k : Nat) , k ≤ (ix (h 132 37)) → (ix (h 132 37)) < k + m → K g d YX6_coversOf (h) 5 [(0, .ref 131), (1, .int p), (2, .int (nI t)), (3, .int (cwF (fun c => h 132 (12 + 5 * c + t)) p k)), (4, .int (nI k))] [] Q := by
  intro m
  induction m with
  | zero => intro k  hk1 hk2 ; omega
  | succ m ih =>
    intro k  hk1 hk2 
    have hc2 := hc.2
    refine J_iload (pc := 5) dX6_coversOf_5 rfl ?_
    refine J_aload_n (pc := 7) dX6_coversOf_7 rfl ?_
    refine J_getR (pc := 8) dX6_coversOf_8 fX6_7 sh131 rfl ?_
    refine J_bipush (pc := 11) (v := nI 37) dX6_coversOf_11 (by decide) ?_
    refine J_iald (pc := 13) dX6_coversOf_13 sh132 (rfl) (by omega) (hc.1) (by decide) ?_
    refine J_icmp_ge (pc := 14) (tgt := 52) dX6_coversOf_14 (by decide) (fun c14 => ?_) (fun c14 => ?_)
    · skip
      have q14 : (ix (h 132 37)) ≤ k := (nI_leI (by omega) (by omega)).mp c14
      have e_k : k = (ix (h 132 37)) := by omega
      refine J_ls (ls' := [(0, .ref 131), (1, .int p), (2, .int (nI t)), (3, .int (cwF (fun c => h 132 (12 + 5 * c + t)) p k)), (4, .int (nI k))]) ⟨rfl, rfl, rfl, rfl, rfl, trivial⟩ ?_
      rw [e_k]
      exact kx
    · skip
      have q14 : k < (ix (h 132 37)) := Nat.lt_of_not_le (fun z => c14 ((nI_leI (by omega) (by omega)).mpr z))
      refine J_iload_n (pc := 17) dX6_coversOf_17 rfl ?_
      refine J_aload_n (pc := 18) dX6_coversOf_18 rfl ?_
      refine J_getR (pc := 19) dX6_coversOf_19 fX6_7 sh131 rfl ?_
      refine J_bipush (pc := 22) (v := nI 12) dX6_coversOf_22 (by decide) ?_
      refine J_iconst (pc := 24) (v := nI 5) dX6_coversOf_24 (by decide) ?_
      refine J_iload (pc := 25) dX6_coversOf_25 rfl ?_
      refine J_imul (pc := 27) dX6_coversOf_27 (pk_mul _ _) ?_
      refine J_iadd (pc := 28) dX6_coversOf_28 (nI_add _ _) ?_
      refine J_iload_n (pc := 29) dX6_coversOf_29 rfl ?_
      refine J_iadd (pc := 30) dX6_coversOf_30 (nI_add _ _) ?_
      refine J_iald (pc := 31) dX6_coversOf_31 sh132 (rfl) (by omega) (rfl) (by decide) ?_
      refine J_iload_n (pc := 32) dX6_coversOf_32 rfl ?_
      refine J_icmp_ne (pc := 33) (tgt := 43) dX6_coversOf_33 (by decide) (fun c33 => ?_) (fun c33 => ?_)
      · skip
        refine J_iconst (pc := 43) (v := nI 0) dX6_coversOf_43 (by decide) ?_
        refine J_ior (pc := 44) dX6_coversOf_44 (rfl) ?_
        refine J_istore_n (pc := 45) dX6_coversOf_45 (by decide) ?_
        refine J_iinc (pc := 46) dX6_coversOf_46 rfl (v := nI (k + 1)) (by exact nI_add _ _) (by decide) ?_
        refine J_goto (pc := 49) (tgt := 5) dX6_coversOf_49 (by decide) ?_
        have i := ih (k + 1) (by omega) (by omega)
        first | rw [cwF, if_pos c33] at i | rw [cwF, if_neg c33] at i
        refine J_ls ?_ i
        first | exact ⟨rfl, rfl, rfl, rfl, rfl, trivial⟩ | exact ⟨rfl, rfl, rfl, congrArg (fun z => some (Value.int z)) (or0 _), rfl, trivial⟩
      · skip
        refine J_iconst (pc := 36) (v := nI 1) dX6_coversOf_36 (by decide) ?_
        refine J_iload (pc := 37) dX6_coversOf_37 rfl ?_
        refine J_ishl (pc := 39) dX6_coversOf_39 (rfl) ?_
        refine J_goto (pc := 40) (tgt := 44) dX6_coversOf_40 (by decide) ?_
        refine J_ior (pc := 44) dX6_coversOf_44 (rfl) ?_
        refine J_istore_n (pc := 45) dX6_coversOf_45 (by decide) ?_
        refine J_iinc (pc := 46) dX6_coversOf_46 rfl (v := nI (k + 1)) (by exact nI_add _ _) (by decide) ?_
        refine J_goto (pc := 49) (tgt := 5) dX6_coversOf_49 (by decide) ?_
        have i := ih (k + 1) (by omega) (by omega)
        first | rw [cwF, if_pos c33] at i | rw [cwF, if_neg c33] at i
        refine J_ls ?_ i
        first | exact ⟨rfl, rfl, rfl, rfl, rfl, trivial⟩ | exact ⟨rfl, rfl, rfl, congrArg (fun z => some (Value.int z)) (or0 _), rfl, trivial⟩
set_option maxHeartbeats 4000000 in
theorem c6_coversOf {g : jG} {d : Nat} {h : jH} {p : Int32} {t : Nat} (hc : nb 6 (h 132 37)) (ht : t < 5) : Mi g d YX6_coversOf h [.ref 131, .int p, .int (nI t)] (fun r h' => h' = h ∧ r = cwF (fun c => h 132 (12 + 5 * c + t)) p (ix (h 132 37))) := by
  refine M.of (by decide) rfl (Nat.le_of_ble_eq_true rfl) ?_
  refine J_iconst (pc := 0) (v := nI 0) dX6_coversOf_0 (by decide) ?_
  refine J_istore_n (pc := 1) dX6_coversOf_1 (by decide) ?_
  refine J_iconst (pc := 2) (v := nI 0) dX6_coversOf_2 (by decide) ?_
  refine J_istore (pc := 3) dX6_coversOf_3 (by decide) ?_
  refine J_ls (ls' := [(0, .ref 131), (1, .int p), (2, .int (nI t)), (3, .int (nI 0)), (4, .int (nI 0))]) ⟨rfl, rfl, rfl, rfl, rfl, trivial⟩ ?_
  refine l6_coversOf hc ht ?_ (ix (h 132 37) + 1) 0 (Nat.zero_le _) (by omega)
  refine J_iload_n (pc := 52) dX6_coversOf_52 rfl ?_
  refine K_iret (pc := 53) dX6_coversOf_53 rfl ?_
  exact ⟨rfl, rfl⟩
set_option maxHeartbeats 4000000 in
theorem l6_copies {g : jG} {d : Nat} {h : jH} {Q : kQ} {a o : Nat} (ha : a + 69 ≤ 414) (ho : o + 69 ≤ 414) (hd : a + 69 ≤ o ∨ o + 69 ≤ a) (kx : K g d YX6_copies (mset h o (cpP 69 (pg h a) (pg h o))) 30 [(0, .ref 131), (1, .int (nI a)), (2, .int (nI o)), (3, .int (nI 69))] [] Q) : ∀ (m k : Nat) , k ≤ 69 → 69 < k + m → K g d YX6_copies (mset h o (cpP k (pg h a) (pg h o))) 2 [(0, .ref 131), (1, .int (nI a)), (2, .int (nI o)), (3, .int (nI k))] [] Q := by
  intro m
  induction m with
  | zero => intro k  hk1 hk2 ; omega
  | succ m ih =>
    intro k  hk1 hk2 
    refine J_iload_n (pc := 2) dX6_copies_2 rfl ?_
    refine J_bipush (pc := 3) (v := nI 69) dX6_copies_3 (by decide) ?_
    refine J_icmp_ge (pc := 5) (tgt := 30) dX6_copies_5 (by decide) (fun c5 => ?_) (fun c5 => ?_)
    · skip
      have q5 : 69 ≤ k := (nI_leI (by omega) (by omega)).mp c5
      have e_k : k = 69 := by omega
      refine J_ls (ls' := [(0, .ref 131), (1, .int (nI a)), (2, .int (nI o)), (3, .int (nI k))]) ⟨rfl, rfl, rfl, rfl, trivial⟩ ?_
      rw [e_k]
      exact kx
    · skip
      have q5 : k < 69 := Nat.lt_of_not_le (fun z => c5 ((nI_leI (by omega) (by omega)).mpr z))
      refine J_aload_n (pc := 8) dX6_copies_8 rfl ?_
      refine J_getR (pc := 9) dX6_copies_9 fX6_7 sh131 rfl ?_
      refine J_iload_n (pc := 12) dX6_copies_12 rfl ?_
      refine J_iload_n (pc := 13) dX6_copies_13 rfl ?_
      refine J_iadd (pc := 14) dX6_copies_14 (nI_add _ _) ?_
      refine J_aload_n (pc := 15) dX6_copies_15 rfl ?_
      refine J_getR (pc := 16) dX6_copies_16 fX6_7 sh131 rfl ?_
      refine J_iload_n (pc := 19) dX6_copies_19 rfl ?_
      refine J_iload_n (pc := 20) dX6_copies_20 rfl ?_
      refine J_iadd (pc := 21) dX6_copies_21 (nI_add _ _) ?_
      refine J_iald (pc := 22) dX6_copies_22 sh132 (rfl) (by omega) (mset_out (by omega)) (by decide) ?_
      refine J_iast (pc := 23) dX6_copies_23 sh132 (rfl) (by omega) (by decide) ?_
      rw [mset_up (i := o + k) k (by omega) rfl, show h 132 (a + k) = pg h a k from rfl, cpP_s]
      refine J_iinc (pc := 24) dX6_copies_24 rfl (v := nI (k + 1)) (by exact nI_add _ _) (by decide) ?_
      refine J_goto (pc := 27) (tgt := 2) dX6_copies_27 (by decide) ?_
      exact J_ls (ls' := [(0, .ref 131), (1, .int (nI a)), (2, .int (nI o)), (3, .int (nI (k + 1)))]) ⟨rfl, rfl, rfl, rfl, trivial⟩ (ih (k + 1)  (by omega) (by omega) )
set_option maxHeartbeats 4000000 in
theorem c6_copies {g : jG} {d : Nat} {h : jH} {a o : Nat} (ha : a + 69 ≤ 414) (ho : o + 69 ≤ 414) (hd : a + 69 ≤ o ∨ o + 69 ≤ a) : Mv g d YX6_copies h [.ref 131, .int (nI a), .int (nI o)] (fun h' => h' = mset h o (pg h a)) := by
  refine M.of (by decide) rfl (Nat.le_of_ble_eq_true rfl) ?_
  refine J_iconst (pc := 0) (v := nI 0) dX6_copies_0 (by decide) ?_
  refine J_istore_n (pc := 1) dX6_copies_1 (by decide) ?_
  refine J_ls (ls' := [(0, .ref 131), (1, .int (nI a)), (2, .int (nI o)), (3, .int (nI 0))]) ⟨rfl, rfl, rfl, rfl, trivial⟩ ?_
  refine J_h (show h = mset h o (cpP 0 (pg h a) (pg h o)) from ?_) ?_
  · exact (mset_pg (h := h) (o := o)).symm.trans (mset_cong (fun k _ => by simp [cpP]))
  refine l6_copies ha ho hd ?_ 70 0 (Nat.zero_le _) (by omega)
  refine K_ret (pc := 30) dX6_copies_30 rfl ?_
  exact mset_cong (fun k hk => by simp [cpP, hk])
set_option maxHeartbeats 4000000 in
theorem l6_bitsOf {g : jG} {d : Nat} {h : jH} {Q : kQ} {x : Int32} (kx : K g d YX6_bitsOf (h) 23 [(0, .int x), (1, .int (sumZ (fun k => (x >>> (nI k &&& 31)) &&& nI 1) 4)), (2, .int (nI 4))] [] Q) : ∀ (m k : Nat) , k ≤ 4 → 4 < k + m → K g d YX6_bitsOf (h) 4 [(0, .int x), (1, .int (sumZ (fun k => (x >>> (nI k &&& 31)) &&& nI 1) k)), (2, .int (nI k))] [] Q := by
  intro m
  induction m with
  | zero => intro k  hk1 hk2 ; omega
  | succ m ih =>
    intro k  hk1 hk2 
    refine J_iload_n (pc := 4) dX6_bitsOf_4 rfl ?_
    refine J_iconst (pc := 5) (v := nI 4) dX6_bitsOf_5 (by decide) ?_
    refine J_icmp_ge (pc := 6) (tgt := 23) dX6_bitsOf_6 (by decide) (fun c6 => ?_) (fun c6 => ?_)
    · skip
      have q6 : 4 ≤ k := (nI_leI (by omega) (by omega)).mp c6
      have e_k : k = 4 := by omega
      refine J_ls (ls' := [(0, .int x), (1, .int (sumZ (fun k => (x >>> (nI k &&& 31)) &&& nI 1) k)), (2, .int (nI k))]) ⟨rfl, rfl, rfl, trivial⟩ ?_
      rw [e_k]
      exact kx
    · skip
      have q6 : k < 4 := Nat.lt_of_not_le (fun z => c6 ((nI_leI (by omega) (by omega)).mpr z))
      refine J_iload_n (pc := 9) dX6_bitsOf_9 rfl ?_
      refine J_iload_n (pc := 10) dX6_bitsOf_10 rfl ?_
      refine J_iload_n (pc := 11) dX6_bitsOf_11 rfl ?_
      refine J_ishr (pc := 12) dX6_bitsOf_12 (rfl) ?_
      refine J_iconst (pc := 13) (v := nI 1) dX6_bitsOf_13 (by decide) ?_
      refine J_iand (pc := 14) dX6_bitsOf_14 (rfl) ?_
      refine J_iadd (pc := 15) dX6_bitsOf_15 (rfl) ?_
      refine J_istore_n (pc := 16) dX6_bitsOf_16 (by decide) ?_
      refine J_iinc (pc := 17) dX6_bitsOf_17 rfl (v := nI (k + 1)) (by exact nI_add _ _) (by decide) ?_
      refine J_goto (pc := 20) (tgt := 4) dX6_bitsOf_20 (by decide) ?_
      exact J_ls (ls' := [(0, .int x), (1, .int (sumZ (fun k => (x >>> (nI k &&& 31)) &&& nI 1) (k + 1))), (2, .int (nI (k + 1)))]) ⟨rfl, rfl, rfl, trivial⟩ (ih (k + 1)  (by omega) (by omega) )
set_option maxHeartbeats 4000000 in
theorem c6_bitsOf {g : jG} {d : Nat} {h : jH} {x : Int32} : Mi g d YX6_bitsOf h [.int x] (fun r h' => h' = h ∧ r = bitsF x) := by
  refine M.of (by decide) rfl (Nat.le_of_ble_eq_true rfl) ?_
  refine J_iconst (pc := 0) (v := nI 0) dX6_bitsOf_0 (by decide) ?_
  refine J_istore_n (pc := 1) dX6_bitsOf_1 (by decide) ?_
  refine J_iconst (pc := 2) (v := nI 0) dX6_bitsOf_2 (by decide) ?_
  refine J_istore_n (pc := 3) dX6_bitsOf_3 (by decide) ?_
  refine J_ls (ls' := [(0, .int x), (1, .int (nI 0)), (2, .int (nI 0))]) ⟨rfl, rfl, rfl, trivial⟩ ?_
  refine l6_bitsOf ?_ 5 0 (Nat.zero_le _) (by omega)
  refine J_iload_n (pc := 23) dX6_bitsOf_23 rfl ?_
  refine K_iret (pc := 24) dX6_bitsOf_24 rfl ?_
  exact ⟨rfl, rfl⟩
set_option maxHeartbeats 4000000 in
theorem c6_puts1 {g : jG} {d : Nat} {h : jH} {i : Nat} {v l : Int32} (hi : i < 414) : Mi g d YX6_puts h [.ref 131, .int (nI 1), .int (nI i), .int v, .int l] (fun r h' => h' = j_up h 132 i (v - l) ∧ r = h 132 i + l) := by
  refine M.of (by decide) rfl (Nat.le_of_ble_eq_true rfl) ?_
  refine J_iload_n (pc := 0) dX6_puts_0 rfl ?_
  refine J_if_ne (pc := 1) (tgt := 6) dX6_puts_1 (by decide) (fun _ => ?_) (fun c => absurd c (by decide))
  refine J_aload_n (pc := 6) dX6_puts_6 rfl ?_
  refine J_getR (pc := 7) dX6_puts_7 fX6_7 sh131 rfl ?_
  refine J_iload_n (pc := 10) dX6_puts_10 rfl ?_
  refine J_iald (pc := 11) dX6_puts_11 sh132 (rfl) (by omega) (rfl) (by decide) ?_
  refine J_iload (pc := 12) dX6_puts_12 rfl ?_
  refine J_iadd (pc := 14) dX6_puts_14 (rfl) ?_
  refine J_istore (pc := 15) dX6_puts_15 (by decide) ?_
  refine J_aload_n (pc := 17) dX6_puts_17 rfl ?_
  refine J_getR (pc := 18) dX6_puts_18 fX6_7 sh131 rfl ?_
  refine J_iload_n (pc := 21) dX6_puts_21 rfl ?_
  refine J_iload_n (pc := 22) dX6_puts_22 rfl ?_
  refine J_iload (pc := 23) dX6_puts_23 rfl ?_
  refine J_isub (pc := 25) dX6_puts_25 (rfl) ?_
  refine J_iast (pc := 26) dX6_puts_26 sh132 (rfl) (by omega) (by decide) ?_
  refine J_iload (pc := 27) dX6_puts_27 rfl ?_
  refine K_iret (pc := 29) dX6_puts_29 rfl ?_
  exact ⟨rfl, rfl⟩
set_option maxHeartbeats 4000000 in
theorem c6_puts0 {g : jG} {d : Nat} {h : jH} {i v l : Int32} : Mi g d YX6_puts h [.ref 131, .int (nI 0), .int i, .int v, .int l] (fun r h' => h' = h ∧ r = -1) := by
  refine M.of (by decide) rfl (Nat.le_of_ble_eq_true rfl) ?_
  refine J_iload_n (pc := 0) dX6_puts_0 rfl ?_
  refine J_if_ne (pc := 1) (tgt := 6) dX6_puts_1 (by decide) (fun c => absurd c (by decide)) (fun _ => ?_)
  refine J_iconst (pc := 4) (v := -1) dX6_puts_4 (by decide) ?_
  refine K_iret (pc := 5) dX6_puts_5 rfl ?_
  exact ⟨rfl, rfl⟩
set_option maxHeartbeats 4000000 in
theorem l6_netOf {g : jG} {d : Nat} {h : jH} {Q : kQ} {n p : Nat} (hn : h 131 2 = nI n) (hn4 : n ≤ 4) (hp : p < 4) (kx : K g d YX6_netOf (h) 48 [(0, .ref 131), (1, .int (nI p)), (2, .int (sumZ (fun q => pg h 0 (53 + 4 * q + p) - pg h 0 (53 + 4 * p + q)) n)), (3, .int (nI n))] [] Q) : ∀ (m k : Nat) , k ≤ n → n < k + m → K g d YX6_netOf (h) 4 [(0, .ref 131), (1, .int (nI p)), (2, .int (sumZ (fun q => pg h 0 (53 + 4 * q + p) - pg h 0 (53 + 4 * p + q)) k)), (3, .int (nI k))] [] Q := by
  intro m
  induction m with
  | zero => intro k  hk1 hk2 ; omega
  | succ m ih =>
    intro k  hk1 hk2 
    refine J_iload_n (pc := 4) dX6_netOf_4 rfl ?_
    refine J_aload_n (pc := 5) dX6_netOf_5 rfl ?_
    refine J_getI (pc := 6) dX6_netOf_6 fX6_148 sh131 rfl (hn) ?_
    refine J_icmp_ge (pc := 9) (tgt := 48) dX6_netOf_9 (by decide) (fun c9 => ?_) (fun c9 => ?_)
    · skip
      have q9 : n ≤ k := (nI_leI (by omega) (by omega)).mp c9
      have e_k : k = n := by omega
      refine J_ls (ls' := [(0, .ref 131), (1, .int (nI p)), (2, .int (sumZ (fun q => pg h 0 (53 + 4 * q + p) - pg h 0 (53 + 4 * p + q)) k)), (3, .int (nI k))]) ⟨rfl, rfl, rfl, rfl, trivial⟩ ?_
      rw [e_k]
      exact kx
    · skip
      have q9 : k < n := Nat.lt_of_not_le (fun z => c9 ((nI_leI (by omega) (by omega)).mpr z))
      refine J_iload_n (pc := 12) dX6_netOf_12 rfl ?_
      refine J_aload_n (pc := 13) dX6_netOf_13 rfl ?_
      refine J_getR (pc := 14) dX6_netOf_14 fX6_7 sh131 rfl ?_
      refine J_bipush (pc := 17) (v := nI 53) dX6_netOf_17 (by decide) ?_
      refine J_iconst (pc := 19) (v := nI 4) dX6_netOf_19 (by decide) ?_
      refine J_iload_n (pc := 20) dX6_netOf_20 rfl ?_
      refine J_imul (pc := 21) dX6_netOf_21 (pk_mul _ _) ?_
      refine J_iadd (pc := 22) dX6_netOf_22 (nI_add _ _) ?_
      refine J_iload_n (pc := 23) dX6_netOf_23 rfl ?_
      refine J_iadd (pc := 24) dX6_netOf_24 (nI_add _ _) ?_
      refine J_iald (pc := 25) dX6_netOf_25 sh132 (rfl) (by omega) ((show h 132 (53 + 4 * k + p) = pg h 0 (53 + 4 * k + p) by unfold pg; rw [Nat.zero_add])) (by decide) ?_
      refine J_aload_n (pc := 26) dX6_netOf_26 rfl ?_
      refine J_getR (pc := 27) dX6_netOf_27 fX6_7 sh131 rfl ?_
      refine J_bipush (pc := 30) (v := nI 53) dX6_netOf_30 (by decide) ?_
      refine J_iconst (pc := 32) (v := nI 4) dX6_netOf_32 (by decide) ?_
      refine J_iload_n (pc := 33) dX6_netOf_33 rfl ?_
      refine J_imul (pc := 34) dX6_netOf_34 (pk_mul _ _) ?_
      refine J_iadd (pc := 35) dX6_netOf_35 (nI_add _ _) ?_
      refine J_iload_n (pc := 36) dX6_netOf_36 rfl ?_
      refine J_iadd (pc := 37) dX6_netOf_37 (nI_add _ _) ?_
      refine J_iald (pc := 38) dX6_netOf_38 sh132 (rfl) (by omega) ((show h 132 (53 + 4 * p + k) = pg h 0 (53 + 4 * p + k) by unfold pg; rw [Nat.zero_add])) (by decide) ?_
      refine J_isub (pc := 39) dX6_netOf_39 (rfl) ?_
      refine J_iadd (pc := 40) dX6_netOf_40 (rfl) ?_
      refine J_istore_n (pc := 41) dX6_netOf_41 (by decide) ?_
      refine J_iinc (pc := 42) dX6_netOf_42 rfl (v := nI (k + 1)) (by exact nI_add _ _) (by decide) ?_
      refine J_goto (pc := 45) (tgt := 4) dX6_netOf_45 (by decide) ?_
      exact J_ls (ls' := [(0, .ref 131), (1, .int (nI p)), (2, .int (sumZ (fun q => pg h 0 (53 + 4 * q + p) - pg h 0 (53 + 4 * p + q)) (k + 1))), (3, .int (nI (k + 1)))]) ⟨rfl, rfl, rfl, rfl, trivial⟩ (ih (k + 1)  (by omega) (by omega) )
set_option maxHeartbeats 4000000 in
theorem c6_netOf {g : jG} {d : Nat} {h : jH} {n p : Nat} (hn : h 131 2 = nI n) (hn4 : n ≤ 4) (hp : p < 4) : Mi g d YX6_netOf h [.ref 131, .int (nI p)] (fun r h' => h' = h ∧ r = netP n p (pg h 0)) := by
  refine M.of (by decide) rfl (Nat.le_of_ble_eq_true rfl) ?_
  refine J_iconst (pc := 0) (v := nI 0) dX6_netOf_0 (by decide) ?_
  refine J_istore_n (pc := 1) dX6_netOf_1 (by decide) ?_
  refine J_iconst (pc := 2) (v := nI 0) dX6_netOf_2 (by decide) ?_
  refine J_istore_n (pc := 3) dX6_netOf_3 (by decide) ?_
  refine J_ls (ls' := [(0, .ref 131), (1, .int (nI p)), (2, .int (nI 0)), (3, .int (nI 0))]) ⟨rfl, rfl, rfl, rfl, trivial⟩ ?_
  refine l6_netOf hn hn4 hp ?_ (n + 1) 0 (Nat.zero_le _) (by omega)
  refine J_iload_n (pc := 48) dX6_netOf_48 rfl ?_
  refine K_iret (pc := 49) dX6_netOf_49 rfl ?_
  exact ⟨rfl, rfl⟩
