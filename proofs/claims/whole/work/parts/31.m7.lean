set_option maxHeartbeats 4000000 in
theorem l4_belowFloor {g : jG} {d : Nat} {h : jH} {Q : kQ} {v n : Nat} {P : Nat → Int32} (hv : isV v) (hX : XV n P h v) (hn4 : n ≤ 4) (kx : K g d YX4_belowFloor (h) 37 [(0, .ref v), (1, .int (blw (fun p => P (8 + p)) (P 42 + nI 5) n)), (2, .int (nI n))] [] Q) : ∀ (m k : Nat) , k ≤ n → n < k + m → K g d YX4_belowFloor (h) 4 [(0, .ref v), (1, .int (blw (fun p => P (8 + p)) (P 42 + nI 5) k)), (2, .int (nI k))] [] Q := by
  intro m
  induction m with
  | zero => intro k  hk1 hk2 ; omega
  | succ m ih =>
    intro k  hk1 hk2 
    refine J_iload_n (pc := 4) dX4_belowFloor_4 rfl ?_
    refine J_aload_n (pc := 5) dX4_belowFloor_5 rfl ?_
    refine J_getI (pc := 6) dX4_belowFloor_6 fX4_35 (sv0 hv) rfl (hX.1) ?_
    refine J_icmp_ge (pc := 9) (tgt := 37) dX4_belowFloor_9 (by decide) (fun c9 => ?_) (fun c9 => ?_)
    · skip
      have q9 : n ≤ k := (nI_leI (by omega) (by omega)).mp c9
      have e_k : k = n := by omega
      refine J_ls (ls' := [(0, .ref v), (1, .int (blw (fun p => P (8 + p)) (P 42 + nI 5) k)), (2, .int (nI k))]) ⟨rfl, rfl, rfl, trivial⟩ ?_
      rw [e_k]
      exact kx
    · skip
      have q9 : k < n := Nat.lt_of_not_le (fun z => c9 ((nI_leI (by omega) (by omega)).mpr z))
      refine J_aload_n (pc := 12) dX4_belowFloor_12 rfl ?_
      refine J_getR (pc := 13) dX4_belowFloor_13 fX4_16 (sv0 hv) rfl ?_
      refine J_iload_n (pc := 16) dX4_belowFloor_16 rfl ?_
      refine J_iald (pc := 17) dX4_belowFloor_17 (sv4 hv) (rfl) (by omega) ((hX.2.1 k q9).2.2) (by decide) ?_
      refine J_aload_n (pc := 18) dX4_belowFloor_18 rfl ?_
      refine J_getI (pc := 19) dX4_belowFloor_19 fX4_42 (sv0 hv) rfl (hX.2.2.2.2.2.1) ?_
      refine J_icmp_ge (pc := 22) (tgt := 31) dX4_belowFloor_22 (by decide) (fun c22 => ?_) (fun c22 => ?_)
      · skip
        refine J_iinc (pc := 31) dX4_belowFloor_31 rfl (v := nI (k + 1)) (by exact nI_add _ _) (by decide) ?_
        refine J_goto (pc := 34) (tgt := 4) dX4_belowFloor_34 (by decide) ?_
        have i := ih (k + 1) (by omega) (by omega)
        first | rw [blw, if_pos c22] at i | rw [blw, if_neg c22] at i
        refine J_ls ?_ i
        exact ⟨rfl, rfl, rfl, trivial⟩
      · skip
        refine J_iload_n (pc := 25) dX4_belowFloor_25 rfl ?_
        refine J_iconst (pc := 26) (v := nI 1) dX4_belowFloor_26 (by decide) ?_
        refine J_iload_n (pc := 27) dX4_belowFloor_27 rfl ?_
        refine J_ishl (pc := 28) dX4_belowFloor_28 (rfl) ?_
        refine J_ior (pc := 29) dX4_belowFloor_29 (rfl) ?_
        refine J_istore_n (pc := 30) dX4_belowFloor_30 (by decide) ?_
        refine J_iinc (pc := 31) dX4_belowFloor_31 rfl (v := nI (k + 1)) (by exact nI_add _ _) (by decide) ?_
        refine J_goto (pc := 34) (tgt := 4) dX4_belowFloor_34 (by decide) ?_
        have i := ih (k + 1) (by omega) (by omega)
        first | rw [blw, if_pos c22] at i | rw [blw, if_neg c22] at i
        refine J_ls ?_ i
        exact ⟨rfl, rfl, rfl, trivial⟩
set_option maxHeartbeats 4000000 in
theorem c4_belowFloor {g : jG} {d : Nat} {h : jH} {v n : Nat} {P : Nat → Int32} (hv : isV v) (hX : XV n P h v) (hn4 : n ≤ 4) : Mi g d YX4_belowFloor h [.ref v] (fun r h' => h' = h ∧ r = blw (fun p => P (8 + p)) (P 42 + nI 5) n) := by
  refine M.of (by decide) rfl (Nat.le_of_ble_eq_true rfl) ?_
  refine J_iconst (pc := 0) (v := nI 0) dX4_belowFloor_0 (by decide) ?_
  refine J_istore_n (pc := 1) dX4_belowFloor_1 (by decide) ?_
  refine J_iconst (pc := 2) (v := nI 0) dX4_belowFloor_2 (by decide) ?_
  refine J_istore_n (pc := 3) dX4_belowFloor_3 (by decide) ?_
  refine J_ls (ls' := [(0, .ref v), (1, .int (nI 0)), (2, .int (nI 0))]) ⟨rfl, rfl, rfl, trivial⟩ ?_
  refine l4_belowFloor hv hX hn4 ?_ (n + 1) 0 (Nat.zero_le _) (by omega)
  refine J_iload_n (pc := 37) dX4_belowFloor_37 rfl ?_
  refine K_iret (pc := 38) dX4_belowFloor_38 rfl ?_
  exact ⟨rfl, rfl⟩
set_option maxHeartbeats 4000000 in
theorem l4_coversWith {g : jG} {d : Nat} {h : jH} {Q : kQ} {v n : Nat} {P : Nat → Int32} (hv : isV v) (hX : XV n P h v) (hc : nb 6 (P 37)) {t : Nat} {p : Int32} (ht : t < 5) (kx : K g d YX4_coversWith (h) 40 [(0, .ref v), (1, .int (nI t)), (2, .int p), (3, .int (cwF (fun c => P (12 + 5 * c + t)) p (ix (P 37)))), (4, .int (nI (ix (P 37))))] [] Q) : ∀ (m k : Nat) , k ≤ (ix (P 37)) → (ix (P 37)) < k + m → K g d YX4_coversWith (h) 5 [(0, .ref v), (1, .int (nI t)), (2, .int p), (3, .int (cwF (fun c => P (12 + 5 * c + t)) p k)), (4, .int (nI k))] [] Q := by
  intro m
  induction m with
  | zero => intro k  hk1 hk2 ; omega
  | succ m ih =>
    intro k  hk1 hk2 
    have c6 := hc.2
    refine J_iload (pc := 5) dX4_coversWith_5 rfl ?_
    refine J_aload_n (pc := 7) dX4_coversWith_7 rfl ?_
    refine J_getI (pc := 8) dX4_coversWith_8 fX4_39 (sv0 hv) rfl (hX.2.2.1.trans hc.1) ?_
    refine J_icmp_ge (pc := 11) (tgt := 40) dX4_coversWith_11 (by decide) (fun c11 => ?_) (fun c11 => ?_)
    · skip
      have q11 : (ix (P 37)) ≤ k := (nI_leI (by omega) (by omega)).mp c11
      have e_k : k = (ix (P 37)) := by omega
      refine J_ls (ls' := [(0, .ref v), (1, .int (nI t)), (2, .int p), (3, .int (cwF (fun c => P (12 + 5 * c + t)) p k)), (4, .int (nI k))]) ⟨rfl, rfl, rfl, rfl, rfl, trivial⟩ ?_
      rw [e_k]
      exact kx
    · skip
      have q11 : k < (ix (P 37)) := Nat.lt_of_not_le (fun z => c11 ((nI_leI (by omega) (by omega)).mpr z))
      refine J_aload_n (pc := 14) dX4_coversWith_14 rfl ?_
      refine J_getR (pc := 15) dX4_coversWith_15 fX4_20 (sv0 hv) rfl ?_
      refine J_iload_n (pc := 18) dX4_coversWith_18 rfl ?_
      refine J_aald (pc := 19) dX4_coversWith_19 (sv5 hv) j_k2 (rfl) (termsR (by omega)) (Nat.le_of_ble_eq_true rfl) ?_
      refine J_iload (pc := 20) dX4_coversWith_20 rfl ?_
      refine J_iald (pc := 22) dX4_coversWith_22 (termsRS hv (by omega)) (rfl) (by omega) (hX.2.2.2.1 k q11 t ht) (by decide) ?_
      refine J_iload_n (pc := 23) dX4_coversWith_23 rfl ?_
      refine J_icmp_ne (pc := 24) (tgt := 34) dX4_coversWith_24 (by decide) (fun c24 => ?_) (fun c24 => ?_)
      · skip
        refine J_iinc (pc := 34) dX4_coversWith_34 rfl (v := nI (k + 1)) (by exact nI_add _ _) (by decide) ?_
        refine J_goto (pc := 37) (tgt := 5) dX4_coversWith_37 (by decide) ?_
        have i := ih (k + 1) (by omega) (by omega)
        first | rw [cwF, if_pos c24] at i | rw [cwF, if_neg c24] at i
        refine J_ls ?_ i
        exact ⟨rfl, rfl, rfl, rfl, rfl, trivial⟩
      · skip
        refine J_iload_n (pc := 27) dX4_coversWith_27 rfl ?_
        refine J_iconst (pc := 28) (v := nI 1) dX4_coversWith_28 (by decide) ?_
        refine J_iload (pc := 29) dX4_coversWith_29 rfl ?_
        refine J_ishl (pc := 31) dX4_coversWith_31 (rfl) ?_
        refine J_ior (pc := 32) dX4_coversWith_32 (rfl) ?_
        refine J_istore_n (pc := 33) dX4_coversWith_33 (by decide) ?_
        refine J_iinc (pc := 34) dX4_coversWith_34 rfl (v := nI (k + 1)) (by exact nI_add _ _) (by decide) ?_
        refine J_goto (pc := 37) (tgt := 5) dX4_coversWith_37 (by decide) ?_
        have i := ih (k + 1) (by omega) (by omega)
        first | rw [cwF, if_pos c24] at i | rw [cwF, if_neg c24] at i
        refine J_ls ?_ i
        exact ⟨rfl, rfl, rfl, rfl, rfl, trivial⟩
set_option maxHeartbeats 4000000 in
theorem c4_coversWith {g : jG} {d : Nat} {h : jH} {v n : Nat} {P : Nat → Int32} (hv : isV v) (hX : XV n P h v) (hc : nb 6 (P 37)) {t : Nat} {p : Int32} (ht : t < 5) : Mi g d YX4_coversWith h [.ref v, .int (nI t), .int p] (fun r h' => h' = h ∧ r = cwF (fun c => P (12 + 5 * c + t)) p (ix (P 37))) := by
  refine M.of (by decide) rfl (Nat.le_of_ble_eq_true rfl) ?_
  refine J_iconst (pc := 0) (v := nI 0) dX4_coversWith_0 (by decide) ?_
  refine J_istore_n (pc := 1) dX4_coversWith_1 (by decide) ?_
  refine J_iconst (pc := 2) (v := nI 0) dX4_coversWith_2 (by decide) ?_
  refine J_istore (pc := 3) dX4_coversWith_3 (by decide) ?_
  refine J_ls (ls' := [(0, .ref v), (1, .int (nI t)), (2, .int p), (3, .int (nI 0)), (4, .int (nI 0))]) ⟨rfl, rfl, rfl, rfl, rfl, trivial⟩ ?_
  refine l4_coversWith hv hX hc ht ?_ (ix (P 37) + 1) 0 (Nat.zero_le _) (by omega)
  refine J_iload_n (pc := 40) dX4_coversWith_40 rfl ?_
  refine K_iret (pc := 41) dX4_coversWith_41 rfl ?_
  exact ⟨rfl, rfl⟩
set_option maxHeartbeats 4000000 in
theorem l4_allPurses {g : jG} {d : Nat} {h : jH} {Q : kQ} {v n : Nat} {P : Nat → Int32} (hv : isV v) (hX : XV n P h v) (hn4 : n ≤ 4) (kx : K g d YX4_allPurses (h) 27 [(0, .ref v), (1, .int (sumZ (fun p => P (8 + p)) n)), (2, .int (nI n))] [] Q) : ∀ (m k : Nat) , k ≤ n → n < k + m → K g d YX4_allPurses (h) 4 [(0, .ref v), (1, .int (sumZ (fun p => P (8 + p)) k)), (2, .int (nI k))] [] Q := by
  intro m
  induction m with
  | zero => intro k  hk1 hk2 ; omega
  | succ m ih =>
    intro k  hk1 hk2 
    refine J_iload_n (pc := 4) dX4_allPurses_4 rfl ?_
    refine J_aload_n (pc := 5) dX4_allPurses_5 rfl ?_
    refine J_getI (pc := 6) dX4_allPurses_6 fX4_35 (sv0 hv) rfl (hX.1) ?_
    refine J_icmp_ge (pc := 9) (tgt := 27) dX4_allPurses_9 (by decide) (fun c9 => ?_) (fun c9 => ?_)
    · skip
      have q9 : n ≤ k := (nI_leI (by omega) (by omega)).mp c9
      have e_k : k = n := by omega
      refine J_ls (ls' := [(0, .ref v), (1, .int (sumZ (fun p => P (8 + p)) k)), (2, .int (nI k))]) ⟨rfl, rfl, rfl, trivial⟩ ?_
      rw [e_k]
      exact kx
    · skip
      have q9 : k < n := Nat.lt_of_not_le (fun z => c9 ((nI_leI (by omega) (by omega)).mpr z))
      refine J_iload_n (pc := 12) dX4_allPurses_12 rfl ?_
      refine J_aload_n (pc := 13) dX4_allPurses_13 rfl ?_
      refine J_getR (pc := 14) dX4_allPurses_14 fX4_16 (sv0 hv) rfl ?_
      refine J_iload_n (pc := 17) dX4_allPurses_17 rfl ?_
      refine J_iald (pc := 18) dX4_allPurses_18 (sv4 hv) (rfl) (by omega) ((hX.2.1 k q9).2.2) (by decide) ?_
      refine J_iadd (pc := 19) dX4_allPurses_19 (rfl) ?_
      refine J_istore_n (pc := 20) dX4_allPurses_20 (by decide) ?_
      refine J_iinc (pc := 21) dX4_allPurses_21 rfl (v := nI (k + 1)) (by exact nI_add _ _) (by decide) ?_
      refine J_goto (pc := 24) (tgt := 4) dX4_allPurses_24 (by decide) ?_
      exact J_ls (ls' := [(0, .ref v), (1, .int (sumZ (fun p => P (8 + p)) (k + 1))), (2, .int (nI (k + 1)))]) ⟨rfl, rfl, rfl, trivial⟩ (ih (k + 1)  (by omega) (by omega) )
set_option maxHeartbeats 4000000 in
theorem c4_allPurses {g : jG} {d : Nat} {h : jH} {v n : Nat} {P : Nat → Int32} (hv : isV v) (hX : XV n P h v) (hn4 : n ≤ 4) : Mi g d YX4_allPurses h [.ref v] (fun r h' => h' = h ∧ r = sumZ (fun p => P (8 + p)) n) := by
  refine M.of (by decide) rfl (Nat.le_of_ble_eq_true rfl) ?_
  refine J_iconst (pc := 0) (v := nI 0) dX4_allPurses_0 (by decide) ?_
  refine J_istore_n (pc := 1) dX4_allPurses_1 (by decide) ?_
  refine J_iconst (pc := 2) (v := nI 0) dX4_allPurses_2 (by decide) ?_
  refine J_istore_n (pc := 3) dX4_allPurses_3 (by decide) ?_
  refine J_ls (ls' := [(0, .ref v), (1, .int (nI 0)), (2, .int (nI 0))]) ⟨rfl, rfl, rfl, trivial⟩ ?_
  refine l4_allPurses hv hX hn4 ?_ (n + 1) 0 (Nat.zero_le _) (by omega)
  refine J_iload_n (pc := 27) dX4_allPurses_27 rfl ?_
  refine K_iret (pc := 28) dX4_allPurses_28 rfl ?_
  exact ⟨rfl, rfl⟩
set_option maxHeartbeats 4000000 in
theorem l4_balanceOf {g : jG} {d : Nat} {h : jH} {Q : kQ} {v n : Nat} {P : Nat → Int32} (hv : isV v) (hX : XV n P h v) (hn4 : n ≤ 4) {p : Nat} (hp : p < 4) (kx : K g d YX4_balanceOf (h) 38 [(0, .ref v), (1, .int (nI p)), (2, .int (sumZ (fun q => P (53 + 4 * q + p) - P (53 + 4 * p + q)) n)), (3, .int (nI n))] [] Q) : ∀ (m k : Nat) , k ≤ n → n < k + m → K g d YX4_balanceOf (h) 4 [(0, .ref v), (1, .int (nI p)), (2, .int (sumZ (fun q => P (53 + 4 * q + p) - P (53 + 4 * p + q)) k)), (3, .int (nI k))] [] Q := by
  intro m
  induction m with
  | zero => intro k  hk1 hk2 ; omega
  | succ m ih =>
    intro k  hk1 hk2 
    refine J_iload_n (pc := 4) dX4_balanceOf_4 rfl ?_
    refine J_aload_n (pc := 5) dX4_balanceOf_5 rfl ?_
    refine J_getI (pc := 6) dX4_balanceOf_6 fX4_35 (sv0 hv) rfl (hX.1) ?_
    refine J_icmp_ge (pc := 9) (tgt := 38) dX4_balanceOf_9 (by decide) (fun c9 => ?_) (fun c9 => ?_)
    · skip
      have q9 : n ≤ k := (nI_leI (by omega) (by omega)).mp c9
      have e_k : k = n := by omega
      refine J_ls (ls' := [(0, .ref v), (1, .int (nI p)), (2, .int (sumZ (fun q => P (53 + 4 * q + p) - P (53 + 4 * p + q)) k)), (3, .int (nI k))]) ⟨rfl, rfl, rfl, rfl, trivial⟩ ?_
      rw [e_k]
      exact kx
    · skip
      have q9 : k < n := Nat.lt_of_not_le (fun z => c9 ((nI_leI (by omega) (by omega)).mpr z))
      refine J_iload_n (pc := 12) dX4_balanceOf_12 rfl ?_
      refine J_aload_n (pc := 13) dX4_balanceOf_13 rfl ?_
      refine J_getR (pc := 14) dX4_balanceOf_14 fX4_29 (sv0 hv) rfl ?_
      refine J_iload_n (pc := 17) dX4_balanceOf_17 rfl ?_
      refine J_aald (pc := 18) dX4_balanceOf_18 (sv13 hv) j_k2 (rfl) (debtsR (by omega)) (Nat.le_of_ble_eq_true rfl) ?_
      refine J_iload_n (pc := 19) dX4_balanceOf_19 rfl ?_
      refine J_iald (pc := 20) dX4_balanceOf_20 (debtsRS hv (by omega)) (rfl) (by omega) (hX.2.2.2.2.2.2.2.2 k p (by omega) hp) (by decide) ?_
      refine J_aload_n (pc := 21) dX4_balanceOf_21 rfl ?_
      refine J_getR (pc := 22) dX4_balanceOf_22 fX4_29 (sv0 hv) rfl ?_
      refine J_iload_n (pc := 25) dX4_balanceOf_25 rfl ?_
      refine J_aald (pc := 26) dX4_balanceOf_26 (sv13 hv) j_k2 (rfl) (debtsR (by omega)) (Nat.le_of_ble_eq_true rfl) ?_
      refine J_iload_n (pc := 27) dX4_balanceOf_27 rfl ?_
      refine J_iald (pc := 28) dX4_balanceOf_28 (debtsRS hv (by omega)) (rfl) (by omega) (hX.2.2.2.2.2.2.2.2 p k hp (by omega)) (by decide) ?_
      refine J_isub (pc := 29) dX4_balanceOf_29 (rfl) ?_
      refine J_iadd (pc := 30) dX4_balanceOf_30 (rfl) ?_
      refine J_istore_n (pc := 31) dX4_balanceOf_31 (by decide) ?_
      refine J_iinc (pc := 32) dX4_balanceOf_32 rfl (v := nI (k + 1)) (by exact nI_add _ _) (by decide) ?_
      refine J_goto (pc := 35) (tgt := 4) dX4_balanceOf_35 (by decide) ?_
      exact J_ls (ls' := [(0, .ref v), (1, .int (nI p)), (2, .int (sumZ (fun q => P (53 + 4 * q + p) - P (53 + 4 * p + q)) (k + 1))), (3, .int (nI (k + 1)))]) ⟨rfl, rfl, rfl, rfl, trivial⟩ (ih (k + 1)  (by omega) (by omega) )
set_option maxHeartbeats 4000000 in
theorem c4_balanceOf {g : jG} {d : Nat} {h : jH} {v n : Nat} {P : Nat → Int32} (hv : isV v) (hX : XV n P h v) (hn4 : n ≤ 4) {p : Nat} (hp : p < 4) : Mi g d YX4_balanceOf h [.ref v, .int (nI p)] (fun r h' => h' = h ∧ r = netP n p P) := by
  refine M.of (by decide) rfl (Nat.le_of_ble_eq_true rfl) ?_
  refine J_iconst (pc := 0) (v := nI 0) dX4_balanceOf_0 (by decide) ?_
  refine J_istore_n (pc := 1) dX4_balanceOf_1 (by decide) ?_
  refine J_iconst (pc := 2) (v := nI 0) dX4_balanceOf_2 (by decide) ?_
  refine J_istore_n (pc := 3) dX4_balanceOf_3 (by decide) ?_
  refine J_ls (ls' := [(0, .ref v), (1, .int (nI p)), (2, .int (nI 0)), (3, .int (nI 0))]) ⟨rfl, rfl, rfl, rfl, trivial⟩ ?_
  refine l4_balanceOf hv hX hn4 hp ?_ (n + 1) 0 (Nat.zero_le _) (by omega)
  refine J_iload_n (pc := 38) dX4_balanceOf_38 rfl ?_
  refine K_iret (pc := 39) dX4_balanceOf_39 rfl ?_
  exact ⟨rfl, rfl⟩
set_option maxHeartbeats 4000000 in
theorem l4_allDebts2 {g : jG} {d : Nat} {h : jH} {Q : kQ} {v n : Nat} {P : Nat → Int32} (hv : isV v) (hX : XV n P h v) (hn4 : n ≤ 4) {p : Nat} {s0 : Int32} (hp : p < 4) (kx : K g d YX4_allDebts (h) 39 [(0, .ref v), (1, .int (adF P p s0 n)), (2, .int (nI p)), (3, .int (nI n))] [] Q) : ∀ (m k : Nat) , k ≤ n → n < k + m → K g d YX4_allDebts (h) 14 [(0, .ref v), (1, .int (adF P p s0 k)), (2, .int (nI p)), (3, .int (nI k))] [] Q := by
  intro m
  induction m with
  | zero => intro k  hk1 hk2 ; omega
  | succ m ih =>
    intro k  hk1 hk2 
    refine J_iload_n (pc := 14) dX4_allDebts_14 rfl ?_
    refine J_aload_n (pc := 15) dX4_allDebts_15 rfl ?_
    refine J_getI (pc := 16) dX4_allDebts_16 fX4_35 (sv0 hv) rfl (hX.1) ?_
    refine J_icmp_ge (pc := 19) (tgt := 39) dX4_allDebts_19 (by decide) (fun c19 => ?_) (fun c19 => ?_)
    · skip
      have q19 : n ≤ k := (nI_leI (by omega) (by omega)).mp c19
      have e_k : k = n := by omega
      refine J_ls (ls' := [(0, .ref v), (1, .int (adF P p s0 k)), (2, .int (nI p)), (3, .int (nI k))]) ⟨rfl, rfl, rfl, rfl, trivial⟩ ?_
      rw [e_k]
      exact kx
    · skip
      have q19 : k < n := Nat.lt_of_not_le (fun z => c19 ((nI_leI (by omega) (by omega)).mpr z))
      refine J_iload_n (pc := 22) dX4_allDebts_22 rfl ?_
      refine J_aload_n (pc := 23) dX4_allDebts_23 rfl ?_
      refine J_getR (pc := 24) dX4_allDebts_24 fX4_29 (sv0 hv) rfl ?_
      refine J_iload_n (pc := 27) dX4_allDebts_27 rfl ?_
      refine J_aald (pc := 28) dX4_allDebts_28 (sv13 hv) j_k2 (rfl) (debtsR (by omega)) (Nat.le_of_ble_eq_true rfl) ?_
      refine J_iload_n (pc := 29) dX4_allDebts_29 rfl ?_
      refine J_iald (pc := 30) dX4_allDebts_30 (debtsRS hv (by omega)) (rfl) (by omega) (hX.2.2.2.2.2.2.2.2 p k hp (by omega)) (by decide) ?_
      refine J_iadd (pc := 31) dX4_allDebts_31 (rfl) ?_
      refine J_istore_n (pc := 32) dX4_allDebts_32 (by decide) ?_
      refine J_iinc (pc := 33) dX4_allDebts_33 rfl (v := nI (k + 1)) (by exact nI_add _ _) (by decide) ?_
      refine J_goto (pc := 36) (tgt := 14) dX4_allDebts_36 (by decide) ?_
      exact J_ls (ls' := [(0, .ref v), (1, .int (adF P p s0 (k + 1))), (2, .int (nI p)), (3, .int (nI (k + 1)))]) ⟨rfl, rfl, rfl, rfl, trivial⟩ (ih (k + 1)  (by omega) (by omega) )
set_option maxHeartbeats 4000000 in
theorem l4_allDebts1 {g : jG} {d : Nat} {h : jH} {Q : kQ} {v n : Nat} {P : Nat → Int32} (hv : isV v) (hX : XV n P h v) (hn4 : n ≤ 4) (kx : K g d YX4_allDebts (h) 45 [(0, .ref v), (1, .int (adG P n n)), (2, .int (nI n))] [] Q) : ∀ (m k : Nat) , k ≤ n → n < k + m → K g d YX4_allDebts (h) 4 [(0, .ref v), (1, .int (adG P n k)), (2, .int (nI k))] [] Q := by
  intro m
  induction m with
  | zero => intro k  hk1 hk2 ; omega
  | succ m ih =>
    intro k  hk1 hk2 
    refine J_iload_n (pc := 4) dX4_allDebts_4 rfl ?_
    refine J_aload_n (pc := 5) dX4_allDebts_5 rfl ?_
    refine J_getI (pc := 6) dX4_allDebts_6 fX4_35 (sv0 hv) rfl (hX.1) ?_
    refine J_icmp_ge (pc := 9) (tgt := 45) dX4_allDebts_9 (by decide) (fun c9 => ?_) (fun c9 => ?_)
    · skip
      have q9 : n ≤ k := (nI_leI (by omega) (by omega)).mp c9
      have e_k : k = n := by omega
      refine J_ls (ls' := [(0, .ref v), (1, .int (adG P n k)), (2, .int (nI k))]) ⟨rfl, rfl, rfl, trivial⟩ ?_
      rw [e_k]
      exact kx
    · skip
      have q9 : k < n := Nat.lt_of_not_le (fun z => c9 ((nI_leI (by omega) (by omega)).mpr z))
      refine J_iconst (pc := 12) (v := nI 0) dX4_allDebts_12 (by decide) ?_
      refine J_istore_n (pc := 13) dX4_allDebts_13 (by decide) ?_
      refine J_ls (ls' := [(0, .ref v), (1, .int (adF P k (adG P n k) 0)), (2, .int (nI k)), (3, .int (nI 0))]) ⟨rfl, rfl, rfl, rfl, trivial⟩ ?_
      refine l4_allDebts2 hv hX hn4 (by omega) ?_ (n + 1) 0 (Nat.zero_le _) (by omega)
      refine J_iinc (pc := 39) dX4_allDebts_39 rfl (v := nI (k + 1)) (by exact nI_add _ _) (by decide) ?_
      refine J_goto (pc := 42) (tgt := 4) dX4_allDebts_42 (by decide) ?_
      exact J_ls (ls' := [(0, .ref v), (1, .int (adG P n (k + 1))), (2, .int (nI (k + 1)))]) ⟨rfl, rfl, rfl, trivial⟩ (ih (k + 1) (by omega) (by omega))
set_option maxHeartbeats 4000000 in
theorem c4_allDebts {g : jG} {d : Nat} {h : jH} {v n : Nat} {P : Nat → Int32} (hv : isV v) (hX : XV n P h v) (hn4 : n ≤ 4) : Mi g d YX4_allDebts h [.ref v] (fun r h' => h' = h ∧ r = adG P n n) := by
  refine M.of (by decide) rfl (Nat.le_of_ble_eq_true rfl) ?_
  refine J_iconst (pc := 0) (v := nI 0) dX4_allDebts_0 (by decide) ?_
  refine J_istore_n (pc := 1) dX4_allDebts_1 (by decide) ?_
  refine J_iconst (pc := 2) (v := nI 0) dX4_allDebts_2 (by decide) ?_
  refine J_istore_n (pc := 3) dX4_allDebts_3 (by decide) ?_
  refine J_ls (ls' := [(0, .ref v), (1, .int (nI 0)), (2, .int (nI 0))]) ⟨rfl, rfl, rfl, trivial⟩ ?_
  refine l4_allDebts1 hv hX hn4 ?_ (n + 1) 0 (Nat.zero_le _) (by omega)
  refine J_iload_n (pc := 45) dX4_allDebts_45 rfl ?_
  refine K_iret (pc := 46) dX4_allDebts_46 rfl ?_
  exact ⟨rfl, rfl⟩
set_option maxHeartbeats 4000000 in
theorem c5_isOne {g : jG} {d : Nat} {h : jH} {n : Nat} {x : Int32} (hn : h 1 0 = nI n) (hn4 : n ≤ 4) : Mi g (d + 1) YX5_isOne h [.ref 0, .int x] (fun r h' => h' = h ∧ bq (nb n x) r) := by
  refine M.of (by decide) rfl (Nat.le_of_ble_eq_true rfl) ?_
  refine J_iload_n (pc := 0) dX5_isOne_0 rfl ?_
  refine J_iconst (pc := 1) (v := nI 0) dX5_isOne_1 (by decide) ?_
  refine J_aload_n (pc := 2) dX5_isOne_2 rfl ?_
  refine J_getR (pc := 3) dX5_isOne_3 fX5_10 sh0 rfl ?_
  refine J_getI (pc := 6) dX5_isOne_6 fX5_91 (sv0 isV1) rfl (hn) ?_
  refine J_iconst (pc := 9) (v := nI 1) dX5_isOne_9 (by decide) ?_
  refine J_isub (pc := 10) dX5_isOne_10 (rfl) ?_
  refine K_Si3 (pc := 11) (Y' := YX5_within) dX5_isOne_11 lX5_63 mX5_within sX5_within (Nat.le_of_ble_eq_true rfl) (c5_within) ?_
  rintro r h0 ⟨e0, hb⟩
  rw [e0]
  clear e0 h0
  refine K_zret (pc := 14) dX5_isOne_14 rfl (bq_z hb) ?_
  exact ⟨rfl, bq_congr hb (in_nb (by omega))⟩
set_option maxHeartbeats 4000000 in
theorem c5_isCover {g : jG} {d : Nat} {h : jH} {n : Nat} {x : Int32} (hn : h 1 3 = nI n) (hn4 : n ≤ 6) : Mi g (d + 1) YX5_isCover h [.ref 0, .int x] (fun r h' => h' = h ∧ bq (nb n x) r) := by
  refine M.of (by decide) rfl (Nat.le_of_ble_eq_true rfl) ?_
  refine J_iload_n (pc := 0) dX5_isCover_0 rfl ?_
  refine J_iconst (pc := 1) (v := nI 0) dX5_isCover_1 (by decide) ?_
  refine J_aload_n (pc := 2) dX5_isCover_2 rfl ?_
  refine J_getR (pc := 3) dX5_isCover_3 fX5_10 sh0 rfl ?_
  refine J_getI (pc := 6) dX5_isCover_6 fX5_94 (sv0 isV1) rfl (hn) ?_
  refine J_iconst (pc := 9) (v := nI 1) dX5_isCover_9 (by decide) ?_
  refine J_isub (pc := 10) dX5_isCover_10 (rfl) ?_
  refine K_Si3 (pc := 11) (Y' := YX5_within) dX5_isCover_11 lX5_63 mX5_within sX5_within (Nat.le_of_ble_eq_true rfl) (c5_within) ?_
  rintro r h0 ⟨e0, hb⟩
  rw [e0]
  clear e0 h0
  refine K_zret (pc := 14) dX5_isCover_14 rfl (bq_z hb) ?_
  exact ⟨rfl, bq_congr hb (in_nb (by omega))⟩
set_option maxHeartbeats 4000000 in
theorem c5_isWeather {g : jG} {d : Nat} {h : jH} {x : Int32} : Mi g (d + 1) YX5_isWeather h [.int x] (fun r h' => h' = h ∧ bq (nb 4 x) r) := by
  refine M.of (by decide) rfl (Nat.le_of_ble_eq_true rfl) ?_
  refine J_iload_n (pc := 0) dX5_isWeather_0 rfl ?_
  refine J_iconst (pc := 1) (v := nI 0) dX5_isWeather_1 (by decide) ?_
  refine J_iconst (pc := 2) (v := nI 3) dX5_isWeather_2 (by decide) ?_
  refine K_Si3 (pc := 3) (Y' := YX5_within) dX5_isWeather_3 lX5_63 mX5_within sX5_within (Nat.le_of_ble_eq_true rfl) (c5_within) ?_
  rintro r h0 ⟨e0, hb⟩
  rw [e0]
  clear e0 h0
  refine K_zret (pc := 6) dX5_isWeather_6 rfl (bq_z hb) ?_
  exact ⟨rfl, bq_congr hb (in_nbc (n := 3) rfl (by omega))⟩
set_option maxHeartbeats 4000000 in
theorem c5_isAhead {g : jG} {d : Nat} {h : jH} {x : Int32} : Mi g (d + 1) YX5_isAhead h [.int x] (fun r h' => h' = h ∧ bq (nb 5 x) r) := by
  refine M.of (by decide) rfl (Nat.le_of_ble_eq_true rfl) ?_
  refine J_iload_n (pc := 0) dX5_isAhead_0 rfl ?_
  refine J_iconst (pc := 1) (v := nI 0) dX5_isAhead_1 (by decide) ?_
  refine J_iconst (pc := 2) (v := nI 4) dX5_isAhead_2 (by decide) ?_
  refine K_Si3 (pc := 3) (Y' := YX5_within) dX5_isAhead_3 lX5_63 mX5_within sX5_within (Nat.le_of_ble_eq_true rfl) (c5_within) ?_
  rintro r h0 ⟨e0, hb⟩
  rw [e0]
  clear e0 h0
  refine K_zret (pc := 6) dX5_isAhead_6 rfl (bq_z hb) ?_
  exact ⟨rfl, bq_congr hb (in_nbc (n := 4) rfl (by omega))⟩
set_option maxHeartbeats 4000000 in
theorem c5_isSheet {g : jG} {d : Nat} {h : jH} {x : Int32} : Mi g (d + 1) YX5_isSheet h [.int x] (fun r h' => h' = h ∧ bq (nb 4 x) r) := by
  refine M.of (by decide) rfl (Nat.le_of_ble_eq_true rfl) ?_
  refine J_iload_n (pc := 0) dX5_isSheet_0 rfl ?_
  refine J_iconst (pc := 1) (v := nI 0) dX5_isSheet_1 (by decide) ?_
  refine J_iconst (pc := 2) (v := nI 3) dX5_isSheet_2 (by decide) ?_
  refine K_Si3 (pc := 3) (Y' := YX5_within) dX5_isSheet_3 lX5_63 mX5_within sX5_within (Nat.le_of_ble_eq_true rfl) (c5_within) ?_
  rintro r h0 ⟨e0, hb⟩
  rw [e0]
  clear e0 h0
  refine K_zret (pc := 6) dX5_isSheet_6 rfl (bq_z hb) ?_
  exact ⟨rfl, bq_congr hb (in_nbc (n := 3) rfl (by omega))⟩
set_option maxHeartbeats 4000000 in
theorem c5_isLane {g : jG} {d : Nat} {h : jH} {x : Int32} : Mi g (d + 1) YX5_isLane h [.int x] (fun r h' => h' = h ∧ bq (nb 3 x) r) := by
  refine M.of (by decide) rfl (Nat.le_of_ble_eq_true rfl) ?_
  refine J_iload_n (pc := 0) dX5_isLane_0 rfl ?_
  refine J_iconst (pc := 1) (v := nI 0) dX5_isLane_1 (by decide) ?_
  refine J_iconst (pc := 2) (v := nI 2) dX5_isLane_2 (by decide) ?_
  refine K_Si3 (pc := 3) (Y' := YX5_within) dX5_isLane_3 lX5_63 mX5_within sX5_within (Nat.le_of_ble_eq_true rfl) (c5_within) ?_
  rintro r h0 ⟨e0, hb⟩
  rw [e0]
  clear e0 h0
  refine K_zret (pc := 6) dX5_isLane_6 rfl (bq_z hb) ?_
  exact ⟨rfl, bq_congr hb (in_nbc (n := 2) rfl (by omega))⟩
