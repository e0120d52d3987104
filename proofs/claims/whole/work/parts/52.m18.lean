set_option maxHeartbeats 4000000 in
theorem l0_weight {g : jG} {d : Nat} {h : jH} {Q : kQ} {n c m : Nat} {P : Nat → Int32} (hG : GD n P) (hT : TR n P h) (hc : c < 256) (hm : m ≤ 4) (kx : K g d YX0_weightOf (h) 37 [(0, .ref 59), (1, .int (nI c)), (2, .int (nI m)), (3, .long (lN (wtF P c m))), (5, .int (nI m))] [] Q) : ∀ (mm k : Nat) , k ≤ m → m < k + mm → K g d YX0_weightOf (h) 5 [(0, .ref 59), (1, .int (nI c)), (2, .int (nI m)), (3, .long (lN (wtF P c k))), (5, .int (nI k))] [] Q := by
  intro mm
  induction mm with
  | zero => intro k  hk1 hk2 ; omega
  | succ mm ih =>
    intro k  hk1 hk2 
    obtain ⟨Q, hQ, kQ⟩ := id hT
    have cd : ∀ j, c / 4 ^ j < 2 ^ 31 := fun j => by have := Nat.div_le_self c (4 ^ j); omega
    have tw : ∀ w, w < 4 → h (60 + 11) w = nI (ix (P (38 + w) + fo w)) := fun w hw => by rw [hQ.2.2.2.2.1 w hw, kQ _ (by omega)]; exact (hG.2.2.2.2.1 w hw).1
    refine J_iload (pc := 5) dX0_weightOf_5 rfl ?_
    refine J_iload_n (pc := 7) dX0_weightOf_7 rfl ?_
    refine J_icmp_ge (pc := 8) (tgt := 37) dX0_weightOf_8 (by decide) (fun c8 => ?_) (fun c8 => ?_)
    · skip
      have q8 : m ≤ k := (nI_leI (by omega) (by omega)).mp c8
      have e_k : k = m := by omega
      refine J_ls (ls' := [(0, .ref 59), (1, .int (nI c)), (2, .int (nI m)), (3, .long (lN (wtF P c k))), (5, .int (nI k))]) ⟨rfl, rfl, rfl, rfl, rfl, trivial⟩ ?_
      rw [e_k]
      exact kx
    · skip
      have q8 : k < m := Nat.lt_of_not_le (fun z => c8 ((nI_leI (by omega) (by omega)).mpr z))
      refine J_lload_n (pc := 11) dX0_weightOf_11 rfl ?_
      refine J_aload_n (pc := 12) dX0_weightOf_12 rfl ?_
      refine J_getR (pc := 13) dX0_weightOf_13 fX0_12 sh59 rfl ?_
      refine J_getR (pc := 16) dX0_weightOf_16 fX0_79 (sv0 isV60) rfl ?_
      refine J_iload_n (pc := 19) dX0_weightOf_19 rfl ?_
      refine J_iconst (pc := 20) (v := nI 2) dX0_weightOf_20 (by decide) ?_
      refine J_iload (pc := 21) dX0_weightOf_21 rfl ?_
      refine J_imul (pc := 23) dX0_weightOf_23 (pk_mul _ _) ?_
      refine J_ishr (pc := 24) dX0_weightOf_24 (shr4 (by omega) (by omega)) ?_
      refine J_iconst (pc := 25) (v := nI 3) dX0_weightOf_25 (by decide) ?_
      refine J_iand (pc := 26) dX0_weightOf_26 (and3 (cd _)) ?_
      refine J_iald (pc := 27) dX0_weightOf_27 (sv11 isV60) (rfl) (Nat.mod_lt _ (by omega)) (tw _ (Nat.mod_lt _ (by omega))) (by decide) ?_
      refine J_i2l (pc := 28) dX0_weightOf_28 (nI_l (by have := (hG.2.2.2.2.1 (c / 4 ^ k % 4) (Nat.mod_lt _ (by omega))).2; omega)) ?_
      refine J_lmul (pc := 29) dX0_weightOf_29 (lN_mul _ _) ?_
      refine J_lstore_n (pc := 30) dX0_weightOf_30 (by decide) ?_
      refine J_iinc (pc := 31) dX0_weightOf_31 rfl (v := nI (k + 1)) (by exact nI_add _ _) (by decide) ?_
      refine J_goto (pc := 34) (tgt := 5) dX0_weightOf_34 (by decide) ?_
      exact J_ls (ls' := [(0, .ref 59), (1, .int (nI c)), (2, .int (nI m)), (3, .long (lN (wtF P c (k + 1)))), (5, .int (nI (k + 1)))]) ⟨rfl, rfl, rfl, rfl, rfl, trivial⟩ (ih (k + 1)  (by omega) (by omega) )
set_option maxHeartbeats 4000000 in
theorem c0_weightOf {g : jG} {d : Nat} {h : jH} {n c m : Nat} {P : Nat → Int32} (hG : GD n P) (hT : TR n P h) (hc : c < 256) (hm : m ≤ 4) : Ml g d YX0_weightOf h [.ref 59, .int (nI c), .int (nI m)] (fun r h' => h' = h ∧ r = lN (wtF P c m)) := by
  refine M.of (by decide) rfl (Nat.le_of_ble_eq_true rfl) ?_
  refine J_lconst (pc := 0) (v := 1) dX0_weightOf_0 (by decide) ?_
  refine J_lstore_n (pc := 1) dX0_weightOf_1 (by decide) ?_
  refine J_iconst (pc := 2) (v := nI 0) dX0_weightOf_2 (by decide) ?_
  refine J_istore (pc := 3) dX0_weightOf_3 (by decide) ?_
  refine J_ls (ls' := [(0, .ref 59), (1, .int (nI c)), (2, .int (nI m)), (3, .long (lN (wtF P c 0))), (5, .int (nI 0))]) ⟨rfl, rfl, rfl, rfl, rfl, trivial⟩ ?_
  refine l0_weight hG hT hc hm ?_ (m + 1) 0 (Nat.zero_le _) (by omega)
  refine J_lload_n (pc := 37) dX0_weightOf_37 rfl ?_
  refine K_lret (pc := 38) dX0_weightOf_38 rfl ?_
  exact ⟨rfl, rfl⟩
set_option maxHeartbeats 4000000 in
theorem l0_wp {g : jG} {d : Nat} {h : jH} {Q : kQ} {n p m : Nat} {P : Nat → Int32} (hG : GD n P) (hT : TR n P h) (hp : p < n) (hm : m ≤ 4) (hN : ∀ c, c < 4 ^ m → nd n h (fst4 m + c) (skP n P m c)) (kx : K g (d + 1) YX0_weighPurses (h) 40 [(0, .ref 59), (1, .int (nI p)), (2, .int (nI m)), (3, .long (lN (mnF P m (fun c => ix (skU n P m p c)) (4 ^ m)))), (5, .int (nI (4 ^ m)))] [] Q) : ∀ (mm k : Nat) , k ≤ (4 ^ m) → (4 ^ m) < k + mm → K g (d + 1) YX0_weighPurses (h) 5 [(0, .ref 59), (1, .int (nI p)), (2, .int (nI m)), (3, .long (lN (mnF P m (fun c => ix (skU n P m p c)) k))), (5, .int (nI k))] [] Q := by
  intro mm
  induction mm with
  | zero => intro k  hk1 hk2 ; omega
  | succ mm ih =>
    intro k  hk1 hk2 
    have p4 := p4_b hm
    have hn := hG.1.1
    have sn := skU_nb (m := m) (c := k) hG hp
    have sn2 := sn.2
    refine J_iload (pc := 5) dX0_weighPurses_5 rfl ?_
    refine J_iload_n (pc := 7) dX0_weighPurses_7 rfl ?_
    refine K_Si1 (pc := 8) (Y' := YX0_runsOf) dX0_weighPurses_8 lX0_59 mX0_runsOf sX0_runsOf (Nat.le_of_ble_eq_true rfl) (c0_runsOf hm) ?_
    rintro r h0 ⟨e0, rfl⟩
    rw [e0]
    clear e0 h0
    refine J_icmp_ge (pc := 11) (tgt := 40) dX0_weighPurses_11 (by decide) (fun c11 => ?_) (fun c11 => ?_)
    · skip
      have q11 : (4 ^ m) ≤ k := (nI_leI (by omega) (by omega)).mp c11
      have e_k : k = (4 ^ m) := by omega
      refine J_ls (ls' := [(0, .ref 59), (1, .int (nI p)), (2, .int (nI m)), (3, .long (lN (mnF P m (fun c => ix (skU n P m p c)) k))), (5, .int (nI k))]) ⟨rfl, rfl, rfl, rfl, rfl, trivial⟩ ?_
      rw [e_k]
      exact kx
    · skip
      have q11 : k < (4 ^ m) := Nat.lt_of_not_le (fun z => c11 ((nI_leI (by omega) (by omega)).mpr z))
      refine J_lload_n (pc := 14) dX0_weighPurses_14 rfl ?_
      refine J_aload_n (pc := 15) dX0_weighPurses_15 rfl ?_
      refine J_iload (pc := 16) dX0_weighPurses_16 rfl ?_
      refine J_iload_n (pc := 18) dX0_weighPurses_18 rfl ?_
      refine K_Vl2 (pc := 19) (Y' := YX0_weightOf) dX0_weighPurses_19 lX0_71 mX0_weightOf vX0_weightOf ⟨_, _, rfl⟩ sh59 (Nat.le_of_ble_eq_true rfl) (c0_weightOf hG hT (by omega) hm) ?_
      rintro r h0 ⟨e0, rfl⟩
      rw [e0]
      clear e0 h0
      refine J_aload_n (pc := 22) dX0_weighPurses_22 rfl ?_
      refine J_iload_n (pc := 23) dX0_weighPurses_23 rfl ?_
      refine J_iload_n (pc := 24) dX0_weighPurses_24 rfl ?_
      refine J_iload (pc := 25) dX0_weighPurses_25 rfl ?_
      refine K_Vi3 (pc := 27) (Y' := YX0_purseBehind) dX0_weighPurses_27 lX0_62 mX0_purseBehind vX0_purseBehind ⟨_, _, rfl⟩ sh59 (Nat.le_of_ble_eq_true rfl) (c0_purseBehind hn hp hm (c := k) (by omega) (hN _ (by omega))) ?_
      rintro r h0 ⟨e0, rfl⟩
      rw [e0]
      clear e0 h0
      refine J_i2l (pc := 30) dX0_weighPurses_30 ((congrArg Int32.toInt64 sn.1).trans (nI_l (by omega))) ?_
      refine J_lmul (pc := 31) dX0_weighPurses_31 (lN_mul _ _) ?_
      refine J_ladd (pc := 32) dX0_weighPurses_32 (lN_add _ _) ?_
      refine J_lstore_n (pc := 33) dX0_weighPurses_33 (by decide) ?_
      refine J_iinc (pc := 34) dX0_weighPurses_34 rfl (v := nI (k + 1)) (by exact nI_add _ _) (by decide) ?_
      refine J_goto (pc := 37) (tgt := 5) dX0_weighPurses_37 (by decide) ?_
      exact J_ls (ls' := [(0, .ref 59), (1, .int (nI p)), (2, .int (nI m)), (3, .long (lN (mnF P m (fun c => ix (skU n P m p c)) (k + 1)))), (5, .int (nI (k + 1)))]) ⟨rfl, rfl, rfl, rfl, rfl, trivial⟩ (ih (k + 1)  (by omega) (by omega) )
set_option maxHeartbeats 4000000 in
theorem c0_weighPurses {g : jG} {d : Nat} {h : jH} {n p m : Nat} {P : Nat → Int32} (hG : GD n P) (hT : TR n P h) (hp : p < n) (hm : m ≤ 4) (hN : ∀ c, c < 4 ^ m → nd n h (fst4 m + c) (skP n P m c)) : Ml g (d + 1) YX0_weighPurses h [.ref 59, .int (nI p), .int (nI m)] (fun r h' => h' = h ∧ r = lN (mnF P m (fun c => ix (skU n P m p c)) (4 ^ m))) := by
  refine M.of (by decide) rfl (Nat.le_of_ble_eq_true rfl) ?_
  refine J_lconst (pc := 0) (v := 0) dX0_weighPurses_0 (by decide) ?_
  refine J_lstore_n (pc := 1) dX0_weighPurses_1 (by decide) ?_
  refine J_iconst (pc := 2) (v := nI 0) dX0_weighPurses_2 (by decide) ?_
  refine J_istore (pc := 3) dX0_weighPurses_3 (by decide) ?_
  refine J_ls (ls' := [(0, .ref 59), (1, .int (nI p)), (2, .int (nI m)), (3, .long (lN (mnF P m (fun c => ix (skU n P m p c)) 0))), (5, .int (nI 0))]) ⟨rfl, rfl, rfl, rfl, rfl, trivial⟩ ?_
  refine l0_wp hG hT hp hm hN ?_ (4 ^ m + 1) 0 (Nat.zero_le _) (by omega)
  refine J_lload_n (pc := 40) dX0_weighPurses_40 rfl ?_
  refine K_lret (pc := 41) dX0_weighPurses_41 rfl ?_
  exact ⟨rfl, rfl⟩
set_option maxHeartbeats 4000000 in
theorem l0_wl {g : jG} {d : Nat} {h : jH} {Q : kQ} {n p m : Nat} {P : Nat → Int32} (hG : GD n P) (hT : TR n P h) (hp : p < n) (hm : m ≤ 4) (hN : ∀ c, c < 4 ^ m → nd n h (fst4 m + c) (skP n P m c)) (kx : K g (d + 1) YX0_weighLuck (h) 48 [(0, .ref 59), (1, .int (nI p)), (2, .int (nI m)), (3, .long (lN (mnF P m (fun c => if P 42 + nI 5 ≤ skU n P m p c then 1 else 0) (4 ^ m)))), (5, .int (nI (4 ^ m)))] [] Q) : ∀ (mm k : Nat) , k ≤ (4 ^ m) → (4 ^ m) < k + mm → K g (d + 1) YX0_weighLuck (h) 5 [(0, .ref 59), (1, .int (nI p)), (2, .int (nI m)), (3, .long (lN (mnF P m (fun c => if P 42 + nI 5 ≤ skU n P m p c then 1 else 0) k))), (5, .int (nI k))] [] Q := by
  intro mm
  induction mm with
  | zero => intro k  hk1 hk2 ; omega
  | succ mm ih =>
    intro k  hk1 hk2 
    have p4 := p4_b hm
    have hn := hG.1.1
    obtain ⟨Q, hQ, kQ⟩ := id hT
    refine J_iload (pc := 5) dX0_weighLuck_5 rfl ?_
    refine J_iload_n (pc := 7) dX0_weighLuck_7 rfl ?_
    refine K_Si1 (pc := 8) (Y' := YX0_runsOf) dX0_weighLuck_8 lX0_59 mX0_runsOf sX0_runsOf (Nat.le_of_ble_eq_true rfl) (c0_runsOf hm) ?_
    rintro r h0 ⟨e0, rfl⟩
    rw [e0]
    clear e0 h0
    refine J_icmp_ge (pc := 11) (tgt := 48) dX0_weighLuck_11 (by decide) (fun c11 => ?_) (fun c11 => ?_)
    · skip
      have q11 : (4 ^ m) ≤ k := (nI_leI (by omega) (by omega)).mp c11
      have e_k : k = (4 ^ m) := by omega
      refine J_ls (ls' := [(0, .ref 59), (1, .int (nI p)), (2, .int (nI m)), (3, .long (lN (mnF P m (fun c => if P 42 + nI 5 ≤ skU n P m p c then 1 else 0) k))), (5, .int (nI k))]) ⟨rfl, rfl, rfl, rfl, rfl, trivial⟩ ?_
      rw [e_k]
      exact kx
    · skip
      have q11 : k < (4 ^ m) := Nat.lt_of_not_le (fun z => c11 ((nI_leI (by omega) (by omega)).mpr z))
      refine J_aload_n (pc := 14) dX0_weighLuck_14 rfl ?_
      refine J_iload_n (pc := 15) dX0_weighLuck_15 rfl ?_
      refine J_iload_n (pc := 16) dX0_weighLuck_16 rfl ?_
      refine J_iload (pc := 17) dX0_weighLuck_17 rfl ?_
      refine K_Vi3 (pc := 19) (Y' := YX0_purseBehind) dX0_weighLuck_19 lX0_62 mX0_purseBehind vX0_purseBehind ⟨_, _, rfl⟩ sh59 (Nat.le_of_ble_eq_true rfl) (c0_purseBehind hn hp hm (c := k) (by omega) (hN _ (by omega))) ?_
      rintro r h0 ⟨e0, rfl⟩
      rw [e0]
      clear e0 h0
      refine J_aload_n (pc := 22) dX0_weighLuck_22 rfl ?_
      refine J_getR (pc := 23) dX0_weighLuck_23 fX0_12 sh59 rfl ?_
      refine J_getI (pc := 26) dX0_weighLuck_26 fX0_75 (sv0 isV60) rfl (hQ.2.2.2.2.2.1.trans (congrArg (· + nI 5) (kQ 42 (by omega)))) ?_
      refine J_icmp_lt (pc := 29) (tgt := 42) dX0_weighLuck_29 (by decide) (fun c29 => ?_) (fun c29 => ?_)
      · skip
        refine J_iinc (pc := 42) dX0_weighLuck_42 rfl (v := nI (k + 1)) (by exact nI_add _ _) (by decide) ?_
        refine J_goto (pc := 45) (tgt := 5) dX0_weighLuck_45 (by decide) ?_
        have i := ih (k + 1) (by omega) (by omega)
        rw [show mnF P m (fun c => if P 42 + nI 5 ≤ skU n P m p c then 1 else 0) (k + 1) = mnF P m (fun c => if P 42 + nI 5 ≤ skU n P m p c then 1 else 0) k from by
          rw [mnF, if_neg (show ¬ P 42 + nI 5 ≤ skU n P m p k from Int32.not_le.mpr c29), Nat.mul_zero, Nat.add_zero]] at i
        refine J_ls ?_ i
        exact ⟨rfl, rfl, rfl, rfl, rfl, trivial⟩
      · skip
        refine J_lload_n (pc := 32) dX0_weighLuck_32 rfl ?_
        refine J_aload_n (pc := 33) dX0_weighLuck_33 rfl ?_
        refine J_iload (pc := 34) dX0_weighLuck_34 rfl ?_
        refine J_iload_n (pc := 36) dX0_weighLuck_36 rfl ?_
        refine K_Vl2 (pc := 37) (Y' := YX0_weightOf) dX0_weighLuck_37 lX0_71 mX0_weightOf vX0_weightOf ⟨_, _, rfl⟩ sh59 (Nat.le_of_ble_eq_true rfl) (c0_weightOf hG hT (by omega) hm) ?_
        rintro r h0 ⟨e0, rfl⟩
        rw [e0]
        clear e0 h0
        refine J_ladd (pc := 40) dX0_weighLuck_40 (lN_add _ _) ?_
        refine J_lstore_n (pc := 41) dX0_weighLuck_41 (by decide) ?_
        refine J_iinc (pc := 42) dX0_weighLuck_42 rfl (v := nI (k + 1)) (by exact nI_add _ _) (by decide) ?_
        refine J_goto (pc := 45) (tgt := 5) dX0_weighLuck_45 (by decide) ?_
        have i := ih (k + 1) (by omega) (by omega)
        rw [show mnF P m (fun c => if P 42 + nI 5 ≤ skU n P m p c then 1 else 0) (k + 1) = mnF P m (fun c => if P 42 + nI 5 ≤ skU n P m p c then 1 else 0) k + wtF P k m from by
          rw [mnF, if_pos (show P 42 + nI 5 ≤ skU n P m p k from Int32.not_lt.mp c29), Nat.mul_one]] at i
        refine J_ls ?_ i
        exact ⟨rfl, rfl, rfl, rfl, rfl, trivial⟩
set_option maxHeartbeats 4000000 in
theorem c0_weighLuck {g : jG} {d : Nat} {h : jH} {n p m : Nat} {P : Nat → Int32} (hG : GD n P) (hT : TR n P h) (hp : p < n) (hm : m ≤ 4) (hN : ∀ c, c < 4 ^ m → nd n h (fst4 m + c) (skP n P m c)) : Ml g (d + 1) YX0_weighLuck h [.ref 59, .int (nI p), .int (nI m)] (fun r h' => h' = h ∧ r = lN (mnF P m (fun c => if P 42 + nI 5 ≤ skU n P m p c then 1 else 0) (4 ^ m))) := by
  refine M.of (by decide) rfl (Nat.le_of_ble_eq_true rfl) ?_
  refine J_lconst (pc := 0) (v := 0) dX0_weighLuck_0 (by decide) ?_
  refine J_lstore_n (pc := 1) dX0_weighLuck_1 (by decide) ?_
  refine J_iconst (pc := 2) (v := nI 0) dX0_weighLuck_2 (by decide) ?_
  refine J_istore (pc := 3) dX0_weighLuck_3 (by decide) ?_
  refine J_ls (ls' := [(0, .ref 59), (1, .int (nI p)), (2, .int (nI m)), (3, .long (lN (mnF P m (fun c => if P 42 + nI 5 ≤ skU n P m p c then 1 else 0) 0))), (5, .int (nI 0))]) ⟨rfl, rfl, rfl, rfl, rfl, trivial⟩ ?_
  refine l0_wl hG hT hp hm hN ?_ (4 ^ m + 1) 0 (Nat.zero_le _) (by omega)
  refine J_lload_n (pc := 48) dX0_weighLuck_48 rfl ?_
  refine K_lret (pc := 49) dX0_weighLuck_49 rfl ?_
  exact ⟨rfl, rfl⟩
set_option maxHeartbeats 4000000 in
theorem c5_mean {g : jG} {d : Nat} {a h : jH} {p n x : Int32} (hR : RX a h) : Ml g (d + 6) YX5_mean h [.ref 0, .int p, .int n, .int x] (fun r h' => r = qMean a p n x ∧ RX a h' ∧ hi h h') := by
  refine M.of (by decide) rfl (Nat.le_of_ble_eq_true rfl) ?_
  have hR0 := hR
  have hG := hR.1.2.2.2
  obtain ⟨⟨r1, hX, hwk, ⟨⟨v1, v2, v3, v4⟩, v5, v6, v7, v8, v9, va, vb, vc, vd⟩⟩, rK, rT, rS, rH, ⟨r8, r8b, r9, ra⟩⟩ := hR
  obtain ⟨x1, x2, x3, x4, x5, x6, x7, x8, x9⟩ := id hX
  have hn4 := v1
  have n5 := r1.2
  have c6 := v3.2
  have p9 := v5.2
  refine J_aload_n (pc := 0) dX5_mean_0 rfl ?_
  refine J_iload_n (pc := 1) dX5_mean_1 rfl ?_
  refine K_Vi1 (pc := 2) (Y' := YX5_isOne) dX5_mean_2 lX5_109 mX5_isOne vX5_isOne ⟨_, _, rfl⟩ sh0 (Nat.le_of_ble_eq_true rfl) (c5_isOne (x := p) x1 hn4) ?_
  rintro x h0 ⟨e0, ⟨rfl, b2⟩ | ⟨rfl, b2⟩⟩ <;> rw [e0] <;> clear e0 h0
  · skip
    refine J_if_eq (pc := 5) (tgt := 24) dX5_mean_5 (by decide) (fun c => absurd c (by decide)) (fun _ => ?_)
    refine J_iload_n (pc := 8) dX5_mean_8 rfl ?_
    refine K_Si1 (pc := 9) (Y' := YX5_isAhead) dX5_mean_9 lX5_176 mX5_isAhead sX5_isAhead (Nat.le_of_ble_eq_true rfl) (c5_isAhead) ?_
    rintro x h0 ⟨e0, ⟨rfl, b9⟩ | ⟨rfl, b9⟩⟩ <;> rw [e0] <;> clear e0 h0
    · skip
      refine J_if_eq (pc := 12) (tgt := 24) dX5_mean_12 (by decide) (fun c => absurd c (by decide)) (fun _ => ?_)
      refine J_iload_n (pc := 15) dX5_mean_15 rfl ?_
      refine J_iconst (pc := 16) (v := nI 0) dX5_mean_16 (by decide) ?_
      refine J_iconst (pc := 17) (v := nI 1) dX5_mean_17 (by decide) ?_
      refine K_Si3 (pc := 18) (Y' := YX5_within) dX5_mean_18 lX5_63 mX5_within sX5_within (Nat.le_of_ble_eq_true rfl) (c5_within) ?_
      rintro x h0 ⟨e0, ⟨rfl, b18⟩ | ⟨rfl, b18⟩⟩ <;> rw [e0] <;> clear e0 h0
      · skip
        refine J_if_ne (pc := 21) (tgt := 28) dX5_mean_21 (by decide) (fun _ => ?_) (fun c => absurd c (by decide))
        have hm : ix n ≤ 4 := by have := b9.2; omega
        refine J_ls (ls' := [(0, .ref 0), (1, .int (nI (ix p))), (2, .int (nI (ix n))), (3, .int x)]) ⟨rfl, congrArg (fun z => some (Value.int z)) b2.1, congrArg (fun z => some (Value.int z)) b9.1, rfl, trivial⟩ ?_
        refine J_aload_n (pc := 28) dX5_mean_28 rfl ?_
        refine J_getR (pc := 29) dX5_mean_29 fX5_37 sh0 rfl ?_
        refine J_aload_n (pc := 32) dX5_mean_32 rfl ?_
        refine J_getR (pc := 33) dX5_mean_33 fX5_10 sh0 rfl ?_
        refine J_iload_n (pc := 36) dX5_mean_36 rfl ?_
        refine K_Vv2 (pc := 37) (Y' := YX0_grow) dX5_mean_37 lX5_179 mX0_grow vX0_grow ⟨_, _, rfl⟩ sh59 (Nat.le_of_ble_eq_true rfl) (c0_grow isV1 (by omega) hX hG hm) ?_
        rintro h1 ⟨g1, g2, g3⟩
        have hN := fun c hc => g2 (ix n) c (Nat.le_refl _) hc
        have p4 := p4_b hm
        have fin : RX a h1 ∧ hi h h1 := ⟨RX_congr hR0 sameP.rf (fun b hb => g3 b (by omega)), fun b hb => g3 b (by omega)⟩
        have p10 := p10_b hm
        refine J_aload_n (pc := 40) dX5_mean_40 rfl ?_
        refine J_getR (pc := 41) dX5_mean_41 fX5_37 sh0 rfl ?_
        refine J_iload_n (pc := 44) dX5_mean_44 rfl ?_
        refine J_iload_n (pc := 45) dX5_mean_45 rfl ?_
        refine K_Vl2 (pc := 46) (Y' := YX0_weighPurses) dX5_mean_46 lX5_213 mX0_weighPurses vX0_weighPurses ⟨_, _, rfl⟩ sh59 (Nat.le_of_ble_eq_true rfl) (c0_weighPurses hG g1 b2.2 hm hN) ?_
        rintro r h0 ⟨e0, rfl⟩
        rw [e0]
        clear e0 h0
        refine J_bipush (pc := 49) (v := nI 10) dX5_mean_49 (by decide) ?_
        refine J_iload_n (pc := 51) dX5_mean_51 rfl ?_
        refine K_Sl2 (pc := 52) (Y' := YX5_power) dX5_mean_52 lX5_217 mX5_power sX5_power (Nat.le_of_ble_eq_true rfl) (c5_power hm) ?_
        rintro r h0 ⟨e0, rfl⟩
        rw [e0]
        clear e0 h0
        refine J_iload_n (pc := 55) dX5_mean_55 rfl ?_
        refine K_Sl3 (pc := 56) (Y' := YX5_part) dX5_mean_56 lX5_220 mX5_part sX5_part (Nat.le_of_ble_eq_true rfl) (c5_part (mn1_b hG b2.2 hm) (by omega) (by omega)) ?_
        rintro r h0 ⟨e0, rfl⟩
        rw [e0]
        clear e0 h0
        refine K_lret (pc := 59) dX5_mean_59 rfl ?_
        exact ⟨(iteX_t ⟨b2, b9, b18⟩).symm, fin.1, fin.2⟩
      · skip
        refine J_if_ne (pc := 21) (tgt := 28) dX5_mean_21 (by decide) (fun c => absurd c (by decide)) (fun _ => ?_)
        refine J_ldc2 (pc := 24) dX5_mean_24 kX5_211 ?_
        refine K_lret (pc := 27) dX5_mean_27 rfl ?_
        exact ⟨(iteX_f (fun z => b18 z.2.2)).symm, hR0, hi.rf⟩
    · skip
      refine J_if_eq (pc := 12) (tgt := 24) dX5_mean_12 (by decide) (fun _ => ?_) (fun c => absurd c (by decide))
      refine J_ldc2 (pc := 24) dX5_mean_24 kX5_211 ?_
      refine K_lret (pc := 27) dX5_mean_27 rfl ?_
      exact ⟨(iteX_f (fun z => b9 z.2.1)).symm, hR0, hi.rf⟩
  · skip
    refine J_if_eq (pc := 5) (tgt := 24) dX5_mean_5 (by decide) (fun _ => ?_) (fun c => absurd c (by decide))
    refine J_ldc2 (pc := 24) dX5_mean_24 kX5_211 ?_
    refine K_lret (pc := 27) dX5_mean_27 rfl ?_
    exact ⟨(iteX_f (fun z => b2 z.1)).symm, hR0, hi.rf⟩
set_option maxHeartbeats 4000000 in
theorem c5_luck {g : jG} {d : Nat} {a h : jH} {p n x : Int32} (hR : RX a h) : Ml g (d + 6) YX5_luck h [.ref 0, .int p, .int n, .int x] (fun r h' => r = qLuck a p n x ∧ RX a h' ∧ hi h h') := by
  refine M.of (by decide) rfl (Nat.le_of_ble_eq_true rfl) ?_
  have hR0 := hR
  have hG := hR.1.2.2.2
  obtain ⟨⟨r1, hX, hwk, ⟨⟨v1, v2, v3, v4⟩, v5, v6, v7, v8, v9, va, vb, vc, vd⟩⟩, rK, rT, rS, rH, ⟨r8, r8b, r9, ra⟩⟩ := hR
  obtain ⟨x1, x2, x3, x4, x5, x6, x7, x8, x9⟩ := id hX
  have hn4 := v1
  have n5 := r1.2
  have c6 := v3.2
  have p9 := v5.2
  refine J_aload_n (pc := 0) dX5_luck_0 rfl ?_
  refine J_iload_n (pc := 1) dX5_luck_1 rfl ?_
  refine K_Vi1 (pc := 2) (Y' := YX5_isOne) dX5_luck_2 lX5_109 mX5_isOne vX5_isOne ⟨_, _, rfl⟩ sh0 (Nat.le_of_ble_eq_true rfl) (c5_isOne (x := p) x1 hn4) ?_
  rintro x h0 ⟨e0, ⟨rfl, b2⟩ | ⟨rfl, b2⟩⟩ <;> rw [e0] <;> clear e0 h0
  · skip
    refine J_if_eq (pc := 5) (tgt := 24) dX5_luck_5 (by decide) (fun c => absurd c (by decide)) (fun _ => ?_)
    refine J_iload_n (pc := 8) dX5_luck_8 rfl ?_
    refine K_Si1 (pc := 9) (Y' := YX5_isAhead) dX5_luck_9 lX5_176 mX5_isAhead sX5_isAhead (Nat.le_of_ble_eq_true rfl) (c5_isAhead) ?_
    rintro x h0 ⟨e0, ⟨rfl, b9⟩ | ⟨rfl, b9⟩⟩ <;> rw [e0] <;> clear e0 h0
    · skip
      refine J_if_eq (pc := 12) (tgt := 24) dX5_luck_12 (by decide) (fun c => absurd c (by decide)) (fun _ => ?_)
      refine J_iload_n (pc := 15) dX5_luck_15 rfl ?_
      refine J_iconst (pc := 16) (v := nI 0) dX5_luck_16 (by decide) ?_
      refine J_iconst (pc := 17) (v := nI 1) dX5_luck_17 (by decide) ?_
      refine K_Si3 (pc := 18) (Y' := YX5_within) dX5_luck_18 lX5_63 mX5_within sX5_within (Nat.le_of_ble_eq_true rfl) (c5_within) ?_
      rintro x h0 ⟨e0, ⟨rfl, b18⟩ | ⟨rfl, b18⟩⟩ <;> rw [e0] <;> clear e0 h0
      · skip
        refine J_if_ne (pc := 21) (tgt := 28) dX5_luck_21 (by decide) (fun _ => ?_) (fun c => absurd c (by decide))
        have hm : ix n ≤ 4 := by have := b9.2; omega
        refine J_ls (ls' := [(0, .ref 0), (1, .int (nI (ix p))), (2, .int (nI (ix n))), (3, .int x)]) ⟨rfl, congrArg (fun z => some (Value.int z)) b2.1, congrArg (fun z => some (Value.int z)) b9.1, rfl, trivial⟩ ?_
        refine J_aload_n (pc := 28) dX5_luck_28 rfl ?_
        refine J_getR (pc := 29) dX5_luck_29 fX5_37 sh0 rfl ?_
        refine J_aload_n (pc := 32) dX5_luck_32 rfl ?_
        refine J_getR (pc := 33) dX5_luck_33 fX5_10 sh0 rfl ?_
        refine J_iload_n (pc := 36) dX5_luck_36 rfl ?_
        refine K_Vv2 (pc := 37) (Y' := YX0_grow) dX5_luck_37 lX5_179 mX0_grow vX0_grow ⟨_, _, rfl⟩ sh59 (Nat.le_of_ble_eq_true rfl) (c0_grow isV1 (by omega) hX hG hm) ?_
        rintro h1 ⟨g1, g2, g3⟩
        have hN := fun c hc => g2 (ix n) c (Nat.le_refl _) hc
        have p4 := p4_b hm
        have fin : RX a h1 ∧ hi h h1 := ⟨RX_congr hR0 sameP.rf (fun b hb => g3 b (by omega)), fun b hb => g3 b (by omega)⟩
        have p10 := p10_b hm
        refine J_aload_n (pc := 40) dX5_luck_40 rfl ?_
        refine J_getR (pc := 41) dX5_luck_41 fX5_37 sh0 rfl ?_
        refine J_iload_n (pc := 44) dX5_luck_44 rfl ?_
        refine J_iload_n (pc := 45) dX5_luck_45 rfl ?_
        refine K_Vl2 (pc := 46) (Y' := YX0_weighLuck) dX5_luck_46 lX5_224 mX0_weighLuck vX0_weighLuck ⟨_, _, rfl⟩ sh59 (Nat.le_of_ble_eq_true rfl) (c0_weighLuck hG g1 b2.2 hm hN) ?_
        rintro r h0 ⟨e0, rfl⟩
        rw [e0]
        clear e0 h0
        refine J_bipush (pc := 49) (v := nI 10) dX5_luck_49 (by decide) ?_
        refine J_iload_n (pc := 51) dX5_luck_51 rfl ?_
        refine K_Sl2 (pc := 52) (Y' := YX5_power) dX5_luck_52 lX5_217 mX5_power sX5_power (Nat.le_of_ble_eq_true rfl) (c5_power hm) ?_
        rintro r h0 ⟨e0, rfl⟩
        rw [e0]
        clear e0 h0
        refine J_iload_n (pc := 55) dX5_luck_55 rfl ?_
        refine K_Sl3 (pc := 56) (Y' := YX5_part) dX5_luck_56 lX5_220 mX5_part sX5_part (Nat.le_of_ble_eq_true rfl) (c5_part (mn2_b hG hm) (by omega) (by omega)) ?_
        rintro r h0 ⟨e0, rfl⟩
        rw [e0]
        clear e0 h0
        refine K_lret (pc := 59) dX5_luck_59 rfl ?_
        exact ⟨(iteX_t ⟨b2, b9, b18⟩).symm, fin.1, fin.2⟩
      · skip
        refine J_if_ne (pc := 21) (tgt := 28) dX5_luck_21 (by decide) (fun c => absurd c (by decide)) (fun _ => ?_)
        refine J_ldc2 (pc := 24) dX5_luck_24 kX5_211 ?_
        refine K_lret (pc := 27) dX5_luck_27 rfl ?_
        exact ⟨(iteX_f (fun z => b18 z.2.2)).symm, hR0, hi.rf⟩
    · skip
      refine J_if_eq (pc := 12) (tgt := 24) dX5_luck_12 (by decide) (fun _ => ?_) (fun c => absurd c (by decide))
      refine J_ldc2 (pc := 24) dX5_luck_24 kX5_211 ?_
      refine K_lret (pc := 27) dX5_luck_27 rfl ?_
      exact ⟨(iteX_f (fun z => b9 z.2.1)).symm, hR0, hi.rf⟩
  · skip
    refine J_if_eq (pc := 5) (tgt := 24) dX5_luck_5 (by decide) (fun _ => ?_) (fun c => absurd c (by decide))
    refine J_ldc2 (pc := 24) dX5_luck_24 kX5_211 ?_
    refine K_lret (pc := 27) dX5_luck_27 rfl ?_
    exact ⟨(iteX_f (fun z => b2 z.1)).symm, hR0, hi.rf⟩
set_option maxHeartbeats 4000000 in
theorem l6_bo1 {g : jG} {d : Nat} {h : jH} {Q : kQ} {p m : Nat} {is x : Int32} (hm : m ≤ 4) (kx : K g (d + 3) YX6_byOdds (h) 29 [(0, .ref 131), (1, .int (nI p)), (2, .int (nI m)), (3, .int is), (4, .int x), (5, .long 0), (7, .long (lN (10 ^ m))), (9, .int (nI m))] [] Q) : ∀ (mm k : Nat) , k ≤ m → m < k + mm → K g (d + 3) YX6_byOdds (h) 9 [(0, .ref 131), (1, .int (nI p)), (2, .int (nI m)), (3, .int is), (4, .int x), (5, .long 0), (7, .long (lN (10 ^ k))), (9, .int (nI k))] [] Q := by
  intro mm
  induction mm with
  | zero => intro k  hk1 hk2 ; omega
  | succ mm ih =>
    intro k  hk1 hk2 
    refine J_iload (pc := 9) dX6_byOdds_9 rfl ?_
    refine J_iload_n (pc := 11) dX6_byOdds_11 rfl ?_
    refine J_icmp_ge (pc := 12) (tgt := 29) dX6_byOdds_12 (by decide) (fun c12 => ?_) (fun c12 => ?_)
    · skip
      have q12 : m ≤ k := (nI_leI (by omega) (by omega)).mp c12
      have e_k : k = m := by omega
      refine J_ls (ls' := [(0, .ref 131), (1, .int (nI p)), (2, .int (nI m)), (3, .int is), (4, .int x), (5, .long 0), (7, .long (lN (10 ^ k))), (9, .int (nI k))]) ⟨rfl, rfl, rfl, rfl, rfl, rfl, rfl, rfl, trivial⟩ ?_
      rw [e_k]
      exact kx
    · skip
      have q12 : k < m := Nat.lt_of_not_le (fun z => c12 ((nI_leI (by omega) (by omega)).mpr z))
      refine J_lload (pc := 15) dX6_byOdds_15 rfl ?_
      refine J_ldc2 (pc := 17) dX6_byOdds_17 kX6_244 ?_
      refine J_lmul (pc := 20) dX6_byOdds_20 ((lN_mul _ 10).trans (congrArg lN (show 10 ^ k * 10 = 10 ^ (k + 1) by rw [Nat.pow_succ]))) ?_
      refine J_lstore (pc := 21) dX6_byOdds_21 (by decide) ?_
      refine J_iinc (pc := 23) dX6_byOdds_23 rfl (v := nI (k + 1)) (by exact nI_add _ _) (by decide) ?_
      refine J_goto (pc := 26) (tgt := 9) dX6_byOdds_26 (by decide) ?_
      exact J_ls (ls' := [(0, .ref 131), (1, .int (nI p)), (2, .int (nI m)), (3, .int is), (4, .int x), (5, .long 0), (7, .long (lN (10 ^ (k + 1)))), (9, .int (nI (k + 1)))]) ⟨rfl, rfl, rfl, rfl, rfl, rfl, rfl, rfl, trivial⟩ (ih (k + 1)  (by omega) (by omega) )
set_option maxHeartbeats 4000000 in
theorem l6_bo3 {g : jG} {d : Nat} {h : jH} {Q : kQ} {p m c : Nat} {is x : Int32} {T : Nat → Int32} {A B : Int64} (hG : GD (ix (h 131 2)) (pg h 0)) (hm : m ≤ 4) (hc : c < 256) (kx : K g (d + 3) YX6_byOdds (mset h 276 T) 78 [(0, .ref 131), (1, .int (nI p)), (2, .int (nI m)), (3, .int is), (4, .int x), (5, .long A), (7, .long B), (9, .int (nI c)), (10, .long (lN (wtF (pg h 0) c m))), (12, .int (nI m))] [] Q) : ∀ (mm k : Nat) , k ≤ m → m < k + mm → K g (d + 3) YX6_byOdds (mset h 276 T) 47 [(0, .ref 131), (1, .int (nI p)), (2, .int (nI m)), (3, .int is), (4, .int x), (5, .long A), (7, .long B), (9, .int (nI c)), (10, .long (lN (wtF (pg h 0) c k))), (12, .int (nI k))] [] Q := by
  intro mm
  induction mm with
  | zero => intro k  hk1 hk2 ; omega
  | succ mm ih =>
    intro k  hk1 hk2 
    have cd : ∀ j, c / 4 ^ j < 2 ^ 31 := fun j => by have := Nat.div_le_self c (4 ^ j); omega
    have g8 := fun w hw => hG.2.2.2.2.1 w hw
    refine J_iload (pc := 47) dX6_byOdds_47 rfl ?_
    refine J_iload_n (pc := 49) dX6_byOdds_49 rfl ?_
    refine J_icmp_ge (pc := 50) (tgt := 78) dX6_byOdds_50 (by decide) (fun c50 => ?_) (fun c50 => ?_)
    · skip
      have q50 : m ≤ k := (nI_leI (by omega) (by omega)).mp c50
      have e_k : k = m := by omega
      refine J_ls (ls' := [(0, .ref 131), (1, .int (nI p)), (2, .int (nI m)), (3, .int is), (4, .int x), (5, .long A), (7, .long B), (9, .int (nI c)), (10, .long (lN (wtF (pg h 0) c k))), (12, .int (nI k))]) ⟨rfl, rfl, rfl, rfl, rfl, rfl, rfl, rfl, rfl, rfl, trivial⟩ ?_
      rw [e_k]
      exact kx
    · skip
      have q50 : k < m := Nat.lt_of_not_le (fun z => c50 ((nI_leI (by omega) (by omega)).mpr z))
      refine J_lload (pc := 53) dX6_byOdds_53 rfl ?_
      refine J_aload_n (pc := 55) dX6_byOdds_55 rfl ?_
      refine J_iload (pc := 56) dX6_byOdds_56 rfl ?_
      refine J_iconst (pc := 58) (v := nI 2) dX6_byOdds_58 (by decide) ?_
      refine J_iload (pc := 59) dX6_byOdds_59 rfl ?_
      refine J_imul (pc := 61) dX6_byOdds_61 (pk_mul _ _) ?_
      refine J_ishr (pc := 62) dX6_byOdds_62 (shr4 (by omega) (by omega)) ?_
      refine J_iconst (pc := 63) (v := nI 3) dX6_byOdds_63 (by decide) ?_
      refine J_iand (pc := 64) dX6_byOdds_64 (and3 (cd _)) ?_
      refine K_Vi1 (pc := 65) (Y' := YX6_oddsOf) dX6_byOdds_65 lX6_178 mX6_oddsOf vX6_oddsOf ⟨_, _, rfl⟩ sh131 (Nat.le_of_ble_eq_true rfl) (c6_oddsOf (w := c / 4 ^ k % 4) (Nat.mod_lt _ (by omega))) ?_
      rintro r h0 ⟨e0, rfl⟩
      rw [e0, show mset h 276 T 132 (38 + c / 4 ^ k % 4) = pg h 0 (38 + c / 4 ^ k % 4) from (mset_out (by omega)).trans pg0.symm, (g8 (c / 4 ^ k % 4) (Nat.mod_lt _ (by omega))).1]
      clear e0 h0
      refine J_i2l (pc := 68) dX6_byOdds_68 (nI_l (by have := (g8 (c / 4 ^ k % 4) (Nat.mod_lt _ (by omega))).2; omega)) ?_
      refine J_lmul (pc := 69) dX6_byOdds_69 (lN_mul _ _) ?_
      refine J_lstore (pc := 70) dX6_byOdds_70 (by decide) ?_
      refine J_iinc (pc := 72) dX6_byOdds_72 rfl (v := nI (k + 1)) (by exact nI_add _ _) (by decide) ?_
      refine J_goto (pc := 75) (tgt := 47) dX6_byOdds_75 (by decide) ?_
      exact J_ls (ls' := [(0, .ref 131), (1, .int (nI p)), (2, .int (nI m)), (3, .int is), (4, .int x), (5, .long A), (7, .long B), (9, .int (nI c)), (10, .long (lN (wtF (pg h 0) c (k + 1)))), (12, .int (nI (k + 1)))]) ⟨rfl, rfl, rfl, rfl, rfl, rfl, rfl, rfl, rfl, rfl, trivial⟩ (ih (k + 1)  (by omega) (by omega) )
set_option maxHeartbeats 4000000 in
theorem l6_bo2m {g : jG} {d : Nat} {h : jH} {Q : kQ} {p m : Nat} {x : Int32} (hR : MR h) (hm : m ≤ 4) (hp : p < ix (h 131 2)) (kx : ∀ (T : Nat → Int32), ((4 ^ m) = (4 ^ m)) → K g (d + 3) YX6_byOdds (mset h 276 T) 136 [(0, .ref 131), (1, .int (nI p)), (2, .int (nI m)), (3, .int (nI 1)), (4, .int x), (5, .long (lN (mnF (pg h 0) m (fun c => ix (skU (ix (h 131 2)) (pg h 0) m p c)) (4 ^ m)))), (7, .long (lN (10 ^ m))), (9, .int (nI (4 ^ m)))] [] Q) : ∀ (mm k : Nat) (T : Nat → Int32), k ≤ (4 ^ m) → (4 ^ m) < k + mm → (k = k) → K g (d + 3) YX6_byOdds (mset h 276 T) 32 [(0, .ref 131), (1, .int (nI p)), (2, .int (nI m)), (3, .int (nI 1)), (4, .int x), (5, .long (lN (mnF (pg h 0) m (fun c => ix (skU (ix (h 131 2)) (pg h 0) m p c)) k))), (7, .long (lN (10 ^ m))), (9, .int (nI k))] [] Q := by
  intro mm
  induction mm with
  | zero => intro k T hk1 hk2 hI; omega
  | succ mm ih =>
    intro k T hk1 hk2 hI
    have hR0 := hR
    have hG : GD (ix (h 131 2)) (pg h 0) := hR.2.1
    obtain ⟨r1, ⟨⟨v1, v2, v3, v4⟩, v5, v6, v7, v8, v9, va, vb, vc, vd⟩, r3, r4, ⟨r5, r6⟩, r7, r8, r9, ra⟩ := hR
    have hn := r1.1
    have hn4 := v1
    have n5 := r1.2
    have c6 : ix (h 132 37) < 6 := v3.2
    have p9 : ix (h 132 51) < 9 := v5.2
    have p9' : ix (pg h 0 51) < 9 := v5.2
    have p4 := p4_b hm
    refine J_iload (pc := 32) dX6_byOdds_32 rfl ?_
    refine J_iload_n (pc := 34) dX6_byOdds_34 rfl ?_
    refine K_Si1 (pc := 35) (Y' := YX6_powerOf) dX6_byOdds_35 lX6_231 mX6_powerOf sX6_powerOf (Nat.le_of_ble_eq_true rfl) (c6_powerOf hm) ?_
    rintro r h0 ⟨e0, rfl⟩
    rw [e0]
    clear e0 h0
    refine J_icmp_ge (pc := 38) (tgt := 136) dX6_byOdds_38 (by decide) (fun c38 => ?_) (fun c38 => ?_)
    · skip
      have q38 : (4 ^ m) ≤ k := (nI_leI (by omega) (by omega)).mp c38
      have e_k : k = (4 ^ m) := by omega
      refine J_ls (ls' := [(0, .ref 131), (1, .int (nI p)), (2, .int (nI m)), (3, .int (nI 1)), (4, .int x), (5, .long (lN (mnF (pg h 0) m (fun c => ix (skU (ix (h 131 2)) (pg h 0) m p c)) k))), (7, .long (lN (10 ^ m))), (9, .int (nI k))]) ⟨rfl, rfl, rfl, rfl, rfl, rfl, rfl, rfl, trivial⟩ ?_
      rw [e_k] at hI ⊢
      exact kx T hI
    · skip
      have q38 : k < (4 ^ m) := Nat.lt_of_not_le (fun z => c38 ((nI_leI (by omega) (by omega)).mpr z))
      refine J_lconst (pc := 41) (v := 1) dX6_byOdds_41 (by decide) ?_
      refine J_lstore (pc := 42) dX6_byOdds_42 (by decide) ?_
      refine J_iconst (pc := 44) (v := nI 0) dX6_byOdds_44 (by decide) ?_
      refine J_istore (pc := 45) dX6_byOdds_45 (by decide) ?_
      refine J_ls (ls' := [(0, .ref 131), (1, .int (nI p)), (2, .int (nI m)), (3, .int (nI 1)), (4, .int x), (5, .long (lN (mnF (pg h 0) m (fun c => ix (skU (ix (h 131 2)) (pg h 0) m p c)) k))), (7, .long (lN (10 ^ m))), (9, .int (nI k)), (10, .long (lN (wtF (pg h 0) k 0))), (12, .int (nI 0))]) ⟨rfl, rfl, rfl, rfl, rfl, rfl, rfl, rfl, rfl, rfl, trivial⟩ ?_
      refine l6_bo3 hG hm (by omega) ?_ (m + 1) 0 (Nat.zero_le _) (by omega)
      refine J_aload_n (pc := 78) dX6_byOdds_78 rfl ?_
      refine J_iconst (pc := 79) (v := nI 0) dX6_byOdds_79 (by decide) ?_
      refine J_iload (pc := 80) dX6_byOdds_80 rfl ?_
      refine J_iload_n (pc := 82) dX6_byOdds_82 rfl ?_
      refine K_Vv3 (pc := 83) (Y' := YX6_skyFrom) dX6_byOdds_83 lX6_234 mX6_skyFrom vX6_skyFrom ⟨_, _, rfl⟩ sh131 (Nat.le_of_ble_eq_true rfl) (c6_skyFrom hR0 hm (c := k) (by omega)) ?_
      rintro h1 ⟨T1, hT1, rfl⟩
      have ev : mset h 276 T1 132 (284 + p) = skU (ix (h 131 2)) (pg h 0) m p k := (mset_at (8 + p) (by omega) (by omega)).trans (hT1 (8 + p) (by omega))
      have sn := skU_nb (m := m) (c := k) hG hp
      have sn2 := sn.2
      refine J_aload_n (pc := 86) dX6_byOdds_86 rfl ?_
      refine J_getR (pc := 87) dX6_byOdds_87 fX6_7 sh131 rfl ?_
      refine J_sipush (pc := 90) (v := nI 284) dX6_byOdds_90 (by decide) ?_
      refine J_iload_n (pc := 93) dX6_byOdds_93 rfl ?_
      refine J_iadd (pc := 94) dX6_byOdds_94 (nI_add _ _) ?_
      refine J_iald (pc := 95) dX6_byOdds_95 sh132 (rfl) (by omega) (ev) (by decide) ?_
      refine J_istore (pc := 96) dX6_byOdds_96 (by decide) ?_
      refine J_lload (pc := 98) dX6_byOdds_98 rfl ?_
      refine J_lload (pc := 100) dX6_byOdds_100 rfl ?_
      refine J_iload_n (pc := 102) dX6_byOdds_102 rfl ?_
      refine J_if_eq (pc := 103) (tgt := 111) dX6_byOdds_103 (by decide) (fun c => absurd c (by decide)) (fun _ => ?_)
      refine J_iload (pc := 106) dX6_byOdds_106 rfl ?_
      refine J_goto (pc := 108) (tgt := 125) dX6_byOdds_108 (by decide) ?_
      refine J_i2l (pc := 125) dX6_byOdds_125 ((congrArg Int32.toInt64 sn.1).trans (nI_l (by omega))) ?_
      refine J_lmul (pc := 126) dX6_byOdds_126 (lN_mul _ _) ?_
      refine J_ladd (pc := 127) dX6_byOdds_127 (lN_add _ _) ?_
      refine J_lstore (pc := 128) dX6_byOdds_128 (by decide) ?_
      refine J_iinc (pc := 130) dX6_byOdds_130 rfl (v := nI (k + 1)) (by exact nI_add _ _) (by decide) ?_
      refine J_goto (pc := 133) (tgt := 32) dX6_byOdds_133 (by decide) ?_
      have i := ih (k + 1) T1 (by omega) (by omega) rfl
      rw [show mnF (pg h 0) m (fun c => ix (skU (ix (h 131 2)) (pg h 0) m p c)) (k + 1) = mnF (pg h 0) m (fun c => ix (skU (ix (h 131 2)) (pg h 0) m p c)) k + wtF (pg h 0) k m * ix (skU (ix (h 131 2)) (pg h 0) m p k) from rfl] at i
      refine J_ls ?_ i
      exact ⟨rfl, rfl, rfl, rfl, rfl, rfl, rfl, rfl, trivial⟩
set_option maxHeartbeats 4000000 in
theorem c6_bom {g : jG} {d : Nat} {h : jH} {p m : Nat} {x : Int32} (hR : MR h) (hm : m ≤ 4) (hp : p < ix (h 131 2)) : Ml g (d + 3) YX6_byOdds h [.ref 131, .int (nI p), .int (nI m), .int (nI 1), .int x] (fun r h' => r = frac (mnF (pg h 0) m (fun c => ix (skU (ix (h 131 2)) (pg h 0) m p c)) (4 ^ m)) (10 ^ m) x ∧ sameP h h' ∧ lo h h') := by
  refine M.of (by decide) rfl (Nat.le_of_ble_eq_true rfl) ?_
  have hR0 := hR
  have hG : GD (ix (h 131 2)) (pg h 0) := hR.2.1
  obtain ⟨r1, ⟨⟨v1, v2, v3, v4⟩, v5, v6, v7, v8, v9, va, vb, vc, vd⟩, r3, r4, ⟨r5, r6⟩, r7, r8, r9, ra⟩ := hR
  have hn := r1.1
  have hn4 := v1
  have n5 := r1.2
  have c6 : ix (h 132 37) < 6 := v3.2
  have p9 : ix (h 132 51) < 9 := v5.2
  have p9' : ix (pg h 0 51) < 9 := v5.2
  have p4 := p4_b hm
  have p10 := p10_b hm
  refine J_lconst (pc := 0) (v := 0) dX6_byOdds_0 (by decide) ?_
  refine J_lstore (pc := 1) dX6_byOdds_1 (by decide) ?_
  refine J_lconst (pc := 3) (v := 1) dX6_byOdds_3 (by decide) ?_
  refine J_lstore (pc := 4) dX6_byOdds_4 (by decide) ?_
  refine J_iconst (pc := 6) (v := nI 0) dX6_byOdds_6 (by decide) ?_
  refine J_istore (pc := 7) dX6_byOdds_7 (by decide) ?_
  refine J_ls (ls' := [(0, .ref 131), (1, .int (nI p)), (2, .int (nI m)), (3, .int (nI 1)), (4, .int x), (5, .long 0), (7, .long (lN (10 ^ 0))), (9, .int (nI 0))]) ⟨rfl, rfl, rfl, rfl, rfl, rfl, rfl, rfl, trivial⟩ ?_
  refine l6_bo1 hm ?_ (m + 1) 0 (Nat.zero_le _) (by omega)
  refine J_iconst (pc := 29) (v := nI 0) dX6_byOdds_29 (by decide) ?_
  refine J_istore (pc := 30) dX6_byOdds_30 (by decide) ?_
  refine J_h (mset_pg (h := h) (o := 276)).symm ?_
  refine J_ls (ls' := [(0, .ref 131), (1, .int (nI p)), (2, .int (nI m)), (3, .int (nI 1)), (4, .int x), (5, .long (lN (mnF (pg h 0) m (fun c => ix (skU (ix (h 131 2)) (pg h 0) m p c)) 0))), (7, .long (lN (10 ^ m))), (9, .int (nI 0))]) ⟨rfl, rfl, rfl, rfl, rfl, rfl, rfl, rfl, trivial⟩ ?_
  refine l6_bo2m hR0 hm hp ?_ (4 ^ m + 1) 0 _ (Nat.zero_le _) (by omega) rfl
  intro T hT
  refine J_lload (pc := 136) dX6_byOdds_136 rfl ?_
  refine J_lload (pc := 138) dX6_byOdds_138 rfl ?_
  refine J_iload (pc := 140) dX6_byOdds_140 rfl ?_
  refine K_Sl3 (pc := 142) (Y' := YX6_lowest) dX6_byOdds_142 lX6_246 mX6_lowest sX6_lowest (Nat.le_of_ble_eq_true rfl) (c6_lowest (mn1_b hG hp hm) (by omega) (by omega)) ?_
  rintro r h0 ⟨e0, rfl⟩
  rw [e0]
  clear e0 h0
  refine K_lret (pc := 145) dX6_byOdds_145 rfl ?_
  exact ⟨rfl, sameP_scr (by omega), lo_mset⟩
set_option maxHeartbeats 4000000 in
theorem l6_bo2l {g : jG} {d : Nat} {h : jH} {Q : kQ} {p m : Nat} {x : Int32} (hR : MR h) (hm : m ≤ 4) (hp : p < ix (h 131 2)) (kx : ∀ (T : Nat → Int32), ((4 ^ m) = (4 ^ m)) → K g (d + 3) YX6_byOdds (mset h 276 T) 136 [(0, .ref 131), (1, .int (nI p)), (2, .int (nI m)), (3, .int (nI 0)), (4, .int x), (5, .long (lN (mnF (pg h 0) m (fun c => if (pg h 0) 42 + nI 5 ≤ skU (ix (h 131 2)) (pg h 0) m p c then 1 else 0) (4 ^ m)))), (7, .long (lN (10 ^ m))), (9, .int (nI (4 ^ m)))] [] Q) : ∀ (mm k : Nat) (T : Nat → Int32), k ≤ (4 ^ m) → (4 ^ m) < k + mm → (k = k) → K g (d + 3) YX6_byOdds (mset h 276 T) 32 [(0, .ref 131), (1, .int (nI p)), (2, .int (nI m)), (3, .int (nI 0)), (4, .int x), (5, .long (lN (mnF (pg h 0) m (fun c => if (pg h 0) 42 + nI 5 ≤ skU (ix (h 131 2)) (pg h 0) m p c then 1 else 0) k))), (7, .long (lN (10 ^ m))), (9, .int (nI k))] [] Q := by
  intro mm
  induction mm with
  | zero => intro k T hk1 hk2 hI; omega
  | succ mm ih =>
    intro k T hk1 hk2 hI
    have hR0 := hR
    have hG : GD (ix (h 131 2)) (pg h 0) := hR.2.1
    obtain ⟨r1, ⟨⟨v1, v2, v3, v4⟩, v5, v6, v7, v8, v9, va, vb, vc, vd⟩, r3, r4, ⟨r5, r6⟩, r7, r8, r9, ra⟩ := hR
    have hn := r1.1
    have hn4 := v1
    have n5 := r1.2
    have c6 : ix (h 132 37) < 6 := v3.2
    have p9 : ix (h 132 51) < 9 := v5.2
    have p9' : ix (pg h 0 51) < 9 := v5.2
    have p4 := p4_b hm
    refine J_iload (pc := 32) dX6_byOdds_32 rfl ?_
    refine J_iload_n (pc := 34) dX6_byOdds_34 rfl ?_
    refine K_Si1 (pc := 35) (Y' := YX6_powerOf) dX6_byOdds_35 lX6_231 mX6_powerOf sX6_powerOf (Nat.le_of_ble_eq_true rfl) (c6_powerOf hm) ?_
    rintro r h0 ⟨e0, rfl⟩
    rw [e0]
    clear e0 h0
    refine J_icmp_ge (pc := 38) (tgt := 136) dX6_byOdds_38 (by decide) (fun c38 => ?_) (fun c38 => ?_)
    · skip
      have q38 : (4 ^ m) ≤ k := (nI_leI (by omega) (by omega)).mp c38
      have e_k : k = (4 ^ m) := by omega
      refine J_ls (ls' := [(0, .ref 131), (1, .int (nI p)), (2, .int (nI m)), (3, .int (nI 0)), (4, .int x), (5, .long (lN (mnF (pg h 0) m (fun c => if (pg h 0) 42 + nI 5 ≤ skU (ix (h 131 2)) (pg h 0) m p c then 1 else 0) k))), (7, .long (lN (10 ^ m))), (9, .int (nI k))]) ⟨rfl, rfl, rfl, rfl, rfl, rfl, rfl, rfl, trivial⟩ ?_
      rw [e_k] at hI ⊢
      exact kx T hI
    · skip
      have q38 : k < (4 ^ m) := Nat.lt_of_not_le (fun z => c38 ((nI_leI (by omega) (by omega)).mpr z))
      refine J_lconst (pc := 41) (v := 1) dX6_byOdds_41 (by decide) ?_
      refine J_lstore (pc := 42) dX6_byOdds_42 (by decide) ?_
      refine J_iconst (pc := 44) (v := nI 0) dX6_byOdds_44 (by decide) ?_
      refine J_istore (pc := 45) dX6_byOdds_45 (by decide) ?_
      refine J_ls (ls' := [(0, .ref 131), (1, .int (nI p)), (2, .int (nI m)), (3, .int (nI 0)), (4, .int x), (5, .long (lN (mnF (pg h 0) m (fun c => if (pg h 0) 42 + nI 5 ≤ skU (ix (h 131 2)) (pg h 0) m p c then 1 else 0) k))), (7, .long (lN (10 ^ m))), (9, .int (nI k)), (10, .long (lN (wtF (pg h 0) k 0))), (12, .int (nI 0))]) ⟨rfl, rfl, rfl, rfl, rfl, rfl, rfl, rfl, rfl, rfl, trivial⟩ ?_
      refine l6_bo3 hG hm (by omega) ?_ (m + 1) 0 (Nat.zero_le _) (by omega)
      refine J_aload_n (pc := 78) dX6_byOdds_78 rfl ?_
      refine J_iconst (pc := 79) (v := nI 0) dX6_byOdds_79 (by decide) ?_
      refine J_iload (pc := 80) dX6_byOdds_80 rfl ?_
      refine J_iload_n (pc := 82) dX6_byOdds_82 rfl ?_
      refine K_Vv3 (pc := 83) (Y' := YX6_skyFrom) dX6_byOdds_83 lX6_234 mX6_skyFrom vX6_skyFrom ⟨_, _, rfl⟩ sh131 (Nat.le_of_ble_eq_true rfl) (c6_skyFrom hR0 hm (c := k) (by omega)) ?_
      rintro h1 ⟨T1, hT1, rfl⟩
      have ev : mset h 276 T1 132 (284 + p) = skU (ix (h 131 2)) (pg h 0) m p k := (mset_at (8 + p) (by omega) (by omega)).trans (hT1 (8 + p) (by omega))
      have sn := skU_nb (m := m) (c := k) hG hp
      have sn2 := sn.2
      refine J_aload_n (pc := 86) dX6_byOdds_86 rfl ?_
      refine J_getR (pc := 87) dX6_byOdds_87 fX6_7 sh131 rfl ?_
      refine J_sipush (pc := 90) (v := nI 284) dX6_byOdds_90 (by decide) ?_
      refine J_iload_n (pc := 93) dX6_byOdds_93 rfl ?_
      refine J_iadd (pc := 94) dX6_byOdds_94 (nI_add _ _) ?_
      refine J_iald (pc := 95) dX6_byOdds_95 sh132 (rfl) (by omega) (ev) (by decide) ?_
      refine J_istore (pc := 96) dX6_byOdds_96 (by decide) ?_
      refine J_lload (pc := 98) dX6_byOdds_98 rfl ?_
      refine J_lload (pc := 100) dX6_byOdds_100 rfl ?_
      refine J_iload_n (pc := 102) dX6_byOdds_102 rfl ?_
      refine J_if_eq (pc := 103) (tgt := 111) dX6_byOdds_103 (by decide) (fun _ => ?_) (fun c => absurd c (by decide))
      refine J_iload (pc := 111) dX6_byOdds_111 rfl ?_
      refine J_aload_n (pc := 113) dX6_byOdds_113 rfl ?_
      refine K_Vi0 (pc := 114) (Y' := YX6_floorNow) dX6_byOdds_114 lX6_154 mX6_floorNow vX6_floorNow ⟨_, _, rfl⟩ sh131 (Nat.le_of_ble_eq_true rfl) (c6_floorNow) ?_
      rintro r h0 ⟨e0, rfl⟩
      rw [e0, show mset h 276 T1 132 42 = pg h 0 42 from mset_out (by omega)]
      clear e0 h0
      refine J_icmp_lt (pc := 117) (tgt := 124) dX6_byOdds_117 (by decide) (fun c117 => ?_) (fun c117 => ?_)
      · skip
        refine J_iconst (pc := 124) (v := nI 0) dX6_byOdds_124 (by decide) ?_
        refine J_i2l (pc := 125) dX6_byOdds_125 (nI_l (by omega)) ?_
        refine J_lmul (pc := 126) dX6_byOdds_126 (lN_mul _ _) ?_
        refine J_ladd (pc := 127) dX6_byOdds_127 (lN_add _ _) ?_
        refine J_lstore (pc := 128) dX6_byOdds_128 (by decide) ?_
        refine J_iinc (pc := 130) dX6_byOdds_130 rfl (v := nI (k + 1)) (by exact nI_add _ _) (by decide) ?_
        refine J_goto (pc := 133) (tgt := 32) dX6_byOdds_133 (by decide) ?_
        have i := ih (k + 1) T1 (by omega) (by omega) rfl
        rw [show mnF (pg h 0) m (fun c => if (pg h 0) 42 + nI 5 ≤ skU (ix (h 131 2)) (pg h 0) m p c then 1 else 0) (k + 1) = mnF (pg h 0) m (fun c => if (pg h 0) 42 + nI 5 ≤ skU (ix (h 131 2)) (pg h 0) m p c then 1 else 0) k + wtF (pg h 0) k m * 0 from congrArg (fun z => mnF (pg h 0) m (fun c => if (pg h 0) 42 + nI 5 ≤ skU (ix (h 131 2)) (pg h 0) m p c then 1 else 0) k + wtF (pg h 0) k m * z) (if_neg (show ¬ pg h 0 42 + nI 5 ≤ skU (ix (h 131 2)) (pg h 0) m p k from Int32.not_le.mpr c117))] at i
        refine J_ls ?_ i
        exact ⟨rfl, rfl, rfl, rfl, rfl, rfl, rfl, rfl, trivial⟩
      · skip
        refine J_iconst (pc := 120) (v := nI 1) dX6_byOdds_120 (by decide) ?_
        refine J_goto (pc := 121) (tgt := 125) dX6_byOdds_121 (by decide) ?_
        refine J_i2l (pc := 125) dX6_byOdds_125 (nI_l (by omega)) ?_
        refine J_lmul (pc := 126) dX6_byOdds_126 (lN_mul _ _) ?_
        refine J_ladd (pc := 127) dX6_byOdds_127 (lN_add _ _) ?_
        refine J_lstore (pc := 128) dX6_byOdds_128 (by decide) ?_
        refine J_iinc (pc := 130) dX6_byOdds_130 rfl (v := nI (k + 1)) (by exact nI_add _ _) (by decide) ?_
        refine J_goto (pc := 133) (tgt := 32) dX6_byOdds_133 (by decide) ?_
        have i := ih (k + 1) T1 (by omega) (by omega) rfl
        rw [show mnF (pg h 0) m (fun c => if (pg h 0) 42 + nI 5 ≤ skU (ix (h 131 2)) (pg h 0) m p c then 1 else 0) (k + 1) = mnF (pg h 0) m (fun c => if (pg h 0) 42 + nI 5 ≤ skU (ix (h 131 2)) (pg h 0) m p c then 1 else 0) k + wtF (pg h 0) k m * 1 from congrArg (fun z => mnF (pg h 0) m (fun c => if (pg h 0) 42 + nI 5 ≤ skU (ix (h 131 2)) (pg h 0) m p c then 1 else 0) k + wtF (pg h 0) k m * z) (if_pos (show pg h 0 42 + nI 5 ≤ skU (ix (h 131 2)) (pg h 0) m p k from Int32.not_lt.mp c117))] at i
        refine J_ls ?_ i
        exact ⟨rfl, rfl, rfl, rfl, rfl, rfl, rfl, rfl, trivial⟩
set_option maxHeartbeats 4000000 in
theorem c6_bol {g : jG} {d : Nat} {h : jH} {p m : Nat} {x : Int32} (hR : MR h) (hm : m ≤ 4) (hp : p < ix (h 131 2)) : Ml g (d + 3) YX6_byOdds h [.ref 131, .int (nI p), .int (nI m), .int (nI 0), .int x] (fun r h' => r = frac (mnF (pg h 0) m (fun c => if (pg h 0) 42 + nI 5 ≤ skU (ix (h 131 2)) (pg h 0) m p c then 1 else 0) (4 ^ m)) (10 ^ m) x ∧ sameP h h' ∧ lo h h') := by
  refine M.of (by decide) rfl (Nat.le_of_ble_eq_true rfl) ?_
  have hR0 := hR
  have hG : GD (ix (h 131 2)) (pg h 0) := hR.2.1
  obtain ⟨r1, ⟨⟨v1, v2, v3, v4⟩, v5, v6, v7, v8, v9, va, vb, vc, vd⟩, r3, r4, ⟨r5, r6⟩, r7, r8, r9, ra⟩ := hR
  have hn := r1.1
  have hn4 := v1
  have n5 := r1.2
  have c6 : ix (h 132 37) < 6 := v3.2
  have p9 : ix (h 132 51) < 9 := v5.2
  have p9' : ix (pg h 0 51) < 9 := v5.2
  have p4 := p4_b hm
  have p10 := p10_b hm
  refine J_lconst (pc := 0) (v := 0) dX6_byOdds_0 (by decide) ?_
  refine J_lstore (pc := 1) dX6_byOdds_1 (by decide) ?_
  refine J_lconst (pc := 3) (v := 1) dX6_byOdds_3 (by decide) ?_
  refine J_lstore (pc := 4) dX6_byOdds_4 (by decide) ?_
  refine J_iconst (pc := 6) (v := nI 0) dX6_byOdds_6 (by decide) ?_
  refine J_istore (pc := 7) dX6_byOdds_7 (by decide) ?_
  refine J_ls (ls' := [(0, .ref 131), (1, .int (nI p)), (2, .int (nI m)), (3, .int (nI 0)), (4, .int x), (5, .long 0), (7, .long (lN (10 ^ 0))), (9, .int (nI 0))]) ⟨rfl, rfl, rfl, rfl, rfl, rfl, rfl, rfl, trivial⟩ ?_
  refine l6_bo1 hm ?_ (m + 1) 0 (Nat.zero_le _) (by omega)
  refine J_iconst (pc := 29) (v := nI 0) dX6_byOdds_29 (by decide) ?_
  refine J_istore (pc := 30) dX6_byOdds_30 (by decide) ?_
  refine J_h (mset_pg (h := h) (o := 276)).symm ?_
  refine J_ls (ls' := [(0, .ref 131), (1, .int (nI p)), (2, .int (nI m)), (3, .int (nI 0)), (4, .int x), (5, .long (lN (mnF (pg h 0) m (fun c => if (pg h 0) 42 + nI 5 ≤ skU (ix (h 131 2)) (pg h 0) m p c then 1 else 0) 0))), (7, .long (lN (10 ^ m))), (9, .int (nI 0))]) ⟨rfl, rfl, rfl, rfl, rfl, rfl, rfl, rfl, trivial⟩ ?_
  refine l6_bo2l hR0 hm hp ?_ (4 ^ m + 1) 0 _ (Nat.zero_le _) (by omega) rfl
  intro T hT
  refine J_lload (pc := 136) dX6_byOdds_136 rfl ?_
  refine J_lload (pc := 138) dX6_byOdds_138 rfl ?_
  refine J_iload (pc := 140) dX6_byOdds_140 rfl ?_
  refine K_Sl3 (pc := 142) (Y' := YX6_lowest) dX6_byOdds_142 lX6_246 mX6_lowest sX6_lowest (Nat.le_of_ble_eq_true rfl) (c6_lowest (mn2_b hG hm) (by omega) (by omega)) ?_
  rintro r h0 ⟨e0, rfl⟩
  rw [e0]
  clear e0 h0
  refine K_lret (pc := 145) dX6_byOdds_145 rfl ?_
  exact ⟨rfl, sameP_scr (by omega), lo_mset⟩
set_option maxHeartbeats 4000000 in
theorem c6_mean {g : jG} {d : Nat} {h : jH} {p n x : Int32} (hR : MR h) : Ml g (d + 4) YX6_mean h [.ref 131, .int p, .int n, .int x] (fun r h' => r = qMean h p n x ∧ sameP h h' ∧ lo h h') := by
  refine M.of (by decide) rfl (Nat.le_of_ble_eq_true rfl) ?_
  have hR0 := hR
  have hG : GD (ix (h 131 2)) (pg h 0) := hR.2.1
  obtain ⟨r1, ⟨⟨v1, v2, v3, v4⟩, v5, v6, v7, v8, v9, va, vb, vc, vd⟩, r3, r4, ⟨r5, r6⟩, r7, r8, r9, ra⟩ := hR
  have hn := r1.1
  have hn4 := v1
  have n5 := r1.2
  have c6 : ix (h 132 37) < 6 := v3.2
  have p9 : ix (h 132 51) < 9 := v5.2
  have p9' : ix (pg h 0 51) < 9 := v5.2
  refine J_aload_n (pc := 0) dX6_mean_0 rfl ?_
  refine J_iload_n (pc := 1) dX6_mean_1 rfl ?_
  refine K_Vi1 (pc := 2) (Y' := YX6_isOne) dX6_mean_2 lX6_160 mX6_isOne vX6_isOne ⟨_, _, rfl⟩ sh131 (Nat.le_of_ble_eq_true rfl) (c6_isOne (x := p) hn hn4) ?_
  rintro x h0 ⟨e0, ⟨rfl, b2⟩ | ⟨rfl, b2⟩⟩ <;> rw [e0] <;> clear e0 h0
  · skip
    refine J_if_eq (pc := 5) (tgt := 41) dX6_mean_5 (by decide) (fun c => absurd c (by decide)) (fun _ => ?_)
    refine J_iload_n (pc := 8) dX6_mean_8 rfl ?_
    refine J_i2l (pc := 9) dX6_mean_9 (rfl) ?_
    refine J_lconst (pc := 10) (v := 0) dX6_mean_10 (by decide) ?_
    refine J_ldc2 (pc := 11) dX6_mean_11 kX6_164 ?_
    refine K_Si3 (pc := 14) (Y' := YX6_in) dX6_mean_14 lX6_55 mX6_in sX6_in (Nat.le_of_ble_eq_true rfl) (c6_inI n (nI 0) (nI 4) rfl (by decide) (by decide)) ?_
    rintro x h0 ⟨e0, ⟨rfl, b14⟩ | ⟨rfl, b14⟩⟩ <;> rw [e0] <;> clear e0 h0
    · skip
      refine J_if_eq (pc := 17) (tgt := 41) dX6_mean_17 (by decide) (fun c => absurd c (by decide)) (fun _ => ?_)
      refine J_iload_n (pc := 20) dX6_mean_20 rfl ?_
      refine J_i2l (pc := 21) dX6_mean_21 (rfl) ?_
      refine J_lconst (pc := 22) (v := 0) dX6_mean_22 (by decide) ?_
      refine J_lconst (pc := 23) (v := 1) dX6_mean_23 (by decide) ?_
      refine K_Si3 (pc := 24) (Y' := YX6_in) dX6_mean_24 lX6_55 mX6_in sX6_in (Nat.le_of_ble_eq_true rfl) (c6_inI x (nI 0) (nI 1) rfl (by decide) (by decide)) ?_
      rintro x h0 ⟨e0, ⟨rfl, b24⟩ | ⟨rfl, b24⟩⟩ <;> rw [e0] <;> clear e0 h0
      · skip
        refine J_if_eq (pc := 27) (tgt := 41) dX6_mean_27 (by decide) (fun c => absurd c (by decide)) (fun _ => ?_)
        have bn : nb 5 n := (in_nbc (n := 4) rfl (by omega)).mp b14
        have hm : ix n ≤ 4 := by have := bn.2; omega
        refine J_ls (ls' := [(0, .ref 131), (1, .int (nI (ix p))), (2, .int (nI (ix n))), (3, .int x)]) ⟨rfl, congrArg (fun z => some (Value.int z)) b2.1, congrArg (fun z => some (Value.int z)) bn.1, rfl, trivial⟩ ?_
        refine J_aload_n (pc := 30) dX6_mean_30 rfl ?_
        refine J_iload_n (pc := 31) dX6_mean_31 rfl ?_
        refine J_iload_n (pc := 32) dX6_mean_32 rfl ?_
        refine J_iconst (pc := 33) (v := nI 1) dX6_mean_33 (by decide) ?_
        refine J_iload_n (pc := 34) dX6_mean_34 rfl ?_
        refine K_Vl4 (pc := 35) (Y' := YX6_byOdds) dX6_mean_35 lX6_250 mX6_byOdds vX6_byOdds ⟨_, _, rfl⟩ sh131 (Nat.le_of_ble_eq_true rfl) (c6_bom hR0 hm b2.2) ?_
        rintro r h1 ⟨e1, e2, e3⟩
        rw [e1]
        refine J_goto (pc := 38) (tgt := 44) dX6_mean_38 (by decide) ?_
        refine K_lret (pc := 44) dX6_mean_44 rfl ?_
        exact ⟨(iteX_t ⟨b2, bn, b24⟩).symm, e2, e3⟩
      · skip
        refine J_if_eq (pc := 27) (tgt := 41) dX6_mean_27 (by decide) (fun _ => ?_) (fun c => absurd c (by decide))
        refine J_ldc2 (pc := 41) dX6_mean_41 kX6_254 ?_
        refine K_lret (pc := 44) dX6_mean_44 rfl ?_
        exact ⟨(iteX_f (fun z => b24 z.2.2)).symm, sameP.rf, lo.rf⟩
    · skip
      refine J_if_eq (pc := 17) (tgt := 41) dX6_mean_17 (by decide) (fun _ => ?_) (fun c => absurd c (by decide))
      refine J_ldc2 (pc := 41) dX6_mean_41 kX6_254 ?_
      refine K_lret (pc := 44) dX6_mean_44 rfl ?_
      exact ⟨(iteX_f (fun z => b14 ((in_nbc (n := 4) rfl (by omega)).mpr z.2.1))).symm, sameP.rf, lo.rf⟩
  · skip
    refine J_if_eq (pc := 5) (tgt := 41) dX6_mean_5 (by decide) (fun _ => ?_) (fun c => absurd c (by decide))
    refine J_ldc2 (pc := 41) dX6_mean_41 kX6_254 ?_
    refine K_lret (pc := 44) dX6_mean_44 rfl ?_
    exact ⟨(iteX_f (fun z => b2 z.1)).symm, sameP.rf, lo.rf⟩
set_option maxHeartbeats 4000000 in
theorem c6_luck {g : jG} {d : Nat} {h : jH} {p n x : Int32} (hR : MR h) : Ml g (d + 4) YX6_luck h [.ref 131, .int p, .int n, .int x] (fun r h' => r = qLuck h p n x ∧ sameP h h' ∧ lo h h') := by
  refine M.of (by decide) rfl (Nat.le_of_ble_eq_true rfl) ?_
  have hR0 := hR
  have hG : GD (ix (h 131 2)) (pg h 0) := hR.2.1
  obtain ⟨r1, ⟨⟨v1, v2, v3, v4⟩, v5, v6, v7, v8, v9, va, vb, vc, vd⟩, r3, r4, ⟨r5, r6⟩, r7, r8, r9, ra⟩ := hR
  have hn := r1.1
  have hn4 := v1
  have n5 := r1.2
  have c6 : ix (h 132 37) < 6 := v3.2
  have p9 : ix (h 132 51) < 9 := v5.2
  have p9' : ix (pg h 0 51) < 9 := v5.2
  refine J_aload_n (pc := 0) dX6_luck_0 rfl ?_
  refine J_iload_n (pc := 1) dX6_luck_1 rfl ?_
  refine K_Vi1 (pc := 2) (Y' := YX6_isOne) dX6_luck_2 lX6_160 mX6_isOne vX6_isOne ⟨_, _, rfl⟩ sh131 (Nat.le_of_ble_eq_true rfl) (c6_isOne (x := p) hn hn4) ?_
  rintro x h0 ⟨e0, ⟨rfl, b2⟩ | ⟨rfl, b2⟩⟩ <;> rw [e0] <;> clear e0 h0
  · skip
    refine J_if_eq (pc := 5) (tgt := 41) dX6_luck_5 (by decide) (fun c => absurd c (by decide)) (fun _ => ?_)
    refine J_iload_n (pc := 8) dX6_luck_8 rfl ?_
    refine J_i2l (pc := 9) dX6_luck_9 (rfl) ?_
    refine J_lconst (pc := 10) (v := 0) dX6_luck_10 (by decide) ?_
    refine J_ldc2 (pc := 11) dX6_luck_11 kX6_164 ?_
    refine K_Si3 (pc := 14) (Y' := YX6_in) dX6_luck_14 lX6_55 mX6_in sX6_in (Nat.le_of_ble_eq_true rfl) (c6_inI n (nI 0) (nI 4) rfl (by decide) (by decide)) ?_
    rintro x h0 ⟨e0, ⟨rfl, b14⟩ | ⟨rfl, b14⟩⟩ <;> rw [e0] <;> clear e0 h0
    · skip
      refine J_if_eq (pc := 17) (tgt := 41) dX6_luck_17 (by decide) (fun c => absurd c (by decide)) (fun _ => ?_)
      refine J_iload_n (pc := 20) dX6_luck_20 rfl ?_
      refine J_i2l (pc := 21) dX6_luck_21 (rfl) ?_
      refine J_lconst (pc := 22) (v := 0) dX6_luck_22 (by decide) ?_
      refine J_lconst (pc := 23) (v := 1) dX6_luck_23 (by decide) ?_
      refine K_Si3 (pc := 24) (Y' := YX6_in) dX6_luck_24 lX6_55 mX6_in sX6_in (Nat.le_of_ble_eq_true rfl) (c6_inI x (nI 0) (nI 1) rfl (by decide) (by decide)) ?_
      rintro x h0 ⟨e0, ⟨rfl, b24⟩ | ⟨rfl, b24⟩⟩ <;> rw [e0] <;> clear e0 h0
      · skip
        refine J_if_eq (pc := 27) (tgt := 41) dX6_luck_27 (by decide) (fun c => absurd c (by decide)) (fun _ => ?_)
        have bn : nb 5 n := (in_nbc (n := 4) rfl (by omega)).mp b14
        have hm : ix n ≤ 4 := by have := bn.2; omega
        refine J_ls (ls' := [(0, .ref 131), (1, .int (nI (ix p))), (2, .int (nI (ix n))), (3, .int x)]) ⟨rfl, congrArg (fun z => some (Value.int z)) b2.1, congrArg (fun z => some (Value.int z)) bn.1, rfl, trivial⟩ ?_
        refine J_aload_n (pc := 30) dX6_luck_30 rfl ?_
        refine J_iload_n (pc := 31) dX6_luck_31 rfl ?_
        refine J_iload_n (pc := 32) dX6_luck_32 rfl ?_
        refine J_iconst (pc := 33) (v := nI 0) dX6_luck_33 (by decide) ?_
        refine J_iload_n (pc := 34) dX6_luck_34 rfl ?_
        refine K_Vl4 (pc := 35) (Y' := YX6_byOdds) dX6_luck_35 lX6_250 mX6_byOdds vX6_byOdds ⟨_, _, rfl⟩ sh131 (Nat.le_of_ble_eq_true rfl) (c6_bol hR0 hm b2.2) ?_
        rintro r h1 ⟨e1, e2, e3⟩
        rw [e1]
        refine J_goto (pc := 38) (tgt := 44) dX6_luck_38 (by decide) ?_
        refine K_lret (pc := 44) dX6_luck_44 rfl ?_
        exact ⟨(iteX_t ⟨b2, bn, b24⟩).symm, e2, e3⟩
      · skip
        refine J_if_eq (pc := 27) (tgt := 41) dX6_luck_27 (by decide) (fun _ => ?_) (fun c => absurd c (by decide))
        refine J_ldc2 (pc := 41) dX6_luck_41 kX6_254 ?_
        refine K_lret (pc := 44) dX6_luck_44 rfl ?_
        exact ⟨(iteX_f (fun z => b24 z.2.2)).symm, sameP.rf, lo.rf⟩
    · skip
      refine J_if_eq (pc := 17) (tgt := 41) dX6_luck_17 (by decide) (fun _ => ?_) (fun c => absurd c (by decide))
      refine J_ldc2 (pc := 41) dX6_luck_41 kX6_254 ?_
      refine K_lret (pc := 44) dX6_luck_44 rfl ?_
      exact ⟨(iteX_f (fun z => b14 ((in_nbc (n := 4) rfl (by omega)).mpr z.2.1))).symm, sameP.rf, lo.rf⟩
  · skip
    refine J_if_eq (pc := 5) (tgt := 41) dX6_luck_5 (by decide) (fun _ => ?_) (fun c => absurd c (by decide))
    refine J_ldc2 (pc := 41) dX6_luck_41 kX6_254 ?_
    refine K_lret (pc := 44) dX6_luck_44 rfl ?_
    exact ⟨(iteX_f (fun z => b2 z.1)).symm, sameP.rf, lo.rf⟩
