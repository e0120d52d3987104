def ush (x : Int32) (s : Int32) : Int32 := (x.toUInt32 >>> (s.toUInt32 &&& Int32.toUInt32 31)).toInt32
def bc1 (x : Int32) : Int32 := x - (ush x (nI 1) &&& 1431655765)
def bc2 (x : Int32) : Int32 := (bc1 x &&& 858993459) + (ush (bc1 x) (nI 2) &&& 858993459)
def bc3 (x : Int32) : Int32 := (bc2 x + ush (bc2 x) (nI 4)) &&& 252645135
def bc4 (x : Int32) : Int32 := bc3 x + ush (bc3 x) (nI 8)
def bc5 (x : Int32) : Int32 := bc4 x + ush (bc4 x) (nI 16)
theorem pop_bc : ∀ k, k < 16 → bc5 (nI k) &&& nI 63 = nI (pop k) := by decide
set_option maxHeartbeats 4000000 in
theorem cJ6_bitCount {g : jG} {d : Nat} {h : jH} {k : Nat} (hk : k < 16) : Mi g d YJ6_bitCount_0f7a4 h [.int (nI k)] (fun r h' => h' = h ∧ r = nI (pop k)) := by
  refine M.of (by decide) rfl (Nat.le_of_ble_eq_true rfl) ?_
  refine J_iload_n (pc := 0) dJ6_bitCount_0f7a4_0 rfl ?_
  refine J_iload_n (pc := 1) dJ6_bitCount_0f7a4_1 rfl ?_
  refine J_iconst (pc := 2) (v := nI 1) dJ6_bitCount_0f7a4_2 (by decide) ?_
  refine J_iushr (pc := 3) dJ6_bitCount_0f7a4_3 (rfl) ?_
  refine J_ldcw (pc := 4) dJ6_bitCount_0f7a4_4 kJ6_265 ?_
  refine J_iand (pc := 7) dJ6_bitCount_0f7a4_7 (rfl) ?_
  refine J_isub (pc := 8) dJ6_bitCount_0f7a4_8 (rfl) ?_
  refine J_istore_n (pc := 9) dJ6_bitCount_0f7a4_9 (by decide) ?_
  refine J_iload_n (pc := 10) dJ6_bitCount_0f7a4_10 rfl ?_
  refine J_ldcw (pc := 11) dJ6_bitCount_0f7a4_11 kJ6_266 ?_
  refine J_iand (pc := 14) dJ6_bitCount_0f7a4_14 (rfl) ?_
  refine J_iload_n (pc := 15) dJ6_bitCount_0f7a4_15 rfl ?_
  refine J_iconst (pc := 16) (v := nI 2) dJ6_bitCount_0f7a4_16 (by decide) ?_
  refine J_iushr (pc := 17) dJ6_bitCount_0f7a4_17 (rfl) ?_
  refine J_ldcw (pc := 18) dJ6_bitCount_0f7a4_18 kJ6_266 ?_
  refine J_iand (pc := 21) dJ6_bitCount_0f7a4_21 (rfl) ?_
  refine J_iadd (pc := 22) dJ6_bitCount_0f7a4_22 (rfl) ?_
  refine J_istore_n (pc := 23) dJ6_bitCount_0f7a4_23 (by decide) ?_
  refine J_iload_n (pc := 24) dJ6_bitCount_0f7a4_24 rfl ?_
  refine J_iload_n (pc := 25) dJ6_bitCount_0f7a4_25 rfl ?_
  refine J_iconst (pc := 26) (v := nI 4) dJ6_bitCount_0f7a4_26 (by decide) ?_
  refine J_iushr (pc := 27) dJ6_bitCount_0f7a4_27 (rfl) ?_
  refine J_iadd (pc := 28) dJ6_bitCount_0f7a4_28 (rfl) ?_
  refine J_ldcw (pc := 29) dJ6_bitCount_0f7a4_29 kJ6_267 ?_
  refine J_iand (pc := 32) dJ6_bitCount_0f7a4_32 (rfl) ?_
  refine J_istore_n (pc := 33) dJ6_bitCount_0f7a4_33 (by decide) ?_
  refine J_iload_n (pc := 34) dJ6_bitCount_0f7a4_34 rfl ?_
  refine J_iload_n (pc := 35) dJ6_bitCount_0f7a4_35 rfl ?_
  refine J_bipush (pc := 36) (v := nI 8) dJ6_bitCount_0f7a4_36 (by decide) ?_
  refine J_iushr (pc := 38) dJ6_bitCount_0f7a4_38 (rfl) ?_
  refine J_iadd (pc := 39) dJ6_bitCount_0f7a4_39 (rfl) ?_
  refine J_istore_n (pc := 40) dJ6_bitCount_0f7a4_40 (by decide) ?_
  refine J_iload_n (pc := 41) dJ6_bitCount_0f7a4_41 rfl ?_
  refine J_iload_n (pc := 42) dJ6_bitCount_0f7a4_42 rfl ?_
  refine J_bipush (pc := 43) (v := nI 16) dJ6_bitCount_0f7a4_43 (by decide) ?_
  refine J_iushr (pc := 45) dJ6_bitCount_0f7a4_45 (rfl) ?_
  refine J_iadd (pc := 46) dJ6_bitCount_0f7a4_46 (rfl) ?_
  refine J_istore_n (pc := 47) dJ6_bitCount_0f7a4_47 (by decide) ?_
  refine J_iload_n (pc := 48) dJ6_bitCount_0f7a4_48 rfl ?_
  refine J_bipush (pc := 49) (v := nI 63) dJ6_bitCount_0f7a4_49 (by decide) ?_
  refine J_iand (pc := 51) dJ6_bitCount_0f7a4_51 (rfl) ?_
  refine K_iret (pc := 52) dJ6_bitCount_0f7a4_52 rfl ?_
  exact ⟨rfl, pop_bc k hk⟩
set_option maxHeartbeats 4000000 in
theorem l0_below {g : jG} {d : Nat} {h : jH} {Q : kQ} {n i : Nat} {P R : Nat → Int32} (hn : n ≤ 4) (hT : TR n P h) (hi341 : i < 341) (hN : nd n h i R) (kx : K g d YX0_belowFloor (h) 47 [(0, .ref 59), (1, .int (nI i)), (2, .int (blw (fun p => R (8 + p)) (P 42 + nI 5) n)), (3, .int (nI n))] [] Q) : ∀ (mm k : Nat) , k ≤ n → n < k + mm → K g d YX0_belowFloor (h) 4 [(0, .ref 59), (1, .int (nI i)), (2, .int (blw (fun p => R (8 + p)) (P 42 + nI 5) k)), (3, .int (nI k))] [] Q := by
  intro mm
  induction mm with
  | zero => intro k  hk1 hk2 ; omega
  | succ mm ih =>
    intro k  hk1 hk2 
    obtain ⟨Q, hQ, kQ⟩ := id hT
    refine J_iload_n (pc := 4) dX0_belowFloor_4 rfl ?_
    refine J_aload_n (pc := 5) dX0_belowFloor_5 rfl ?_
    refine J_getR (pc := 6) dX0_belowFloor_6 fX0_12 sh59 rfl ?_
    refine J_getI (pc := 9) dX0_belowFloor_9 fX0_82 (sv0 isV60) rfl (hQ.1) ?_
    refine J_icmp_ge (pc := 12) (tgt := 47) dX0_belowFloor_12 (by decide) (fun c12 => ?_) (fun c12 => ?_)
    · skip
      have q12 : n ≤ k := (nI_leI (by omega) (by omega)).mp c12
      have e_k : k = n := by omega
      refine J_ls (ls' := [(0, .ref 59), (1, .int (nI i)), (2, .int (blw (fun p => R (8 + p)) (P 42 + nI 5) k)), (3, .int (nI k))]) ⟨rfl, rfl, rfl, rfl, trivial⟩ ?_
      rw [e_k]
      exact kx
    · skip
      have q12 : k < n := Nat.lt_of_not_le (fun z => c12 ((nI_leI (by omega) (by omega)).mpr z))
      refine J_aload_n (pc := 15) dX0_belowFloor_15 rfl ?_
      refine J_getR (pc := 16) dX0_belowFloor_16 fX0_18 sh59 rfl ?_
      refine J_iload_n (pc := 19) dX0_belowFloor_19 rfl ?_
      refine J_iconst (pc := 20) (v := nI 4) dX0_belowFloor_20 (by decide) ?_
      refine J_imul (pc := 21) dX0_belowFloor_21 (pk_mul _ _) ?_
      refine J_iload_n (pc := 22) dX0_belowFloor_22 rfl ?_
      refine J_iadd (pc := 23) dX0_belowFloor_23 (nI_add _ _) ?_
      refine J_iald (pc := 24) dX0_belowFloor_24 sh78 (rfl) (by omega) ((congrArg _ (show i * 4 + k = 4 * i + k by omega)).trans (hN k q12)) (by decide) ?_
      refine J_aload_n (pc := 25) dX0_belowFloor_25 rfl ?_
      refine J_getR (pc := 26) dX0_belowFloor_26 fX0_12 sh59 rfl ?_
      refine J_getI (pc := 29) dX0_belowFloor_29 fX0_75 (sv0 isV60) rfl (hQ.2.2.2.2.2.1.trans (congrArg (· + nI 5) (kQ 42 (by omega)))) ?_
      refine J_icmp_ge (pc := 32) (tgt := 41) dX0_belowFloor_32 (by decide) (fun c32 => ?_) (fun c32 => ?_)
      · skip
        refine J_iinc (pc := 41) dX0_belowFloor_41 rfl (v := nI (k + 1)) (by exact nI_add _ _) (by decide) ?_
        refine J_goto (pc := 44) (tgt := 4) dX0_belowFloor_44 (by decide) ?_
        have i := ih (k + 1) (by omega) (by omega)
        first | rw [blw, if_pos c32] at i | rw [blw, if_neg c32] at i
        refine J_ls ?_ i
        exact ⟨rfl, rfl, rfl, rfl, trivial⟩
      · skip
        refine J_iload_n (pc := 35) dX0_belowFloor_35 rfl ?_
        refine J_iconst (pc := 36) (v := nI 1) dX0_belowFloor_36 (by decide) ?_
        refine J_iload_n (pc := 37) dX0_belowFloor_37 rfl ?_
        refine J_ishl (pc := 38) dX0_belowFloor_38 (rfl) ?_
        refine J_ior (pc := 39) dX0_belowFloor_39 (rfl) ?_
        refine J_istore_n (pc := 40) dX0_belowFloor_40 (by decide) ?_
        refine J_iinc (pc := 41) dX0_belowFloor_41 rfl (v := nI (k + 1)) (by exact nI_add _ _) (by decide) ?_
        refine J_goto (pc := 44) (tgt := 4) dX0_belowFloor_44 (by decide) ?_
        have i := ih (k + 1) (by omega) (by omega)
        first | rw [blw, if_pos c32] at i | rw [blw, if_neg c32] at i
        refine J_ls ?_ i
        exact ⟨rfl, rfl, rfl, rfl, trivial⟩
set_option maxHeartbeats 4000000 in
theorem c0_belowFloor {g : jG} {d : Nat} {h : jH} {n i : Nat} {P R : Nat → Int32} (hn : n ≤ 4) (hT : TR n P h) (hi341 : i < 341) (hN : nd n h i R) : Mi g d YX0_belowFloor h [.ref 59, .int (nI i)] (fun r h' => h' = h ∧ r = nI (bmN (fun p => R (8 + p)) (P 42 + nI 5) n)) := by
  refine M.of (by decide) rfl (Nat.le_of_ble_eq_true rfl) ?_
  refine J_iconst (pc := 0) (v := nI 0) dX0_belowFloor_0 (by decide) ?_
  refine J_istore_n (pc := 1) dX0_belowFloor_1 (by decide) ?_
  refine J_iconst (pc := 2) (v := nI 0) dX0_belowFloor_2 (by decide) ?_
  refine J_istore_n (pc := 3) dX0_belowFloor_3 (by decide) ?_
  refine J_ls (ls' := [(0, .ref 59), (1, .int (nI i)), (2, .int (nI 0)), (3, .int (nI 0))]) ⟨rfl, rfl, rfl, rfl, trivial⟩ ?_
  refine l0_below hn hT hi341 hN ?_ (n + 1) 0 (Nat.zero_le _) (by omega)
  refine J_iload_n (pc := 47) dX0_belowFloor_47 rfl ?_
  refine K_iret (pc := 48) dX0_belowFloor_48 rfl ?_
  exact ⟨rfl, (bmN_lt hn).2⟩
set_option maxHeartbeats 4000000 in
theorem l0_walk {g : jG} {d : Nat} {h : jH} {n m k : Nat} {P : Nat → Int32} (hG : GD n P) (hm : m ≤ 4) (hk : k < 4 ^ m) : ∀ (t : Nat) (hh : jH), t ≤ m → TR n P hh → nd n hh 0 P →
    (∀ l, l ≤ m - t → nd n hh (fst4 l + k / 4 ^ (m - l)) (skP n P l (k / 4 ^ (m - l)))) → (k + 1 ≠ 4 ^ m → ∀ l, m - t < l → l ≤ m → nd n hh (fst4 l + (k + 1) / 4 ^ (m - l)) (skP n P l ((k + 1) / 4 ^ (m - l)))) → (∀ b, (b < 60 ∨ 79 ≤ b) → hh b = h b) →
    K g (d + 3) YX0_walkDown hh 4 [(0, .ref 59), (1, .int (nI k)), (2, .int (nI m)), (3, .int (nI t - nI 1))] [] (fun r h' => r = none ∧ (TR n P h' ∧ nd n h' 0 P ∧ PATH n P m h' k ∧ ∀ b, (b < 60 ∨ 79 ≤ b) → h' b = h b)) := by
  have p4 := p4_b hm
  intro t
  induction t with
  | zero =>
    intro hh ht hT h0 hA hB hF
    refine J_iload_n (pc := 4) dX0_walkDown_4 rfl ?_
    refine J_if_lt (pc := 5) (tgt := 55) dX0_walkDown_5 (by decide) (fun c5 => ?_) (fun c5 => ?_)
    · skip
      refine K_ret (pc := 55) dX0_walkDown_55 rfl ?_
      exact ⟨hT, h0, fun l hl => hA l (by omega), hF⟩
    · skip
      exact absurd (show nI 0 - nI 1 < (0 : Int32) by decide) c5
  | succ t ih =>
    intro hh ht hT h0 hA hB hF
    refine J_ls (ls' := [(0, .ref 59), (1, .int (nI k)), (2, .int (nI m)), (3, .int (nI t))]) ⟨rfl, rfl, rfl, congrArg (fun z => some (Value.int z)) (by rw [pk_sub (by omega)]; rfl), trivial⟩ ?_
    refine J_iload_n (pc := 4) dX0_walkDown_4 rfl ?_
    refine J_if_lt (pc := 5) (tgt := 55) dX0_walkDown_5 (by decide) (fun c5 => ?_) (fun c5 => ?_)
    · skip
      exact absurd c5 (nI_pos (by omega))
    · skip
      refine J_iload_n (pc := 8) dX0_walkDown_8 rfl ?_
      refine J_iconst (pc := 9) (v := nI 1) dX0_walkDown_9 (by decide) ?_
      refine J_iadd (pc := 10) dX0_walkDown_10 (nI_add _ _) ?_
      refine J_iload_n (pc := 11) dX0_walkDown_11 rfl ?_
      refine K_Si1 (pc := 12) (Y' := YX0_runsOf) dX0_walkDown_12 lX0_59 mX0_runsOf sX0_runsOf (Nat.le_of_ble_eq_true rfl) (c0_runsOf (m := t) (by omega)) ?_
      rintro r h0 ⟨e0, rfl⟩
      rw [e0]
      clear e0 h0
      refine J_iconst (pc := 15) (v := nI 1) dX0_walkDown_15 (by decide) ?_
      refine J_isub (pc := 16) dX0_walkDown_16 (rfl) ?_
      refine J_iand (pc := 17) dX0_walkDown_17 (and_p (by omega) (by omega)) ?_
      refine J_if_ne (pc := 18) (tgt := 49) dX0_walkDown_18 (by decide) (fun c18 => ?_) (fun c18 => ?_)
      · skip
        refine J_iinc (pc := 49) dX0_walkDown_49 rfl (show nI t + Int32.ofInt (-1) = nI t - nI 1 by rw [Int32.sub_eq_add_neg]; rfl) (by decide) ?_
        refine J_goto (pc := 52) (tgt := 4) dX0_walkDown_52 (by decide) ?_
        refine J_ls (ls' := [(0, .ref 59), (1, .int (nI k)), (2, .int (nI m)), (3, .int (nI t - nI 1))]) ⟨rfl, rfl, rfl, rfl, trivial⟩ ?_
        refine ih hh (by omega) hT h0 (fun l hl => ?_) (fun hne l h1 h2 => hB hne l (by omega) h2) hF
        by_cases z : l = m - t
        · subst z
          have hne : k + 1 ≠ 4 ^ m := fun z => c18 (congrArg nI (by rw [z]; exact mod_pow (by omega)))
          have e := div_same (Nat.pow_pos (by omega)) (fun z => c18 (congrArg nI z) : (k + 1) % 4 ^ t ≠ 0)
          have := hB hne (m - t) (by omega) (by omega)
          rw [show m - (m - t) = t by omega] at this ⊢
          rw [e] at this
          exact this
        · exact hA l (by omega)
      · skip
        have e18 : (k + 1) % 4 ^ t = 0 := (nI_eq (by have := Nat.mod_le (k + 1) (4 ^ t); omega) (by omega)).mp c18
        have kd : ∀ j, k / 4 ^ j < 2 ^ 31 := fun j => by have := Nat.div_le_self k (4 ^ j); omega
        have plt : k / 4 ^ (t + 1) < 4 ^ (m - 1 - t) := by
          have := lev_lt (l := m - 1 - t) (m := m) (c := k) (by omega) (by omega) (by omega)
          rw [show m - (m - 1 - t) = t + 1 by omega] at this
          exact this
        have pnd : nd n hh (fst4 (m - 1 - t) + k / 4 ^ (t + 1)) (skP n P (m - 1 - t) (k / 4 ^ (t + 1))) := by
          have := hA (m - 1 - t) (by omega)
          rw [show m - (m - 1 - t) = t + 1 by omega] at this
          exact this
        have ilt : fst4 (m - 1 - t) + k / 4 ^ (t + 1) < 85 := by
          have f1 := fst_p (m - 1 - t)
          have f2 := fst_mono (show m - 1 - t + 1 ≤ 4 by omega)
          rw [fst4] at f2
          have f3 : fst4 4 = 85 := rfl
          omega
        have cidx : 4 * (fst4 (m - 1 - t) + k / 4 ^ (t + 1)) + 1 + k / 4 ^ t % 4 = fst4 (m - t) + k / 4 ^ t := by
          have e1 : fst4 (m - t) = 4 * fst4 (m - 1 - t) + 1 := by rw [show m - t = m - 1 - t + 1 by omega, fst4]
          have e2 : k / 4 ^ (t + 1) = k / 4 ^ t / 4 := by rw [Nat.div_div_eq_div_mul, ← Nat.pow_succ]
          omega
        refine J_aload_n (pc := 21) dX0_walkDown_21 rfl ?_
        refine J_gsF (pc := 22) dX0_walkDown_22 fX0_52 ?_
        refine J_iload_n (pc := 25) dX0_walkDown_25 rfl ?_
        refine J_iconst (pc := 26) (v := nI 1) dX0_walkDown_26 (by decide) ?_
        refine J_isub (pc := 27) dX0_walkDown_27 (pk_sub (by omega)) ?_
        refine J_iload_n (pc := 28) dX0_walkDown_28 rfl ?_
        refine J_isub (pc := 29) dX0_walkDown_29 (pk_sub (by omega)) ?_
        refine J_ialdF (pc := 30) dX0_walkDown_30 (rfl) (by omega) (fst_v (by omega)) ?_
        refine J_iload_n (pc := 31) dX0_walkDown_31 rfl ?_
        refine J_iconst (pc := 32) (v := nI 2) dX0_walkDown_32 (by decide) ?_
        refine J_iload_n (pc := 33) dX0_walkDown_33 rfl ?_
        refine J_iconst (pc := 34) (v := nI 1) dX0_walkDown_34 (by decide) ?_
        refine J_iadd (pc := 35) dX0_walkDown_35 (nI_add _ _) ?_
        refine J_imul (pc := 36) dX0_walkDown_36 (pk_mul _ _) ?_
        refine J_ishr (pc := 37) dX0_walkDown_37 (shr4 (by omega) (by omega)) ?_
        refine J_iadd (pc := 38) dX0_walkDown_38 (nI_add _ _) ?_
        refine J_iload_n (pc := 39) dX0_walkDown_39 rfl ?_
        refine J_iconst (pc := 40) (v := nI 2) dX0_walkDown_40 (by decide) ?_
        refine J_iload_n (pc := 41) dX0_walkDown_41 rfl ?_
        refine J_imul (pc := 42) dX0_walkDown_42 (pk_mul _ _) ?_
        refine J_ishr (pc := 43) dX0_walkDown_43 (shr4 (by omega) (by omega)) ?_
        refine J_iconst (pc := 44) (v := nI 3) dX0_walkDown_44 (by decide) ?_
        refine J_iand (pc := 45) dX0_walkDown_45 (and3 (kd _)) ?_
        refine K_Vv2 (pc := 46) (Y' := YX0_step) dX0_walkDown_46 lX0_55 mX0_step vX0_step ⟨_, _, rfl⟩ sh59 (Nat.le_of_ble_eq_true rfl) (c0_step (P := P) (R := skP n P (m - 1 - t) (k / 4 ^ (t + 1))) hG (i := fst4 (m - 1 - t) + k / 4 ^ (t + 1)) ilt (Nat.mod_lt _ (by omega)) hT pnd (fun j hj => (sk_ok hG _ _).2 j (by omega))) ?_
        rintro h2 ⟨s1, s2, s3, s4⟩
        refine J_iinc (pc := 49) dX0_walkDown_49 rfl (show nI t + Int32.ofInt (-1) = nI t - nI 1 by rw [Int32.sub_eq_add_neg]; rfl) (by decide) ?_
        refine J_goto (pc := 52) (tgt := 4) dX0_walkDown_52 (by decide) ?_
        refine J_ls (ls' := [(0, .ref 59), (1, .int (nI k)), (2, .int (nI m)), (3, .int (nI t - nI 1))]) ⟨rfl, rfl, rfl, rfl, trivial⟩ ?_
        have nb1 : ∀ l c, l ≤ m → l ≠ m - t → c / 4 ^ (m - l) < 4 ^ l → nd n hh (fst4 l + c / 4 ^ (m - l)) (skP n P l (c / 4 ^ (m - l))) → nd n h2 (fst4 l + c / 4 ^ (m - l)) (skP n P l (c / 4 ^ (m - l))) := fun l c hl hne hlt hnd p hp => by
          rw [s3 _ ?_]
          · exact hnd p hp
          · have hn4 := hG.1.1
            have f1 := fst_p l
            have f2 := fst_p (m - t)
            have f3 : k / 4 ^ t < 4 ^ (m - t) := by
              have := lev_lt (l := m - t) (m := m) (c := k) (by omega) (by omega) (by omega)
              rw [show m - (m - t) = t by omega] at this
              exact this
            generalize k / 4 ^ t = X at cidx f3 ⊢
            generalize k / 4 ^ (t + 1) = Y at cidx ⊢
            generalize c / 4 ^ (m - l) = Z at hlt ⊢
            rcases Nat.lt_or_gt_of_ne hne with z | z
            · have := fst_mono (show l + 1 ≤ m - t by omega)
              rw [fst4] at this
              omega
            · have := fst_mono (show m - t + 1 ≤ l by omega)
              rw [fst4] at this
              omega
        refine ih h2 (by omega) s1 ?_ (fun l hl => ?_) (fun hne l h1 h2' => ?_) (fun b hb => (s4 b hb).trans (hF b hb))
        · have := nb1 0 k (by omega) (by omega) (lev_lt (by omega) (by omega) (by omega)) (hA 0 (by omega))
          rw [Nat.sub_zero, Nat.div_eq_of_lt hk] at this
          exact this
        · by_cases z : l = m - t
          · subst z
            rw [show m - (m - t) = t by omega]
            rw [cidx] at s2
            rw [show skP n P (m - t) (k / 4 ^ t) = (liveP n (k / 4 ^ t % 4) (skP n P (m - 1 - t) (k / 4 ^ (t + 1)))).1 from by
              rw [show m - t = m - 1 - t + 1 by omega, skP, Nat.div_div_eq_div_mul, ← Nat.pow_succ]]
            exact s2
          · exact nb1 l k (by omega) z (lev_lt (by omega) (by omega) (by omega)) (hA l (by omega))
        · exact nb1 l (k + 1) (by omega) (by omega) (lev_lt (by omega) (by omega) hne) (hB hne l (by omega) h2')
set_option maxHeartbeats 4000000 in
theorem c0_walkDown {g : jG} {d : Nat} {h : jH} {n m k : Nat} {P : Nat → Int32} (hG : GD n P) (hm : m ≤ 4) (hk : k < 4 ^ m) (hT : TR n P h) (h0 : nd n h 0 P) (hP : k + 1 ≠ 4 ^ m → PATH n P m h (k + 1)) : Mv g (d + 3) YX0_walkDown h [.ref 59, .int (nI k), .int (nI m)] (fun h' => TR n P h' ∧ nd n h' 0 P ∧ PATH n P m h' k ∧ ∀ b, (b < 60 ∨ 79 ≤ b) → h' b = h b) := by
  refine M.of (by decide) rfl (Nat.le_of_ble_eq_true rfl) ?_
  refine J_iload_n (pc := 0) dX0_walkDown_0 rfl ?_
  refine J_iconst (pc := 1) (v := nI 1) dX0_walkDown_1 (by decide) ?_
  refine J_isub (pc := 2) dX0_walkDown_2 (rfl) ?_
  refine J_istore_n (pc := 3) dX0_walkDown_3 (by decide) ?_
  refine J_ls (ls' := [(0, .ref 59), (1, .int (nI k)), (2, .int (nI m)), (3, .int (nI m - nI 1))]) ⟨rfl, rfl, rfl, rfl, trivial⟩ ?_
  refine l0_walk (h := h) hG hm hk m h (Nat.le_refl _) hT h0 (fun l hl => ?_) (fun hne l h1 h2 => hP hne l h2) (fun b hb => rfl)
  have : l = 0 := by omega
  subst this
  rw [Nat.sub_zero, Nat.div_eq_of_lt hk]
  exact h0
set_option maxHeartbeats 4000000 in
theorem l0_safe {g : jG} {d : Nat} {h : jH} {n m few : Nat} {P : Nat → Int32} (hG : GD n P) (hm : m ≤ 4) (hfew : few < 1000) : ∀ (k : Nat) (hh : jH), k ≤ 4 ^ m → TR n P hh → nd n hh 0 P → (k ≠ 4 ^ m → PATH n P m hh k) → (∀ b, (b < 60 ∨ 79 ≤ b) → hh b = h b) →
    K g (d + 4) YX0_safeBits hh 20 [(0, .ref 59), (1, .int (nI m)), (2, .int (nI few)), (3, .int (nI (sbF n (fun i => sfM n P m (4 ^ m - 1 - i)) (4 ^ m - k)))), (4, .int (nI k - nI 1))] [] (fun r' h' => ∃ r, r' = some (.int r) ∧ ∃ k, r = nI k ∧ k < 16 ∧ (k = sfN n P m ∨ (pop k ≤ few ∧ pop (sfN n P m) ≤ few)) ∧ TR n P h' ∧ nd n h' 0 P ∧ ∀ b, (b < 60 ∨ 79 ≤ b) → h' b = h b) := by
  have p4 := p4_b hm
  have hn := hG.1.1
  have hM : ∀ c, (fun i => sfM n P m (4 ^ m - 1 - i)) c < 16 := fun c => sfM_lt hn m _
  intro k
  induction k with
  | zero =>
    intro hh hk hT h0 hP hF
    refine J_iload (pc := 20) dX0_safeBits_20 rfl ?_
    refine J_if_lt (pc := 22) (tgt := 63) dX0_safeBits_22 (by decide) (fun c22 => ?_) (fun c22 => ?_)
    · skip
      refine J_iload_n (pc := 63) dX0_safeBits_63 rfl ?_
      refine K_iret (pc := 64) dX0_safeBits_64 rfl ?_
      exact ⟨_, rfl, sbF_lt hn hM _, Or.inl (sbF_rev (M := sfM n P m) (4 ^ m)), hT, h0, hF⟩
    · skip
      exact absurd (show nI 0 - nI 1 < (0 : Int32) by decide) c22
  | succ k ih =>
    intro hh hk hT h0 hP hF
    have bk := sbF_lt (n := n) hn hM (4 ^ m - (k + 1))
    have fb := fst_b hm (show k < 4 ^ m by omega)
    refine J_ls (ls' := [(0, .ref 59), (1, .int (nI m)), (2, .int (nI few)), (3, .int (nI (sbF n (fun i => sfM n P m (4 ^ m - 1 - i)) (4 ^ m - (k + 1))))), (4, .int (nI k))]) ⟨rfl, rfl, rfl, rfl, congrArg (fun z => some (Value.int z)) (by rw [pk_sub (by omega)]; rfl), trivial⟩ ?_
    refine J_iload (pc := 20) dX0_safeBits_20 rfl ?_
    refine J_if_lt (pc := 22) (tgt := 63) dX0_safeBits_22 (by decide) (fun c22 => ?_) (fun c22 => ?_)
    · skip
      exact absurd c22 (nI_pos (by omega))
    · skip
      refine J_iload_n (pc := 25) dX0_safeBits_25 rfl ?_
      refine K_Si1 (pc := 26) (Y' := YJ6_bitCount_0f7a4) dX0_safeBits_26 lX0_85 mJ6_bitCount_0f7a4 sJ6_bitCount_0f7a4 (Nat.le_of_ble_eq_true rfl) (cJ6_bitCount (k := (sbF n (fun i => sfM n P m (4 ^ m - 1 - i)) (4 ^ m - (k + 1)))) (bk)) ?_
      rintro r h0 ⟨e0, rfl⟩
      rw [e0]
      clear e0 h0
      refine J_iload_n (pc := 29) dX0_safeBits_29 rfl ?_
      refine J_icmp_le (pc := 30) (tgt := 63) dX0_safeBits_30 (by decide) (fun c30 => ?_) (fun c30 => ?_)
      · skip
        have q30 := (nI_leI (by have := pop_4 _ bk; omega) (by omega)).mp c30
        refine J_iload_n (pc := 63) dX0_safeBits_63 rfl ?_
        refine K_iret (pc := 64) dX0_safeBits_64 rfl ?_
        refine ⟨_, rfl, bk, Or.inr ⟨q30, Nat.le_trans ?_ q30⟩, hT, h0, hF⟩
        have pp := sbF_pop (j := 4 ^ m - (k + 1)) hn hM (k + 1)
        rw [show 4 ^ m - (k + 1) + (k + 1) = 4 ^ m by omega, sbF_rev (M := sfM n P m) (4 ^ m)] at pp
        exact pp
      · skip
        refine J_aload_n (pc := 33) dX0_safeBits_33 rfl ?_
        refine J_iload (pc := 34) dX0_safeBits_34 rfl ?_
        refine J_iload_n (pc := 36) dX0_safeBits_36 rfl ?_
        refine K_Vv2 (pc := 37) (Y' := YX0_walkDown) dX0_safeBits_37 lX0_90 mX0_walkDown vX0_walkDown ⟨_, _, rfl⟩ sh59 (Nat.le_of_ble_eq_true rfl) (c0_walkDown hG hm (by omega) hT h0 (fun hne => hP hne)) ?_
        rintro h2 ⟨w1, w2, w3, w4⟩
        have wn := w3 m (Nat.le_refl _)
        rw [Nat.sub_self, Nat.pow_zero, Nat.div_one] at wn
        refine J_iload_n (pc := 40) dX0_safeBits_40 rfl ?_
        refine J_aload_n (pc := 41) dX0_safeBits_41 rfl ?_
        refine J_gsF (pc := 42) dX0_safeBits_42 fX0_52 ?_
        refine J_iload_n (pc := 45) dX0_safeBits_45 rfl ?_
        refine J_ialdF (pc := 46) dX0_safeBits_46 (rfl) (by omega) (fst_v (by omega)) ?_
        refine J_iload (pc := 47) dX0_safeBits_47 rfl ?_
        refine J_iadd (pc := 49) dX0_safeBits_49 (nI_add _ _) ?_
        refine K_Vi1 (pc := 50) (Y' := YX0_belowFloor) dX0_safeBits_50 lX0_93 mX0_belowFloor vX0_belowFloor ⟨_, _, rfl⟩ sh59 (Nat.le_of_ble_eq_true rfl) (c0_belowFloor hn w1 fb wn) ?_
        rintro r h0 ⟨e0, rfl⟩
        rw [e0]
        clear e0 h0
        refine J_iconst (pc := 53) (v := -1) dX0_safeBits_53 (by decide) ?_
        refine J_ixor (pc := 54) dX0_safeBits_54 (rfl) ?_
        refine J_iand (pc := 55) dX0_safeBits_55 ((and16 _ bk _ (sfM_lt (P := P) hn m k)).1) ?_
        refine J_istore_n (pc := 56) dX0_safeBits_56 (by decide) ?_
        refine J_iinc (pc := 57) dX0_safeBits_57 rfl (show nI k + Int32.ofInt (-1) = nI k - nI 1 by rw [Int32.sub_eq_add_neg]; rfl) (by decide) ?_
        refine J_goto (pc := 60) (tgt := 20) dX0_safeBits_60 (by decide) ?_
        have es : (sbF n (fun i => sfM n P m (4 ^ m - 1 - i)) (4 ^ m - (k + 1))) &&& (15 ^^^ sfM n P m k) = sbF n (fun i => sfM n P m (4 ^ m - 1 - i)) (4 ^ m - k) := by
          rw [show 4 ^ m - k = 4 ^ m - (k + 1) + 1 by omega, sbF, show 4 ^ m - 1 - (4 ^ m - (k + 1)) = k by omega]
        refine J_ls (ls' := [(0, .ref 59), (1, .int (nI m)), (2, .int (nI few)), (3, .int (nI (sbF n (fun i => sfM n P m (4 ^ m - 1 - i)) (4 ^ m - k)))), (4, .int (nI k - nI 1))]) ⟨rfl, rfl, rfl, congrArg (fun z => some (Value.int (nI z))) es, rfl, trivial⟩ ?_
        exact ih h2 (by omega) w1 w2 (fun _ => w3) (fun b hb => (w4 b hb).trans (hF b hb))
set_option maxHeartbeats 4000000 in
theorem c0_safeBits {g : jG} {d : Nat} {h : jH} {n m few : Nat} {P : Nat → Int32} (hG : GD n P) (hm : m ≤ 4) (hfew : few < 1000) (hT : TR n P h) (h0 : nd n h 0 P) : Mi g (d + 4) YX0_safeBits h [.ref 59, .int (nI m), .int (nI few)] (fun r h' => ∃ k, r = nI k ∧ k < 16 ∧ (k = sfN n P m ∨ (pop k ≤ few ∧ pop (sfN n P m) ≤ few)) ∧ TR n P h' ∧ nd n h' 0 P ∧ ∀ b, (b < 60 ∨ 79 ≤ b) → h' b = h b) := by
  refine M.of (by decide) rfl (Nat.le_of_ble_eq_true rfl) ?_
  obtain ⟨Q, hQ, kQ⟩ := id hT
  refine J_iconst (pc := 0) (v := nI 1) dX0_safeBits_0 (by decide) ?_
  refine J_aload_n (pc := 1) dX0_safeBits_1 rfl ?_
  refine J_getR (pc := 2) dX0_safeBits_2 fX0_12 sh59 rfl ?_
  refine J_getI (pc := 5) dX0_safeBits_5 fX0_82 (sv0 isV60) rfl (hQ.1) ?_
  refine J_ishl (pc := 8) dX0_safeBits_8 (rfl) ?_
  refine J_iconst (pc := 9) (v := nI 1) dX0_safeBits_9 (by decide) ?_
  refine J_isub (pc := 10) dX0_safeBits_10 (full_n hG.1.1) ?_
  refine J_istore_n (pc := 11) dX0_safeBits_11 (by decide) ?_
  refine J_iload_n (pc := 12) dX0_safeBits_12 rfl ?_
  refine K_Si1 (pc := 13) (Y' := YX0_runsOf) dX0_safeBits_13 lX0_59 mX0_runsOf sX0_runsOf (Nat.le_of_ble_eq_true rfl) (c0_runsOf hm) ?_
  rintro r h0 ⟨e0, rfl⟩
  rw [e0]
  clear e0 h0
  refine J_iconst (pc := 16) (v := nI 1) dX0_safeBits_16 (by decide) ?_
  refine J_isub (pc := 17) dX0_safeBits_17 (rfl) ?_
  refine J_istore (pc := 18) dX0_safeBits_18 (by decide) ?_
  have eb : nI (2 ^ n - 1) = nI (sbF n (fun i => sfM n P m (4 ^ m - 1 - i)) (4 ^ m - 4 ^ m)) := by rw [Nat.sub_self]; rfl
  refine J_ls (ls' := [(0, .ref 59), (1, .int (nI m)), (2, .int (nI few)), (3, .int (nI (sbF n (fun i => sfM n P m (4 ^ m - 1 - i)) (4 ^ m - 4 ^ m)))), (4, .int (nI (4 ^ m) - nI 1))]) ⟨rfl, rfl, rfl, congrArg (fun z => some (Value.int z)) eb, rfl, trivial⟩ ?_
  exact l0_safe hG hm hfew (4 ^ m) h (Nat.le_refl _) hT h0 (fun z => absurd rfl z) (fun b hb => rfl)
set_option maxHeartbeats 4000000 in
theorem c5_safe {g : jG} {d : Nat} {a h : jH} {n : Int32} (hR : RX a h) : Mi g (d + 6) YX5_safe h [.ref 0, .int n] (fun r h' => ∃ a', oSafe a n = (r, a') ∧ RX a' h' ∧ hi h h') := by
  refine M.of (by decide) rfl (Nat.le_of_ble_eq_true rfl) ?_
  have hR0 := hR
  have hG := hR.1.2.2.2
  obtain ⟨⟨r1, hX, hwk, ⟨⟨v1, v2, v3, v4⟩, v5, v6, v7, v8, v9, va, vb, vc, vd⟩⟩, rK, rT, rS, rH, ⟨r8, r8b, r9, ra⟩⟩ := hR
  obtain ⟨x1, x2, x3, x4, x5, x6, x7, x8, x9⟩ := id hX
  have hn4 := v1
  have n5 := r1.2
  have c6 := v3.2
  have p9 := v5.2
  refine J_iload_n (pc := 0) dX5_safe_0 rfl ?_
  refine K_Si1 (pc := 1) (Y' := YX5_isAhead) dX5_safe_1 lX5_176 mX5_isAhead sX5_isAhead (Nat.le_of_ble_eq_true rfl) (c5_isAhead) ?_
  rintro x h0 ⟨e0, ⟨rfl, b1⟩ | ⟨rfl, b1⟩⟩ <;> rw [e0] <;> clear e0 h0
  · skip
    refine J_if_ne (pc := 4) (tgt := 9) dX5_safe_4 (by decide) (fun _ => ?_) (fun c => absurd c (by decide))
    have hm : ix n ≤ 4 := by have := b1.2; omega
    refine J_ls (ls' := [(0, .ref 0), (1, .int (nI (ix n)))]) ⟨rfl, congrArg (fun z => some (Value.int z)) b1.1, trivial⟩ ?_
    refine J_aload_n (pc := 9) dX5_safe_9 rfl ?_
    refine J_getR (pc := 10) dX5_safe_10 fX5_37 sh0 rfl ?_
    refine J_aload_n (pc := 13) dX5_safe_13 rfl ?_
    refine J_getR (pc := 14) dX5_safe_14 fX5_10 sh0 rfl ?_
    refine K_Vv1 (pc := 17) (Y' := YX0_beginWith) dX5_safe_17 lX5_193 mX0_beginWith vX0_beginWith ⟨_, _, rfl⟩ sh59 (Nat.le_of_ble_eq_true rfl) (c0_beginWith isV1 (by omega) hX hn4 c6 p9) ?_
    rintro h1 ⟨g1, g2, g3⟩
    refine J_aload_n (pc := 20) dX5_safe_20 rfl ?_
    refine J_getR (pc := 21) dX5_safe_21 fX5_37 sh0 rfl ?_
    refine J_iload_n (pc := 24) dX5_safe_24 rfl ?_
    refine J_iconst (pc := 25) (v := nI 0) dX5_safe_25 (by decide) ?_
    refine K_Vi2 (pc := 26) (Y' := YX0_safeBits) dX5_safe_26 lX5_196 mX0_safeBits vX0_safeBits ⟨_, _, rfl⟩ sh59 (Nat.le_of_ble_eq_true rfl) (c0_safeBits (few := 0) hG hm (by omega) ⟨_, g1, fun _ _ => rfl⟩ g2) ?_
    rintro r h2 ⟨k, rfl, k16, hk, -, -, hf⟩
    have ek : k = sfN (ix (a 131 2)) (pg a 0) (ix n) := by
      rcases hk with z | ⟨z1, z2⟩
      · exact z
      · rw [pop_0 k k16 (by omega), pop_0 _ (sfN_lt hn4 _) (by omega)]
    subst ek
    have fr : ∀ b, (b < 60 ∨ 79 ≤ b) → h2 b = h b := fun b hb => (hf b hb).trans (g3 b hb)
    refine K_iret (pc := 29) dX5_safe_29 rfl ?_
    exact ⟨a, iteR_t b1, RX_congr hR0 sameP.rf (fun b hb => fr b (by omega)), fun b hb => fr b (by omega)⟩
  · skip
    refine J_if_ne (pc := 4) (tgt := 9) dX5_safe_4 (by decide) (fun c => absurd c (by decide)) (fun _ => ?_)
    refine J_iconst (pc := 7) (v := -1) dX5_safe_7 (by decide) ?_
    refine K_iret (pc := 8) dX5_safe_8 rfl ?_
    exact ⟨a, iteR_f b1, hR0, hi.rf⟩
set_option maxHeartbeats 4000000 in
theorem l6_safe {g : jG} {d : Nat} {h : jH} {Q : kQ} {m : Nat} (hR : MR h) (hm : m ≤ 4) (kx : ∀ (T : Nat → Int32), ((4 ^ m) = (4 ^ m)) → K g (d + 3) YX6_safeFrom (mset h 276 T) 47 [(0, .ref 131), (1, .int (nI 0)), (2, .int (nI m)), (3, .int (nI (sbF (ix (h 131 2)) (sfM (ix (h 131 2)) (pg h 0) m) (4 ^ m)))), (4, .int (nI (4 ^ m)))] [] Q) : ∀ (mm k : Nat) (T : Nat → Int32), k ≤ (4 ^ m) → (4 ^ m) < k + mm → (k = k) → K g (d + 3) YX6_safeFrom (mset h 276 T) 12 [(0, .ref 131), (1, .int (nI 0)), (2, .int (nI m)), (3, .int (nI (sbF (ix (h 131 2)) (sfM (ix (h 131 2)) (pg h 0) m) k))), (4, .int (nI k))] [] Q := by
  intro mm
  induction mm with
  | zero => intro k T hk1 hk2 hI; omega
  | succ mm ih =>
    intro k T hk1 hk2 hI
    have hR0 := hR
    have hG : GD (ix (h 131 2)) (pg h 0) := hR.2.1
    obtain ⟨r1, ⟨⟨v1, v2, v3, v4⟩, v5, v6, v7, v8, v9, va, vb, vc, vd⟩, r3, r4, ⟨r5, r6⟩, r7, r8, r9, ra⟩ := hR
    have hn := r1.1
    have hn4 := v1
    have n5 := r1.2
    have c6 : ix (h 132 37) < 6 := v3.2
    have p9 : ix (h 132 51) < 9 := v5.2
    have p9' : ix (pg h 0 51) < 9 := v5.2
    have p4 := p4_b hm
    have bk := sbF_lt (n := (ix (h 131 2))) hn4 (fun c => sfM_lt (P := (pg h 0)) hn4 m c) k
    refine J_iload (pc := 12) dX6_safeFrom_12 rfl ?_
    refine J_iload_n (pc := 14) dX6_safeFrom_14 rfl ?_
    refine K_Si1 (pc := 15) (Y' := YX6_powerOf) dX6_safeFrom_15 lX6_231 mX6_powerOf sX6_powerOf (Nat.le_of_ble_eq_true rfl) (c6_powerOf hm) ?_
    rintro r h0 ⟨e0, rfl⟩
    rw [e0]
    clear e0 h0
    refine J_icmp_ge (pc := 18) (tgt := 47) dX6_safeFrom_18 (by decide) (fun c18 => ?_) (fun c18 => ?_)
    · skip
      have q18 : (4 ^ m) ≤ k := (nI_leI (by omega) (by omega)).mp c18
      have e_k : k = (4 ^ m) := by omega
      refine J_ls (ls' := [(0, .ref 131), (1, .int (nI 0)), (2, .int (nI m)), (3, .int (nI (sbF (ix (h 131 2)) (sfM (ix (h 131 2)) (pg h 0) m) k))), (4, .int (nI k))]) ⟨rfl, rfl, rfl, rfl, rfl, trivial⟩ ?_
      rw [e_k] at hI ⊢
      exact kx T hI
    · skip
      have q18 : k < (4 ^ m) := Nat.lt_of_not_le (fun z => c18 ((nI_leI (by omega) (by omega)).mpr z))
      refine J_aload_n (pc := 21) dX6_safeFrom_21 rfl ?_
      refine J_iload_n (pc := 22) dX6_safeFrom_22 rfl ?_
      refine J_iload (pc := 23) dX6_safeFrom_23 rfl ?_
      refine J_iload_n (pc := 25) dX6_safeFrom_25 rfl ?_
      refine K_Vv3 (pc := 26) (Y' := YX6_skyFrom) dX6_safeFrom_26 lX6_234 mX6_skyFrom vX6_skyFrom ⟨_, _, rfl⟩ sh131 (Nat.le_of_ble_eq_true rfl) (c6_skyFrom hR0 hm (c := k) (by omega)) ?_
      rintro h1 ⟨T1, hT1, rfl⟩
      have hn1 : mset h 276 T1 131 2 = nI (ix (h 131 2)) := mset_b (by decide) hn
      refine J_iload_n (pc := 29) dX6_safeFrom_29 rfl ?_
      refine J_aload_n (pc := 30) dX6_safeFrom_30 rfl ?_
      refine J_sipush (pc := 31) (v := nI 276) dX6_safeFrom_31 (by decide) ?_
      refine K_Vi1 (pc := 34) (Y' := YX6_belowOn) dX6_safeFrom_34 lX6_157 mX6_belowOn vX6_belowOn ⟨_, _, rfl⟩ sh131 (Nat.le_of_ble_eq_true rfl) (c6_belowOn (o := 276) hn1 hn4 (by omega)) ?_
      rintro r h0 ⟨e0, rfl⟩
      rw [e0, show mset h 276 T1 132 42 = pg h 0 42 from mset_out (by omega)]
      clear e0 h0
      rw [show blw (fun p => mset h 276 T1 132 (276 + 8 + p)) (pg h 0 42 + nI 5) (ix (h 131 2)) = nI (sfM (ix (h 131 2)) (pg h 0) m k) from (blw_cong (fun p hp => (mset_at (8 + p) (by omega) (by omega)).trans (hT1 (8 + p) (by omega)))).trans (bmN_lt hn4).2]
      refine J_iconst (pc := 37) (v := -1) dX6_safeFrom_37 (by decide) ?_
      refine J_ixor (pc := 38) dX6_safeFrom_38 (rfl) ?_
      refine J_iand (pc := 39) dX6_safeFrom_39 ((and16 _ bk _ (sfM_lt hn4 m k)).1) ?_
      refine J_istore_n (pc := 40) dX6_safeFrom_40 (by decide) ?_
      refine J_iinc (pc := 41) dX6_safeFrom_41 rfl (v := nI (k + 1)) (by exact nI_add _ _) (by decide) ?_
      refine J_goto (pc := 44) (tgt := 12) dX6_safeFrom_44 (by decide) ?_
      refine J_ls ?_ (ih (k + 1) T1 (by omega) (by omega) rfl)
      exact ⟨rfl, rfl, rfl, rfl, rfl, trivial⟩
set_option maxHeartbeats 4000000 in
theorem c6_safeFrom {g : jG} {d : Nat} {h : jH} {m : Nat} {T0 : Nat → Int32} (hR : MR h) (hm : m ≤ 4) : Mi g (d + 3) YX6_safeFrom (mset h 276 T0) [.ref 131, .int (nI 0), .int (nI m)] (fun r h' => r = nI (sfN (ix (h 131 2)) (pg h 0) m) ∧ ∃ T, h' = mset h 276 T) := by
  refine M.of (by decide) rfl (Nat.le_of_ble_eq_true rfl) ?_
  have hR0 := hR
  have hG : GD (ix (h 131 2)) (pg h 0) := hR.2.1
  obtain ⟨r1, ⟨⟨v1, v2, v3, v4⟩, v5, v6, v7, v8, v9, va, vb, vc, vd⟩, r3, r4, ⟨r5, r6⟩, r7, r8, r9, ra⟩ := hR
  have hn := r1.1
  have hn4 := v1
  have n5 := r1.2
  have c6 : ix (h 132 37) < 6 := v3.2
  have p9 : ix (h 132 51) < 9 := v5.2
  have p9' : ix (pg h 0 51) < 9 := v5.2
  refine J_iconst (pc := 0) (v := nI 1) dX6_safeFrom_0 (by decide) ?_
  refine J_aload_n (pc := 1) dX6_safeFrom_1 rfl ?_
  refine J_getI (pc := 2) dX6_safeFrom_2 fX6_148 sh131 rfl (mset_b (by decide) hn) ?_
  refine J_ishl (pc := 5) dX6_safeFrom_5 (rfl) ?_
  refine J_iconst (pc := 6) (v := nI 1) dX6_safeFrom_6 (by decide) ?_
  refine J_isub (pc := 7) dX6_safeFrom_7 (full_n hn4) ?_
  refine J_istore_n (pc := 8) dX6_safeFrom_8 (by decide) ?_
  refine J_iconst (pc := 9) (v := nI 0) dX6_safeFrom_9 (by decide) ?_
  refine J_istore (pc := 10) dX6_safeFrom_10 (by decide) ?_
  refine J_ls (ls' := [(0, .ref 131), (1, .int (nI 0)), (2, .int (nI m)), (3, .int (nI (sbF (ix (h 131 2)) (sfM (ix (h 131 2)) (pg h 0) m) 0))), (4, .int (nI 0))]) ⟨rfl, rfl, rfl, rfl, rfl, trivial⟩ ?_
  refine l6_safe hR0 hm ?_ (4 ^ m + 1) 0 T0 (Nat.zero_le _) (by omega) rfl
  intro T hT
  refine J_iload_n (pc := 47) dX6_safeFrom_47 rfl ?_
  refine K_iret (pc := 48) dX6_safeFrom_48 rfl ?_
  exact ⟨rfl, T, rfl⟩
set_option maxHeartbeats 4000000 in
theorem c6_safe {g : jG} {d : Nat} {h : jH} {n : Int32} (hR : MR h) : Mi g (d + 4) YX6_safe h [.ref 131, .int n] (fun r h' => r = (oSafe h n).1 ∧ sameP (oSafe h n).2 h' ∧ lo h h') := by
  refine M.of (by decide) rfl (Nat.le_of_ble_eq_true rfl) ?_
  have hR0 := hR
  have hG : GD (ix (h 131 2)) (pg h 0) := hR.2.1
  obtain ⟨r1, ⟨⟨v1, v2, v3, v4⟩, v5, v6, v7, v8, v9, va, vb, vc, vd⟩, r3, r4, ⟨r5, r6⟩, r7, r8, r9, ra⟩ := hR
  have hn := r1.1
  have hn4 := v1
  have n5 := r1.2
  have c6 : ix (h 132 37) < 6 := v3.2
  have p9 : ix (h 132 51) < 9 := v5.2
  have p9' : ix (pg h 0 51) < 9 := v5.2
  refine J_iload_n (pc := 0) dX6_safe_0 rfl ?_
  refine J_i2l (pc := 1) dX6_safe_1 (rfl) ?_
  refine J_lconst (pc := 2) (v := 0) dX6_safe_2 (by decide) ?_
  refine J_ldc2 (pc := 3) dX6_safe_3 kX6_164 ?_
  refine K_Si3 (pc := 6) (Y' := YX6_in) dX6_safe_6 lX6_55 mX6_in sX6_in (Nat.le_of_ble_eq_true rfl) (c6_inI n (nI 0) (nI 4) rfl (by decide) (by decide)) ?_
  rintro x h0 ⟨e0, ⟨rfl, b6⟩ | ⟨rfl, b6⟩⟩ <;> rw [e0] <;> clear e0 h0
  · skip
    refine J_if_eq (pc := 9) (tgt := 21) dX6_safe_9 (by decide) (fun c => absurd c (by decide)) (fun _ => ?_)
    have bn : nb 5 n := (in_nbc (n := 4) rfl (by omega)).mp b6
    have hm : ix n ≤ 4 := by have := bn.2; omega
    refine J_h (mset_pg (h := h) (o := 276)).symm ?_
    refine J_ls (ls' := [(0, .ref 131), (1, .int (nI (ix n)))]) ⟨rfl, congrArg (fun z => some (Value.int z)) bn.1, trivial⟩ ?_
    refine J_aload_n (pc := 12) dX6_safe_12 rfl ?_
    refine J_iconst (pc := 13) (v := nI 0) dX6_safe_13 (by decide) ?_
    refine J_iload_n (pc := 14) dX6_safe_14 rfl ?_
    refine K_Vi2 (pc := 15) (Y' := YX6_safeFrom) dX6_safe_15 lX6_238 mX6_safeFrom vX6_safeFrom ⟨_, _, rfl⟩ sh131 (Nat.le_of_ble_eq_true rfl) (c6_safeFrom (T0 := pg h 276) hR0 hm) ?_
    rintro r h1 ⟨rfl, T, rfl⟩
    refine J_goto (pc := 18) (tgt := 22) dX6_safe_18 (by decide) ?_
    refine K_iret (pc := 22) dX6_safe_22 rfl ?_
    exact by rw [oSafe, iteR_t bn]; exact ⟨rfl, sameP_scr (by omega), lo_mset⟩
  · skip
    refine J_if_eq (pc := 9) (tgt := 21) dX6_safe_9 (by decide) (fun _ => ?_) (fun c => absurd c (by decide))
    refine J_iconst (pc := 21) (v := -1) dX6_safe_21 (by decide) ?_
    refine K_iret (pc := 22) dX6_safe_22 rfl ?_
    exact by rw [oSafe, iteR_f (fun z => b6 ((in_nbc (n := 4) rfl (by omega)).mpr z))]; exact ⟨rfl, sameP.rf, lo.rf⟩
