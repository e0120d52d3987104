set_option maxHeartbeats 4000000 in
theorem c0_beginWith {g : jG} {d : Nat} {h : jH} {o n : Nat} {P : Nat → Int32} (ho : isV o) (hne : o ≠ 60) (hX : XV n P h o) (hn : n ≤ 4) (h6 : ix (P 37) < 6) (h9 : ix (P 51) < 9) : Mv g (d + 3) YX0_beginWith h [.ref 59, .ref o] (fun h' => XV n P h' 60 ∧ nd n h' 0 P ∧ ∀ b, (b < 60 ∨ 79 ≤ b) → h' b = h b) := by
  refine M.of (by decide) rfl (Nat.le_of_ble_eq_true rfl) ?_
  refine J_aload_n (pc := 0) dX0_beginWith_0 rfl ?_
  refine J_getR (pc := 1) dX0_beginWith_1 fX0_12 sh59 rfl ?_
  refine J_aload_n (pc := 4) dX0_beginWith_4 rfl ?_
  refine K_Vv1 (pc := 5) (Y' := YX4_copyFrom) dX0_beginWith_5 lX0_28 mX4_copyFrom vX4_copyFrom ⟨_, _, rfl⟩ (sv0 isV60) (Nat.le_of_ble_eq_true rfl) (c4_copyFrom ho isV60 hne) ?_
  rintro h1 hc
  refine J_aload_n (pc := 8) dX0_beginWith_8 rfl ?_
  refine J_getR (pc := 9) dX0_beginWith_9 fX0_12 sh59 rfl ?_
  refine J_getR (pc := 12) dX0_beginWith_12 fX0_32 (sv0 isV60) rfl ?_
  refine J_iconst (pc := 15) (v := nI 0) dX0_beginWith_15 (by decide) ?_
  refine J_aload_n (pc := 16) dX0_beginWith_16 rfl ?_
  refine J_getR (pc := 17) dX0_beginWith_17 fX0_18 sh59 rfl ?_
  refine J_iconst (pc := 20) (v := nI 0) dX0_beginWith_20 (by decide) ?_
  refine J_iconst (pc := 21) (v := nI 4) dX0_beginWith_21 (by decide) ?_
  refine J_copy (pc := 22) dX0_beginWith_22 qX0_35 w_cp_n w_cp_s w_sys (sv4 isV60) sh78 (rfl) (rfl) (rfl) (by omega) (by omega) (by first | decide | omega) (by first | decide | omega) (Nat.le_of_ble_eq_true rfl) ?_
  refine K_ret (pc := 25) dX0_beginWith_25 rfl ?_
  have X1 := XV_CP hX hn h6 h9 hc
  refine ⟨XV_congr X1 (fun _ _ => rfl) hn h6 h9 (fun b h1 h2 => j_row_ne b (by omega)), fun p hp => ?_, fun b hb => (j_row_ne b (by omega)).trans (hc.1 b (by omega))⟩
  rw [j_row_at, va_cpy, if_pos (by omega), show 0 + (4 * 0 + p - 0) = p by omega]
  exact (X1.2.1 p hp).2.2
set_option maxHeartbeats 4000000 in
theorem c0_childOf {g : jG} {d : Nat} {h : jH} {i w : Nat} : Mi g d YX0_childOf h [.int (nI i), .int (nI w)] (fun r h' => h' = h ∧ r = nI (i * 4 + 1 + w)) := by
  refine M.of (by decide) rfl (Nat.le_of_ble_eq_true rfl) ?_
  refine J_iload_n (pc := 0) dX0_childOf_0 rfl ?_
  refine J_iconst (pc := 1) (v := nI 4) dX0_childOf_1 (by decide) ?_
  refine J_imul (pc := 2) dX0_childOf_2 (pk_mul _ _) ?_
  refine J_iconst (pc := 3) (v := nI 1) dX0_childOf_3 (by decide) ?_
  refine J_iadd (pc := 4) dX0_childOf_4 (nI_add _ _) ?_
  refine J_iload_n (pc := 5) dX0_childOf_5 rfl ?_
  refine J_iadd (pc := 6) dX0_childOf_6 (nI_add _ _) ?_
  refine K_iret (pc := 7) dX0_childOf_7 rfl ?_
  exact ⟨rfl, rfl⟩
set_option maxHeartbeats 4000000 in
theorem c0_step {g : jG} {d : Nat} {h : jH} {n i w : Nat} {P R : Nat → Int32} (hG : GD n P) (hi85 : i < 85) (hw : w < 4) (hT : TR n P h) (hN : nd n h i R) (hR : ∀ k, (k < 8 ∨ (12 ≤ k ∧ k < 52)) → R k = P k) : Mv g (d + 2) YX0_step h [.ref 59, .int (nI i), .int (nI w)] (fun h' => TR n P h' ∧ nd n h' (4 * i + 1 + w) (liveP n w R).1 ∧ (∀ k, (k < 4 * (4 * i + 1 + w) ∨ 4 * (4 * i + 1 + w) + 4 ≤ k) → h' 78 k = h 78 k) ∧ ∀ b, (b < 60 ∨ 79 ≤ b) → h' b = h b) := by
  refine M.of (by decide) rfl (Nat.le_of_ble_eq_true rfl) ?_
  refine J_aload_n (pc := 0) dX0_step_0 rfl ?_
  refine J_getR (pc := 1) dX0_step_1 fX0_18 sh59 rfl ?_
  refine J_iload_n (pc := 4) dX0_step_4 rfl ?_
  refine J_iconst (pc := 5) (v := nI 4) dX0_step_5 (by decide) ?_
  refine J_imul (pc := 6) dX0_step_6 (pk_mul _ _) ?_
  refine J_aload_n (pc := 7) dX0_step_7 rfl ?_
  refine J_getR (pc := 8) dX0_step_8 fX0_12 sh59 rfl ?_
  refine J_getR (pc := 11) dX0_step_11 fX0_32 (sv0 isV60) rfl ?_
  refine J_iconst (pc := 14) (v := nI 0) dX0_step_14 (by decide) ?_
  refine J_iconst (pc := 15) (v := nI 4) dX0_step_15 (by decide) ?_
  refine J_copy (pc := 16) dX0_step_16 qX0_35 w_cp_n w_cp_s w_sys sh78 (sv4 isV60) (rfl) (rfl) (rfl) (by omega) (by omega) (by first | decide | omega) (by first | decide | omega) (Nat.le_of_ble_eq_true rfl) ?_
  obtain ⟨Q, hQ, kQ⟩ := hT
  have hn := hG.1.1
  have X1 := XV_setU (f := va_cpy (h 78) (h (60 + 4)) (i * 4) 0 4) hQ hn
  have k1 : ∀ k, (k < 8 ∨ (12 ≤ k ∧ k < 52)) → setU Q (va_cpy (h 78) (h (60 + 4)) (i * 4) 0 4) k = R k := fun k hk => by rw [setU_o (by omega), kQ k hk, hR k hk]
  have gR : gdV n R := gdV_r hG.1 hR
  have g1 := gdV_r gR k1
  have e51 : ix (setU Q (va_cpy (h 78) (h (60 + 4)) (i * 4) 0 4) 51) < 9 := by rw [k1 51 (by omega), hR 51 (by omega)]; exact hG.2.1.2
  have lp : lpR n R (setU Q (va_cpy (h 78) (h (60 + 4)) (i * 4) 0 4)) := ⟨k1, fun p hp => by
    rw [setU_u (by omega), va_cpy, if_pos (by omega), ← hN p hp]
    congr 1
    omega⟩
  refine J_aload_n (pc := 19) dX0_step_19 rfl ?_
  refine J_getR (pc := 20) dX0_step_20 fX0_12 sh59 rfl ?_
  refine J_iload_n (pc := 23) dX0_step_23 rfl ?_
  refine K_Vi1 (pc := 24) (Y' := YX4_live) dX0_step_24 lX0_41 mX4_live vX4_live ⟨_, _, rfl⟩ (sv0 isV60) (Nat.le_of_ble_eq_true rfl) (c4_live isV60 X1 g1 e51 hw) ?_
  rintro r h2 ⟨e1, e2, e3⟩
  refine J_pop (pc := 27) dX0_step_27 rfl ?_
  refine J_aload_n (pc := 28) dX0_step_28 rfl ?_
  refine J_getR (pc := 29) dX0_step_29 fX0_12 sh59 rfl ?_
  refine J_getR (pc := 32) dX0_step_32 fX0_32 (sv0 isV60) rfl ?_
  refine J_iconst (pc := 35) (v := nI 0) dX0_step_35 (by decide) ?_
  refine J_aload_n (pc := 36) dX0_step_36 rfl ?_
  refine J_getR (pc := 37) dX0_step_37 fX0_18 sh59 rfl ?_
  refine J_iload_n (pc := 40) dX0_step_40 rfl ?_
  refine J_iload_n (pc := 41) dX0_step_41 rfl ?_
  refine K_Si2 (pc := 42) (Y' := YX0_childOf) dX0_step_42 lX0_45 mX0_childOf sX0_childOf (Nat.le_of_ble_eq_true rfl) (c0_childOf) ?_
  rintro r h0 ⟨e0, rfl⟩
  rw [e0]
  clear e0 h0
  refine J_iconst (pc := 45) (v := nI 4) dX0_step_45 (by decide) ?_
  refine J_imul (pc := 46) dX0_step_46 (pk_mul _ _) ?_
  refine J_iconst (pc := 47) (v := nI 4) dX0_step_47 (by decide) ?_
  refine J_copy (pc := 48) dX0_step_48 qX0_35 w_cp_n w_cp_s w_sys (sv4 isV60) sh78 (rfl) (rfl) (rfl) (by omega) (by omega) (by first | decide | omega) (by first | decide | omega) (Nat.le_of_ble_eq_true rfl) ?_
  refine K_ret (pc := 51) dX0_step_51 rfl ?_
  have lr := live_r (w := w) gR lp
  have gl : ∀ k, (k < 8 ∨ (12 ≤ k ∧ k < 53)) → (liveP n w (setU Q (va_cpy (h 78) (h (60 + 4)) (i * 4) 0 4))).1 k = setU Q (va_cpy (h 78) (h (60 + 4)) (i * 4) 0 4) k := fun k hk => liveP_keep g1 hk
  refine ⟨⟨_, XV_congr e1 (fun _ _ => rfl) hn (by rw [gl _ (by omega)]; exact g1.2.2.1.2) (by rw [gl _ (by omega)]; exact e51) (fun b h1 h2 => j_row_ne b (by omega)), fun k hk => by rw [gl _ (by omega), k1 k hk, hR k hk]⟩, fun p hp => ?_, fun k hk => ?_, fun b hb => ?_⟩
  · rw [j_row_at, va_cpy, if_pos (by omega), show 0 + (4 * (4 * i + 1 + w) + p - (i * 4 + 1 + w) * 4) = p by omega]
    exact ((e1.2.1 p hp).2.2).trans (lr.2 p hp)
  · rw [j_row_at, va_cpy, if_neg (by omega), e3 78 (by omega) (by omega), j_row_ne 78 (by omega)]
  · rw [j_row_ne b (by omega), e3 b (by omega) (by omega), j_row_ne b (by omega)]
set_option maxHeartbeats 4000000 in
theorem l0_grow2 {g : jG} {d : Nat} {h : jH} {Q : kQ} {n m i : Nat} {P : Nat → Int32} {o : Nat} (hG : GD n P) (hi85 : i < 85) (kx : ∀ (hh : jH), (TR n P hh ∧ (∀ j, j < 4 * i + 1 + 4 → nd n hh j (ndP n P j)) ∧ ∀ b, (b < 60 ∨ 79 ≤ b) → hh b = h b) → K g (d + 3) YX0_grow (hh) 38 [(0, .ref 59), (1, .ref o), (2, .int (nI m)), (3, .int (nI i)), (4, .int (nI 4))] [] Q) : ∀ (mm k : Nat) (hh : jH), k ≤ 4 → 4 < k + mm → (TR n P hh ∧ (∀ j, j < 4 * i + 1 + k → nd n hh j (ndP n P j)) ∧ ∀ b, (b < 60 ∨ 79 ≤ b) → hh b = h b) → K g (d + 3) YX0_grow (hh) 19 [(0, .ref 59), (1, .ref o), (2, .int (nI m)), (3, .int (nI i)), (4, .int (nI k))] [] Q := by
  intro mm
  induction mm with
  | zero => intro k hh hk1 hk2 hI; omega
  | succ mm ih =>
    intro k hh hk1 hk2 hI
    refine J_iload (pc := 19) dX0_grow_19 rfl ?_
    refine J_iconst (pc := 21) (v := nI 4) dX0_grow_21 (by decide) ?_
    refine J_icmp_ge (pc := 22) (tgt := 38) dX0_grow_22 (by decide) (fun c22 => ?_) (fun c22 => ?_)
    · skip
      have q22 : 4 ≤ k := (nI_leI (by omega) (by omega)).mp c22
      have e_k : k = 4 := by omega
      refine J_ls (ls' := [(0, .ref 59), (1, .ref o), (2, .int (nI m)), (3, .int (nI i)), (4, .int (nI k))]) ⟨rfl, rfl, rfl, rfl, rfl, trivial⟩ ?_
      rw [e_k] at hI ⊢
      exact kx hh hI
    · skip
      have q22 : k < 4 := Nat.lt_of_not_le (fun z => c22 ((nI_leI (by omega) (by omega)).mpr z))
      refine J_aload_n (pc := 25) dX0_grow_25 rfl ?_
      refine J_iload_n (pc := 26) dX0_grow_26 rfl ?_
      refine J_iload (pc := 27) dX0_grow_27 rfl ?_
      refine K_Vv2 (pc := 29) (Y' := YX0_step) dX0_grow_29 lX0_55 mX0_step vX0_step ⟨_, _, rfl⟩ sh59 (Nat.le_of_ble_eq_true rfl) (c0_step hG hi85 q22 hI.1 (hI.2.1 i (by omega)) (fun k hk => (nd_ok hG i).2 k (by omega))) ?_
      rintro h2 ⟨s1, s2, s3, s4⟩
      refine J_iinc (pc := 32) dX0_grow_32 rfl (v := nI (k + 1)) (by exact nI_add _ _) (by decide) ?_
      refine J_goto (pc := 35) (tgt := 19) dX0_grow_35 (by decide) ?_
      refine J_ls ?_ (ih (k + 1) h2 (by omega) (by omega) ⟨s1, fun j hj => ?_, fun b hb => (s4 b hb).trans (hI.2.2 b hb)⟩)
      · exact ⟨rfl, rfl, rfl, rfl, rfl, trivial⟩
      · by_cases z : j = 4 * i + 1 + k
        · subst z; rw [ndP_s q22]; exact s2
        · intro p hp
          have hn := hG.1.1
          rw [s3 _ (by omega)]
          exact hI.2.1 j (by omega) p hp
set_option maxHeartbeats 4000000 in
theorem l0_grow1 {g : jG} {d : Nat} {h : jH} {Q : kQ} {n m : Nat} {P : Nat → Int32} {o : Nat} (hG : GD n P) (hm : m ≤ 4) (kx : ∀ (hh : jH), (TR n P hh ∧ (∀ j, j < 4 * (fst4 m) + 1 → nd n hh j (ndP n P j)) ∧ ∀ b, (b < 60 ∨ 79 ≤ b) → hh b = h b) → K g (d + 3) YX0_grow (hh) 44 [(0, .ref 59), (1, .ref o), (2, .int (nI m)), (3, .int (nI (fst4 m)))] [] Q) : ∀ (mm k : Nat) (hh : jH), k ≤ (fst4 m) → (fst4 m) < k + mm → (TR n P hh ∧ (∀ j, j < 4 * k + 1 → nd n hh j (ndP n P j)) ∧ ∀ b, (b < 60 ∨ 79 ≤ b) → hh b = h b) → K g (d + 3) YX0_grow (hh) 7 [(0, .ref 59), (1, .ref o), (2, .int (nI m)), (3, .int (nI k))] [] Q := by
  intro mm
  induction mm with
  | zero => intro k hh hk1 hk2 hI; omega
  | succ mm ih =>
    intro k hh hk1 hk2 hI
    have f85 := fst_85 hm
    refine J_iload_n (pc := 7) dX0_grow_7 rfl ?_
    refine J_gsF (pc := 8) dX0_grow_8 fX0_52 ?_
    refine J_iload_n (pc := 11) dX0_grow_11 rfl ?_
    refine J_ialdF (pc := 12) dX0_grow_12 (rfl) (by omega) (fst_v (by omega)) ?_
    refine J_icmp_ge (pc := 13) (tgt := 44) dX0_grow_13 (by decide) (fun c13 => ?_) (fun c13 => ?_)
    · skip
      have q13 : (fst4 m) ≤ k := (nI_leI (by omega) (by omega)).mp c13
      have e_k : k = (fst4 m) := by omega
      refine J_ls (ls' := [(0, .ref 59), (1, .ref o), (2, .int (nI m)), (3, .int (nI k))]) ⟨rfl, rfl, rfl, rfl, trivial⟩ ?_
      rw [e_k] at hI ⊢
      exact kx hh hI
    · skip
      have q13 : k < (fst4 m) := Nat.lt_of_not_le (fun z => c13 ((nI_leI (by omega) (by omega)).mpr z))
      refine J_iconst (pc := 16) (v := nI 0) dX0_grow_16 (by decide) ?_
      refine J_istore (pc := 17) dX0_grow_17 (by decide) ?_
      refine J_ls (ls' := [(0, .ref 59), (1, .ref o), (2, .int (nI m)), (3, .int (nI k)), (4, .int (nI 0))]) ⟨rfl, rfl, rfl, rfl, rfl, trivial⟩ ?_
      refine l0_grow2 (h := h) hG (by omega) ?_ 5 0 hh (Nat.zero_le _) (by omega) hI
      intro hx hI2
      refine J_iinc (pc := 38) dX0_grow_38 rfl (v := nI (k + 1)) (by exact nI_add _ _) (by decide) ?_
      refine J_goto (pc := 41) (tgt := 7) dX0_grow_41 (by decide) ?_
      exact J_ls (ls' := [(0, .ref 59), (1, .ref o), (2, .int (nI m)), (3, .int (nI (k + 1)))]) ⟨rfl, rfl, rfl, rfl, trivial⟩ (ih (k + 1) hx (by omega) (by omega) ⟨hI2.1, fun j hj => hI2.2.1 j (by omega), hI2.2.2⟩)
set_option maxHeartbeats 4000000 in
theorem fst_mono {l m : Nat} (h : l ≤ m) : fst4 l ≤ fst4 m := by
  induction h with
  | refl => exact Nat.le_refl _
  | step _ ih => rw [fst4]; omega
set_option maxHeartbeats 4000000 in
theorem c0_grow {g : jG} {d : Nat} {h : jH} {o n m : Nat} {P : Nat → Int32} (ho : isV o) (hne : o ≠ 60) (hX : XV n P h o) (hG : GD n P) (hm : m ≤ 4) : Mv g (d + 4) YX0_grow h [.ref 59, .ref o, .int (nI m)] (fun h' => TR n P h' ∧ (∀ l c, l ≤ m → c < 4 ^ l → nd n h' (fst4 l + c) (skP n P l c)) ∧ ∀ b, (b < 60 ∨ 79 ≤ b) → h' b = h b) := by
  refine M.of (by decide) rfl (Nat.le_of_ble_eq_true rfl) ?_
  refine J_aload_n (pc := 0) dX0_grow_0 rfl ?_
  refine J_aload_n (pc := 1) dX0_grow_1 rfl ?_
  refine K_Vv1 (pc := 2) (Y' := YX0_beginWith) dX0_grow_2 lX0_49 mX0_beginWith vX0_beginWith ⟨_, _, rfl⟩ sh59 (Nat.le_of_ble_eq_true rfl) (c0_beginWith ho hne hX hG.1.1 hG.1.2.2.1.2 hG.2.1.2) ?_
  rintro h1 ⟨b1, b2, b3⟩
  refine J_iconst (pc := 5) (v := nI 0) dX0_grow_5 (by decide) ?_
  refine J_istore_n (pc := 6) dX0_grow_6 (by decide) ?_
  refine J_ls (ls' := [(0, .ref 59), (1, .ref o), (2, .int (nI m)), (3, .int (nI 0))]) ⟨rfl, rfl, rfl, rfl, trivial⟩ ?_
  refine l0_grow1 (h := h1) hG hm ?_ (fst4 m + 1) 0 h1 (Nat.zero_le _) (by omega) ⟨⟨P, b1, fun _ _ => rfl⟩, fun j hj => ?_, fun b hb => rfl⟩
  · intro hh hI
    refine K_ret (pc := 44) dX0_grow_44 rfl ?_
    refine ⟨hI.1, fun l c hl hc => ?_, fun b hb => (hI.2.2 b hb).trans (b3 b hb)⟩
    have f1 := fst_p l
    have f2 := fst_mono hl
    have := hI.2.1 (fst4 l + c) (by omega)
    rw [ndP_sk hc] at this
    exact this
  · have : j = 0 := by omega
    subst this
    rw [ndP_0]
    exact b2
set_option maxHeartbeats 4000000 in
theorem c0_purseBehind {g : jG} {d : Nat} {h : jH} {n p m c : Nat} {R : Nat → Int32} (hn : n ≤ 4) (hp : p < n) (hm : m ≤ 4) (hc : c < 4 ^ m) (hN : nd n h (fst4 m + c) R) : Mi g d YX0_purseBehind h [.ref 59, .int (nI p), .int (nI m), .int (nI c)] (fun r h' => h' = h ∧ r = R (8 + p)) := by
  refine M.of (by decide) rfl (Nat.le_of_ble_eq_true rfl) ?_
  have fb := fst_b hm hc
  refine J_aload_n (pc := 0) dX0_purseBehind_0 rfl ?_
  refine J_getR (pc := 1) dX0_purseBehind_1 fX0_18 sh59 rfl ?_
  refine J_gsF (pc := 4) dX0_purseBehind_4 fX0_52 ?_
  refine J_iload_n (pc := 7) dX0_purseBehind_7 rfl ?_
  refine J_ialdF (pc := 8) dX0_purseBehind_8 (rfl) (by omega) (fst_v (by omega)) ?_
  refine J_iload_n (pc := 9) dX0_purseBehind_9 rfl ?_
  refine J_iadd (pc := 10) dX0_purseBehind_10 (nI_add _ _) ?_
  refine J_iconst (pc := 11) (v := nI 4) dX0_purseBehind_11 (by decide) ?_
  refine J_imul (pc := 12) dX0_purseBehind_12 (pk_mul _ _) ?_
  refine J_iload_n (pc := 13) dX0_purseBehind_13 rfl ?_
  refine J_iadd (pc := 14) dX0_purseBehind_14 (nI_add _ _) ?_
  refine J_iald (pc := 15) dX0_purseBehind_15 sh78 (rfl) (by omega) ((congrArg _ (show (fst4 m + c) * 4 + p = 4 * (fst4 m + c) + p by omega)).trans (hN p hp)) (by decide) ?_
  refine K_iret (pc := 16) dX0_purseBehind_16 rfl ?_
  exact ⟨rfl, rfl⟩
set_option maxHeartbeats 4000000 in
theorem c0_runsOf {g : jG} {d : Nat} {h : jH} {m : Nat} (hm : m ≤ 4) : Mi g d YX0_runsOf h [.int (nI m)] (fun r h' => h' = h ∧ r = nI (4 ^ m)) := by
  refine M.of (by decide) rfl (Nat.le_of_ble_eq_true rfl) ?_
  refine J_iconst (pc := 0) (v := nI 1) dX0_runsOf_0 (by decide) ?_
  refine J_iconst (pc := 1) (v := nI 2) dX0_runsOf_1 (by decide) ?_
  refine J_iload_n (pc := 2) dX0_runsOf_2 rfl ?_
  refine J_imul (pc := 3) dX0_runsOf_3 (pk_mul _ _) ?_
  refine J_ishl (pc := 4) dX0_runsOf_4 (pow4_shl hm) ?_
  refine K_iret (pc := 5) dX0_runsOf_5 rfl ?_
  exact ⟨rfl, rfl⟩
set_option maxHeartbeats 4000000 in
theorem l0_first {g : jG} {d : Nat} {h : jH} {Q : kQ} {n p m : Nat} {P : Nat → Int32} (hn : n ≤ 4) (hp : p < n) (hm : m ≤ 4) (hN : ∀ c, c < 4 ^ m → nd n h (fst4 m + c) (skP n P m c)) (kx : K g (d + 1) YX0_firstLeast (h) 41 [(0, .ref 59), (1, .int (nI p)), (2, .int (nI m)), (3, .int (nI (flF (skU n P m p) (4 ^ m - 1)))), (4, .int (nI ((4 ^ m - 1) + 1)))] [] Q) : ∀ (mm k : Nat) , k ≤ (4 ^ m - 1) → (4 ^ m - 1) < k + mm → K g (d + 1) YX0_firstLeast (h) 5 [(0, .ref 59), (1, .int (nI p)), (2, .int (nI m)), (3, .int (nI (flF (skU n P m p) k))), (4, .int (nI (k + 1)))] [] Q := by
  intro mm
  induction mm with
  | zero => intro k  hk1 hk2 ; omega
  | succ mm ih =>
    intro k  hk1 hk2 
    have p4 := p4_b hm
    have fl := flF_le (U := (skU n P m p)) k
    refine J_iload (pc := 5) dX0_firstLeast_5 rfl ?_
    refine J_iload_n (pc := 7) dX0_firstLeast_7 rfl ?_
    refine K_Si1 (pc := 8) (Y' := YX0_runsOf) dX0_firstLeast_8 lX0_59 mX0_runsOf sX0_runsOf (Nat.le_of_ble_eq_true rfl) (c0_runsOf hm) ?_
    rintro r h0 ⟨e0, rfl⟩
    rw [e0]
    clear e0 h0
    refine J_icmp_ge (pc := 11) (tgt := 41) dX0_firstLeast_11 (by decide) (fun c11 => ?_) (fun c11 => ?_)
    · skip
      have q11 : 4 ^ m ≤ k + 1 := (nI_leI (by omega) (by omega)).mp c11
      have e_k : k = (4 ^ m - 1) := by omega
      refine J_ls (ls' := [(0, .ref 59), (1, .int (nI p)), (2, .int (nI m)), (3, .int (nI (flF (skU n P m p) k))), (4, .int (nI (k + 1)))]) ⟨rfl, rfl, rfl, rfl, rfl, trivial⟩ ?_
      rw [e_k]
      exact kx
    · skip
      have q11 : k + 1 < 4 ^ m := Nat.lt_of_not_le (fun z => c11 ((nI_leI (by omega) (by omega)).mpr z))
      refine J_aload_n (pc := 14) dX0_firstLeast_14 rfl ?_
      refine J_iload_n (pc := 15) dX0_firstLeast_15 rfl ?_
      refine J_iload_n (pc := 16) dX0_firstLeast_16 rfl ?_
      refine J_iload (pc := 17) dX0_firstLeast_17 rfl ?_
      refine K_Vi3 (pc := 19) (Y' := YX0_purseBehind) dX0_firstLeast_19 lX0_62 mX0_purseBehind vX0_purseBehind ⟨_, _, rfl⟩ sh59 (Nat.le_of_ble_eq_true rfl) (c0_purseBehind hn hp hm (c := k + 1) (by omega) (hN _ (by omega))) ?_
      rintro r h0 ⟨e0, rfl⟩
      rw [e0]
      clear e0 h0
      refine J_aload_n (pc := 22) dX0_firstLeast_22 rfl ?_
      refine J_iload_n (pc := 23) dX0_firstLeast_23 rfl ?_
      refine J_iload_n (pc := 24) dX0_firstLeast_24 rfl ?_
      refine J_iload_n (pc := 25) dX0_firstLeast_25 rfl ?_
      refine K_Vi3 (pc := 26) (Y' := YX0_purseBehind) dX0_firstLeast_26 lX0_62 mX0_purseBehind vX0_purseBehind ⟨_, _, rfl⟩ sh59 (Nat.le_of_ble_eq_true rfl) (c0_purseBehind hn hp hm (c := flF (skU n P m p) k) (by omega) (hN _ (by omega))) ?_
      rintro r h0 ⟨e0, rfl⟩
      rw [e0]
      clear e0 h0
      refine J_icmp_ge (pc := 29) (tgt := 35) dX0_firstLeast_29 (by decide) (fun c29 => ?_) (fun c29 => ?_)
      · skip
        refine J_iinc (pc := 35) dX0_firstLeast_35 rfl (v := nI ((k + 1) + 1)) (by exact nI_add _ _) (by decide) ?_
        refine J_goto (pc := 38) (tgt := 5) dX0_firstLeast_38 (by decide) ?_
        have i := ih (k + 1) (by omega) (by omega)
        rw [flF, if_neg (show ¬ skU n P m p (k + 1) < skU n P m p (flF (skU n P m p) k) from Int32.not_lt.mpr c29)] at i
        refine J_ls ?_ i
        exact ⟨rfl, rfl, rfl, rfl, rfl, trivial⟩
      · skip
        refine J_iload (pc := 32) dX0_firstLeast_32 rfl ?_
        refine J_istore_n (pc := 34) dX0_firstLeast_34 (by decide) ?_
        refine J_iinc (pc := 35) dX0_firstLeast_35 rfl (v := nI ((k + 1) + 1)) (by exact nI_add _ _) (by decide) ?_
        refine J_goto (pc := 38) (tgt := 5) dX0_firstLeast_38 (by decide) ?_
        have i := ih (k + 1) (by omega) (by omega)
        rw [flF, if_pos (show skU n P m p (k + 1) < skU n P m p (flF (skU n P m p) k) from Int32.not_le.mp c29)] at i
        refine J_ls ?_ i
        exact ⟨rfl, rfl, rfl, rfl, rfl, trivial⟩
set_option maxHeartbeats 4000000 in
theorem c0_firstLeast {g : jG} {d : Nat} {h : jH} {n p m : Nat} {P : Nat → Int32} (hn : n ≤ 4) (hp : p < n) (hm : m ≤ 4) (hN : ∀ c, c < 4 ^ m → nd n h (fst4 m + c) (skP n P m c)) : Mi g (d + 1) YX0_firstLeast h [.ref 59, .int (nI p), .int (nI m)] (fun r h' => h' = h ∧ r = nI (flF (skU n P m p) (4 ^ m - 1))) := by
  refine M.of (by decide) rfl (Nat.le_of_ble_eq_true rfl) ?_
  refine J_iconst (pc := 0) (v := nI 0) dX0_firstLeast_0 (by decide) ?_
  refine J_istore_n (pc := 1) dX0_firstLeast_1 (by decide) ?_
  refine J_iconst (pc := 2) (v := nI 1) dX0_firstLeast_2 (by decide) ?_
  refine J_istore (pc := 3) dX0_firstLeast_3 (by decide) ?_
  have p4 := p4_b hm
  refine J_ls (ls' := [(0, .ref 59), (1, .int (nI p)), (2, .int (nI m)), (3, .int (nI (flF (skU n P m p) 0))), (4, .int (nI (0 + 1)))]) ⟨rfl, rfl, rfl, rfl, rfl, trivial⟩ ?_
  refine l0_first hn hp hm hN ?_ (4 ^ m) 0 (Nat.zero_le _) (by omega)
  refine J_iload_n (pc := 41) dX0_firstLeast_41 rfl ?_
  refine K_iret (pc := 42) dX0_firstLeast_42 rfl ?_
  exact ⟨rfl, rfl⟩
set_option maxHeartbeats 4000000 in
theorem l0_great {g : jG} {d : Nat} {h : jH} {Q : kQ} {n p m : Nat} {P : Nat → Int32} (hn : n ≤ 4) (hp : p < n) (hm : m ≤ 4) (hN : ∀ c, c < 4 ^ m → nd n h (fst4 m + c) (skP n P m c)) (kx : K g (d + 1) YX0_greatest (h) 33 [(0, .ref 59), (1, .int (nI p)), (2, .int (nI m)), (3, .int (mxF (skU n P m p) (4 ^ m))), (4, .int (nI (4 ^ m)))] [] Q) : ∀ (mm k : Nat) , k ≤ (4 ^ m) → (4 ^ m) < k + mm → K g (d + 1) YX0_greatest (h) 5 [(0, .ref 59), (1, .int (nI p)), (2, .int (nI m)), (3, .int (mxF (skU n P m p) k)), (4, .int (nI k))] [] Q := by
  intro mm
  induction mm with
  | zero => intro k  hk1 hk2 ; omega
  | succ mm ih =>
    intro k  hk1 hk2 
    have p4 := p4_b hm
    refine J_iload (pc := 5) dX0_greatest_5 rfl ?_
    refine J_iload_n (pc := 7) dX0_greatest_7 rfl ?_
    refine K_Si1 (pc := 8) (Y' := YX0_runsOf) dX0_greatest_8 lX0_59 mX0_runsOf sX0_runsOf (Nat.le_of_ble_eq_true rfl) (c0_runsOf hm) ?_
    rintro r h0 ⟨e0, rfl⟩
    rw [e0]
    clear e0 h0
    refine J_icmp_ge (pc := 11) (tgt := 33) dX0_greatest_11 (by decide) (fun c11 => ?_) (fun c11 => ?_)
    · skip
      have q11 : (4 ^ m) ≤ k := (nI_leI (by omega) (by omega)).mp c11
      have e_k : k = (4 ^ m) := by omega
      refine J_ls (ls' := [(0, .ref 59), (1, .int (nI p)), (2, .int (nI m)), (3, .int (mxF (skU n P m p) k)), (4, .int (nI k))]) ⟨rfl, rfl, rfl, rfl, rfl, trivial⟩ ?_
      rw [e_k]
      exact kx
    · skip
      have q11 : k < (4 ^ m) := Nat.lt_of_not_le (fun z => c11 ((nI_leI (by omega) (by omega)).mpr z))
      refine J_iload_n (pc := 14) dX0_greatest_14 rfl ?_
      refine J_aload_n (pc := 15) dX0_greatest_15 rfl ?_
      refine J_iload_n (pc := 16) dX0_greatest_16 rfl ?_
      refine J_iload_n (pc := 17) dX0_greatest_17 rfl ?_
      refine J_iload (pc := 18) dX0_greatest_18 rfl ?_
      refine K_Vi3 (pc := 20) (Y' := YX0_purseBehind) dX0_greatest_20 lX0_62 mX0_purseBehind vX0_purseBehind ⟨_, _, rfl⟩ sh59 (Nat.le_of_ble_eq_true rfl) (c0_purseBehind hn hp hm (c := k) (by omega) (hN _ (by omega))) ?_
      rintro r h0 ⟨e0, rfl⟩
      rw [e0]
      clear e0 h0
      refine J_max (pc := 23) dX0_greatest_23 qX0_66 w_max_s w_math w_max_c (Nat.le_of_ble_eq_true rfl) (rfl) ?_
      refine J_istore_n (pc := 26) dX0_greatest_26 (by decide) ?_
      refine J_iinc (pc := 27) dX0_greatest_27 rfl (v := nI (k + 1)) (by exact nI_add _ _) (by decide) ?_
      refine J_goto (pc := 30) (tgt := 5) dX0_greatest_30 (by decide) ?_
      exact J_ls (ls' := [(0, .ref 59), (1, .int (nI p)), (2, .int (nI m)), (3, .int (mxF (skU n P m p) (k + 1))), (4, .int (nI (k + 1)))]) ⟨rfl, rfl, rfl, rfl, rfl, trivial⟩ (ih (k + 1)  (by omega) (by omega) )
set_option maxHeartbeats 4000000 in
theorem c0_greatest {g : jG} {d : Nat} {h : jH} {n p m : Nat} {P : Nat → Int32} (hn : n ≤ 4) (hp : p < n) (hm : m ≤ 4) (hN : ∀ c, c < 4 ^ m → nd n h (fst4 m + c) (skP n P m c)) : Mi g (d + 1) YX0_greatest h [.ref 59, .int (nI p), .int (nI m)] (fun r h' => h' = h ∧ r = mxF (skU n P m p) (4 ^ m)) := by
  refine M.of (by decide) rfl (Nat.le_of_ble_eq_true rfl) ?_
  refine J_iconst (pc := 0) (v := nI 0) dX0_greatest_0 (by decide) ?_
  refine J_istore_n (pc := 1) dX0_greatest_1 (by decide) ?_
  refine J_iconst (pc := 2) (v := nI 0) dX0_greatest_2 (by decide) ?_
  refine J_istore (pc := 3) dX0_greatest_3 (by decide) ?_
  refine J_ls (ls' := [(0, .ref 59), (1, .int (nI p)), (2, .int (nI m)), (3, .int (mxF (skU n P m p) 0)), (4, .int (nI 0))]) ⟨rfl, rfl, rfl, rfl, rfl, trivial⟩ ?_
  refine l0_great hn hp hm hN ?_ (4 ^ m + 1) 0 (Nat.zero_le _) (by omega)
  refine J_iload_n (pc := 33) dX0_greatest_33 rfl ?_
  refine K_iret (pc := 34) dX0_greatest_34 rfl ?_
  exact ⟨rfl, rfl⟩
set_option maxHeartbeats 4000000 in
theorem c5_least {g : jG} {d : Nat} {a h : jH} {p n x : Int32} (hR : RX a h) : Mi g (d + 6) YX5_least h [.ref 0, .int p, .int n, .int x] (fun r h' => ∃ a', oLeast a p n x = (r, a') ∧ RX a' h' ∧ hi h h') := by
  refine M.of (by decide) rfl (Nat.le_of_ble_eq_true rfl) ?_
  have hR0 := hR
  have hG := hR.1.2.2.2
  obtain ⟨⟨r1, hX, hwk, ⟨⟨v1, v2, v3, v4⟩, v5, v6, v7, v8, v9, va, vb, vc, vd⟩⟩, rK, rT, rS, rH, ⟨r8, r8b, r9, ra⟩⟩ := hR
  obtain ⟨x1, x2, x3, x4, x5, x6, x7, x8, x9⟩ := id hX
  have hn4 := v1
  have n5 := r1.2
  have c6 := v3.2
  have p9 := v5.2
  refine J_aload_n (pc := 0) dX5_least_0 rfl ?_
  refine J_iload_n (pc := 1) dX5_least_1 rfl ?_
  refine K_Vi1 (pc := 2) (Y' := YX5_isOne) dX5_least_2 lX5_109 mX5_isOne vX5_isOne ⟨_, _, rfl⟩ sh0 (Nat.le_of_ble_eq_true rfl) (c5_isOne (x := p) x1 hn4) ?_
  rintro x h0 ⟨e0, ⟨rfl, b2⟩ | ⟨rfl, b2⟩⟩ <;> rw [e0] <;> clear e0 h0
  · skip
    refine J_if_eq (pc := 5) (tgt := 24) dX5_least_5 (by decide) (fun c => absurd c (by decide)) (fun _ => ?_)
    refine J_iload_n (pc := 8) dX5_least_8 rfl ?_
    refine K_Si1 (pc := 9) (Y' := YX5_isAhead) dX5_least_9 lX5_176 mX5_isAhead sX5_isAhead (Nat.le_of_ble_eq_true rfl) (c5_isAhead) ?_
    rintro x h0 ⟨e0, ⟨rfl, b9⟩ | ⟨rfl, b9⟩⟩ <;> rw [e0] <;> clear e0 h0
    · skip
      refine J_if_eq (pc := 12) (tgt := 24) dX5_least_12 (by decide) (fun c => absurd c (by decide)) (fun _ => ?_)
      refine J_iload_n (pc := 15) dX5_least_15 rfl ?_
      refine J_iconst (pc := 16) (v := nI 0) dX5_least_16 (by decide) ?_
      refine J_iconst (pc := 17) (v := nI 2) dX5_least_17 (by decide) ?_
      refine K_Si3 (pc := 18) (Y' := YX5_within) dX5_least_18 lX5_63 mX5_within sX5_within (Nat.le_of_ble_eq_true rfl) (c5_within) ?_
      rintro x h0 ⟨e0, ⟨rfl, b18⟩ | ⟨rfl, b18⟩⟩ <;> rw [e0] <;> clear e0 h0
      · skip
        refine J_if_ne (pc := 21) (tgt := 26) dX5_least_21 (by decide) (fun _ => ?_) (fun c => absurd c (by decide))
        have hm : ix n ≤ 4 := by have := b9.2; omega
        refine J_ls (ls' := [(0, .ref 0), (1, .int (nI (ix p))), (2, .int (nI (ix n))), (3, .int x)]) ⟨rfl, congrArg (fun z => some (Value.int z)) b2.1, congrArg (fun z => some (Value.int z)) b9.1, rfl, trivial⟩ ?_
        refine J_aload_n (pc := 26) dX5_least_26 rfl ?_
        refine J_getR (pc := 27) dX5_least_27 fX5_37 sh0 rfl ?_
        refine J_aload_n (pc := 30) dX5_least_30 rfl ?_
        refine J_getR (pc := 31) dX5_least_31 fX5_10 sh0 rfl ?_
        refine J_iload_n (pc := 34) dX5_least_34 rfl ?_
        refine K_Vv2 (pc := 35) (Y' := YX0_grow) dX5_least_35 lX5_179 mX0_grow vX0_grow ⟨_, _, rfl⟩ sh59 (Nat.le_of_ble_eq_true rfl) (c0_grow isV1 (by omega) hX hG hm) ?_
        rintro h1 ⟨g1, g2, g3⟩
        have hN := fun c hc => g2 (ix n) c (Nat.le_refl _) hc
        have p4 := p4_b hm
        have fl := flF_le (U := skU (ix (a 131 2)) (pg a 0) (ix n) (ix p)) (4 ^ ix n - 1)
        have fin : RX a h1 ∧ hi h h1 := ⟨RX_congr hR0 sameP.rf (fun b hb => g3 b (by omega)), fun b hb => g3 b (by omega)⟩
        refine J_iload_n (pc := 38) dX5_least_38 rfl ?_
        rcases three_of b18 with rfl | rfl | rfl
        · skip
          refine J_lookup (pc := 39) (off := 25) (tgt := 64) dX5_least_39 (by decide) rfl (by decide) ?_
          refine J_aload_n (pc := 64) dX5_least_64 rfl ?_
          refine J_getR (pc := 65) dX5_least_65 fX5_37 sh0 rfl ?_
          refine J_iload_n (pc := 68) dX5_least_68 rfl ?_
          refine J_iload_n (pc := 69) dX5_least_69 rfl ?_
          refine J_aload_n (pc := 70) dX5_least_70 rfl ?_
          refine J_getR (pc := 71) dX5_least_71 fX5_37 sh0 rfl ?_
          refine J_iload_n (pc := 74) dX5_least_74 rfl ?_
          refine J_iload_n (pc := 75) dX5_least_75 rfl ?_
          refine K_Vi2 (pc := 76) (Y' := YX0_firstLeast) dX5_least_76 lX5_183 mX0_firstLeast vX0_firstLeast ⟨_, _, rfl⟩ sh59 (Nat.le_of_ble_eq_true rfl) (c0_firstLeast hn4 b2.2 hm hN) ?_
          rintro r h0 ⟨e0, rfl⟩
          rw [e0]
          clear e0 h0
          refine K_Vi3 (pc := 79) (Y' := YX0_purseBehind) dX5_least_79 lX5_186 mX0_purseBehind vX0_purseBehind ⟨_, _, rfl⟩ sh59 (Nat.le_of_ble_eq_true rfl) (c0_purseBehind hn4 b2.2 hm (by omega) (hN _ (by omega))) ?_
          rintro r h0 ⟨e0, rfl⟩
          rw [e0]
          clear e0 h0
          refine K_iret (pc := 82) dX5_least_82 rfl ?_
          exact ⟨a, iteR_t ⟨b2, b9, b18⟩, fin.1, fin.2⟩
        · skip
          refine J_lookup (pc := 39) (off := 44) (tgt := 83) dX5_least_39 (by decide) rfl (by decide) ?_
          refine J_aload_n (pc := 83) dX5_least_83 rfl ?_
          refine J_getR (pc := 84) dX5_least_84 fX5_37 sh0 rfl ?_
          refine J_iload_n (pc := 87) dX5_least_87 rfl ?_
          refine J_iload_n (pc := 88) dX5_least_88 rfl ?_
          refine K_Vi2 (pc := 89) (Y' := YX0_firstLeast) dX5_least_89 lX5_183 mX0_firstLeast vX0_firstLeast ⟨_, _, rfl⟩ sh59 (Nat.le_of_ble_eq_true rfl) (c0_firstLeast hn4 b2.2 hm hN) ?_
          rintro r h0 ⟨e0, rfl⟩
          rw [e0]
          clear e0 h0
          refine K_iret (pc := 92) dX5_least_92 rfl ?_
          exact ⟨a, iteR_t ⟨b2, b9, b18⟩, fin.1, fin.2⟩
        · skip
          refine J_lookup (pc := 39) (off := 54) (tgt := 93) dX5_least_39 (by decide) rfl (by decide) ?_
          refine J_aload_n (pc := 93) dX5_least_93 rfl ?_
          refine J_getR (pc := 94) dX5_least_94 fX5_37 sh0 rfl ?_
          refine J_iload_n (pc := 97) dX5_least_97 rfl ?_
          refine J_iload_n (pc := 98) dX5_least_98 rfl ?_
          refine K_Vi2 (pc := 99) (Y' := YX0_greatest) dX5_least_99 lX5_190 mX0_greatest vX0_greatest ⟨_, _, rfl⟩ sh59 (Nat.le_of_ble_eq_true rfl) (c0_greatest hn4 b2.2 hm hN) ?_
          rintro r h0 ⟨e0, rfl⟩
          rw [e0]
          clear e0 h0
          refine K_iret (pc := 102) dX5_least_102 rfl ?_
          exact ⟨a, iteR_t ⟨b2, b9, b18⟩, fin.1, fin.2⟩
      · skip
        refine J_if_ne (pc := 21) (tgt := 26) dX5_least_21 (by decide) (fun c => absurd c (by decide)) (fun _ => ?_)
        refine J_iconst (pc := 24) (v := -1) dX5_least_24 (by decide) ?_
        refine K_iret (pc := 25) dX5_least_25 rfl ?_
        exact ⟨a, iteR_f (fun z => b18 z.2.2), hR0, hi.rf⟩
    · skip
      refine J_if_eq (pc := 12) (tgt := 24) dX5_least_12 (by decide) (fun _ => ?_) (fun c => absurd c (by decide))
      refine J_iconst (pc := 24) (v := -1) dX5_least_24 (by decide) ?_
      refine K_iret (pc := 25) dX5_least_25 rfl ?_
      exact ⟨a, iteR_f (fun z => b9 z.2.1), hR0, hi.rf⟩
  · skip
    refine J_if_eq (pc := 5) (tgt := 24) dX5_least_5 (by decide) (fun _ => ?_) (fun c => absurd c (by decide))
    refine J_iconst (pc := 24) (v := -1) dX5_least_24 (by decide) ?_
    refine K_iret (pc := 25) dX5_least_25 rfl ?_
    exact ⟨a, iteR_f (fun z => b2 z.1), hR0, hi.rf⟩
set_option maxHeartbeats 4000000 in
theorem l6_sky {g : jG} {d : Nat} {h : jH} {Q : kQ} {c m : Nat} (hR : MR h) (hm : m ≤ 4) (hc : c < 4 ^ m) (kx : ∀ (T : Nat → Int32), e52 (skP (ix (h 131 2)) (pg h 0) m (c / 4 ^ (m - m))) T → K g (d + 2) YX6_skyFrom (mset h 276 T) 43 [(0, .ref 131), (1, .int (nI 0)), (2, .int (nI c)), (3, .int (nI m)), (4, .int (nI m))] [] Q) : ∀ (mm k : Nat) (T : Nat → Int32), k ≤ m → m < k + mm → e52 (skP (ix (h 131 2)) (pg h 0) k (c / 4 ^ (m - k))) T → K g (d + 2) YX6_skyFrom (mset h 276 T) 11 [(0, .ref 131), (1, .int (nI 0)), (2, .int (nI c)), (3, .int (nI m)), (4, .int (nI k))] [] Q := by
  intro mm
  induction mm with
  | zero => intro k T hk1 hk2 hI; omega
  | succ mm ih =>
    intro k T hk1 hk2 hI
    have hR0 := hR
    have hG : GD (ix (h 131 2)) (pg h 0) := hR.2.1
    obtain ⟨r1, ⟨⟨v1, v2, v3, v4⟩, v5, v6, v7, v8, v9, va, vb, vc, vd⟩, r3, r4, ⟨r5, r6⟩, r7, r8, r9, ra⟩ := hR
    have hn := r1.1
    have hn4 := v1
    have n5 := r1.2
    have c6 : ix (h 132 37) < 6 := v3.2
    have p9 : ix (h 132 51) < 9 := v5.2
    have p9' : ix (pg h 0 51) < 9 := v5.2
    have hn1 := hn
    have h132 : h 132 = h 132 := rfl
    have h133 : h 133 = h 133 := rfl
    have p4 := p4_b hm
    have cd : ∀ j, c / 4 ^ j < 2 ^ 31 := fun j => by have := Nat.div_le_self c (4 ^ j); omega
    have gk := sk_ok hG k (c / 4 ^ (m - k))
    have tk : ∀ j, j < 8 → T j = pg h 0 j := fun j hj => (hI j (by omega)).trans (gk.2 j (by omega))
    have we := week_e (w := c / 4 ^ (m - 1 - k) % 4) gk.1.1 hI
    refine J_iload (pc := 11) dX6_skyFrom_11 rfl ?_
    refine J_iload_n (pc := 13) dX6_skyFrom_13 rfl ?_
    refine J_icmp_ge (pc := 14) (tgt := 43) dX6_skyFrom_14 (by decide) (fun c14 => ?_) (fun c14 => ?_)
    · skip
      have q14 : m ≤ k := (nI_leI (by omega) (by omega)).mp c14
      have e_k : k = m := by omega
      refine J_ls (ls' := [(0, .ref 131), (1, .int (nI 0)), (2, .int (nI c)), (3, .int (nI m)), (4, .int (nI k))]) ⟨rfl, rfl, rfl, rfl, rfl, trivial⟩ ?_
      rw [e_k] at hI ⊢
      exact kx T hI
    · skip
      have q14 : k < m := Nat.lt_of_not_le (fun z => c14 ((nI_leI (by omega) (by omega)).mpr z))
      refine J_aload_n (pc := 17) dX6_skyFrom_17 rfl ?_
      refine J_sipush (pc := 18) (v := nI 276) dX6_skyFrom_18 (by decide) ?_
      refine J_iload_n (pc := 21) dX6_skyFrom_21 rfl ?_
      refine J_iconst (pc := 22) (v := nI 2) dX6_skyFrom_22 (by decide) ?_
      refine J_iload_n (pc := 23) dX6_skyFrom_23 rfl ?_
      refine J_iconst (pc := 24) (v := nI 1) dX6_skyFrom_24 (by decide) ?_
      refine J_isub (pc := 25) dX6_skyFrom_25 (pk_sub (by omega)) ?_
      refine J_iload (pc := 26) dX6_skyFrom_26 rfl ?_
      refine J_isub (pc := 28) dX6_skyFrom_28 (pk_sub (by omega)) ?_
      refine J_imul (pc := 29) dX6_skyFrom_29 (pk_mul _ _) ?_
      refine J_ishr (pc := 30) dX6_skyFrom_30 (shr4 (by omega) (by omega)) ?_
      refine J_iconst (pc := 31) (v := nI 3) dX6_skyFrom_31 (by decide) ?_
      refine J_iand (pc := 32) dX6_skyFrom_32 (and3 (cd _)) ?_
      refine K_Vi2 (pc := 33) (Y' := YX6_weekOn) dX6_skyFrom_33 lX6_206 mX6_weekOn vX6_weekOn ⟨_, _, rfl⟩ sh131 (Nat.le_of_ble_eq_true rfl) (c6_weekOn (h := h) (o := 276) (n := ix (h 131 2)) (P := T) (γ := γP T (c / 4 ^ (m - 1 - k) % 4)) (w := (c / 4 ^ (m - 1 - k) % 4)) (by omega) (Or.inr (by omega)) hn1 hn4 (Nat.mod_lt _ (by omega)) (fun p hp => by rw [mset_out (by omega), h132]; have := v2 p hp; rw [pg0] at this; exact this) (fun p hp => by
    have k4 := (v2 p hp).2
    have hw4 : (c / 4 ^ (m - 1 - k) % 4) < 4 := (Nat.mod_lt _ (by omega))
    rw [pg0] at k4
    unfold gM γP
    rw [mset_out (by omega), mset_out (by omega), mset_ne (b := 133) (by decide), h133, h132, r8 _ (by omega), tk p (by omega), tk (4 + p) (by omega)]
    simp only [pg0]) (gdV_e gk.1.1 hI).cv) ?_
      rintro r h0 ⟨e0, e1⟩
      rw [e0, e1]
      clear e0 e1 h0
      refine J_pop (pc := 36) dX6_skyFrom_36 rfl ?_
      refine J_iinc (pc := 37) dX6_skyFrom_37 rfl (v := nI (k + 1)) (by exact nI_add _ _) (by decide) ?_
      refine J_goto (pc := 40) (tgt := 11) dX6_skyFrom_40 (by decide) ?_
      rw [← sk_step q14] at we
      refine J_ls ?_ (ih (k + 1) _ (by omega) (by omega) we.1)
      exact ⟨rfl, rfl, rfl, rfl, rfl, trivial⟩
set_option maxHeartbeats 4000000 in
theorem c6_skyFrom {g : jG} {d : Nat} {h : jH} {c m : Nat} {T0 : Nat → Int32} (hR : MR h) (hm : m ≤ 4) (hc : c < 4 ^ m) : Mv g (d + 2) YX6_skyFrom (mset h 276 T0) [.ref 131, .int (nI 0), .int (nI c), .int (nI m)] (fun h' => ∃ T, e52 (skP (ix (h 131 2)) (pg h 0) m c) T ∧ h' = mset h 276 T) := by
  refine M.of (by decide) rfl (Nat.le_of_ble_eq_true rfl) ?_
  refine J_aload_n (pc := 0) dX6_skyFrom_0 rfl ?_
  refine J_iload_n (pc := 1) dX6_skyFrom_1 rfl ?_
  refine J_sipush (pc := 2) (v := nI 276) dX6_skyFrom_2 (by decide) ?_
  refine K_Vv2 (pc := 5) (Y' := YX6_copies) dX6_skyFrom_5 lX6_215 mX6_copies vX6_copies ⟨_, _, rfl⟩ sh131 (Nat.le_of_ble_eq_true rfl) (c6_copies (a := 0) (o := 276) (by omega) (by omega) (by omega)) ?_
  rintro h0 e0
  rw [e0]
  clear e0 h0
  refine J_iconst (pc := 8) (v := nI 0) dX6_skyFrom_8 (by decide) ?_
  refine J_istore (pc := 9) dX6_skyFrom_9 (by decide) ?_
  rw [mset_mset]
  refine J_h (h' := mset h 276 (pg h 0)) (mset_cong (fun k hk => mset_out (by omega))) ?_
  refine J_ls (ls' := [(0, .ref 131), (1, .int (nI 0)), (2, .int (nI c)), (3, .int (nI m)), (4, .int (nI 0))]) ⟨rfl, rfl, rfl, rfl, rfl, trivial⟩ ?_
  refine l6_sky hR hm hc ?_ (m + 1) 0 _ (Nat.zero_le _) (by omega) e52.rf
  intro T hT
  rw [Nat.sub_self, Nat.pow_zero, Nat.div_one] at hT
  refine K_ret (pc := 43) dX6_skyFrom_43 rfl ?_
  exact ⟨T, hT, rfl⟩
set_option maxHeartbeats 4000000 in
theorem l6_least {g : jG} {d : Nat} {h : jH} {Q : kQ} {p m : Nat} {x : Int32} (hR : MR h) (hm : m ≤ 4) (hp : p < ix (h 131 2)) (kx : ∀ (T : Nat → Int32), ((4 ^ m - 1) = (4 ^ m - 1)) → K g (d + 3) YX6_least (mset h 276 T) 130 [(0, .ref 131), (1, .int (nI p)), (2, .int (nI m)), (3, .int x), (4, .int ((skU (ix (h 131 2)) (pg h 0) m p) (flF (skU (ix (h 131 2)) (pg h 0) m p) (4 ^ m - 1)))), (5, .int (nI (flF (skU (ix (h 131 2)) (pg h 0) m p) (4 ^ m - 1)))), (6, .int (mxF (skU (ix (h 131 2)) (pg h 0) m p) ((4 ^ m - 1) + 1))), (7, .int (nI ((4 ^ m - 1) + 1)))] [] Q) : ∀ (mm k : Nat) (T : Nat → Int32), k ≤ (4 ^ m - 1) → (4 ^ m - 1) < k + mm → (k = k) → K g (d + 3) YX6_least (mset h 276 T) 47 [(0, .ref 131), (1, .int (nI p)), (2, .int (nI m)), (3, .int x), (4, .int ((skU (ix (h 131 2)) (pg h 0) m p) (flF (skU (ix (h 131 2)) (pg h 0) m p) k))), (5, .int (nI (flF (skU (ix (h 131 2)) (pg h 0) m p) k))), (6, .int (mxF (skU (ix (h 131 2)) (pg h 0) m p) (k + 1))), (7, .int (nI (k + 1)))] [] Q := by
  intro mm
  induction mm with
  | zero => intro k T hk1 hk2 hI; omega
  | succ mm ih =>
    intro k T hk1 hk2 hI
    have hR0 := hR
    have hG : GD (ix (h 131 2)) (pg h 0) := hR.2.1
    obtain ⟨r1, ⟨⟨v1, v2, v3, v4⟩, v5, v6, v7, v8, v9, va, vb, vc, vd⟩, r3, r4, ⟨r5, r6⟩, r7, r8, r9, ra⟩ := hR
    have hn := r1.1
    have hn4 := v1
    have n5 := r1.2
    have c6 : ix (h 132 37) < 6 := v3.2
    have p9 : ix (h 132 51) < 9 := v5.2
    have p9' : ix (pg h 0 51) < 9 := v5.2
    have p4 := p4_b hm
    refine J_iload (pc := 47) dX6_least_47 rfl ?_
    refine J_iload_n (pc := 49) dX6_least_49 rfl ?_
    refine K_Si1 (pc := 50) (Y' := YX6_powerOf) dX6_least_50 lX6_231 mX6_powerOf sX6_powerOf (Nat.le_of_ble_eq_true rfl) (c6_powerOf hm) ?_
    rintro r h0 ⟨e0, rfl⟩
    rw [e0]
    clear e0 h0
    refine J_icmp_ge (pc := 53) (tgt := 130) dX6_least_53 (by decide) (fun c53 => ?_) (fun c53 => ?_)
    · skip
      have q53 : 4 ^ m ≤ k + 1 := (nI_leI (by omega) (by omega)).mp c53
      have e_k : k = (4 ^ m - 1) := by omega
      refine J_ls (ls' := [(0, .ref 131), (1, .int (nI p)), (2, .int (nI m)), (3, .int x), (4, .int ((skU (ix (h 131 2)) (pg h 0) m p) (flF (skU (ix (h 131 2)) (pg h 0) m p) k))), (5, .int (nI (flF (skU (ix (h 131 2)) (pg h 0) m p) k))), (6, .int (mxF (skU (ix (h 131 2)) (pg h 0) m p) (k + 1))), (7, .int (nI (k + 1)))]) ⟨rfl, rfl, rfl, rfl, rfl, rfl, rfl, rfl, trivial⟩ ?_
      rw [e_k] at hI ⊢
      exact kx T hI
    · skip
      have q53 : k + 1 < 4 ^ m := Nat.lt_of_not_le (fun z => c53 ((nI_leI (by omega) (by omega)).mpr z))
      refine J_aload_n (pc := 56) dX6_least_56 rfl ?_
      refine J_iconst (pc := 57) (v := nI 0) dX6_least_57 (by decide) ?_
      refine J_iload (pc := 58) dX6_least_58 rfl ?_
      refine J_iload_n (pc := 60) dX6_least_60 rfl ?_
      refine K_Vv3 (pc := 61) (Y' := YX6_skyFrom) dX6_least_61 lX6_234 mX6_skyFrom vX6_skyFrom ⟨_, _, rfl⟩ sh131 (Nat.le_of_ble_eq_true rfl) (c6_skyFrom hR0 hm (c := k + 1) (by omega)) ?_
      rintro h1 ⟨T1, hT1, rfl⟩
      have ev : mset h 276 T1 132 (284 + p) = (skU (ix (h 131 2)) (pg h 0) m p) (k + 1) := (mset_at (8 + p) (by omega) (by omega)).trans (hT1 (8 + p) (by omega))
      refine J_aload_n (pc := 64) dX6_least_64 rfl ?_
      refine J_getR (pc := 65) dX6_least_65 fX6_7 sh131 rfl ?_
      refine J_sipush (pc := 68) (v := nI 284) dX6_least_68 (by decide) ?_
      refine J_iload_n (pc := 71) dX6_least_71 rfl ?_
      refine J_iadd (pc := 72) dX6_least_72 (nI_add _ _) ?_
      refine J_iald (pc := 73) dX6_least_73 sh132 (rfl) (by omega) (ev) (by decide) ?_
      refine J_istore (pc := 74) dX6_least_74 (by decide) ?_
      refine J_iload (pc := 76) dX6_least_76 rfl ?_
      refine J_iload (pc := 78) dX6_least_78 rfl ?_
      refine J_icmp_ge (pc := 80) (tgt := 88) dX6_least_80 (by decide) (fun c80 => ?_) (fun c80 => ?_)
      · skip
        refine J_iload (pc := 88) dX6_least_88 rfl ?_
        refine J_istore (pc := 90) dX6_least_90 (by decide) ?_
        refine J_iload (pc := 92) dX6_least_92 rfl ?_
        refine J_iload (pc := 94) dX6_least_94 rfl ?_
        refine J_icmp_ge (pc := 96) (tgt := 104) dX6_least_96 (by decide) (fun c96 => ?_) (fun c96 => ?_)
        · skip
          refine J_iload (pc := 104) dX6_least_104 rfl ?_
          refine J_istore (pc := 106) dX6_least_106 (by decide) ?_
          refine J_iload (pc := 108) dX6_least_108 rfl ?_
          refine J_iload (pc := 110) dX6_least_110 rfl ?_
          refine J_icmp_le (pc := 112) (tgt := 120) dX6_least_112 (by decide) (fun c112 => ?_) (fun c112 => ?_)
          · skip
            refine J_iload (pc := 120) dX6_least_120 rfl ?_
            refine J_istore (pc := 122) dX6_least_122 (by decide) ?_
            refine J_iinc (pc := 124) dX6_least_124 rfl (v := nI ((k + 1) + 1)) (by exact nI_add _ _) (by decide) ?_
            refine J_goto (pc := 127) (tgt := 47) dX6_least_127 (by decide) ?_
            have i := ih (k + 1) T1 (by omega) (by omega) rfl
            rw [show flF (skU (ix (h 131 2)) (pg h 0) m p) (k + 1) = flF (skU (ix (h 131 2)) (pg h 0) m p) k from if_neg (Int32.not_lt.mpr c80), show mxF (skU (ix (h 131 2)) (pg h 0) m p) (k + 1 + 1) = mxF (skU (ix (h 131 2)) (pg h 0) m p) (k + 1) from if_neg (Int32.not_lt.mpr c112)] at i
            refine J_ls ?_ i
            exact ⟨rfl, rfl, rfl, rfl, rfl, rfl, rfl, rfl, trivial⟩
          · skip
            refine J_iload (pc := 115) dX6_least_115 rfl ?_
            refine J_goto (pc := 117) (tgt := 122) dX6_least_117 (by decide) ?_
            refine J_istore (pc := 122) dX6_least_122 (by decide) ?_
            refine J_iinc (pc := 124) dX6_least_124 rfl (v := nI ((k + 1) + 1)) (by exact nI_add _ _) (by decide) ?_
            refine J_goto (pc := 127) (tgt := 47) dX6_least_127 (by decide) ?_
            have i := ih (k + 1) T1 (by omega) (by omega) rfl
            rw [show flF (skU (ix (h 131 2)) (pg h 0) m p) (k + 1) = flF (skU (ix (h 131 2)) (pg h 0) m p) k from if_neg (Int32.not_lt.mpr c80), show mxF (skU (ix (h 131 2)) (pg h 0) m p) (k + 1 + 1) = (skU (ix (h 131 2)) (pg h 0) m p) (k + 1) from if_pos (Int32.not_le.mp c112)] at i
            refine J_ls ?_ i
            exact ⟨rfl, rfl, rfl, rfl, rfl, rfl, rfl, rfl, trivial⟩
        · skip
          exact absurd c80 c96
      · skip
        refine J_iload (pc := 83) dX6_least_83 rfl ?_
        refine J_goto (pc := 85) (tgt := 90) dX6_least_85 (by decide) ?_
        refine J_istore (pc := 90) dX6_least_90 (by decide) ?_
        refine J_iload (pc := 92) dX6_least_92 rfl ?_
        refine J_iload (pc := 94) dX6_least_94 rfl ?_
        refine J_icmp_ge (pc := 96) (tgt := 104) dX6_least_96 (by decide) (fun c96 => ?_) (fun c96 => ?_)
        · skip
          exact absurd c96 c80
        · skip
          refine J_iload (pc := 99) dX6_least_99 rfl ?_
          refine J_goto (pc := 101) (tgt := 106) dX6_least_101 (by decide) ?_
          refine J_istore (pc := 106) dX6_least_106 (by decide) ?_
          refine J_iload (pc := 108) dX6_least_108 rfl ?_
          refine J_iload (pc := 110) dX6_least_110 rfl ?_
          refine J_icmp_le (pc := 112) (tgt := 120) dX6_least_112 (by decide) (fun c112 => ?_) (fun c112 => ?_)
          · skip
            refine J_iload (pc := 120) dX6_least_120 rfl ?_
            refine J_istore (pc := 122) dX6_least_122 (by decide) ?_
            refine J_iinc (pc := 124) dX6_least_124 rfl (v := nI ((k + 1) + 1)) (by exact nI_add _ _) (by decide) ?_
            refine J_goto (pc := 127) (tgt := 47) dX6_least_127 (by decide) ?_
            have i := ih (k + 1) T1 (by omega) (by omega) rfl
            rw [show flF (skU (ix (h 131 2)) (pg h 0) m p) (k + 1) = (k + 1) from if_pos (Int32.not_le.mp c80), show mxF (skU (ix (h 131 2)) (pg h 0) m p) (k + 1 + 1) = mxF (skU (ix (h 131 2)) (pg h 0) m p) (k + 1) from if_neg (Int32.not_lt.mpr c112)] at i
            refine J_ls ?_ i
            exact ⟨rfl, rfl, rfl, rfl, rfl, rfl, rfl, rfl, trivial⟩
          · skip
            refine J_iload (pc := 115) dX6_least_115 rfl ?_
            refine J_goto (pc := 117) (tgt := 122) dX6_least_117 (by decide) ?_
            refine J_istore (pc := 122) dX6_least_122 (by decide) ?_
            refine J_iinc (pc := 124) dX6_least_124 rfl (v := nI ((k + 1) + 1)) (by exact nI_add _ _) (by decide) ?_
            refine J_goto (pc := 127) (tgt := 47) dX6_least_127 (by decide) ?_
            have i := ih (k + 1) T1 (by omega) (by omega) rfl
            rw [show flF (skU (ix (h 131 2)) (pg h 0) m p) (k + 1) = (k + 1) from if_pos (Int32.not_le.mp c80), show mxF (skU (ix (h 131 2)) (pg h 0) m p) (k + 1 + 1) = (skU (ix (h 131 2)) (pg h 0) m p) (k + 1) from if_pos (Int32.not_le.mp c112)] at i
            refine J_ls ?_ i
            exact ⟨rfl, rfl, rfl, rfl, rfl, rfl, rfl, rfl, trivial⟩
set_option maxHeartbeats 4000000 in
theorem c6_least {g : jG} {d : Nat} {h : jH} {p n x : Int32} (hR : MR h) : Mi g (d + 4) YX6_least h [.ref 131, .int p, .int n, .int x] (fun r h' => r = (oLeast h p n x).1 ∧ sameP (oLeast h p n x).2 h' ∧ lo h h') := by
  refine M.of (by decide) rfl (Nat.le_of_ble_eq_true rfl) ?_
  have hR0 := hR
  have hG : GD (ix (h 131 2)) (pg h 0) := hR.2.1
  obtain ⟨r1, ⟨⟨v1, v2, v3, v4⟩, v5, v6, v7, v8, v9, va, vb, vc, vd⟩, r3, r4, ⟨r5, r6⟩, r7, r8, r9, ra⟩ := hR
  have hn := r1.1
  have hn4 := v1
  have n5 := r1.2
  have c6 : ix (h 132 37) < 6 := v3.2
  have p9 : ix (h 132 51) < 9 := v5.2
  have p9' : ix (pg h 0 51) < 9 := v5.2
  refine J_aload_n (pc := 0) dX6_least_0 rfl ?_
  refine J_iload_n (pc := 1) dX6_least_1 rfl ?_
  refine K_Vi1 (pc := 2) (Y' := YX6_isOne) dX6_least_2 lX6_160 mX6_isOne vX6_isOne ⟨_, _, rfl⟩ sh131 (Nat.le_of_ble_eq_true rfl) (c6_isOne (x := p) hn hn4) ?_
  rintro x h0 ⟨e0, ⟨rfl, b2⟩ | ⟨rfl, b2⟩⟩ <;> rw [e0] <;> clear e0 h0
  · skip
    refine J_if_eq (pc := 5) (tgt := 32) dX6_least_5 (by decide) (fun c => absurd c (by decide)) (fun _ => ?_)
    refine J_iload_n (pc := 8) dX6_least_8 rfl ?_
    refine J_i2l (pc := 9) dX6_least_9 (rfl) ?_
    refine J_lconst (pc := 10) (v := 0) dX6_least_10 (by decide) ?_
    refine J_ldc2 (pc := 11) dX6_least_11 kX6_164 ?_
    refine K_Si3 (pc := 14) (Y' := YX6_in) dX6_least_14 lX6_55 mX6_in sX6_in (Nat.le_of_ble_eq_true rfl) (c6_inI n (nI 0) (nI 4) rfl (by decide) (by decide)) ?_
    rintro x h0 ⟨e0, ⟨rfl, b14⟩ | ⟨rfl, b14⟩⟩ <;> rw [e0] <;> clear e0 h0
    · skip
      refine J_if_eq (pc := 17) (tgt := 32) dX6_least_17 (by decide) (fun c => absurd c (by decide)) (fun _ => ?_)
      refine J_iload_n (pc := 20) dX6_least_20 rfl ?_
      refine J_i2l (pc := 21) dX6_least_21 (rfl) ?_
      refine J_lconst (pc := 22) (v := 0) dX6_least_22 (by decide) ?_
      refine J_ldc2 (pc := 23) dX6_least_23 kX6_228 ?_
      refine K_Si3 (pc := 26) (Y' := YX6_in) dX6_least_26 lX6_55 mX6_in sX6_in (Nat.le_of_ble_eq_true rfl) (c6_inI x (nI 0) (nI 2) rfl (by decide) (by decide)) ?_
      rintro x h0 ⟨e0, ⟨rfl, b26⟩ | ⟨rfl, b26⟩⟩ <;> rw [e0] <;> clear e0 h0
      · skip
        refine J_if_ne (pc := 29) (tgt := 34) dX6_least_29 (by decide) (fun _ => ?_) (fun c => absurd c (by decide))
        refine J_ldc (pc := 34) dX6_least_34 kX6_230 ?_
        refine J_istore (pc := 36) dX6_least_36 (by decide) ?_
        refine J_iconst (pc := 38) (v := nI 0) dX6_least_38 (by decide) ?_
        refine J_istore (pc := 39) dX6_least_39 (by decide) ?_
        refine J_iconst (pc := 41) (v := nI 0) dX6_least_41 (by decide) ?_
        refine J_istore (pc := 42) dX6_least_42 (by decide) ?_
        refine J_iconst (pc := 44) (v := nI 0) dX6_least_44 (by decide) ?_
        refine J_istore (pc := 45) dX6_least_45 (by decide) ?_
        have bn : nb 5 n := (in_nbc (n := 4) rfl (by omega)).mp b14
        have hm : ix n ≤ 4 := by have := bn.2; omega
        have p4 := p4_b hm
        have qp := b2.2
        refine J_ls (ls' := [(0, .ref 131), (1, .int (nI (ix p))), (2, .int (nI (ix n))), (3, .int x), (4, .int 1000000), (5, .int (nI 0)), (6, .int (nI 0)), (7, .int (nI 0))]) ⟨rfl, congrArg (fun z => some (Value.int z)) b2.1, congrArg (fun z => some (Value.int z)) bn.1, rfl, rfl, rfl, rfl, rfl, trivial⟩ ?_
        refine J_h (mset_pg (h := h) (o := 276)).symm ?_
        refine J_iload (pc := 47) dX6_least_47 rfl ?_
        refine J_iload_n (pc := 49) dX6_least_49 rfl ?_
        refine K_Si1 (pc := 50) (Y' := YX6_powerOf) dX6_least_50 lX6_231 mX6_powerOf sX6_powerOf (Nat.le_of_ble_eq_true rfl) (c6_powerOf hm) ?_
        rintro r h0 ⟨e0, rfl⟩
        rw [e0]
        clear e0 h0
        refine J_icmp_ge (pc := 53) (tgt := 130) dX6_least_53 (by decide) (fun c53 => ?_) (fun c53 => ?_)
        · skip
          exact absurd ((nI_leI (by omega) (by omega)).mp c53) (by omega)
        · skip
          refine J_aload_n (pc := 56) dX6_least_56 rfl ?_
          refine J_iconst (pc := 57) (v := nI 0) dX6_least_57 (by decide) ?_
          refine J_iload (pc := 58) dX6_least_58 rfl ?_
          refine J_iload_n (pc := 60) dX6_least_60 rfl ?_
          refine K_Vv3 (pc := 61) (Y' := YX6_skyFrom) dX6_least_61 lX6_234 mX6_skyFrom vX6_skyFrom ⟨_, _, rfl⟩ sh131 (Nat.le_of_ble_eq_true rfl) (c6_skyFrom hR0 hm (c := 0) (T0 := pg h 276) (by omega)) ?_
          rintro h1 ⟨T1, hT1, rfl⟩
          have ev : mset h 276 T1 132 (284 + ix p) = (skU (ix (h 131 2)) (pg h 0) (ix n) (ix p)) (0) := (mset_at (8 + ix p) (by omega) (by omega)).trans (hT1 (8 + ix p) (by omega))
          have u0 : (skU (ix (h 131 2)) (pg h 0) (ix n) (ix p)) 0 < 1000000 := by
            have b := ((sk_ok hG (ix n) 0).1.2.2.2.2.2.2.1 (ix p) qp).1
            have b1 := b.toInt (by omega)
            have b2' := b.2
            rw [i_lt, show (1000000 : Int32).toInt = 1000000 from rfl]
            show (skP (ix (h 131 2)) (pg h 0) (ix n) 0 (8 + ix p)).toInt < 1000000
            omega
          refine J_aload_n (pc := 64) dX6_least_64 rfl ?_
          refine J_getR (pc := 65) dX6_least_65 fX6_7 sh131 rfl ?_
          refine J_sipush (pc := 68) (v := nI 284) dX6_least_68 (by decide) ?_
          refine J_iload_n (pc := 71) dX6_least_71 rfl ?_
          refine J_iadd (pc := 72) dX6_least_72 (nI_add _ _) ?_
          refine J_iald (pc := 73) dX6_least_73 sh132 (rfl) (by omega) (ev) (by decide) ?_
          refine J_istore (pc := 74) dX6_least_74 (by decide) ?_
          refine J_iload (pc := 76) dX6_least_76 rfl ?_
          refine J_iload (pc := 78) dX6_least_78 rfl ?_
          refine J_icmp_ge (pc := 80) (tgt := 88) dX6_least_80 (by decide) (fun c80 => ?_) (fun c80 => ?_)
          · skip
            refine J_iload (pc := 88) dX6_least_88 rfl ?_
            refine J_istore (pc := 90) dX6_least_90 (by decide) ?_
            refine J_iload (pc := 92) dX6_least_92 rfl ?_
            refine J_iload (pc := 94) dX6_least_94 rfl ?_
            refine J_icmp_ge (pc := 96) (tgt := 104) dX6_least_96 (by decide) (fun c96 => ?_) (fun c96 => ?_)
            · skip
              refine J_iload (pc := 104) dX6_least_104 rfl ?_
              refine J_istore (pc := 106) dX6_least_106 (by decide) ?_
              refine J_iload (pc := 108) dX6_least_108 rfl ?_
              refine J_iload (pc := 110) dX6_least_110 rfl ?_
              refine J_icmp_le (pc := 112) (tgt := 120) dX6_least_112 (by decide) (fun c112 => ?_) (fun c112 => ?_)
              · skip
                refine J_iload (pc := 120) dX6_least_120 rfl ?_
                refine J_istore (pc := 122) dX6_least_122 (by decide) ?_
                refine J_iinc (pc := 124) dX6_least_124 rfl (v := nI 1) (by decide) (by decide) ?_
                refine J_goto (pc := 127) (tgt := 47) dX6_least_127 (by decide) ?_
                exact absurd c80 (Int32.not_le.mpr u0)
              · skip
                refine J_iload (pc := 115) dX6_least_115 rfl ?_
                refine J_goto (pc := 117) (tgt := 122) dX6_least_117 (by decide) ?_
                refine J_istore (pc := 122) dX6_least_122 (by decide) ?_
                refine J_iinc (pc := 124) dX6_least_124 rfl (v := nI 1) (by decide) (by decide) ?_
                refine J_goto (pc := 127) (tgt := 47) dX6_least_127 (by decide) ?_
                exact absurd c80 (Int32.not_le.mpr u0)
            · skip
              exact absurd c80 c96
          · skip
            refine J_iload (pc := 83) dX6_least_83 rfl ?_
            refine J_goto (pc := 85) (tgt := 90) dX6_least_85 (by decide) ?_
            refine J_istore (pc := 90) dX6_least_90 (by decide) ?_
            refine J_iload (pc := 92) dX6_least_92 rfl ?_
            refine J_iload (pc := 94) dX6_least_94 rfl ?_
            refine J_icmp_ge (pc := 96) (tgt := 104) dX6_least_96 (by decide) (fun c96 => ?_) (fun c96 => ?_)
            · skip
              exact absurd c96 c80
            · skip
              refine J_iload (pc := 99) dX6_least_99 rfl ?_
              refine J_goto (pc := 101) (tgt := 106) dX6_least_101 (by decide) ?_
              refine J_istore (pc := 106) dX6_least_106 (by decide) ?_
              refine J_iload (pc := 108) dX6_least_108 rfl ?_
              refine J_iload (pc := 110) dX6_least_110 rfl ?_
              refine J_icmp_le (pc := 112) (tgt := 120) dX6_least_112 (by decide) (fun c112 => ?_) (fun c112 => ?_)
              · skip
                refine J_iload (pc := 120) dX6_least_120 rfl ?_
                refine J_istore (pc := 122) dX6_least_122 (by decide) ?_
                refine J_iinc (pc := 124) dX6_least_124 rfl (v := nI 1) (by decide) (by decide) ?_
                refine J_goto (pc := 127) (tgt := 47) dX6_least_127 (by decide) ?_
                refine J_ls (ls' := [(0, .ref 131), (1, .int (nI (ix p))), (2, .int (nI (ix n))), (3, .int x), (4, .int ((skU (ix (h 131 2)) (pg h 0) (ix n) (ix p)) (flF (skU (ix (h 131 2)) (pg h 0) (ix n) (ix p)) 0))), (5, .int (nI (flF (skU (ix (h 131 2)) (pg h 0) (ix n) (ix p)) 0))), (6, .int (mxF (skU (ix (h 131 2)) (pg h 0) (ix n) (ix p)) (0 + 1))), (7, .int (nI (0 + 1)))]) ⟨rfl, rfl, rfl, rfl, rfl, rfl, congrArg (fun z => some (Value.int z)) (show _ = mxF (skU (ix (h 131 2)) (pg h 0) (ix n) (ix p)) (0 + 1) from (if_neg (Int32.not_lt.mpr c112) : mxF (skU (ix (h 131 2)) (pg h 0) (ix n) (ix p)) (0 + 1) = mxF (skU (ix (h 131 2)) (pg h 0) (ix n) (ix p)) 0).symm), rfl, trivial⟩ ?_
                refine l6_least (p := ix p) (m := ix n) hR0 hm qp ?_ (4 ^ ix n) 0 T1 (Nat.zero_le _) (by omega) rfl
                intro T hT
                rcases three_of b26 with rfl | rfl | rfl
                · skip
                  refine J_iload_n (pc := 130) dX6_least_130 rfl ?_
                  refine J_if_ne (pc := 131) (tgt := 139) dX6_least_131 (by decide) (fun c => absurd c (by decide)) (fun _ => ?_)
                  refine J_iload (pc := 134) dX6_least_134 rfl ?_
                  refine J_goto (pc := 136) (tgt := 151) dX6_least_136 (by decide) ?_
                  refine K_iret (pc := 151) dX6_least_151 rfl ?_
                  exact by
                    rw [oLeast, iteR_t ⟨b2, bn, b26⟩]
                    exact ⟨rfl, sameP_scr (by omega), lo_mset⟩
                · skip
                  refine J_iload_n (pc := 130) dX6_least_130 rfl ?_
                  refine J_if_ne (pc := 131) (tgt := 139) dX6_least_131 (by decide) (fun _ => ?_) (fun c => absurd c (by decide))
                  refine J_iload_n (pc := 139) dX6_least_139 rfl ?_
                  refine J_iconst (pc := 140) (v := nI 1) dX6_least_140 (by decide) ?_
                  refine J_icmp_ne (pc := 141) (tgt := 149) dX6_least_141 (by decide) (fun c => absurd c (by decide)) (fun _ => ?_)
                  refine J_iload (pc := 144) dX6_least_144 rfl ?_
                  refine J_goto (pc := 146) (tgt := 151) dX6_least_146 (by decide) ?_
                  refine K_iret (pc := 151) dX6_least_151 rfl ?_
                  exact by
                    rw [oLeast, iteR_t ⟨b2, bn, b26⟩]
                    exact ⟨rfl, sameP_scr (by omega), lo_mset⟩
                · skip
                  refine J_iload_n (pc := 130) dX6_least_130 rfl ?_
                  refine J_if_ne (pc := 131) (tgt := 139) dX6_least_131 (by decide) (fun _ => ?_) (fun c => absurd c (by decide))
                  refine J_iload_n (pc := 139) dX6_least_139 rfl ?_
                  refine J_iconst (pc := 140) (v := nI 1) dX6_least_140 (by decide) ?_
                  refine J_icmp_ne (pc := 141) (tgt := 149) dX6_least_141 (by decide) (fun _ => ?_) (fun c => absurd c (by decide))
                  refine J_iload (pc := 149) dX6_least_149 rfl ?_
                  refine K_iret (pc := 151) dX6_least_151 rfl ?_
                  exact by
                    rw [oLeast, iteR_t ⟨b2, bn, b26⟩]
                    exact ⟨congrArg (mxF (skU (ix (h 131 2)) (pg h 0) (ix n) (ix p))) (show 4 ^ ix n - 1 + 1 = 4 ^ ix n by omega), sameP_scr (by omega), lo_mset⟩
              · skip
                refine J_iload (pc := 115) dX6_least_115 rfl ?_
                refine J_goto (pc := 117) (tgt := 122) dX6_least_117 (by decide) ?_
                refine J_istore (pc := 122) dX6_least_122 (by decide) ?_
                refine J_iinc (pc := 124) dX6_least_124 rfl (v := nI 1) (by decide) (by decide) ?_
                refine J_goto (pc := 127) (tgt := 47) dX6_least_127 (by decide) ?_
                refine J_ls (ls' := [(0, .ref 131), (1, .int (nI (ix p))), (2, .int (nI (ix n))), (3, .int x), (4, .int ((skU (ix (h 131 2)) (pg h 0) (ix n) (ix p)) (flF (skU (ix (h 131 2)) (pg h 0) (ix n) (ix p)) 0))), (5, .int (nI (flF (skU (ix (h 131 2)) (pg h 0) (ix n) (ix p)) 0))), (6, .int (mxF (skU (ix (h 131 2)) (pg h 0) (ix n) (ix p)) (0 + 1))), (7, .int (nI (0 + 1)))]) ⟨rfl, rfl, rfl, rfl, rfl, rfl, congrArg (fun z => some (Value.int z)) (show _ = mxF (skU (ix (h 131 2)) (pg h 0) (ix n) (ix p)) (0 + 1) from (if_pos (Int32.not_le.mp c112) : mxF (skU (ix (h 131 2)) (pg h 0) (ix n) (ix p)) (0 + 1) = (skU (ix (h 131 2)) (pg h 0) (ix n) (ix p)) 0).symm), rfl, trivial⟩ ?_
                refine l6_least (p := ix p) (m := ix n) hR0 hm qp ?_ (4 ^ ix n) 0 T1 (Nat.zero_le _) (by omega) rfl
                intro T hT
                rcases three_of b26 with rfl | rfl | rfl
                · skip
                  refine J_iload_n (pc := 130) dX6_least_130 rfl ?_
                  refine J_if_ne (pc := 131) (tgt := 139) dX6_least_131 (by decide) (fun c => absurd c (by decide)) (fun _ => ?_)
                  refine J_iload (pc := 134) dX6_least_134 rfl ?_
                  refine J_goto (pc := 136) (tgt := 151) dX6_least_136 (by decide) ?_
                  refine K_iret (pc := 151) dX6_least_151 rfl ?_
                  exact by
                    rw [oLeast, iteR_t ⟨b2, bn, b26⟩]
                    exact ⟨rfl, sameP_scr (by omega), lo_mset⟩
                · skip
                  refine J_iload_n (pc := 130) dX6_least_130 rfl ?_
                  refine J_if_ne (pc := 131) (tgt := 139) dX6_least_131 (by decide) (fun _ => ?_) (fun c => absurd c (by decide))
                  refine J_iload_n (pc := 139) dX6_least_139 rfl ?_
                  refine J_iconst (pc := 140) (v := nI 1) dX6_least_140 (by decide) ?_
                  refine J_icmp_ne (pc := 141) (tgt := 149) dX6_least_141 (by decide) (fun c => absurd c (by decide)) (fun _ => ?_)
                  refine J_iload (pc := 144) dX6_least_144 rfl ?_
                  refine J_goto (pc := 146) (tgt := 151) dX6_least_146 (by decide) ?_
                  refine K_iret (pc := 151) dX6_least_151 rfl ?_
                  exact by
                    rw [oLeast, iteR_t ⟨b2, bn, b26⟩]
                    exact ⟨rfl, sameP_scr (by omega), lo_mset⟩
                · skip
                  refine J_iload_n (pc := 130) dX6_least_130 rfl ?_
                  refine J_if_ne (pc := 131) (tgt := 139) dX6_least_131 (by decide) (fun _ => ?_) (fun c => absurd c (by decide))
                  refine J_iload_n (pc := 139) dX6_least_139 rfl ?_
                  refine J_iconst (pc := 140) (v := nI 1) dX6_least_140 (by decide) ?_
                  refine J_icmp_ne (pc := 141) (tgt := 149) dX6_least_141 (by decide) (fun _ => ?_) (fun c => absurd c (by decide))
                  refine J_iload (pc := 149) dX6_least_149 rfl ?_
                  refine K_iret (pc := 151) dX6_least_151 rfl ?_
                  exact by
                    rw [oLeast, iteR_t ⟨b2, bn, b26⟩]
                    exact ⟨congrArg (mxF (skU (ix (h 131 2)) (pg h 0) (ix n) (ix p))) (show 4 ^ ix n - 1 + 1 = 4 ^ ix n by omega), sameP_scr (by omega), lo_mset⟩
      · skip
        refine J_if_ne (pc := 29) (tgt := 34) dX6_least_29 (by decide) (fun c => absurd c (by decide)) (fun _ => ?_)
        refine J_iconst (pc := 32) (v := -1) dX6_least_32 (by decide) ?_
        refine K_iret (pc := 33) dX6_least_33 rfl ?_
        exact by rw [oLeast, iteR_f (fun z => b26 z.2.2)]; exact ⟨rfl, sameP.rf, lo.rf⟩
    · skip
      refine J_if_eq (pc := 17) (tgt := 32) dX6_least_17 (by decide) (fun _ => ?_) (fun c => absurd c (by decide))
      refine J_iconst (pc := 32) (v := -1) dX6_least_32 (by decide) ?_
      refine K_iret (pc := 33) dX6_least_33 rfl ?_
      exact by rw [oLeast, iteR_f (fun z => b14 ((in_nbc (n := 4) rfl (by omega)).mpr z.2.1))]; exact ⟨rfl, sameP.rf, lo.rf⟩
  · skip
    refine J_if_eq (pc := 5) (tgt := 32) dX6_least_5 (by decide) (fun _ => ?_) (fun c => absurd c (by decide))
    refine J_iconst (pc := 32) (v := -1) dX6_least_32 (by decide) ?_
    refine K_iret (pc := 33) dX6_least_33 rfl ?_
    exact by rw [oLeast, iteR_f (fun z => b2 z.1)]; exact ⟨rfl, sameP.rf, lo.rf⟩
