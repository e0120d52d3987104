set_option maxHeartbeats 4000000 in
theorem l4_copyRows {g : jG} {d : Nat} {h : jH} {Q : kQ} {A B a b N L : Nat} {ra rb : List (Option Nat)} (hA : SH[A]? = some (.inr (.inl (2, ra)))) (hB : SH[B]? = some (.inr (.inl (2, rb)))) (la : ra.length = N) (lb : rb.length = N) (rA : ∀ k, k < N → ra[k]? = some (some (a + k))) (rB : ∀ k, k < N → rb[k]? = some (some (b + k))) (sA : ∀ k, k < N → SH[a + k]? = some (.inl (0, L))) (sB : ∀ k, k < N → SH[b + k]? = some (.inl (0, L))) (hN : N ≤ 8) (hL : L ≤ 8) (hd : a + N ≤ b ∨ b + N ≤ a) (kx : K g (d + 1) YX4_copyRows (crH h a b N L) 42 [(0, .ref A), (1, .ref B), (2, .int (nI N))] [] Q) : ∀ (m k : Nat) , k ≤ N → N < k + m → K g (d + 1) YX4_copyRows (crH h a b k L) 2 [(0, .ref A), (1, .ref B), (2, .int (nI k))] [] Q := by
  intro m
  induction m with
  | zero => intro k  hk1 hk2 ; omega
  | succ m ih =>
    intro k  hk1 hk2 
    refine J_iload_n (pc := 2) dX4_copyRows_2 rfl ?_
    refine J_aload_n (pc := 3) dX4_copyRows_3 rfl ?_
    refine J_alenR (pc := 4) dX4_copyRows_4 hA ⟨_, rfl⟩ (congrArg nI la) ?_
    refine J_icmp_ge (pc := 5) (tgt := 42) dX4_copyRows_5 (by decide) (fun c5 => ?_) (fun c5 => ?_)
    · skip
      have q5 : N ≤ k := (nI_leI (by omega) (by omega)).mp c5
      have e_k : k = N := by omega
      refine J_ls (ls' := [(0, .ref A), (1, .ref B), (2, .int (nI k))]) ⟨rfl, rfl, rfl, trivial⟩ ?_
      rw [e_k]
      exact kx
    · skip
      have q5 : k < N := Nat.lt_of_not_le (fun z => c5 ((nI_leI (by omega) (by omega)).mpr z))
      refine J_iload_n (pc := 8) dX4_copyRows_8 rfl ?_
      refine J_aload_n (pc := 9) dX4_copyRows_9 rfl ?_
      refine J_alenR (pc := 10) dX4_copyRows_10 hB ⟨_, rfl⟩ (congrArg nI lb) ?_
      refine J_icmp_ge (pc := 11) (tgt := 42) dX4_copyRows_11 (by decide) (fun c11 => ?_) (fun c11 => ?_)
      · skip
        exact absurd ((nI_leI (by omega) (by omega)).mp c11) (by omega)
      · skip
        refine J_aload_n (pc := 14) dX4_copyRows_14 rfl ?_
        refine J_iload_n (pc := 15) dX4_copyRows_15 rfl ?_
        refine J_aald (pc := 16) dX4_copyRows_16 hA j_k2 (rfl) (rA _ (by omega)) (by omega) ?_
        refine J_iconst (pc := 17) (v := nI 0) dX4_copyRows_17 (by decide) ?_
        refine J_aload_n (pc := 18) dX4_copyRows_18 rfl ?_
        refine J_iload_n (pc := 19) dX4_copyRows_19 rfl ?_
        refine J_aald (pc := 20) dX4_copyRows_20 hB j_k2 (rfl) (rB _ (by omega)) (by omega) ?_
        refine J_iconst (pc := 21) (v := nI 0) dX4_copyRows_21 (by decide) ?_
        refine J_aload_n (pc := 22) dX4_copyRows_22 rfl ?_
        refine J_iload_n (pc := 23) dX4_copyRows_23 rfl ?_
        refine J_aald (pc := 24) dX4_copyRows_24 hA j_k2 (rfl) (rA _ (by omega)) (by omega) ?_
        refine J_alen (pc := 25) dX4_copyRows_25 (sA _ (by omega)) j_k0 (rfl) ?_
        refine J_aload_n (pc := 26) dX4_copyRows_26 rfl ?_
        refine J_iload_n (pc := 27) dX4_copyRows_27 rfl ?_
        refine J_aald (pc := 28) dX4_copyRows_28 hB j_k2 (rfl) (rB _ (by omega)) (by omega) ?_
        refine J_alen (pc := 29) dX4_copyRows_29 (sB _ (by omega)) j_k0 (rfl) ?_
        refine J_min (pc := 30) dX4_copyRows_30 qX4_64 w_min_s w_math w_min_c (Nat.le_of_ble_eq_true rfl) (ite_self _) ?_
        refine J_copy (pc := 33) dX4_copyRows_33 qX4_58 w_cp_n w_cp_s w_sys (sA _ (by omega)) (sB _ (by omega)) (rfl) (rfl) (rfl) (by omega) (by omega) (by first | decide | omega) (by first | decide | omega) (Nat.le_of_ble_eq_true rfl) ?_
        rw [crH_s hd q5]
        refine J_iinc (pc := 36) dX4_copyRows_36 rfl (v := nI (k + 1)) (by exact nI_add _ _) (by decide) ?_
        refine J_goto (pc := 39) (tgt := 2) dX4_copyRows_39 (by decide) ?_
        exact J_ls (ls' := [(0, .ref A), (1, .ref B), (2, .int (nI (k + 1)))]) ⟨rfl, rfl, rfl, trivial⟩ (ih (k + 1)  (by omega) (by omega) )
set_option maxHeartbeats 4000000 in
theorem c4_copyRows {g : jG} {d : Nat} {h : jH} {A B a b N L : Nat} {ra rb : List (Option Nat)} (hA : SH[A]? = some (.inr (.inl (2, ra)))) (hB : SH[B]? = some (.inr (.inl (2, rb)))) (la : ra.length = N) (lb : rb.length = N) (rA : ∀ k, k < N → ra[k]? = some (some (a + k))) (rB : ∀ k, k < N → rb[k]? = some (some (b + k))) (sA : ∀ k, k < N → SH[a + k]? = some (.inl (0, L))) (sB : ∀ k, k < N → SH[b + k]? = some (.inl (0, L))) (hN : N ≤ 8) (hL : L ≤ 8) (hd : a + N ≤ b ∨ b + N ≤ a) : Mv g (d + 1) YX4_copyRows h [.ref A, .ref B] (fun h' => h' = crH h a b N L) := by
  refine M.of (by decide) rfl (Nat.le_of_ble_eq_true rfl) ?_
  refine J_iconst (pc := 0) (v := nI 0) dX4_copyRows_0 (by decide) ?_
  refine J_istore_n (pc := 1) dX4_copyRows_1 (by decide) ?_
  refine J_h (h' := crH h a b 0 L) (by rw [crH_0]) ?_
  refine J_ls (ls' := [(0, .ref A), (1, .ref B), (2, .int (nI 0))]) ⟨rfl, rfl, rfl, trivial⟩ ?_
  refine l4_copyRows hA hB la lb rA rB sA sB hN hL hd ?_ (N + 1) 0 (Nat.zero_le _) (by omega)
  refine K_ret (pc := 42) dX4_copyRows_42 rfl ?_
  exact rfl
set_option maxHeartbeats 4000000 in
theorem c4_copyFrom {g : jG} {d : Nat} {h : jH} {o v : Nat} (ho : isV o) (hv : isV v) (hne : o ≠ v) : Mv g (d + 2) YX4_copyFrom h [.ref v, .ref o] (fun h' => CP h h' o v) := by
  refine M.of (by decide) rfl (Nat.le_of_ble_eq_true rfl) ?_
  have far := isV_far ho hv hne
  refine J_aload_n (pc := 0) dX4_copyFrom_0 rfl ?_
  refine J_aload_n (pc := 1) dX4_copyFrom_1 rfl ?_
  refine J_getI (pc := 2) dX4_copyFrom_2 fX4_35 (sv0 ho) rfl (rfl) ?_
  refine J_putI (pc := 5) dX4_copyFrom_5 fX4_35 (sv0 hv) rfl ?_
  refine J_aload_n (pc := 8) dX4_copyFrom_8 rfl ?_
  refine J_aload_n (pc := 9) dX4_copyFrom_9 rfl ?_
  refine J_getI (pc := 10) dX4_copyFrom_10 fX4_39 (sv0 ho) rfl (j_up_o (by omega)) ?_
  refine J_putI (pc := 13) dX4_copyFrom_13 fX4_39 (sv0 hv) rfl ?_
  refine J_aload_n (pc := 16) dX4_copyFrom_16 rfl ?_
  refine J_aload_n (pc := 17) dX4_copyFrom_17 rfl ?_
  refine J_getI (pc := 18) dX4_copyFrom_18 fX4_42 (sv0 ho) rfl ((j_up_o (by omega)).trans (j_up_o (by omega))) ?_
  refine J_putI (pc := 21) dX4_copyFrom_21 fX4_42 (sv0 hv) rfl ?_
  refine J_aload_n (pc := 24) dX4_copyFrom_24 rfl ?_
  refine J_aload_n (pc := 25) dX4_copyFrom_25 rfl ?_
  refine J_getI (pc := 26) dX4_copyFrom_26 fX4_45 (sv0 ho) rfl ((j_up_o (by omega)).trans ((j_up_o (by omega)).trans (j_up_o (by omega)))) ?_
  refine J_putI (pc := 29) dX4_copyFrom_29 fX4_45 (sv0 hv) rfl ?_
  refine J_aload_n (pc := 32) dX4_copyFrom_32 rfl ?_
  refine J_aload_n (pc := 33) dX4_copyFrom_33 rfl ?_
  refine J_getI (pc := 34) dX4_copyFrom_34 fX4_48 (sv0 ho) rfl ((j_up_o (by omega)).trans ((j_up_o (by omega)).trans ((j_up_o (by omega)).trans (j_up_o (by omega))))) ?_
  refine J_putI (pc := 37) dX4_copyFrom_37 fX4_48 (sv0 hv) rfl ?_
  refine J_aload_n (pc := 40) dX4_copyFrom_40 rfl ?_
  refine J_getR (pc := 41) dX4_copyFrom_41 fX4_11 (sv0 ho) rfl ?_
  refine J_aload_n (pc := 44) dX4_copyFrom_44 rfl ?_
  refine J_getR (pc := 45) dX4_copyFrom_45 fX4_11 (sv0 hv) rfl ?_
  refine K_Sv2 (pc := 48) (Y' := YX4_copyRows) dX4_copyFrom_48 lX4_54 mX4_copyRows sX4_copyRows (Nat.le_of_ble_eq_true rfl) (c4_copyRows (a := o + 2) (b := v + 2) (N := 3) (L := 4) (sv1 ho) (sv1 hv) rfl rfl ones_r ones_r (fun k hk => onesRS ho hk) (fun k hk => onesRS hv hk) (by omega) (by omega) (by omega)) ?_
  rintro h0 e0
  rw [e0]
  clear e0 h0
  refine J_aload_n (pc := 51) dX4_copyFrom_51 rfl ?_
  refine J_getR (pc := 52) dX4_copyFrom_52 fX4_20 (sv0 ho) rfl ?_
  refine J_aload_n (pc := 55) dX4_copyFrom_55 rfl ?_
  refine J_getR (pc := 56) dX4_copyFrom_56 fX4_20 (sv0 hv) rfl ?_
  refine K_Sv2 (pc := 59) (Y' := YX4_copyRows) dX4_copyFrom_59 lX4_54 mX4_copyRows sX4_copyRows (Nat.le_of_ble_eq_true rfl) (c4_copyRows (a := o + 6) (b := v + 6) (N := 5) (L := 5) (sv5 ho) (sv5 hv) rfl rfl terms_r terms_r (fun k hk => termsRS ho hk) (fun k hk => termsRS hv hk) (by omega) (by omega) (by omega)) ?_
  rintro h0 e0
  rw [e0]
  clear e0 h0
  refine J_aload_n (pc := 62) dX4_copyFrom_62 rfl ?_
  refine J_getR (pc := 63) dX4_copyFrom_63 fX4_29 (sv0 ho) rfl ?_
  refine J_aload_n (pc := 66) dX4_copyFrom_66 rfl ?_
  refine J_getR (pc := 67) dX4_copyFrom_67 fX4_29 (sv0 hv) rfl ?_
  refine K_Sv2 (pc := 70) (Y' := YX4_copyRows) dX4_copyFrom_70 lX4_54 mX4_copyRows sX4_copyRows (Nat.le_of_ble_eq_true rfl) (c4_copyRows (a := o + 14) (b := v + 14) (N := 4) (L := 4) (sv13 ho) (sv13 hv) rfl rfl debts_r debts_r (fun k hk => debtsRS ho hk) (fun k hk => debtsRS hv hk) (by omega) (by omega) (by omega)) ?_
  rintro h0 e0
  rw [e0]
  clear e0 h0
  refine J_aload_n (pc := 73) dX4_copyFrom_73 rfl ?_
  refine J_getR (pc := 74) dX4_copyFrom_74 fX4_23 (sv0 ho) rfl ?_
  refine J_iconst (pc := 77) (v := nI 0) dX4_copyFrom_77 (by decide) ?_
  refine J_aload_n (pc := 78) dX4_copyFrom_78 rfl ?_
  refine J_getR (pc := 79) dX4_copyFrom_79 fX4_23 (sv0 hv) rfl ?_
  refine J_iconst (pc := 82) (v := nI 0) dX4_copyFrom_82 (by decide) ?_
  refine J_iconst (pc := 83) (v := nI 4) dX4_copyFrom_83 (by decide) ?_
  refine J_copy (pc := 84) dX4_copyFrom_84 qX4_58 w_cp_n w_cp_s w_sys (sv11 ho) (sv11 hv) (rfl) (rfl) (rfl) (by omega) (by omega) (by first | decide | omega) (by first | decide | omega) (Nat.le_of_ble_eq_true rfl) ?_
  refine J_aload_n (pc := 87) dX4_copyFrom_87 rfl ?_
  refine J_getR (pc := 88) dX4_copyFrom_88 fX4_26 (sv0 ho) rfl ?_
  refine J_iconst (pc := 91) (v := nI 0) dX4_copyFrom_91 (by decide) ?_
  refine J_aload_n (pc := 92) dX4_copyFrom_92 rfl ?_
  refine J_getR (pc := 93) dX4_copyFrom_93 fX4_26 (sv0 hv) rfl ?_
  refine J_iconst (pc := 96) (v := nI 0) dX4_copyFrom_96 (by decide) ?_
  refine J_bipush (pc := 97) (v := nI 8) dX4_copyFrom_97 (by decide) ?_
  refine J_copy (pc := 99) dX4_copyFrom_99 qX4_58 w_cp_n w_cp_s w_sys (sv12 ho) (sv12 hv) (rfl) (rfl) (rfl) (by omega) (by omega) (by first | decide | omega) (by first | decide | omega) (Nat.le_of_ble_eq_true rfl) ?_
  refine K_ret (pc := 102) dX4_copyFrom_102 rfl ?_
  exact vfH_CP ho hv hne
set_option maxHeartbeats 4000000 in
theorem c5_keep {g : jG} {d : Nat} {a h : jH} {k : Int32} (hR : RX a h) : Mi g (d + 4) YX5_keep h [.ref 0, .int k] (fun r h' => ∃ a', oKeep a k = (r, a') ∧ RX a' h' ∧ hi h h') := by
  refine M.of (by decide) rfl (Nat.le_of_ble_eq_true rfl) ?_
  have hR0 := hR
  have hG := hR.1.2.2.2
  obtain ⟨⟨r1, hX, hwk, ⟨⟨v1, v2, v3, v4⟩, v5, v6, v7, v8, v9, va, vb, vc, vd⟩⟩, rK, rT, rS, rH, ⟨r8, r8b, r9, ra⟩⟩ := hR
  obtain ⟨x1, x2, x3, x4, x5, x6, x7, x8, x9⟩ := id hX
  have hn4 := v1
  have n5 := r1.2
  have c6 := v3.2
  have p9 := v5.2
  refine J_iload_n (pc := 0) dX5_keep_0 rfl ?_
  refine J_iconst (pc := 1) (v := nI 0) dX5_keep_1 (by decide) ?_
  refine J_iconst (pc := 2) (v := nI 1) dX5_keep_2 (by decide) ?_
  refine K_Si3 (pc := 3) (Y' := YX5_within) dX5_keep_3 lX5_63 mX5_within sX5_within (Nat.le_of_ble_eq_true rfl) (c5_within) ?_
  rintro x h0 ⟨e0, ⟨rfl, b3⟩ | ⟨rfl, b3⟩⟩ <;> rw [e0] <;> clear e0 h0
  · skip
    refine J_if_ne (pc := 6) (tgt := 11) dX5_keep_6 (by decide) (fun _ => ?_) (fun c => absurd c (by decide))
    rcases two_of b3 with rfl | rfl
    · skip
      refine J_aload_n (pc := 11) dX5_keep_11 rfl ?_
      refine J_getR (pc := 12) dX5_keep_12 fX5_23 sh0 rfl ?_
      refine J_iload_n (pc := 15) dX5_keep_15 rfl ?_
      refine J_zald (pc := 16) dX5_keep_16 sh38 (rfl) (by omega) (rfl) (by decide) ?_
      refine J_if_eq (pc := 17) (tgt := 24) dX5_keep_17 (by decide) (fun c17 => ?_) (fun c17 => ?_)
      · skip
        refine J_iconst (pc := 24) (v := nI 0) dX5_keep_24 (by decide) ?_
        refine J_istore_n (pc := 25) dX5_keep_25 (by decide) ?_
        refine J_aload_n (pc := 26) dX5_keep_26 rfl ?_
        refine J_getR (pc := 27) dX5_keep_27 fX5_19 sh0 rfl ?_
        refine J_iload_n (pc := 30) dX5_keep_30 rfl ?_
        refine J_aald (pc := 31) dX5_keep_31 sh37 j_k3 (rfl) (rfl) (by decide) ?_
        refine J_aload_n (pc := 32) dX5_keep_32 rfl ?_
        refine J_getR (pc := 33) dX5_keep_33 fX5_10 sh0 rfl ?_
        refine K_Vv1 (pc := 36) (Y' := YX4_copyFrom) dX5_keep_36 lX5_81 mX4_copyFrom vX4_copyFrom ⟨_, _, rfl⟩ (sv0 isV87) (Nat.le_of_ble_eq_true rfl) (c4_copyFrom isV1 isV87 (by omega)) ?_
        rintro h1 hc
        refine J_aload_n (pc := 39) dX5_keep_39 rfl ?_
        refine J_getR (pc := 40) dX5_keep_40 fX5_23 sh0 rfl ?_
        refine J_iload_n (pc := 43) dX5_keep_43 rfl ?_
        refine J_iconst (pc := 44) (v := nI 1) dX5_keep_44 (by decide) ?_
        refine J_zast (pc := 45) dX5_keep_45 sh38 (rfl) (by omega) (by decide) (by decide) ?_
        refine J_iload_n (pc := 46) dX5_keep_46 rfl ?_
        refine K_iret (pc := 47) dX5_keep_47 rfl ?_
        refine ⟨_, (iteR_t b3).trans ?_, RX_keep (k := 0) hR0 (by omega) hc, (hc.hi isV87).tr (hi_up (by omega))⟩
        exact congrArg (fun z => (z, j_up (mset a (69 * (0 + 1)) (pg a 0)) 142 0 (nI 1))) ((rK 0 (by omega)).1.symm.trans c17)
      · skip
        have one_of : a 142 0 = nI 1 := by
          rcases (rK 0 (by omega)).2 with z | z
          · exact absurd ((rK 0 (by omega)).1.trans z) c17
          · exact z.1
        refine J_iconst (pc := 20) (v := nI 1) dX5_keep_20 (by decide) ?_
        refine J_goto (pc := 21) (tgt := 25) dX5_keep_21 (by decide) ?_
        refine J_istore_n (pc := 25) dX5_keep_25 (by decide) ?_
        refine J_aload_n (pc := 26) dX5_keep_26 rfl ?_
        refine J_getR (pc := 27) dX5_keep_27 fX5_19 sh0 rfl ?_
        refine J_iload_n (pc := 30) dX5_keep_30 rfl ?_
        refine J_aald (pc := 31) dX5_keep_31 sh37 j_k3 (rfl) (rfl) (by decide) ?_
        refine J_aload_n (pc := 32) dX5_keep_32 rfl ?_
        refine J_getR (pc := 33) dX5_keep_33 fX5_10 sh0 rfl ?_
        refine K_Vv1 (pc := 36) (Y' := YX4_copyFrom) dX5_keep_36 lX5_81 mX4_copyFrom vX4_copyFrom ⟨_, _, rfl⟩ (sv0 isV87) (Nat.le_of_ble_eq_true rfl) (c4_copyFrom isV1 isV87 (by omega)) ?_
        rintro h1 hc
        refine J_aload_n (pc := 39) dX5_keep_39 rfl ?_
        refine J_getR (pc := 40) dX5_keep_40 fX5_23 sh0 rfl ?_
        refine J_iload_n (pc := 43) dX5_keep_43 rfl ?_
        refine J_iconst (pc := 44) (v := nI 1) dX5_keep_44 (by decide) ?_
        refine J_zast (pc := 45) dX5_keep_45 sh38 (rfl) (by omega) (by decide) (by decide) ?_
        refine J_iload_n (pc := 46) dX5_keep_46 rfl ?_
        refine K_iret (pc := 47) dX5_keep_47 rfl ?_
        refine ⟨_, (iteR_t b3).trans ?_, RX_keep (k := 0) hR0 (by omega) hc, (hc.hi isV87).tr (hi_up (by omega))⟩
        exact congrArg (fun z => (z, j_up (mset a (69 * (0 + 1)) (pg a 0)) 142 0 (nI 1))) (one_of)
    · skip
      refine J_aload_n (pc := 11) dX5_keep_11 rfl ?_
      refine J_getR (pc := 12) dX5_keep_12 fX5_23 sh0 rfl ?_
      refine J_iload_n (pc := 15) dX5_keep_15 rfl ?_
      refine J_zald (pc := 16) dX5_keep_16 sh38 (rfl) (by omega) (rfl) (by decide) ?_
      refine J_if_eq (pc := 17) (tgt := 24) dX5_keep_17 (by decide) (fun c17 => ?_) (fun c17 => ?_)
      · skip
        refine J_iconst (pc := 24) (v := nI 0) dX5_keep_24 (by decide) ?_
        refine J_istore_n (pc := 25) dX5_keep_25 (by decide) ?_
        refine J_aload_n (pc := 26) dX5_keep_26 rfl ?_
        refine J_getR (pc := 27) dX5_keep_27 fX5_19 sh0 rfl ?_
        refine J_iload_n (pc := 30) dX5_keep_30 rfl ?_
        refine J_aald (pc := 31) dX5_keep_31 sh37 j_k3 (rfl) (rfl) (by decide) ?_
        refine J_aload_n (pc := 32) dX5_keep_32 rfl ?_
        refine J_getR (pc := 33) dX5_keep_33 fX5_10 sh0 rfl ?_
        refine K_Vv1 (pc := 36) (Y' := YX4_copyFrom) dX5_keep_36 lX5_81 mX4_copyFrom vX4_copyFrom ⟨_, _, rfl⟩ (sv0 isV105) (Nat.le_of_ble_eq_true rfl) (c4_copyFrom isV1 isV105 (by omega)) ?_
        rintro h1 hc
        refine J_aload_n (pc := 39) dX5_keep_39 rfl ?_
        refine J_getR (pc := 40) dX5_keep_40 fX5_23 sh0 rfl ?_
        refine J_iload_n (pc := 43) dX5_keep_43 rfl ?_
        refine J_iconst (pc := 44) (v := nI 1) dX5_keep_44 (by decide) ?_
        refine J_zast (pc := 45) dX5_keep_45 sh38 (rfl) (by omega) (by decide) (by decide) ?_
        refine J_iload_n (pc := 46) dX5_keep_46 rfl ?_
        refine K_iret (pc := 47) dX5_keep_47 rfl ?_
        refine ⟨_, (iteR_t b3).trans ?_, RX_keep (k := 1) hR0 (by omega) hc, (hc.hi isV105).tr (hi_up (by omega))⟩
        exact congrArg (fun z => (z, j_up (mset a (69 * (1 + 1)) (pg a 0)) 142 1 (nI 1))) ((rK 1 (by omega)).1.symm.trans c17)
      · skip
        have one_of : a 142 1 = nI 1 := by
          rcases (rK 1 (by omega)).2 with z | z
          · exact absurd ((rK 1 (by omega)).1.trans z) c17
          · exact z.1
        refine J_iconst (pc := 20) (v := nI 1) dX5_keep_20 (by decide) ?_
        refine J_goto (pc := 21) (tgt := 25) dX5_keep_21 (by decide) ?_
        refine J_istore_n (pc := 25) dX5_keep_25 (by decide) ?_
        refine J_aload_n (pc := 26) dX5_keep_26 rfl ?_
        refine J_getR (pc := 27) dX5_keep_27 fX5_19 sh0 rfl ?_
        refine J_iload_n (pc := 30) dX5_keep_30 rfl ?_
        refine J_aald (pc := 31) dX5_keep_31 sh37 j_k3 (rfl) (rfl) (by decide) ?_
        refine J_aload_n (pc := 32) dX5_keep_32 rfl ?_
        refine J_getR (pc := 33) dX5_keep_33 fX5_10 sh0 rfl ?_
        refine K_Vv1 (pc := 36) (Y' := YX4_copyFrom) dX5_keep_36 lX5_81 mX4_copyFrom vX4_copyFrom ⟨_, _, rfl⟩ (sv0 isV105) (Nat.le_of_ble_eq_true rfl) (c4_copyFrom isV1 isV105 (by omega)) ?_
        rintro h1 hc
        refine J_aload_n (pc := 39) dX5_keep_39 rfl ?_
        refine J_getR (pc := 40) dX5_keep_40 fX5_23 sh0 rfl ?_
        refine J_iload_n (pc := 43) dX5_keep_43 rfl ?_
        refine J_iconst (pc := 44) (v := nI 1) dX5_keep_44 (by decide) ?_
        refine J_zast (pc := 45) dX5_keep_45 sh38 (rfl) (by omega) (by decide) (by decide) ?_
        refine J_iload_n (pc := 46) dX5_keep_46 rfl ?_
        refine K_iret (pc := 47) dX5_keep_47 rfl ?_
        refine ⟨_, (iteR_t b3).trans ?_, RX_keep (k := 1) hR0 (by omega) hc, (hc.hi isV105).tr (hi_up (by omega))⟩
        exact congrArg (fun z => (z, j_up (mset a (69 * (1 + 1)) (pg a 0)) 142 1 (nI 1))) (one_of)
  · skip
    refine J_if_ne (pc := 6) (tgt := 11) dX5_keep_6 (by decide) (fun c => absurd c (by decide)) (fun _ => ?_)
    refine J_iconst (pc := 9) (v := -1) dX5_keep_9 (by decide) ?_
    refine K_iret (pc := 10) dX5_keep_10 rfl ?_
    exact ⟨a, iteR_f b3, hR0, hi.rf⟩
set_option maxHeartbeats 4000000 in
theorem c5_back {g : jG} {d : Nat} {a h : jH} {k : Int32} (hR : RX a h) : Mi g (d + 4) YX5_back h [.ref 0, .int k] (fun r h' => ∃ a', oBack a k = (r, a') ∧ RX a' h' ∧ hi h h') := by
  refine M.of (by decide) rfl (Nat.le_of_ble_eq_true rfl) ?_
  have hR0 := hR
  have hG := hR.1.2.2.2
  obtain ⟨⟨r1, hX, hwk, ⟨⟨v1, v2, v3, v4⟩, v5, v6, v7, v8, v9, va, vb, vc, vd⟩⟩, rK, rT, rS, rH, ⟨r8, r8b, r9, ra⟩⟩ := hR
  obtain ⟨x1, x2, x3, x4, x5, x6, x7, x8, x9⟩ := id hX
  have hn4 := v1
  have n5 := r1.2
  have c6 := v3.2
  have p9 := v5.2
  refine J_iload_n (pc := 0) dX5_back_0 rfl ?_
  refine J_iconst (pc := 1) (v := nI 0) dX5_back_1 (by decide) ?_
  refine J_iconst (pc := 2) (v := nI 1) dX5_back_2 (by decide) ?_
  refine K_Si3 (pc := 3) (Y' := YX5_within) dX5_back_3 lX5_63 mX5_within sX5_within (Nat.le_of_ble_eq_true rfl) (c5_within) ?_
  rintro x h0 ⟨e0, ⟨rfl, b3⟩ | ⟨rfl, b3⟩⟩ <;> rw [e0] <;> clear e0 h0
  · skip
    refine J_if_ne (pc := 6) (tgt := 11) dX5_back_6 (by decide) (fun _ => ?_) (fun c => absurd c (by decide))
    rcases two_of b3 with rfl | rfl
    · skip
      refine J_aload_n (pc := 11) dX5_back_11 rfl ?_
      refine J_getR (pc := 12) dX5_back_12 fX5_23 sh0 rfl ?_
      refine J_iload_n (pc := 15) dX5_back_15 rfl ?_
      refine J_zald (pc := 16) dX5_back_16 sh38 (rfl) (by omega) (rfl) (by decide) ?_
      refine J_if_ne (pc := 17) (tgt := 23) dX5_back_17 (by decide) (fun c17 => ?_) (fun c17 => ?_)
      · skip
        refine J_aload_n (pc := 23) dX5_back_23 rfl ?_
        refine J_getR (pc := 24) dX5_back_24 fX5_10 sh0 rfl ?_
        refine J_aload_n (pc := 27) dX5_back_27 rfl ?_
        refine J_getR (pc := 28) dX5_back_28 fX5_19 sh0 rfl ?_
        refine J_iload_n (pc := 31) dX5_back_31 rfl ?_
        refine J_aald (pc := 32) dX5_back_32 sh37 j_k3 (rfl) (rfl) (by decide) ?_
        refine K_Vv1 (pc := 33) (Y' := YX4_copyFrom) dX5_back_33 lX5_81 mX4_copyFrom vX4_copyFrom ⟨_, _, rfl⟩ (sv0 isV1) (Nat.le_of_ble_eq_true rfl) (c4_copyFrom isV87 isV1 (by omega)) ?_
        rintro h1 hc
        refine J_aload_n (pc := 36) dX5_back_36 rfl ?_
        refine J_getR (pc := 37) dX5_back_37 fX5_10 sh0 rfl ?_
        refine J_getI (pc := 40) dX5_back_40 fX5_100 (sv0 isV1) rfl ((RX_back (k := 0) hR0 (by omega) (fun z => c17 ((rK 0 (by omega)).1.trans z)) hc).2) ?_
        refine K_iret (pc := 43) dX5_back_43 rfl ?_
        exact ⟨_, (iteR_t b3).trans (iteR_f (fun z => c17 ((rK 0 (by omega)).1.trans z))), (RX_back (k := 0) hR0 (by omega) (fun z => c17 ((rK 0 (by omega)).1.trans z)) hc).1, hc.hi isV1⟩
      · skip
        refine J_bipush (pc := 20) (v := -2) dX5_back_20 (by decide) ?_
        refine K_iret (pc := 22) dX5_back_22 rfl ?_
        exact ⟨a, (iteR_t b3).trans (iteR_t ((rK 0 (by omega)).1.symm.trans c17)), hR0, hi.rf⟩
    · skip
      refine J_aload_n (pc := 11) dX5_back_11 rfl ?_
      refine J_getR (pc := 12) dX5_back_12 fX5_23 sh0 rfl ?_
      refine J_iload_n (pc := 15) dX5_back_15 rfl ?_
      refine J_zald (pc := 16) dX5_back_16 sh38 (rfl) (by omega) (rfl) (by decide) ?_
      refine J_if_ne (pc := 17) (tgt := 23) dX5_back_17 (by decide) (fun c17 => ?_) (fun c17 => ?_)
      · skip
        refine J_aload_n (pc := 23) dX5_back_23 rfl ?_
        refine J_getR (pc := 24) dX5_back_24 fX5_10 sh0 rfl ?_
        refine J_aload_n (pc := 27) dX5_back_27 rfl ?_
        refine J_getR (pc := 28) dX5_back_28 fX5_19 sh0 rfl ?_
        refine J_iload_n (pc := 31) dX5_back_31 rfl ?_
        refine J_aald (pc := 32) dX5_back_32 sh37 j_k3 (rfl) (rfl) (by decide) ?_
        refine K_Vv1 (pc := 33) (Y' := YX4_copyFrom) dX5_back_33 lX5_81 mX4_copyFrom vX4_copyFrom ⟨_, _, rfl⟩ (sv0 isV1) (Nat.le_of_ble_eq_true rfl) (c4_copyFrom isV105 isV1 (by omega)) ?_
        rintro h1 hc
        refine J_aload_n (pc := 36) dX5_back_36 rfl ?_
        refine J_getR (pc := 37) dX5_back_37 fX5_10 sh0 rfl ?_
        refine J_getI (pc := 40) dX5_back_40 fX5_100 (sv0 isV1) rfl ((RX_back (k := 1) hR0 (by omega) (fun z => c17 ((rK 1 (by omega)).1.trans z)) hc).2) ?_
        refine K_iret (pc := 43) dX5_back_43 rfl ?_
        exact ⟨_, (iteR_t b3).trans (iteR_f (fun z => c17 ((rK 1 (by omega)).1.trans z))), (RX_back (k := 1) hR0 (by omega) (fun z => c17 ((rK 1 (by omega)).1.trans z)) hc).1, hc.hi isV1⟩
      · skip
        refine J_bipush (pc := 20) (v := -2) dX5_back_20 (by decide) ?_
        refine K_iret (pc := 22) dX5_back_22 rfl ?_
        exact ⟨a, (iteR_t b3).trans (iteR_t ((rK 1 (by omega)).1.symm.trans c17)), hR0, hi.rf⟩
  · skip
    refine J_if_ne (pc := 6) (tgt := 11) dX5_back_6 (by decide) (fun c => absurd c (by decide)) (fun _ => ?_)
    refine J_iconst (pc := 9) (v := -1) dX5_back_9 (by decide) ?_
    refine K_iret (pc := 10) dX5_back_10 rfl ?_
    exact ⟨a, iteR_f b3, hR0, hi.rf⟩
set_option maxHeartbeats 4000000 in
theorem l2_renew {g : jG} {d : Nat} {h : jH} {Q : kQ} {s : Nat} (hs : s < 4) {l n : Int32} {z : Nat} (hz : z = 123 + 2 * s) (sz : SH[z]? = some (.inr (.inr (2, [none, none, some (some (124 + 2 * s))])))) (sy : SH[124 + 2 * s]? = some (.inl (0, 40))) (kx : K g d YX2_renew (rnI h s 40) 31 [(0, .ref z), (1, .int l), (2, .int n), (3, .int (nI 40))] [] Q) : ∀ (m k : Nat) , k ≤ 40 → 40 < k + m → K g d YX2_renew (rnI h s k) 12 [(0, .ref z), (1, .int l), (2, .int n), (3, .int (nI k))] [] Q := by
  intro m
  induction m with
  | zero => intro k  hk1 hk2 ; omega
  | succ m ih =>
    intro k  hk1 hk2 
    refine J_iload_n (pc := 12) dX2_renew_12 rfl ?_
    refine J_bipush (pc := 13) (v := nI 40) dX2_renew_13 (by decide) ?_
    refine J_icmp_ge (pc := 15) (tgt := 31) dX2_renew_15 (by decide) (fun c15 => ?_) (fun c15 => ?_)
    · skip
      have q15 : 40 ≤ k := (nI_leI (by omega) (by omega)).mp c15
      have e_k : k = 40 := by omega
      refine J_ls (ls' := [(0, .ref z), (1, .int l), (2, .int n), (3, .int (nI k))]) ⟨rfl, rfl, rfl, rfl, trivial⟩ ?_
      rw [e_k]
      exact kx
    · skip
      have q15 : k < 40 := Nat.lt_of_not_le (fun z => c15 ((nI_leI (by omega) (by omega)).mpr z))
      refine J_aload_n (pc := 18) dX2_renew_18 rfl ?_
      refine J_getR (pc := 19) dX2_renew_19 fX2_15 sz rfl ?_
      refine J_iload_n (pc := 22) dX2_renew_22 rfl ?_
      refine J_iconst (pc := 23) (v := nI 0) dX2_renew_23 (by decide) ?_
      refine J_iast (pc := 24) dX2_renew_24 sy (rfl) (by omega) (by decide) ?_
      rw [rnI_s]
      refine J_iinc (pc := 25) dX2_renew_25 rfl (v := nI (k + 1)) (by exact nI_add _ _) (by decide) ?_
      refine J_goto (pc := 28) (tgt := 12) dX2_renew_28 (by decide) ?_
      exact J_ls (ls' := [(0, .ref z), (1, .int l), (2, .int n), (3, .int (nI (k + 1)))]) ⟨rfl, rfl, rfl, rfl, trivial⟩ (ih (k + 1)  (by omega) (by omega) )
set_option maxHeartbeats 4000000 in
theorem c2_renew {g : jG} {d : Nat} {h : jH} {s : Nat} (hs : s < 4) {l n : Int32} : Mv g d YX2_renew h [.ref (123 + 2 * s), .int l, .int n] (fun h' => h' = rnI (j_up (j_up h (123 + 2 * s) 0 l) (123 + 2 * s) 1 n) s 40) := by
  refine M.of (by decide) rfl (Nat.le_of_ble_eq_true rfl) ?_
  refine J_aload_n (pc := 0) dX2_renew_0 rfl ?_
  refine J_iload_n (pc := 1) dX2_renew_1 rfl ?_
  refine J_putI (pc := 2) dX2_renew_2 fX2_11 (shS hs) rfl ?_
  refine J_aload_n (pc := 5) dX2_renew_5 rfl ?_
  refine J_iload_n (pc := 6) dX2_renew_6 rfl ?_
  refine J_putI (pc := 7) dX2_renew_7 fX2_19 (shS hs) rfl ?_
  refine J_iconst (pc := 10) (v := nI 0) dX2_renew_10 (by decide) ?_
  refine J_istore_n (pc := 11) dX2_renew_11 (by decide) ?_
  refine J_h (h' := rnI (j_up (j_up h (123 + 2 * s) 0 l) (123 + 2 * s) 1 n) s 0) (by rw [rnI_0]) ?_
  refine J_ls (ls' := [(0, .ref (123 + 2 * s)), (1, .int l), (2, .int n), (3, .int (nI 0))]) ⟨rfl, rfl, rfl, rfl, trivial⟩ ?_
  refine l2_renew hs rfl (shS hs) (shC hs) ?_ 41 0 (Nat.zero_le _) (by omega)
  refine K_ret (pc := 31) dX2_renew_31 rfl ?_
  exact rfl
set_option maxHeartbeats 4000000 in
theorem c5_sheet {g : jG} {d : Nat} {a h : jH} {k l n : Int32} (hR : RX a h) : Mi g (d + 3) YX5_sheet h [.ref 0, .int k, .int l, .int n] (fun r h' => ∃ a', oSheet a k l n = (r, a') ∧ RX a' h' ∧ hi h h') := by
  refine M.of (by decide) rfl (Nat.le_of_ble_eq_true rfl) ?_
  have hR0 := hR
  have hG := hR.1.2.2.2
  obtain ⟨⟨r1, hX, hwk, ⟨⟨v1, v2, v3, v4⟩, v5, v6, v7, v8, v9, va, vb, vc, vd⟩⟩, rK, rT, rS, rH, ⟨r8, r8b, r9, ra⟩⟩ := hR
  obtain ⟨x1, x2, x3, x4, x5, x6, x7, x8, x9⟩ := id hX
  have hn4 := v1
  have n5 := r1.2
  have c6 := v3.2
  have p9 := v5.2
  refine J_iload_n (pc := 0) dX5_sheet_0 rfl ?_
  refine K_Si1 (pc := 1) (Y' := YX5_isSheet) dX5_sheet_1 lX5_267 mX5_isSheet sX5_isSheet (Nat.le_of_ble_eq_true rfl) (c5_isSheet) ?_
  rintro x h0 ⟨e0, ⟨rfl, b1⟩ | ⟨rfl, b1⟩⟩ <;> rw [e0] <;> clear e0 h0
  · skip
    refine J_if_eq (pc := 4) (tgt := 20) dX5_sheet_4 (by decide) (fun c => absurd c (by decide)) (fun _ => ?_)
    refine J_iload_n (pc := 7) dX5_sheet_7 rfl ?_
    refine K_Si1 (pc := 8) (Y' := YX5_isLane) dX5_sheet_8 lX5_270 mX5_isLane sX5_isLane (Nat.le_of_ble_eq_true rfl) (c5_isLane) ?_
    rintro x h0 ⟨e0, ⟨rfl, b8⟩ | ⟨rfl, b8⟩⟩ <;> rw [e0] <;> clear e0 h0
    · skip
      refine J_if_eq (pc := 11) (tgt := 20) dX5_sheet_11 (by decide) (fun c => absurd c (by decide)) (fun _ => ?_)
      refine J_iload_n (pc := 14) dX5_sheet_14 rfl ?_
      refine J_bipush (pc := 15) (v := nI 40) dX5_sheet_15 (by decide) ?_
      refine J_icmp_le (pc := 17) (tgt := 22) dX5_sheet_17 (by decide) (fun c17 => ?_) (fun c17 => ?_)
      · skip
        refine J_iload_n (pc := 22) dX5_sheet_22 rfl ?_
        refine J_if_ge (pc := 23) (tgt := 29) dX5_sheet_23 (by decide) (fun c23 => ?_) (fun c23 => ?_)
        · skip
          have q1 := b1.2
          refine J_ls (ls' := [(0, .ref 0), (1, .int (nI (ix k))), (2, .int l), (3, .int n)]) ⟨rfl, congrArg (fun z => some (Value.int z)) b1.1, rfl, rfl, trivial⟩ ?_
          refine J_aload_n (pc := 29) dX5_sheet_29 rfl ?_
          refine J_getR (pc := 30) dX5_sheet_30 fX5_50 sh0 rfl ?_
          refine J_iload_n (pc := 33) dX5_sheet_33 rfl ?_
          refine J_aald (pc := 34) dX5_sheet_34 sh85 j_k4 (rfl) ((shR q1)) (by decide) ?_
          refine J_iload_n (pc := 35) dX5_sheet_35 rfl ?_
          refine J_iload_n (pc := 36) dX5_sheet_36 rfl ?_
          refine K_Vv2 (pc := 37) (Y' := YX2_renew) dX5_sheet_37 lX5_273 mX2_renew vX2_renew ⟨_, _, rfl⟩ (shS q1) (Nat.le_of_ble_eq_true rfl) (c2_renew q1) ?_
          rintro h0 e0
          rw [e0]
          clear e0 h0
          refine J_iconst (pc := 40) (v := nI 1) dX5_sheet_40 (by decide) ?_
          refine K_iret (pc := 41) dX5_sheet_41 rfl ?_
          refine ⟨_, (iteR_t ⟨b1, b8, c17⟩).trans (iteR_t c23), ?_, fun b hb => ?_⟩
          · refine RX_H hR0 (rxH_set rH q1 b8 ((in_nbc (n := 40) rfl (by omega)).mp ⟨c23, c17⟩) ?_ ?_ (fun i hi' => ?_) ?_ (fun b h1 h2 => funext fun j => ?_)) (fun b j h1 h2 => ?_) (fun b j h1 h2 => ?_)
            · rw [rnI_o (by omega), j_up_o (by omega), j_up_s]
            · rw [rnI_o (by omega), j_up_s]
            · exact rnI_z hi'
            · rw [rnI_o (by omega), j_up_o (by omega), j_up_o (by omega)]
            · rw [rnI_o (by omega), j_up_o (by omega), j_up_o (by omega)]
            · rw [zcH_o (by omega), j_up_o (by omega), j_up_o (by omega)]
            · rw [rnI_o (by omega), j_up_o (by omega), j_up_o (by omega)]
          · funext j
            rw [rnI_o (by omega), j_up_o (by omega), j_up_o (by omega)]
        · skip
          refine J_bipush (pc := 26) (v := -14) dX5_sheet_26 (by decide) ?_
          refine K_iret (pc := 28) dX5_sheet_28 rfl ?_
          exact ⟨a, (iteR_t ⟨b1, b8, c17⟩).trans (iteR_f c23), hR0, hi.rf⟩
      · skip
        refine J_iconst (pc := 20) (v := -1) dX5_sheet_20 (by decide) ?_
        refine K_iret (pc := 21) dX5_sheet_21 rfl ?_
        exact ⟨a, iteR_f (fun z => c17 z.2.2), hR0, hi.rf⟩
    · skip
      refine J_if_eq (pc := 11) (tgt := 20) dX5_sheet_11 (by decide) (fun _ => ?_) (fun c => absurd c (by decide))
      refine J_iconst (pc := 20) (v := -1) dX5_sheet_20 (by decide) ?_
      refine K_iret (pc := 21) dX5_sheet_21 rfl ?_
      exact ⟨a, iteR_f (fun z => b8 z.2.1), hR0, hi.rf⟩
  · skip
    refine J_if_eq (pc := 4) (tgt := 20) dX5_sheet_4 (by decide) (fun _ => ?_) (fun c => absurd c (by decide))
    refine J_iconst (pc := 20) (v := -1) dX5_sheet_20 (by decide) ?_
    refine K_iret (pc := 21) dX5_sheet_21 rfl ?_
    exact ⟨a, iteR_f (fun z => b1 z.1), hR0, hi.rf⟩
set_option maxHeartbeats 4000000 in
theorem c2_faultAt {g : jG} {d : Nat} {h : jH} {s m : Nat} {L l i : Int32} (hs : s < 4) (hL : h (123 + 2 * s) 0 = L) (hm : h (123 + 2 * s) 1 = nI m) (hm4 : m < 41) : Mi g (d + 1) YX2_faultAt h [.ref (123 + 2 * s), .int l, .int i] (fun r h' => h' = h ∧ r = fltF L l m i) := by
  refine M.of (by decide) rfl (Nat.le_of_ble_eq_true rfl) ?_
  refine J_aload_n (pc := 0) dX2_faultAt_0 rfl ?_
  refine J_getI (pc := 1) dX2_faultAt_1 fX2_11 (shS hs) rfl (hL) ?_
  refine J_iconst (pc := 4) (v := -1) dX2_faultAt_4 (by decide) ?_
  refine J_icmp_ne (pc := 5) (tgt := 10) dX2_faultAt_5 (by decide) (fun c5 => ?_) (fun c5 => ?_)
  · skip
    refine J_aload_n (pc := 10) dX2_faultAt_10 rfl ?_
    refine J_getI (pc := 11) dX2_faultAt_11 fX2_11 (shS hs) rfl (hL) ?_
    refine J_iload_n (pc := 14) dX2_faultAt_14 rfl ?_
    refine J_icmp_eq (pc := 15) (tgt := 20) dX2_faultAt_15 (by decide) (fun c15 => ?_) (fun c15 => ?_)
    · skip
      refine J_iload_n (pc := 20) dX2_faultAt_20 rfl ?_
      refine J_iconst (pc := 21) (v := nI 0) dX2_faultAt_21 (by decide) ?_
      refine J_aload_n (pc := 22) dX2_faultAt_22 rfl ?_
      refine J_getI (pc := 23) dX2_faultAt_23 fX2_19 (shS hs) rfl (hm) ?_
      refine J_iconst (pc := 26) (v := nI 1) dX2_faultAt_26 (by decide) ?_
      refine J_isub (pc := 27) dX2_faultAt_27 (rfl) ?_
      refine K_Si3 (pc := 28) (Y' := YX5_within) dX2_faultAt_28 lX2_22 mX5_within sX5_within (Nat.le_of_ble_eq_true rfl) (c5_within) ?_
      rintro x h0 ⟨e0, ⟨rfl, b28⟩ | ⟨rfl, b28⟩⟩ <;> rw [e0] <;> clear e0 h0
      · skip
        refine J_if_eq (pc := 31) (tgt := 38) dX2_faultAt_31 (by decide) (fun c => absurd c (by decide)) (fun _ => ?_)
        refine J_iconst (pc := 34) (v := nI 0) dX2_faultAt_34 (by decide) ?_
        refine J_goto (pc := 35) (tgt := 39) dX2_faultAt_35 (by decide) ?_
        refine K_iret (pc := 39) dX2_faultAt_39 rfl ?_
        exact ⟨rfl, ((iteP_f c5).trans ((iteP_f (fun z => z c15)).trans (iteP_t ((in_nb (by omega)).mp b28)))).symm⟩
      · skip
        refine J_if_eq (pc := 31) (tgt := 38) dX2_faultAt_31 (by decide) (fun _ => ?_) (fun c => absurd c (by decide))
        refine J_iconst (pc := 38) (v := nI 2) dX2_faultAt_38 (by decide) ?_
        refine K_iret (pc := 39) dX2_faultAt_39 rfl ?_
        exact ⟨rfl, ((iteP_f c5).trans ((iteP_f (fun z => z c15)).trans (iteP_f (fun z => b28 ((in_nb (by omega)).mpr z))))).symm⟩
    · skip
      refine J_iconst (pc := 18) (v := nI 3) dX2_faultAt_18 (by decide) ?_
      refine K_iret (pc := 19) dX2_faultAt_19 rfl ?_
      exact ⟨rfl, ((iteP_f c5).trans (iteP_t c15)).symm⟩
  · skip
    refine J_iconst (pc := 8) (v := nI 1) dX2_faultAt_8 (by decide) ?_
    refine K_iret (pc := 9) dX2_faultAt_9 rfl ?_
    exact ⟨rfl, (iteP_t c5).symm⟩
set_option maxHeartbeats 4000000 in
theorem c2_put {g : jG} {d : Nat} {h : jH} {s i : Nat} {L v : Int32} (hs : s < 4) (hi4 : i < 40) (hL : h (123 + 2 * s) 0 = L) : Mv g d YX2_put h [.ref (123 + 2 * s), .int (nI i), .int v] (fun h' => h' = j_up h (124 + 2 * s) i (cutL L v)) := by
  refine M.of (by decide) rfl (Nat.le_of_ble_eq_true rfl) ?_
  refine J_aload_n (pc := 0) dX2_put_0 rfl ?_
  refine J_getI (pc := 1) dX2_put_1 fX2_11 (shS hs) rfl hL ?_
  by_cases e0 : L = nI 0
  · subst e0
    refine J_lookup (pc := 4) (off := 28) (tgt := 32) dX2_put_4 (by decide) rfl (by decide) ?_
    refine J_aload_n (pc := 32) dX2_put_32 rfl ?_
    refine J_getR (pc := 33) dX2_put_33 fX2_15 (shS hs) rfl ?_
    refine J_iload_n (pc := 36) dX2_put_36 rfl ?_
    refine J_iload_n (pc := 37) dX2_put_37 rfl ?_
    refine J_i2b (pc := 38) dX2_put_38 rfl ?_
    refine J_iast (pc := 39) dX2_put_39 (shC hs) (rfl) (by omega) (by decide) ?_
    refine J_goto (pc := 40) (tgt := 61) dX2_put_40 (by decide) ?_
    refine K_ret (pc := 61) dX2_put_61 rfl ?_
    exact by rw [cutL, if_pos rfl, cut8]
  by_cases e1 : L = nI 1
  · subst e1
    refine J_lookup (pc := 4) (off := 39) (tgt := 43) dX2_put_4 (by decide) rfl (by decide) ?_
    refine J_aload_n (pc := 43) dX2_put_43 rfl ?_
    refine J_getR (pc := 44) dX2_put_44 fX2_15 (shS hs) rfl ?_
    refine J_iload_n (pc := 47) dX2_put_47 rfl ?_
    refine J_iload_n (pc := 48) dX2_put_48 rfl ?_
    refine J_i2s (pc := 49) dX2_put_49 rfl ?_
    refine J_iast (pc := 50) dX2_put_50 (shC hs) (rfl) (by omega) (by decide) ?_
    refine J_goto (pc := 51) (tgt := 61) dX2_put_51 (by decide) ?_
    refine K_ret (pc := 61) dX2_put_61 rfl ?_
    exact by rw [cutL, if_neg (by decide), if_pos rfl, cut16]
  refine J_lookup (pc := 4) (off := 50) (tgt := 54) dX2_put_4 (by decide) (lk_out e0 e1) (by decide) ?_
  refine J_aload_n (pc := 54) dX2_put_54 rfl ?_
  refine J_getR (pc := 55) dX2_put_55 fX2_15 (shS hs) rfl ?_
  refine J_iload_n (pc := 58) dX2_put_58 rfl ?_
  refine J_iload_n (pc := 59) dX2_put_59 rfl ?_
  refine J_iast (pc := 60) dX2_put_60 (shC hs) (rfl) (by omega) (by decide) ?_
  refine K_ret (pc := 61) dX2_put_61 rfl ?_
  exact by rw [cutL, if_neg e0, if_neg e1]
set_option maxHeartbeats 4000000 in
theorem c5_lay {g : jG} {d : Nat} {a h : jH} {k i v : Int32} (hR : RX a h) : Mi g (d + 3) YX5_lay h [.ref 0, .int k, .int i, .int v] (fun r h' => ∃ a', oLay a k i v = (r, a') ∧ RX a' h' ∧ hi h h') := by
  refine M.of (by decide) rfl (Nat.le_of_ble_eq_true rfl) ?_
  have hR0 := hR
  have hG := hR.1.2.2.2
  obtain ⟨⟨r1, hX, hwk, ⟨⟨v1, v2, v3, v4⟩, v5, v6, v7, v8, v9, va, vb, vc, vd⟩⟩, rK, rT, rS, rH, ⟨r8, r8b, r9, ra⟩⟩ := hR
  obtain ⟨x1, x2, x3, x4, x5, x6, x7, x8, x9⟩ := id hX
  have hn4 := v1
  have n5 := r1.2
  have c6 := v3.2
  have p9 := v5.2
  have rH0 := rH
  obtain ⟨q5, q6⟩ := rH
  refine J_iload_n (pc := 0) dX5_lay_0 rfl ?_
  refine K_Si1 (pc := 1) (Y' := YX5_isSheet) dX5_lay_1 lX5_267 mX5_isSheet sX5_isSheet (Nat.le_of_ble_eq_true rfl) (c5_isSheet) ?_
  rintro x h0 ⟨e0, ⟨rfl, b1⟩ | ⟨rfl, b1⟩⟩ <;> rw [e0] <;> clear e0 h0
  · skip
    refine J_if_ne (pc := 4) (tgt := 9) dX5_lay_4 (by decide) (fun _ => ?_) (fun c => absurd c (by decide))
    have q1 := b1.2
    have hlen := (q5 _ q1).2
    have h41 := hlen.2.1.2
    refine J_ls (ls' := [(0, .ref 0), (1, .int (nI (ix k))), (2, .int i), (3, .int v)]) ⟨rfl, congrArg (fun z => some (Value.int z)) b1.1, rfl, rfl, trivial⟩ ?_
    refine J_aload_n (pc := 9) dX5_lay_9 rfl ?_
    refine J_getR (pc := 10) dX5_lay_10 fX5_50 sh0 rfl ?_
    refine J_iload_n (pc := 13) dX5_lay_13 rfl ?_
    refine J_aald (pc := 14) dX5_lay_14 sh85 j_k4 (rfl) ((shR q1)) (by decide) ?_
    refine J_aload_n (pc := 15) dX5_lay_15 rfl ?_
    refine J_getR (pc := 16) dX5_lay_16 fX5_50 sh0 rfl ?_
    refine J_iload_n (pc := 19) dX5_lay_19 rfl ?_
    refine J_aald (pc := 20) dX5_lay_20 sh85 j_k4 (rfl) ((shR q1)) (by decide) ?_
    refine J_getI (pc := 21) dX5_lay_21 fX5_277 (shS q1) rfl (rfl) ?_
    refine J_iload_n (pc := 24) dX5_lay_24 rfl ?_
    refine K_Vi2 (pc := 25) (Y' := YX2_faultAt) dX5_lay_25 lX5_280 mX2_faultAt vX2_faultAt ⟨_, _, rfl⟩ (shS q1) (Nat.le_of_ble_eq_true rfl) (c2_faultAt q1 rfl (hlen.1.trans hlen.2.1.1) hlen.2.1.2) ?_
    rintro r h0 ⟨e0, rfl⟩
    rw [e0]
    clear e0 h0
    refine J_istore (pc := 28) dX5_lay_28 (by decide) ?_
    refine J_iload (pc := 30) dX5_lay_30 rfl ?_
    refine J_if_eq (pc := 32) (tgt := 41) dX5_lay_32 (by decide) (fun c32 => ?_) (fun c32 => ?_)
    · skip
      have fl := lay_ok (q5 _ q1).1 c32
      obtain ⟨bne, bl, bi⟩ := fl
      have qi := bi.2
      refine J_ls (ls' := [(0, .ref 0), (1, .int (nI (ix k))), (2, .int (nI (ix i))), (3, .int v)]) ⟨rfl, rfl, congrArg (fun z => some (Value.int z)) bi.1, rfl, trivial⟩ ?_
      refine J_aload_n (pc := 41) dX5_lay_41 rfl ?_
      refine J_getR (pc := 42) dX5_lay_42 fX5_50 sh0 rfl ?_
      refine J_iload_n (pc := 45) dX5_lay_45 rfl ?_
      refine J_aald (pc := 46) dX5_lay_46 sh85 j_k4 (rfl) ((shR q1)) (by decide) ?_
      refine J_iload_n (pc := 47) dX5_lay_47 rfl ?_
      refine J_iload_n (pc := 48) dX5_lay_48 rfl ?_
      refine K_Vv2 (pc := 49) (Y' := YX2_put) dX5_lay_49 lX5_283 mX2_put vX2_put ⟨_, _, rfl⟩ (shS q1) (Nat.le_of_ble_eq_true rfl) (c2_put q1 (by have := bi.2; omega) rfl) ?_
      rintro h0 e0
      rw [e0]
      clear e0 h0
      refine J_iconst (pc := 52) (v := nI 1) dX5_lay_52 (by decide) ?_
      refine K_iret (pc := 53) dX5_lay_53 rfl ?_
      refine ⟨_, (iteR_t b1).trans ((iteR_f bne).trans (iteR_t bi)), ?_, hi_up (by omega)⟩
      rw [bl]
      exact RX_H hR0 (rxH_lay rH0 q1 (by omega)) (fun b j h1 h2 => j_up_o (by omega)) (fun b j h1 h2 => j_up_o (by omega))
    · skip
      refine J_bipush (pc := 35) (v := -10) dX5_lay_35 (by decide) ?_
      refine J_iload (pc := 37) dX5_lay_37 rfl ?_
      refine J_isub (pc := 39) dX5_lay_39 (rfl) ?_
      refine K_iret (pc := 40) dX5_lay_40 rfl ?_
      rcases lay_bad (q5 _ q1).1 c32 with ⟨f1, f2⟩ | ⟨f1, f2, f3⟩
      · rw [f2]
        exact ⟨a, (iteR_t b1).trans (iteR_t f1), hR0, hi.rf⟩
      · rw [f3]
        exact ⟨a, (iteR_t b1).trans ((iteR_f f1).trans (iteR_f f2)), hR0, hi.rf⟩
  · skip
    refine J_if_ne (pc := 4) (tgt := 9) dX5_lay_4 (by decide) (fun c => absurd c (by decide)) (fun _ => ?_)
    refine J_iconst (pc := 7) (v := -1) dX5_lay_7 (by decide) ?_
    refine K_iret (pc := 8) dX5_lay_8 rfl ?_
    exact ⟨a, iteR_f b1, hR0, hi.rf⟩
set_option maxHeartbeats 4000000 in
theorem c5_torn {g : jG} {d : Nat} {a h : jH} (hR : RX a h) : Mi g (d + 3) YX5_torn h [.ref 0] (fun r h' => ∃ a', oTorn a  = (r, a') ∧ RX a' h' ∧ hi h h') := by
  refine M.of (by decide) rfl (Nat.le_of_ble_eq_true rfl) ?_
  have hR0 := hR
  have hG := hR.1.2.2.2
  obtain ⟨⟨r1, hX, hwk, ⟨⟨v1, v2, v3, v4⟩, v5, v6, v7, v8, v9, va, vb, vc, vd⟩⟩, rK, rT, rS, rH, ⟨r8, r8b, r9, ra⟩⟩ := hR
  obtain ⟨x1, x2, x3, x4, x5, x6, x7, x8, x9⟩ := id hX
  have hn4 := v1
  have n5 := r1.2
  have c6 := v3.2
  have p9 := v5.2
  refine J_aload_n (pc := 0) dX5_torn_0 rfl ?_
  refine J_getI (pc := 1) dX5_torn_1 fX5_58 sh0 rfl (rH.2) ?_
  refine K_iret (pc := 4) dX5_torn_4 rfl ?_
  exact ⟨a, rfl, hR0, hi.rf⟩
set_option maxHeartbeats 4000000 in
theorem c5_imagesKept {g : jG} {d : Nat} {h : jH} {x y : Int32} (h0 : h 38 0 = x) (h1 : h 38 1 = y) (zx : x = 0 ∨ x = nI 1) (zy : y = 0 ∨ y = nI 1) : Mi g d YX5_imagesKept h [.ref 0] (fun r h' => h' = h ∧ r = x + y) := by
  refine M.of (by decide) rfl (Nat.le_of_ble_eq_true rfl) ?_
  rcases zx with rfl | rfl <;> rcases zy with rfl | rfl
  · skip
    refine J_iconst (pc := 0) (v := nI 0) dX5_imagesKept_0 (by decide) ?_
    refine J_istore_n (pc := 1) dX5_imagesKept_1 (by decide) ?_
    refine J_iconst (pc := 2) (v := nI 0) dX5_imagesKept_2 (by decide) ?_
    refine J_istore_n (pc := 3) dX5_imagesKept_3 (by decide) ?_
    refine J_iload_n (pc := 4) dX5_imagesKept_4 rfl ?_
    refine J_iconst (pc := 5) (v := nI 2) dX5_imagesKept_5 (by decide) ?_
    refine J_icmp_ge (pc := 6) (tgt := 32) dX5_imagesKept_6 (by decide) (fun c => absurd c (by decide)) (fun _ => ?_)
    refine J_iload_n (pc := 9) dX5_imagesKept_9 rfl ?_
    refine J_aload_n (pc := 10) dX5_imagesKept_10 rfl ?_
    refine J_getR (pc := 11) dX5_imagesKept_11 fX5_23 sh0 rfl ?_
    refine J_iload_n (pc := 14) dX5_imagesKept_14 rfl ?_
    refine J_zald (pc := 15) dX5_imagesKept_15 sh38 (rfl) (by omega) (h0) (by decide) ?_
    refine J_if_eq (pc := 16) (tgt := 23) dX5_imagesKept_16 (by decide) (fun _ => ?_) (fun c => absurd c (by decide))
    refine J_iconst (pc := 23) (v := nI 0) dX5_imagesKept_23 (by decide) ?_
    refine J_iadd (pc := 24) dX5_imagesKept_24 (rfl) ?_
    refine J_istore_n (pc := 25) dX5_imagesKept_25 (by decide) ?_
    refine J_iinc (pc := 26) dX5_imagesKept_26 rfl (v := nI 1) (by decide) (by decide) ?_
    refine J_goto (pc := 29) (tgt := 4) dX5_imagesKept_29 (by decide) ?_
    refine J_iload_n (pc := 4) dX5_imagesKept_4 rfl ?_
    refine J_iconst (pc := 5) (v := nI 2) dX5_imagesKept_5 (by decide) ?_
    refine J_icmp_ge (pc := 6) (tgt := 32) dX5_imagesKept_6 (by decide) (fun c => absurd c (by decide)) (fun _ => ?_)
    refine J_iload_n (pc := 9) dX5_imagesKept_9 rfl ?_
    refine J_aload_n (pc := 10) dX5_imagesKept_10 rfl ?_
    refine J_getR (pc := 11) dX5_imagesKept_11 fX5_23 sh0 rfl ?_
    refine J_iload_n (pc := 14) dX5_imagesKept_14 rfl ?_
    refine J_zald (pc := 15) dX5_imagesKept_15 sh38 (rfl) (by omega) (h1) (by decide) ?_
    refine J_if_eq (pc := 16) (tgt := 23) dX5_imagesKept_16 (by decide) (fun _ => ?_) (fun c => absurd c (by decide))
    refine J_iconst (pc := 23) (v := nI 0) dX5_imagesKept_23 (by decide) ?_
    refine J_iadd (pc := 24) dX5_imagesKept_24 (rfl) ?_
    refine J_istore_n (pc := 25) dX5_imagesKept_25 (by decide) ?_
    refine J_iinc (pc := 26) dX5_imagesKept_26 rfl (v := nI 2) (by decide) (by decide) ?_
    refine J_goto (pc := 29) (tgt := 4) dX5_imagesKept_29 (by decide) ?_
    refine J_iload_n (pc := 4) dX5_imagesKept_4 rfl ?_
    refine J_iconst (pc := 5) (v := nI 2) dX5_imagesKept_5 (by decide) ?_
    refine J_icmp_ge (pc := 6) (tgt := 32) dX5_imagesKept_6 (by decide) (fun _ => ?_) (fun c => absurd c (by decide))
    refine J_iload_n (pc := 32) dX5_imagesKept_32 rfl ?_
    refine K_iret (pc := 33) dX5_imagesKept_33 rfl ?_
    exact ⟨rfl, by decide⟩
  · skip
    refine J_iconst (pc := 0) (v := nI 0) dX5_imagesKept_0 (by decide) ?_
    refine J_istore_n (pc := 1) dX5_imagesKept_1 (by decide) ?_
    refine J_iconst (pc := 2) (v := nI 0) dX5_imagesKept_2 (by decide) ?_
    refine J_istore_n (pc := 3) dX5_imagesKept_3 (by decide) ?_
    refine J_iload_n (pc := 4) dX5_imagesKept_4 rfl ?_
    refine J_iconst (pc := 5) (v := nI 2) dX5_imagesKept_5 (by decide) ?_
    refine J_icmp_ge (pc := 6) (tgt := 32) dX5_imagesKept_6 (by decide) (fun c => absurd c (by decide)) (fun _ => ?_)
    refine J_iload_n (pc := 9) dX5_imagesKept_9 rfl ?_
    refine J_aload_n (pc := 10) dX5_imagesKept_10 rfl ?_
    refine J_getR (pc := 11) dX5_imagesKept_11 fX5_23 sh0 rfl ?_
    refine J_iload_n (pc := 14) dX5_imagesKept_14 rfl ?_
    refine J_zald (pc := 15) dX5_imagesKept_15 sh38 (rfl) (by omega) (h0) (by decide) ?_
    refine J_if_eq (pc := 16) (tgt := 23) dX5_imagesKept_16 (by decide) (fun _ => ?_) (fun c => absurd c (by decide))
    refine J_iconst (pc := 23) (v := nI 0) dX5_imagesKept_23 (by decide) ?_
    refine J_iadd (pc := 24) dX5_imagesKept_24 (rfl) ?_
    refine J_istore_n (pc := 25) dX5_imagesKept_25 (by decide) ?_
    refine J_iinc (pc := 26) dX5_imagesKept_26 rfl (v := nI 1) (by decide) (by decide) ?_
    refine J_goto (pc := 29) (tgt := 4) dX5_imagesKept_29 (by decide) ?_
    refine J_iload_n (pc := 4) dX5_imagesKept_4 rfl ?_
    refine J_iconst (pc := 5) (v := nI 2) dX5_imagesKept_5 (by decide) ?_
    refine J_icmp_ge (pc := 6) (tgt := 32) dX5_imagesKept_6 (by decide) (fun c => absurd c (by decide)) (fun _ => ?_)
    refine J_iload_n (pc := 9) dX5_imagesKept_9 rfl ?_
    refine J_aload_n (pc := 10) dX5_imagesKept_10 rfl ?_
    refine J_getR (pc := 11) dX5_imagesKept_11 fX5_23 sh0 rfl ?_
    refine J_iload_n (pc := 14) dX5_imagesKept_14 rfl ?_
    refine J_zald (pc := 15) dX5_imagesKept_15 sh38 (rfl) (by omega) (h1) (by decide) ?_
    refine J_if_eq (pc := 16) (tgt := 23) dX5_imagesKept_16 (by decide) (fun c => absurd c (by decide)) (fun _ => ?_)
    refine J_iconst (pc := 19) (v := nI 1) dX5_imagesKept_19 (by decide) ?_
    refine J_goto (pc := 20) (tgt := 24) dX5_imagesKept_20 (by decide) ?_
    refine J_iadd (pc := 24) dX5_imagesKept_24 (rfl) ?_
    refine J_istore_n (pc := 25) dX5_imagesKept_25 (by decide) ?_
    refine J_iinc (pc := 26) dX5_imagesKept_26 rfl (v := nI 2) (by decide) (by decide) ?_
    refine J_goto (pc := 29) (tgt := 4) dX5_imagesKept_29 (by decide) ?_
    refine J_iload_n (pc := 4) dX5_imagesKept_4 rfl ?_
    refine J_iconst (pc := 5) (v := nI 2) dX5_imagesKept_5 (by decide) ?_
    refine J_icmp_ge (pc := 6) (tgt := 32) dX5_imagesKept_6 (by decide) (fun _ => ?_) (fun c => absurd c (by decide))
    refine J_iload_n (pc := 32) dX5_imagesKept_32 rfl ?_
    refine K_iret (pc := 33) dX5_imagesKept_33 rfl ?_
    exact ⟨rfl, by decide⟩
  · skip
    refine J_iconst (pc := 0) (v := nI 0) dX5_imagesKept_0 (by decide) ?_
    refine J_istore_n (pc := 1) dX5_imagesKept_1 (by decide) ?_
    refine J_iconst (pc := 2) (v := nI 0) dX5_imagesKept_2 (by decide) ?_
    refine J_istore_n (pc := 3) dX5_imagesKept_3 (by decide) ?_
    refine J_iload_n (pc := 4) dX5_imagesKept_4 rfl ?_
    refine J_iconst (pc := 5) (v := nI 2) dX5_imagesKept_5 (by decide) ?_
    refine J_icmp_ge (pc := 6) (tgt := 32) dX5_imagesKept_6 (by decide) (fun c => absurd c (by decide)) (fun _ => ?_)
    refine J_iload_n (pc := 9) dX5_imagesKept_9 rfl ?_
    refine J_aload_n (pc := 10) dX5_imagesKept_10 rfl ?_
    refine J_getR (pc := 11) dX5_imagesKept_11 fX5_23 sh0 rfl ?_
    refine J_iload_n (pc := 14) dX5_imagesKept_14 rfl ?_
    refine J_zald (pc := 15) dX5_imagesKept_15 sh38 (rfl) (by omega) (h0) (by decide) ?_
    refine J_if_eq (pc := 16) (tgt := 23) dX5_imagesKept_16 (by decide) (fun c => absurd c (by decide)) (fun _ => ?_)
    refine J_iconst (pc := 19) (v := nI 1) dX5_imagesKept_19 (by decide) ?_
    refine J_goto (pc := 20) (tgt := 24) dX5_imagesKept_20 (by decide) ?_
    refine J_iadd (pc := 24) dX5_imagesKept_24 (rfl) ?_
    refine J_istore_n (pc := 25) dX5_imagesKept_25 (by decide) ?_
    refine J_iinc (pc := 26) dX5_imagesKept_26 rfl (v := nI 1) (by decide) (by decide) ?_
    refine J_goto (pc := 29) (tgt := 4) dX5_imagesKept_29 (by decide) ?_
    refine J_iload_n (pc := 4) dX5_imagesKept_4 rfl ?_
    refine J_iconst (pc := 5) (v := nI 2) dX5_imagesKept_5 (by decide) ?_
    refine J_icmp_ge (pc := 6) (tgt := 32) dX5_imagesKept_6 (by decide) (fun c => absurd c (by decide)) (fun _ => ?_)
    refine J_iload_n (pc := 9) dX5_imagesKept_9 rfl ?_
    refine J_aload_n (pc := 10) dX5_imagesKept_10 rfl ?_
    refine J_getR (pc := 11) dX5_imagesKept_11 fX5_23 sh0 rfl ?_
    refine J_iload_n (pc := 14) dX5_imagesKept_14 rfl ?_
    refine J_zald (pc := 15) dX5_imagesKept_15 sh38 (rfl) (by omega) (h1) (by decide) ?_
    refine J_if_eq (pc := 16) (tgt := 23) dX5_imagesKept_16 (by decide) (fun _ => ?_) (fun c => absurd c (by decide))
    refine J_iconst (pc := 23) (v := nI 0) dX5_imagesKept_23 (by decide) ?_
    refine J_iadd (pc := 24) dX5_imagesKept_24 (rfl) ?_
    refine J_istore_n (pc := 25) dX5_imagesKept_25 (by decide) ?_
    refine J_iinc (pc := 26) dX5_imagesKept_26 rfl (v := nI 2) (by decide) (by decide) ?_
    refine J_goto (pc := 29) (tgt := 4) dX5_imagesKept_29 (by decide) ?_
    refine J_iload_n (pc := 4) dX5_imagesKept_4 rfl ?_
    refine J_iconst (pc := 5) (v := nI 2) dX5_imagesKept_5 (by decide) ?_
    refine J_icmp_ge (pc := 6) (tgt := 32) dX5_imagesKept_6 (by decide) (fun _ => ?_) (fun c => absurd c (by decide))
    refine J_iload_n (pc := 32) dX5_imagesKept_32 rfl ?_
    refine K_iret (pc := 33) dX5_imagesKept_33 rfl ?_
    exact ⟨rfl, by decide⟩
  · skip
    refine J_iconst (pc := 0) (v := nI 0) dX5_imagesKept_0 (by decide) ?_
    refine J_istore_n (pc := 1) dX5_imagesKept_1 (by decide) ?_
    refine J_iconst (pc := 2) (v := nI 0) dX5_imagesKept_2 (by decide) ?_
    refine J_istore_n (pc := 3) dX5_imagesKept_3 (by decide) ?_
    refine J_iload_n (pc := 4) dX5_imagesKept_4 rfl ?_
    refine J_iconst (pc := 5) (v := nI 2) dX5_imagesKept_5 (by decide) ?_
    refine J_icmp_ge (pc := 6) (tgt := 32) dX5_imagesKept_6 (by decide) (fun c => absurd c (by decide)) (fun _ => ?_)
    refine J_iload_n (pc := 9) dX5_imagesKept_9 rfl ?_
    refine J_aload_n (pc := 10) dX5_imagesKept_10 rfl ?_
    refine J_getR (pc := 11) dX5_imagesKept_11 fX5_23 sh0 rfl ?_
    refine J_iload_n (pc := 14) dX5_imagesKept_14 rfl ?_
    refine J_zald (pc := 15) dX5_imagesKept_15 sh38 (rfl) (by omega) (h0) (by decide) ?_
    refine J_if_eq (pc := 16) (tgt := 23) dX5_imagesKept_16 (by decide) (fun c => absurd c (by decide)) (fun _ => ?_)
    refine J_iconst (pc := 19) (v := nI 1) dX5_imagesKept_19 (by decide) ?_
    refine J_goto (pc := 20) (tgt := 24) dX5_imagesKept_20 (by decide) ?_
    refine J_iadd (pc := 24) dX5_imagesKept_24 (rfl) ?_
    refine J_istore_n (pc := 25) dX5_imagesKept_25 (by decide) ?_
    refine J_iinc (pc := 26) dX5_imagesKept_26 rfl (v := nI 1) (by decide) (by decide) ?_
    refine J_goto (pc := 29) (tgt := 4) dX5_imagesKept_29 (by decide) ?_
    refine J_iload_n (pc := 4) dX5_imagesKept_4 rfl ?_
    refine J_iconst (pc := 5) (v := nI 2) dX5_imagesKept_5 (by decide) ?_
    refine J_icmp_ge (pc := 6) (tgt := 32) dX5_imagesKept_6 (by decide) (fun c => absurd c (by decide)) (fun _ => ?_)
    refine J_iload_n (pc := 9) dX5_imagesKept_9 rfl ?_
    refine J_aload_n (pc := 10) dX5_imagesKept_10 rfl ?_
    refine J_getR (pc := 11) dX5_imagesKept_11 fX5_23 sh0 rfl ?_
    refine J_iload_n (pc := 14) dX5_imagesKept_14 rfl ?_
    refine J_zald (pc := 15) dX5_imagesKept_15 sh38 (rfl) (by omega) (h1) (by decide) ?_
    refine J_if_eq (pc := 16) (tgt := 23) dX5_imagesKept_16 (by decide) (fun c => absurd c (by decide)) (fun _ => ?_)
    refine J_iconst (pc := 19) (v := nI 1) dX5_imagesKept_19 (by decide) ?_
    refine J_goto (pc := 20) (tgt := 24) dX5_imagesKept_20 (by decide) ?_
    refine J_iadd (pc := 24) dX5_imagesKept_24 (rfl) ?_
    refine J_istore_n (pc := 25) dX5_imagesKept_25 (by decide) ?_
    refine J_iinc (pc := 26) dX5_imagesKept_26 rfl (v := nI 2) (by decide) (by decide) ?_
    refine J_goto (pc := 29) (tgt := 4) dX5_imagesKept_29 (by decide) ?_
    refine J_iload_n (pc := 4) dX5_imagesKept_4 rfl ?_
    refine J_iconst (pc := 5) (v := nI 2) dX5_imagesKept_5 (by decide) ?_
    refine J_icmp_ge (pc := 6) (tgt := 32) dX5_imagesKept_6 (by decide) (fun _ => ?_) (fun c => absurd c (by decide))
    refine J_iload_n (pc := 32) dX5_imagesKept_32 rfl ?_
    refine K_iret (pc := 33) dX5_imagesKept_33 rfl ?_
    exact ⟨rfl, by decide⟩

set_option maxHeartbeats 4000000 in
theorem c5_count {g : jG} {d : Nat} {a h : jH} {x : Int32} (hR : RX a h) : Mi g (d + 3) YX5_count h [.ref 0, .int x] (fun r h' => ∃ a', oCount a x = (r, a') ∧ RX a' h' ∧ hi h h') := by
  refine M.of (by decide) rfl (Nat.le_of_ble_eq_true rfl) ?_
  have hR0 := hR
  have hG := hR.1.2.2.2
  obtain ⟨⟨r1, hX, hwk, ⟨⟨v1, v2, v3, v4⟩, v5, v6, v7, v8, v9, va, vb, vc, vd⟩⟩, rK, rT, rS, rH, ⟨r8, r8b, r9, ra⟩⟩ := hR
  obtain ⟨x1, x2, x3, x4, x5, x6, x7, x8, x9⟩ := id hX
  have hn4 := v1
  have n5 := r1.2
  have c6 := v3.2
  have p9 := v5.2
  obtain ⟨t1, t2, t3, t4⟩ := rT
  obtain ⟨s1, s2, s3⟩ := rS
  obtain ⟨q5, q6⟩ := rH
  have k0 := rK 0 (by omega)
  have k1 := rK 1 (by omega)
  have z0 : a 142 0 = 0 ∨ a 142 0 = nI 1 := k0.2.elim Or.inl (fun z => Or.inr z.1)
  have z1 : a 142 1 = 0 ∨ a 142 1 = nI 1 := k1.2.elim Or.inl (fun z => Or.inr z.1)
  have l0 := (q5 0 (by omega)).1
  refine J_iload_n (pc := 0) dX5_count_0 rfl ?_
  by_cases e0 : x = nI 0
  · subst e0
    refine J_tableIn (pc := 1) (tgt := 40) dX5_count_1 (by decide) (by decide) rfl (by decide) ?_
    refine J_aload_n (pc := 40) dX5_count_40 rfl ?_
    refine J_getR (pc := 41) dX5_count_41 fX5_44 sh0 rfl ?_
    refine J_getI (pc := 44) dX5_count_44 fX5_85 sh81 rfl (s1) ?_
    refine K_iret (pc := 47) dX5_count_47 rfl ?_
    exact ⟨a, rfl, hR0, hi.rf⟩
  by_cases e1 : x = nI 1
  · subst e1
    refine J_tableIn (pc := 1) (tgt := 48) dX5_count_1 (by decide) (by decide) rfl (by decide) ?_
    refine J_aload_n (pc := 48) dX5_count_48 rfl ?_
    refine K_Vi0 (pc := 49) (Y' := YX5_imagesKept) dX5_count_49 lX5_289 mX5_imagesKept vX5_imagesKept ⟨_, _, rfl⟩ sh0 (Nat.le_of_ble_eq_true rfl) (c5_imagesKept k0.1 k1.1 z0 z1) ?_
    rintro r h0 ⟨e0, rfl⟩
    rw [e0]
    clear e0 h0
    refine K_iret (pc := 52) dX5_count_52 rfl ?_
    exact ⟨a, rfl, hR0, hi.rf⟩
  by_cases e2 : x = nI 2
  · subst e2
    refine J_tableIn (pc := 1) (tgt := 53) dX5_count_1 (by decide) (by decide) rfl (by decide) ?_
    refine J_aload_n (pc := 53) dX5_count_53 rfl ?_
    refine J_getR (pc := 54) dX5_count_54 fX5_30 sh0 rfl ?_
    refine J_getI (pc := 57) dX5_count_57 fX5_71 sh39 rfl (t1) ?_
    refine K_iret (pc := 60) dX5_count_60 rfl ?_
    exact ⟨a, rfl, hR0, hi.rf⟩
  by_cases e3 : x = nI 3
  · subst e3
    refine J_tableIn (pc := 1) (tgt := 61) dX5_count_1 (by decide) (by decide) rfl (by decide) ?_
    refine J_aload_n (pc := 61) dX5_count_61 rfl ?_
    refine J_getR (pc := 62) dX5_count_62 fX5_50 sh0 rfl ?_
    refine J_iconst (pc := 65) (v := nI 0) dX5_count_65 (by decide) ?_
    refine J_aald (pc := 66) dX5_count_66 sh85 j_k4 (rfl) (rfl) (by decide) ?_
    refine J_getI (pc := 67) dX5_count_67 fX5_277 sh123 rfl (rfl) ?_
    refine J_iconst (pc := 70) (v := -1) dX5_count_70 (by decide) ?_
    refine J_icmp_ne (pc := 71) (tgt := 79) dX5_count_71 (by decide) (fun c71 => ?_) (fun c71 => ?_)
    · skip
      refine J_aload_n (pc := 79) dX5_count_79 rfl ?_
      refine J_getR (pc := 80) dX5_count_80 fX5_50 sh0 rfl ?_
      refine J_iconst (pc := 83) (v := nI 0) dX5_count_83 (by decide) ?_
      refine J_aald (pc := 84) dX5_count_84 sh85 j_k4 (rfl) (rfl) (by decide) ?_
      refine J_getI (pc := 85) dX5_count_85 fX5_292 sh123 rfl ((q5 0 (by omega)).2.1) ?_
      refine K_iret (pc := 88) dX5_count_88 rfl ?_
      exact ⟨a, congrArg (fun z => (z, a)) (iteP_f (lane_y l0 c71)), hR0, hi.rf⟩
    · skip
      refine J_bipush (pc := 74) (v := -4) dX5_count_74 (by decide) ?_
      refine J_goto (pc := 76) (tgt := 88) dX5_count_76 (by decide) ?_
      refine K_iret (pc := 88) dX5_count_88 rfl ?_
      exact ⟨a, congrArg (fun z => (z, a)) (iteP_t (lane_n l0 c71)), hR0, hi.rf⟩
  by_cases e4 : x = nI 4
  · subst e4
    refine J_tableIn (pc := 1) (tgt := 89) dX5_count_1 (by decide) (by decide) rfl (by decide) ?_
    refine J_aload_n (pc := 89) dX5_count_89 rfl ?_
    refine J_getR (pc := 90) dX5_count_90 fX5_10 sh0 rfl ?_
    refine K_Vi0 (pc := 93) (Y' := YX4_allPurses) dX5_count_93 lX5_167 mX4_allPurses vX4_allPurses ⟨_, _, rfl⟩ (sv0 isV1) (Nat.le_of_ble_eq_true rfl) (c4_allPurses isV1 hX hn4) ?_
    rintro r h0 ⟨e0, rfl⟩
    rw [e0]
    clear e0 h0
    refine K_iret (pc := 96) dX5_count_96 rfl ?_
    exact ⟨a, rfl, hR0, hi.rf⟩
  by_cases e5 : x = nI 5
  · subst e5
    refine J_tableIn (pc := 1) (tgt := 97) dX5_count_1 (by decide) (by decide) rfl (by decide) ?_
    refine J_aload_n (pc := 97) dX5_count_97 rfl ?_
    refine J_getR (pc := 98) dX5_count_98 fX5_10 sh0 rfl ?_
    refine K_Vi0 (pc := 101) (Y' := YX4_allDebts) dX5_count_101 lX5_170 mX4_allDebts vX4_allDebts ⟨_, _, rfl⟩ (sv0 isV1) (Nat.le_of_ble_eq_true rfl) (c4_allDebts isV1 hX hn4) ?_
    rintro r h0 ⟨e0, rfl⟩
    rw [e0]
    clear e0 h0
    refine K_iret (pc := 104) dX5_count_104 rfl ?_
    exact ⟨a, by rw [adG_all hn4 vd]; rfl, hR0, hi.rf⟩
  have hj : ∀ k, k < 6 → ¬ x = nI k := fun k hk => by
    match k, hk with
    | 0, _ => exact e0
    | 1, _ => exact e1
    | 2, _ => exact e2
    | 3, _ => exact e3
    | 4, _ => exact e4
    | 5, _ => exact e5
  refine J_tableOut (pc := 1) (tgt := 105) dX5_count_1 (tsw_out (N := 6) (by omega) hj) (by decide) ?_
  refine J_iconst (pc := 105) (v := -1) dX5_count_105 (by decide) ?_
  refine K_iret (pc := 106) dX5_count_106 rfl ?_
  exact ⟨a, congrArg (fun z => (z, a)) (sel_out (fun j h1 h2 => hj j h2)), hR0, hi.rf⟩
