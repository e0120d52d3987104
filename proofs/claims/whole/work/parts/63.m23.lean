set_option maxHeartbeats 4000000 in
theorem l5_pay2 {g : jG} {d : Nat} {h : jH} {Q : kQ} {a : jH} {s : Nat} (hR : RX a h) (hs : s + 1 < 2 ^ ix (a 131 2)) (kx : K g (d + 1) YX5_pays (rwH h 86 (gCl (zF (npF (ix (a 131 2)) (pg a 0)) (ix (a 131 2))) (ix (a 131 2)) (s + 1)) (s + 1)) 92 [(0, .ref 0), (1, .int (nI (2 ^ (ix (a 131 2)) - 1))), (2, .int (nI (s + 1))), (3, .int (nI (mxC (gCl (zF (npF (ix (a 131 2)) (pg a 0)) (ix (a 131 2))) (ix (a 131 2)) (s + 1)) (s + 1) (ix (a 131 2))))), (4, .int (sumB (npF (ix (a 131 2)) (pg a 0)) (s + 1) (ix (a 131 2)))), (5, .int (nI (ix (a 131 2))))] [] Q) : ∀ (mm k : Nat) , k ≤ (ix (a 131 2)) → (ix (a 131 2)) < k + mm → K g (d + 1) YX5_pays (rwH h 86 (gCl (zF (npF (ix (a 131 2)) (pg a 0)) (ix (a 131 2))) (ix (a 131 2)) (s + 1)) (s + 1)) 34 [(0, .ref 0), (1, .int (nI (2 ^ (ix (a 131 2)) - 1))), (2, .int (nI (s + 1))), (3, .int (nI (mxC (gCl (zF (npF (ix (a 131 2)) (pg a 0)) (ix (a 131 2))) (ix (a 131 2)) (s + 1)) (s + 1) k))), (4, .int (sumB (npF (ix (a 131 2)) (pg a 0)) (s + 1) k)), (5, .int (nI k))] [] Q := by
  intro mm
  induction mm with
  | zero => intro k  hk1 hk2 ; omega
  | succ mm ih =>
    intro k  hk1 hk2 
    have hR0 := hR
    have hG := hR.1.2.2.2
    obtain ⟨⟨r1, hX, hwk, ⟨⟨v1, v2, v3, v4⟩, v5, v6, v7, v8, v9, va, vb, vc, vd⟩⟩, rK, rT, rS, rH, ⟨r8, r8b, r9, ra⟩⟩ := hR
    obtain ⟨x1, x2, x3, x4, x5, x6, x7, x8, x9⟩ := id hX
    have hn4 := v1
    have n5 := r1.2
    have c6 := v3.2
    have p9 := v5.2
    have p2 := p2_b hn4
    have hXr : XV (ix (a 131 2)) (pg a 0) (rwH h 86 (gCl (zF (npF (ix (a 131 2)) (pg a 0)) (ix (a 131 2))) (ix (a 131 2)) (s + 1)) (s + 1)) 1 := XV_congr hX (fun _ _ => rfl) hn4 c6 p9 (fun b h1 h2 => funext fun j => rwH_o (by omega))
    have ml := mxC_le (S := s + 1) (gCl_le (z := (zF (npF (ix (a 131 2)) (pg a 0)) (ix (a 131 2)))) (n := (ix (a 131 2))) (s + 1)) k
    refine J_iload (pc := 34) dX5_pays_34 rfl ?_
    refine J_aload_n (pc := 36) dX5_pays_36 rfl ?_
    refine J_getR (pc := 37) dX5_pays_37 fX5_10 sh0 rfl ?_
    refine J_getI (pc := 40) dX5_pays_40 fX5_91 (sv0 isV1) rfl (hXr.1) ?_
    refine J_icmp_ge (pc := 43) (tgt := 92) dX5_pays_43 (by decide) (fun c43 => ?_) (fun c43 => ?_)
    · skip
      have q43 : (ix (a 131 2)) ≤ k := (nI_leI (by omega) (by omega)).mp c43
      have e_k : k = (ix (a 131 2)) := by omega
      refine J_ls (ls' := [(0, .ref 0), (1, .int (nI (2 ^ (ix (a 131 2)) - 1))), (2, .int (nI (s + 1))), (3, .int (nI (mxC (gCl (zF (npF (ix (a 131 2)) (pg a 0)) (ix (a 131 2))) (ix (a 131 2)) (s + 1)) (s + 1) k))), (4, .int (sumB (npF (ix (a 131 2)) (pg a 0)) (s + 1) k)), (5, .int (nI k))]) ⟨rfl, rfl, rfl, rfl, rfl, rfl, trivial⟩ ?_
      rw [e_k]
      exact kx
    · skip
      have q43 : k < (ix (a 131 2)) := Nat.lt_of_not_le (fun z => c43 ((nI_leI (by omega) (by omega)).mpr z))
      refine J_iload_n (pc := 46) dX5_pays_46 rfl ?_
      refine J_iload (pc := 47) dX5_pays_47 rfl ?_
      refine J_ishr (pc := 49) dX5_pays_49 (rfl) ?_
      refine J_iconst (pc := 50) (v := nI 1) dX5_pays_50 (by decide) ?_
      refine J_iand (pc := 51) dX5_pays_51 ((bit_sh k (by omega) (s + 1) (by omega)).1) ?_
      refine J_iconst (pc := 52) (v := nI 1) dX5_pays_52 (by decide) ?_
      refine J_icmp_ne (pc := 53) (tgt := 86) dX5_pays_53 (by decide) (fun c53 => ?_) (fun c53 => ?_)
      · skip
        have q53 : ¬ (s + 1) / 2 ^ k % 2 = 1 := fun z => c53 (congrArg nI z)
        refine J_iinc (pc := 86) dX5_pays_86 rfl (v := nI (k + 1)) (by exact nI_add _ _) (by decide) ?_
        refine J_goto (pc := 89) (tgt := 34) dX5_pays_89 (by decide) ?_
        have i := ih (k + 1) (by omega) (by omega)
        rw [show mxC (gCl (zF (npF (ix (a 131 2)) (pg a 0)) (ix (a 131 2))) (ix (a 131 2)) (s + 1)) (s + 1) (k + 1) = mxC (gCl (zF (npF (ix (a 131 2)) (pg a 0)) (ix (a 131 2))) (ix (a 131 2)) (s + 1)) (s + 1) k from if_neg q53, show sumB (npF (ix (a 131 2)) (pg a 0)) (s + 1) (k + 1) = sumB (npF (ix (a 131 2)) (pg a 0)) (s + 1) k + nI 0 from congrArg (fun t => sumB (npF (ix (a 131 2)) (pg a 0)) (s + 1) k + t) (if_neg q53)] at i
        refine J_ls ?_ i
        exact ⟨rfl, rfl, rfl, rfl, congrArg (fun z => some (Value.int z)) (add0 _).symm, rfl, trivial⟩
      · skip
        have q53 : (s + 1) / 2 ^ k % 2 = 1 := (nI_eq (by omega) (by omega)).mp c53
        have xlt := (bit_sh k (by omega) (s + 1) (by omega)).2.2.2 q53
        have gl := gCl_le (z := (zF (npF (ix (a 131 2)) (pg a 0)) (ix (a 131 2)))) (n := (ix (a 131 2))) (s + 1) ((s + 1) ^^^ 2 ^ k)
        refine J_iload (pc := 56) dX5_pays_56 rfl ?_
        refine J_aload_n (pc := 58) dX5_pays_58 rfl ?_
        refine J_getR (pc := 59) dX5_pays_59 fX5_10 sh0 rfl ?_
        refine J_iload (pc := 62) dX5_pays_62 rfl ?_
        refine K_Vi1 (pc := 64) (Y' := YX4_balanceOf) dX5_pays_64 lX5_234 mX4_balanceOf vX4_balanceOf ⟨_, _, rfl⟩ (sv0 isV1) (Nat.le_of_ble_eq_true rfl) (c4_balanceOf isV1 hXr hn4 (by omega)) ?_
        rintro r h0 ⟨e0, rfl⟩
        rw [e0]
        clear e0 h0
        refine J_iadd (pc := 67) dX5_pays_67 (rfl) ?_
        refine J_istore (pc := 68) dX5_pays_68 (by decide) ?_
        refine J_iload_n (pc := 70) dX5_pays_70 rfl ?_
        refine J_aload_n (pc := 71) dX5_pays_71 rfl ?_
        refine J_getR (pc := 72) dX5_pays_72 fX5_54 sh0 rfl ?_
        refine J_iload_n (pc := 75) dX5_pays_75 rfl ?_
        refine J_iconst (pc := 76) (v := nI 1) dX5_pays_76 (by decide) ?_
        refine J_iload (pc := 77) dX5_pays_77 rfl ?_
        refine J_ishl (pc := 79) dX5_pays_79 (rfl) ?_
        refine J_ixor (pc := 80) dX5_pays_80 ((bit_sh k (by omega) (s + 1) (by omega)).2.1) ?_
        refine J_iald (pc := 81) dX5_pays_81 sh86 (rfl) (by omega) (rwH_at xlt) (by decide) ?_
        refine J_max (pc := 82) dX5_pays_82 qX5_227 w_max_s w_math w_max_c (Nat.le_of_ble_eq_true rfl) (mx_if (by omega) (by omega)) ?_
        refine J_istore_n (pc := 85) dX5_pays_85 (by decide) ?_
        refine J_iinc (pc := 86) dX5_pays_86 rfl (v := nI (k + 1)) (by exact nI_add _ _) (by decide) ?_
        refine J_goto (pc := 89) (tgt := 34) dX5_pays_89 (by decide) ?_
        have i := ih (k + 1) (by omega) (by omega)
        rw [show mxC (gCl (zF (npF (ix (a 131 2)) (pg a 0)) (ix (a 131 2))) (ix (a 131 2)) (s + 1)) (s + 1) (k + 1) = max (mxC (gCl (zF (npF (ix (a 131 2)) (pg a 0)) (ix (a 131 2))) (ix (a 131 2)) (s + 1)) (s + 1) k) ((gCl (zF (npF (ix (a 131 2)) (pg a 0)) (ix (a 131 2))) (ix (a 131 2)) (s + 1)) ((s + 1) ^^^ 2 ^ k)) from if_pos q53, show sumB (npF (ix (a 131 2)) (pg a 0)) (s + 1) (k + 1) = sumB (npF (ix (a 131 2)) (pg a 0)) (s + 1) k + netP (ix (a 131 2)) k (pg a 0) from congrArg (fun t => sumB (npF (ix (a 131 2)) (pg a 0)) (s + 1) k + t) (if_pos q53)] at i
        refine J_ls ?_ i
        exact ⟨rfl, rfl, rfl, rfl, rfl, rfl, trivial⟩
set_option maxHeartbeats 4000000 in
theorem l5_pay1 {g : jG} {d : Nat} {h : jH} {Q : kQ} {a : jH} (hR : RX a h) (kx : K g (d + 1) YX5_pays (rwH h 86 (gCl (zF (npF (ix (a 131 2)) (pg a 0)) (ix (a 131 2))) (ix (a 131 2)) ((2 ^ (ix (a 131 2)) - 1) + 1)) ((2 ^ (ix (a 131 2)) - 1) + 1)) 116 [(0, .ref 0), (1, .int (nI (2 ^ (ix (a 131 2)) - 1))), (2, .int (nI ((2 ^ (ix (a 131 2)) - 1) + 1)))] [] Q) : ∀ (mm k : Nat) , k ≤ (2 ^ (ix (a 131 2)) - 1) → (2 ^ (ix (a 131 2)) - 1) < k + mm → K g (d + 1) YX5_pays (rwH h 86 (gCl (zF (npF (ix (a 131 2)) (pg a 0)) (ix (a 131 2))) (ix (a 131 2)) (k + 1)) (k + 1)) 21 [(0, .ref 0), (1, .int (nI (2 ^ (ix (a 131 2)) - 1))), (2, .int (nI (k + 1)))] [] Q := by
  intro mm
  induction mm with
  | zero => intro k  hk1 hk2 ; omega
  | succ mm ih =>
    intro k  hk1 hk2 
    have hR0 := hR
    have hG := hR.1.2.2.2
    obtain ⟨⟨r1, hX, hwk, ⟨⟨v1, v2, v3, v4⟩, v5, v6, v7, v8, v9, va, vb, vc, vd⟩⟩, rK, rT, rS, rH, ⟨r8, r8b, r9, ra⟩⟩ := hR
    obtain ⟨x1, x2, x3, x4, x5, x6, x7, x8, x9⟩ := id hX
    have hn4 := v1
    have n5 := r1.2
    have c6 := v3.2
    have p9 := v5.2
    have p2 := p2_b hn4
    refine J_iload_n (pc := 21) dX5_pays_21 rfl ?_
    refine J_iload_n (pc := 22) dX5_pays_22 rfl ?_
    refine J_icmp_gt (pc := 23) (tgt := 116) dX5_pays_23 (by decide) (fun c23 => ?_) (fun c23 => ?_)
    · skip
      have q23 : 2 ^ (ix (a 131 2)) - 1 < k + 1 := (nI_ltI (by omega) (by omega)).mp c23
      have e_k : k = (2 ^ (ix (a 131 2)) - 1) := by omega
      refine J_ls (ls' := [(0, .ref 0), (1, .int (nI (2 ^ (ix (a 131 2)) - 1))), (2, .int (nI (k + 1)))]) ⟨rfl, rfl, rfl, trivial⟩ ?_
      rw [e_k]
      exact kx
    · skip
      have q23 : ¬ 2 ^ (ix (a 131 2)) - 1 < k + 1 := fun z => c23 ((nI_ltI (by omega) (by omega)).mpr z)
      refine J_iconst (pc := 26) (v := nI 0) dX5_pays_26 (by decide) ?_
      refine J_istore_n (pc := 27) dX5_pays_27 (by decide) ?_
      refine J_iconst (pc := 28) (v := nI 0) dX5_pays_28 (by decide) ?_
      refine J_istore (pc := 29) dX5_pays_29 (by decide) ?_
      refine J_iconst (pc := 31) (v := nI 0) dX5_pays_31 (by decide) ?_
      refine J_istore (pc := 32) dX5_pays_32 (by decide) ?_
      refine J_ls (ls' := [(0, .ref 0), (1, .int (nI (2 ^ (ix (a 131 2)) - 1))), (2, .int (nI (k + 1))), (3, .int (nI (mxC (gCl (zF (npF (ix (a 131 2)) (pg a 0)) (ix (a 131 2))) (ix (a 131 2)) (k + 1)) (k + 1) 0))), (4, .int (sumB (npF (ix (a 131 2)) (pg a 0)) (k + 1) 0)), (5, .int (nI 0))]) ⟨rfl, rfl, rfl, rfl, rfl, rfl, trivial⟩ ?_
      refine l5_pay2 (s := k) hR0 (by omega) ?_ ((ix (a 131 2)) + 1) 0 (Nat.zero_le _) (by omega)
      refine J_aload_n (pc := 92) dX5_pays_92 rfl ?_
      refine J_getR (pc := 93) dX5_pays_93 fX5_54 sh0 rfl ?_
      refine J_iload_n (pc := 96) dX5_pays_96 rfl ?_
      refine J_iload (pc := 97) dX5_pays_97 rfl ?_
      refine J_if_ne (pc := 99) (tgt := 108) dX5_pays_99 (by decide) (fun c99 => ?_) (fun c99 => ?_)
      · skip
        refine J_iload_n (pc := 108) dX5_pays_108 rfl ?_
        refine J_iast (pc := 109) dX5_pays_109 sh86 (rfl) (by omega) (by decide) ?_
        refine J_iinc (pc := 110) dX5_pays_110 rfl (v := nI ((k + 1) + 1)) (by exact nI_add _ _) (by decide) ?_
        refine J_goto (pc := 113) (tgt := 21) dX5_pays_113 (by decide) ?_
        have zz : (zF (npF (ix (a 131 2)) (pg a 0)) (ix (a 131 2))) (k + 1) = false := decide_eq_false c99
        have e1 : (gCl (zF (npF (ix (a 131 2)) (pg a 0)) (ix (a 131 2))) (ix (a 131 2)) (k + 1 + 1)) (k + 1) = mxC (gCl (zF (npF (ix (a 131 2)) (pg a 0)) (ix (a 131 2))) (ix (a 131 2)) (k + 1)) (k + 1) (ix (a 131 2)) := by
          rw [gCl, if_pos rfl, if_neg (by omega), zz]
          rfl
        rw [rwH_up (fun j hj => (if_neg (by omega) : (gCl (zF (npF (ix (a 131 2)) (pg a 0)) (ix (a 131 2))) (ix (a 131 2)) (k + 1 + 1)) j = (gCl (zF (npF (ix (a 131 2)) (pg a 0)) (ix (a 131 2))) (ix (a 131 2)) (k + 1)) j)) e1]
        exact J_ls (ls' := [(0, .ref 0), (1, .int (nI (2 ^ (ix (a 131 2)) - 1))), (2, .int (nI ((k + 1) + 1)))]) ⟨rfl, rfl, rfl, trivial⟩ (ih (k + 1) (by omega) (by omega))
      · skip
        refine J_iload_n (pc := 102) dX5_pays_102 rfl ?_
        refine J_iconst (pc := 103) (v := nI 1) dX5_pays_103 (by decide) ?_
        refine J_iadd (pc := 104) dX5_pays_104 (nI_add _ _) ?_
        refine J_goto (pc := 105) (tgt := 109) dX5_pays_105 (by decide) ?_
        refine J_iast (pc := 109) dX5_pays_109 sh86 (rfl) (by omega) (by decide) ?_
        refine J_iinc (pc := 110) dX5_pays_110 rfl (v := nI ((k + 1) + 1)) (by exact nI_add _ _) (by decide) ?_
        refine J_goto (pc := 113) (tgt := 21) dX5_pays_113 (by decide) ?_
        have zz : (zF (npF (ix (a 131 2)) (pg a 0)) (ix (a 131 2))) (k + 1) = true := decide_eq_true c99
        have e1 : (gCl (zF (npF (ix (a 131 2)) (pg a 0)) (ix (a 131 2))) (ix (a 131 2)) (k + 1 + 1)) (k + 1) = mxC (gCl (zF (npF (ix (a 131 2)) (pg a 0)) (ix (a 131 2))) (ix (a 131 2)) (k + 1)) (k + 1) (ix (a 131 2)) + 1 := by
          rw [gCl, if_pos rfl, if_neg (by omega), zz]
          rfl
        rw [rwH_up (fun j hj => (if_neg (by omega) : (gCl (zF (npF (ix (a 131 2)) (pg a 0)) (ix (a 131 2))) (ix (a 131 2)) (k + 1 + 1)) j = (gCl (zF (npF (ix (a 131 2)) (pg a 0)) (ix (a 131 2))) (ix (a 131 2)) (k + 1)) j)) e1]
        exact J_ls (ls' := [(0, .ref 0), (1, .int (nI (2 ^ (ix (a 131 2)) - 1))), (2, .int (nI ((k + 1) + 1)))]) ⟨rfl, rfl, rfl, trivial⟩ (ih (k + 1) (by omega) (by omega))
set_option maxHeartbeats 4000000 in
theorem c5_pays {g : jG} {d : Nat} {a h : jH} (hR : RX a h) : Mi g (d + 3) YX5_pays h [.ref 0] (fun r h' => ∃ a', oPays a  = (r, a') ∧ RX a' h' ∧ hi h h') := by
  refine M.of (by decide) rfl (Nat.le_of_ble_eq_true rfl) ?_
  have hR0 := hR
  have hG := hR.1.2.2.2
  obtain ⟨⟨r1, hX, hwk, ⟨⟨v1, v2, v3, v4⟩, v5, v6, v7, v8, v9, va, vb, vc, vd⟩⟩, rK, rT, rS, rH, ⟨r8, r8b, r9, ra⟩⟩ := hR
  obtain ⟨x1, x2, x3, x4, x5, x6, x7, x8, x9⟩ := id hX
  have hn4 := v1
  have n5 := r1.2
  have c6 := v3.2
  have p9 := v5.2
  refine J_iconst (pc := 0) (v := nI 1) dX5_pays_0 (by decide) ?_
  refine J_aload_n (pc := 1) dX5_pays_1 rfl ?_
  refine J_getR (pc := 2) dX5_pays_2 fX5_10 sh0 rfl ?_
  refine J_getI (pc := 5) dX5_pays_5 fX5_91 (sv0 isV1) rfl (x1) ?_
  refine J_ishl (pc := 8) dX5_pays_8 (rfl) ?_
  refine J_iconst (pc := 9) (v := nI 1) dX5_pays_9 (by decide) ?_
  refine J_isub (pc := 10) dX5_pays_10 (full_n hn4) ?_
  refine J_istore_n (pc := 11) dX5_pays_11 (by decide) ?_
  refine J_aload_n (pc := 12) dX5_pays_12 rfl ?_
  refine J_getR (pc := 13) dX5_pays_13 fX5_54 sh0 rfl ?_
  refine J_iconst (pc := 16) (v := nI 0) dX5_pays_16 (by decide) ?_
  refine J_iconst (pc := 17) (v := nI 0) dX5_pays_17 (by decide) ?_
  refine J_iast (pc := 18) dX5_pays_18 sh86 (rfl) (by omega) (by decide) ?_
  refine J_iconst (pc := 19) (v := nI 1) dX5_pays_19 (by decide) ?_
  refine J_istore_n (pc := 20) dX5_pays_20 (by decide) ?_
  have p2 := p2_b hn4
  refine J_h (h' := rwH h 86 (gCl (zF (npF (ix (a 131 2)) (pg a 0)) (ix (a 131 2))) (ix (a 131 2)) (0 + 1)) (0 + 1)) (by
    have e : rwH h 86 (gCl (zF (npF (ix (a 131 2)) (pg a 0)) (ix (a 131 2))) (ix (a 131 2)) 0) 0 = h := by
      funext b j
      exact if_neg (by omega)
    have u := rwH_up (h := h) (b0 := 86) (k := 0) (x := 0) (G := (gCl (zF (npF (ix (a 131 2)) (pg a 0)) (ix (a 131 2))) (ix (a 131 2)) 0)) (G' := (gCl (zF (npF (ix (a 131 2)) (pg a 0)) (ix (a 131 2))) (ix (a 131 2)) (0 + 1))) (fun j hj => absurd hj (by omega)) rfl
    rw [e] at u
    exact u) ?_
  refine J_ls (ls' := [(0, .ref 0), (1, .int (nI (2 ^ (ix (a 131 2)) - 1))), (2, .int (nI (0 + 1)))]) ⟨rfl, rfl, rfl, trivial⟩ ?_
  refine l5_pay1 hR0 ?_ (2 ^ (ix (a 131 2))) 0 (Nat.zero_le _) (by omega)
  have hXr : XV (ix (a 131 2)) (pg a 0) (rwH h 86 (gCl (zF (npF (ix (a 131 2)) (pg a 0)) (ix (a 131 2))) (ix (a 131 2)) ((2 ^ (ix (a 131 2)) - 1) + 1)) ((2 ^ (ix (a 131 2)) - 1) + 1)) 1 := XV_congr hX (fun _ _ => rfl) hn4 c6 p9 (fun b h1 h2 => funext fun j => rwH_o (by omega))
  refine J_aload_n (pc := 116) dX5_pays_116 rfl ?_
  refine J_getR (pc := 117) dX5_pays_117 fX5_10 sh0 rfl ?_
  refine J_getI (pc := 120) dX5_pays_120 fX5_91 (sv0 isV1) rfl (hXr.1) ?_
  refine J_aload_n (pc := 123) dX5_pays_123 rfl ?_
  refine J_getR (pc := 124) dX5_pays_124 fX5_54 sh0 rfl ?_
  refine J_iload_n (pc := 127) dX5_pays_127 rfl ?_
  refine J_iald (pc := 128) dX5_pays_128 sh86 (rfl) (by omega) ((rwH_at (by omega)).trans (congrArg (fun t => nI (gCl (zF (npF (ix (a 131 2)) (pg a 0)) (ix (a 131 2))) (ix (a 131 2)) t (2 ^ (ix (a 131 2)) - 1))) (show 2 ^ (ix (a 131 2)) - 1 + 1 = 2 ^ (ix (a 131 2)) by omega))) (by decide) ?_
  refine J_isub (pc := 129) dX5_pays_129 (rfl) ?_
  refine K_iret (pc := 130) dX5_pays_130 rfl ?_
  exact ⟨a, rfl, RX_congr hR0 sameP.rf (fun b hb => funext fun j => rwH_o (by omega)), fun b hb => funext fun j => rwH_o (by omega)⟩
set_option maxHeartbeats 4000000 in
theorem l6_nos {g : jG} {d : Nat} {h : jH} {Q : kQ} {hh : jH} {q : Nat} (hR : MR h) (hq : q < 16) (e131 : hh 131 = h 131) (e132 : hh 132 = h 132) (kx : K g (d + 1) YX6_netOfSome (hh) 39 [(0, .ref 131), (1, .int (nI q)), (2, .int (sumB (npF (ix (h 131 2)) (pg h 0)) q (ix (h 131 2)))), (3, .int (nI (ix (h 131 2))))] [] Q) : ∀ (mm k : Nat) , k ≤ (ix (h 131 2)) → (ix (h 131 2)) < k + mm → K g (d + 1) YX6_netOfSome (hh) 4 [(0, .ref 131), (1, .int (nI q)), (2, .int (sumB (npF (ix (h 131 2)) (pg h 0)) q k)), (3, .int (nI k))] [] Q := by
  intro mm
  induction mm with
  | zero => intro k  hk1 hk2 ; omega
  | succ mm ih =>
    intro k  hk1 hk2 
    have hR0 := hR
    have hG : GD (ix (h 131 2)) (pg h 0) := hR.2.1
    obtain ⟨r1, ⟨⟨v1, v2, v3, v4⟩, v5, v6, v7, v8, v9, va, vb, vc, vd⟩, r3, r4, ⟨r5, r6⟩, r7, r8, r9, ra⟩ := hR
    have hn := r1.1
    have hn4 := v1
    have n5 := r1.2
    have c6 : ix (h 132 37) < 6 := v3.2
    have p9 : ix (h 132 51) < 9 := v5.2
    have p9' : ix (pg h 0 51) < 9 := v5.2
    refine J_iload_n (pc := 4) dX6_netOfSome_4 rfl ?_
    refine J_aload_n (pc := 5) dX6_netOfSome_5 rfl ?_
    refine J_getI (pc := 6) dX6_netOfSome_6 fX6_148 sh131 rfl ((congrFun e131 2).trans hn) ?_
    refine J_icmp_ge (pc := 9) (tgt := 39) dX6_netOfSome_9 (by decide) (fun c9 => ?_) (fun c9 => ?_)
    · skip
      have q9 : (ix (h 131 2)) ≤ k := (nI_leI (by omega) (by omega)).mp c9
      have e_k : k = (ix (h 131 2)) := by omega
      refine J_ls (ls' := [(0, .ref 131), (1, .int (nI q)), (2, .int (sumB (npF (ix (h 131 2)) (pg h 0)) q k)), (3, .int (nI k))]) ⟨rfl, rfl, rfl, rfl, trivial⟩ ?_
      rw [e_k]
      exact kx
    · skip
      have q9 : k < (ix (h 131 2)) := Nat.lt_of_not_le (fun z => c9 ((nI_leI (by omega) (by omega)).mpr z))
      refine J_iload_n (pc := 12) dX6_netOfSome_12 rfl ?_
      refine J_iload_n (pc := 13) dX6_netOfSome_13 rfl ?_
      refine J_iload_n (pc := 14) dX6_netOfSome_14 rfl ?_
      refine J_ishr (pc := 15) dX6_netOfSome_15 (rfl) ?_
      refine J_iconst (pc := 16) (v := nI 1) dX6_netOfSome_16 (by decide) ?_
      refine J_iand (pc := 17) dX6_netOfSome_17 ((bit_sh k (by omega) q hq).1) ?_
      refine J_iconst (pc := 18) (v := nI 1) dX6_netOfSome_18 (by decide) ?_
      refine J_icmp_ne (pc := 19) (tgt := 30) dX6_netOfSome_19 (by decide) (fun c19 => ?_) (fun c19 => ?_)
      · skip
        have q19 : ¬ q / 2 ^ k % 2 = 1 := fun z => c19 (congrArg nI z)
        refine J_iconst (pc := 30) (v := nI 0) dX6_netOfSome_30 (by decide) ?_
        refine J_iadd (pc := 31) dX6_netOfSome_31 (rfl) ?_
        refine J_istore_n (pc := 32) dX6_netOfSome_32 (by decide) ?_
        refine J_iinc (pc := 33) dX6_netOfSome_33 rfl (v := nI (k + 1)) (by exact nI_add _ _) (by decide) ?_
        refine J_goto (pc := 36) (tgt := 4) dX6_netOfSome_36 (by decide) ?_
        have i := ih (k + 1) (by omega) (by omega)
        rw [show sumB (npF (ix (h 131 2)) (pg h 0)) q (k + 1) = sumB (npF (ix (h 131 2)) (pg h 0)) q k + nI 0 from congrArg (fun t => sumB (npF (ix (h 131 2)) (pg h 0)) q k + t) (if_neg q19)] at i
        refine J_ls ?_ i
        exact ⟨rfl, rfl, rfl, rfl, trivial⟩
      · skip
        have q19 : q / 2 ^ k % 2 = 1 := (nI_eq (by omega) (by omega)).mp c19
        refine J_aload_n (pc := 22) dX6_netOfSome_22 rfl ?_
        refine J_iload_n (pc := 23) dX6_netOfSome_23 rfl ?_
        refine K_Vi1 (pc := 24) (Y' := YX6_netOf) dX6_netOfSome_24 lX6_256 mX6_netOf vX6_netOf ⟨_, _, rfl⟩ sh131 (Nat.le_of_ble_eq_true rfl) (c6_netOf (n := (ix (h 131 2))) (p := k) ((congrFun e131 2).trans hn) hn4 (by omega)) ?_
        rintro r h0 ⟨e0, rfl⟩
        rw [e0, show pg hh 0 = pg h 0 from by unfold pg; rw [e132]]
        clear e0 h0
        refine J_goto (pc := 27) (tgt := 31) dX6_netOfSome_27 (by decide) ?_
        refine J_iadd (pc := 31) dX6_netOfSome_31 (rfl) ?_
        refine J_istore_n (pc := 32) dX6_netOfSome_32 (by decide) ?_
        refine J_iinc (pc := 33) dX6_netOfSome_33 rfl (v := nI (k + 1)) (by exact nI_add _ _) (by decide) ?_
        refine J_goto (pc := 36) (tgt := 4) dX6_netOfSome_36 (by decide) ?_
        have i := ih (k + 1) (by omega) (by omega)
        rw [show sumB (npF (ix (h 131 2)) (pg h 0)) q (k + 1) = sumB (npF (ix (h 131 2)) (pg h 0)) q k + netP (ix (h 131 2)) k (pg h 0) from congrArg (fun t => sumB (npF (ix (h 131 2)) (pg h 0)) q k + t) (if_pos q19)] at i
        refine J_ls ?_ i
        exact ⟨rfl, rfl, rfl, rfl, trivial⟩
set_option maxHeartbeats 4000000 in
theorem c6_netOfSome {g : jG} {d : Nat} {h : jH} {hh : jH} {q : Nat} (hR : MR h) (hq : q < 16) (e131 : hh 131 = h 131) (e132 : hh 132 = h 132) : Mi g (d + 1) YX6_netOfSome hh [.ref 131, .int (nI q)] (fun r h' => h' = hh ∧ r = sumB (npF (ix (h 131 2)) (pg h 0)) q (ix (h 131 2))) := by
  refine M.of (by decide) rfl (Nat.le_of_ble_eq_true rfl) ?_
  have n5 := hR.1.2
  refine J_iconst (pc := 0) (v := nI 0) dX6_netOfSome_0 (by decide) ?_
  refine J_istore_n (pc := 1) dX6_netOfSome_1 (by decide) ?_
  refine J_iconst (pc := 2) (v := nI 0) dX6_netOfSome_2 (by decide) ?_
  refine J_istore_n (pc := 3) dX6_netOfSome_3 (by decide) ?_
  refine J_ls (ls' := [(0, .ref 131), (1, .int (nI q)), (2, .int (sumB (npF (ix (h 131 2)) (pg h 0)) q 0)), (3, .int (nI 0))]) ⟨rfl, rfl, rfl, rfl, trivial⟩ ?_
  refine l6_nos hR hq e131 e132 ?_ ((ix (h 131 2)) + 1) 0 (Nat.zero_le _) (by omega)
  refine J_iload_n (pc := 39) dX6_netOfSome_39 rfl ?_
  refine K_iret (pc := 40) dX6_netOfSome_40 rfl ?_
  exact ⟨rfl, rfl⟩
theorem sumB_0 {f : Nat → Int32} {S : Nat} : ∀ {n : Nat}, (∀ p, p < n → ¬ S / 2 ^ p % 2 = 1) → sumB f S n = nI 0
  | 0, _ => rfl
  | n + 1, h => by rw [sumB, sumB_0 (n := n) (fun p hp => h p (by omega)), if_neg (h n (by omega)), add0]
theorem sumB_1 {f : Nat → Int32} {n p : Nat} (hn : n ≤ 4) (hp : p < n) : sumB f (2 ^ p) n = f p := by
  match n, hn with
  | 0, _ => omega
  | 1, _ =>
    match p, hp with
    | 0, _ => simp [sumB, nI0]
  | 2, _ =>
    match p, hp with
    | 0, _ => simp [sumB, nI0]
    | 1, _ => simp [sumB, nI0]
  | 3, _ =>
    match p, hp with
    | 0, _ => simp [sumB, nI0]
    | 1, _ => simp [sumB, nI0]
    | 2, _ => simp [sumB, nI0]
  | 4, _ =>
    match p, hp with
    | 0, _ => simp [sumB, nI0]
    | 1, _ => simp [sumB, nI0]
    | 2, _ => simp [sumB, nI0]
    | 3, _ => simp [sumB, nI0]
  | n + 5, h => omega
set_option maxHeartbeats 4000000 in
theorem l6_pay0 {g : jG} {d : Nat} {h : jH} {Q : kQ} (hR : MR h) (kx : K g (d + 2) YX6_pays (h) 36 [(0, .ref 131), (1, .int (nI (smF (zF (npF (ix (h 131 2)) (pg h 0)) (ix (h 131 2))) (ix (h 131 2))))), (2, .int (nI (ix (h 131 2))))] [] Q) : ∀ (mm k : Nat) , k ≤ (ix (h 131 2)) → (ix (h 131 2)) < k + mm → K g (d + 2) YX6_pays (h) 4 [(0, .ref 131), (1, .int (nI (smF (zF (npF (ix (h 131 2)) (pg h 0)) (ix (h 131 2))) k))), (2, .int (nI k))] [] Q := by
  intro mm
  induction mm with
  | zero => intro k  hk1 hk2 ; omega
  | succ mm ih =>
    intro k  hk1 hk2 
    have hR0 := hR
    have hG : GD (ix (h 131 2)) (pg h 0) := hR.2.1
    obtain ⟨r1, ⟨⟨v1, v2, v3, v4⟩, v5, v6, v7, v8, v9, va, vb, vc, vd⟩, r3, r4, ⟨r5, r6⟩, r7, r8, r9, ra⟩ := hR
    have hn := r1.1
    have hn4 := v1
    have n5 := r1.2
    have c6 : ix (h 132 37) < 6 := v3.2
    have p9 : ix (h 132 51) < 9 := v5.2
    have p9' : ix (pg h 0 51) < 9 := v5.2
    have sl : (smF (zF (npF (ix (h 131 2)) (pg h 0)) (ix (h 131 2))) k) < 16 := Nat.lt_of_lt_of_le (smF_lt (z := (zF (npF (ix (h 131 2)) (pg h 0)) (ix (h 131 2)))) (n := k) (by omega)) (Nat.le_trans (Nat.pow_le_pow_right (by omega) (show k ≤ 4 by omega)) (by decide))
    have e131 : h 131 = h 131 := rfl
    have e132 : h 132 = h 132 := rfl
    refine J_iload_n (pc := 4) dX6_pays_4 rfl ?_
    refine J_aload_n (pc := 5) dX6_pays_5 rfl ?_
    refine J_getI (pc := 6) dX6_pays_6 fX6_148 sh131 rfl (hn) ?_
    refine J_icmp_ge (pc := 9) (tgt := 36) dX6_pays_9 (by decide) (fun c9 => ?_) (fun c9 => ?_)
    · skip
      have q9 : (ix (h 131 2)) ≤ k := (nI_leI (by omega) (by omega)).mp c9
      have e_k : k = (ix (h 131 2)) := by omega
      refine J_ls (ls' := [(0, .ref 131), (1, .int (nI (smF (zF (npF (ix (h 131 2)) (pg h 0)) (ix (h 131 2))) k))), (2, .int (nI k))]) ⟨rfl, rfl, rfl, trivial⟩ ?_
      rw [e_k]
      exact kx
    · skip
      have q9 : k < (ix (h 131 2)) := Nat.lt_of_not_le (fun z => c9 ((nI_leI (by omega) (by omega)).mpr z))
      refine J_iload_n (pc := 12) dX6_pays_12 rfl ?_
      refine J_aload_n (pc := 13) dX6_pays_13 rfl ?_
      refine J_iload_n (pc := 14) dX6_pays_14 rfl ?_
      refine K_Vi1 (pc := 15) (Y' := YX6_netOf) dX6_pays_15 lX6_256 mX6_netOf vX6_netOf ⟨_, _, rfl⟩ sh131 (Nat.le_of_ble_eq_true rfl) (c6_netOf (n := (ix (h 131 2))) (p := k) hn hn4 (by omega)) ?_
      rintro r h0 ⟨e0, rfl⟩
      rw [e0]
      clear e0 h0
      refine J_if_eq (pc := 18) (tgt := 27) dX6_pays_18 (by decide) (fun c18 => ?_) (fun c18 => ?_)
      · skip
        refine J_iconst (pc := 27) (v := nI 0) dX6_pays_27 (by decide) ?_
        refine J_ior (pc := 28) dX6_pays_28 (rfl) ?_
        refine J_istore_n (pc := 29) dX6_pays_29 (by decide) ?_
        refine J_iinc (pc := 30) dX6_pays_30 rfl (v := nI (k + 1)) (by exact nI_add _ _) (by decide) ?_
        refine J_goto (pc := 33) (tgt := 4) dX6_pays_33 (by decide) ?_
        have zz : (zF (npF (ix (h 131 2)) (pg h 0)) (ix (h 131 2))) (2 ^ k) = true := by
          unfold zF
          rw [sumB_1 hn4 q9]
          exact decide_eq_true c18
        have i := ih (k + 1) (by omega) (by omega)
        rw [show smF (zF (npF (ix (h 131 2)) (pg h 0)) (ix (h 131 2))) (k + 1) = smF (zF (npF (ix (h 131 2)) (pg h 0)) (ix (h 131 2))) k from by rw [smF, zz]; rfl] at i
        refine J_ls ?_ i
        exact ⟨rfl, congrArg (fun z => some (Value.int z)) (or0 _), rfl, trivial⟩
      · skip
        refine J_iconst (pc := 21) (v := nI 1) dX6_pays_21 (by decide) ?_
        refine J_iload_n (pc := 22) dX6_pays_22 rfl ?_
        refine J_ishl (pc := 23) dX6_pays_23 (rfl) ?_
        refine J_goto (pc := 24) (tgt := 28) dX6_pays_24 (by decide) ?_
        refine J_ior (pc := 28) dX6_pays_28 (rfl) ?_
        refine J_istore_n (pc := 29) dX6_pays_29 (by decide) ?_
        refine J_iinc (pc := 30) dX6_pays_30 rfl (v := nI (k + 1)) (by exact nI_add _ _) (by decide) ?_
        refine J_goto (pc := 33) (tgt := 4) dX6_pays_33 (by decide) ?_
        have zz : (zF (npF (ix (h 131 2)) (pg h 0)) (ix (h 131 2))) (2 ^ k) = false := by
          unfold zF
          rw [sumB_1 hn4 q9]
          exact decide_eq_false c18
        have i := ih (k + 1) (by omega) (by omega)
        rw [show smF (zF (npF (ix (h 131 2)) (pg h 0)) (ix (h 131 2))) (k + 1) = smF (zF (npF (ix (h 131 2)) (pg h 0)) (ix (h 131 2))) k ||| 2 ^ k from by rw [smF, zz]; rfl] at i
        refine J_ls ?_ i
        exact ⟨rfl, congrArg (fun z => some (Value.int z)) ((or16 k (by omega) _ (by omega)).1), rfl, trivial⟩
set_option maxHeartbeats 4000000 in
theorem l6_pay2 {g : jG} {d : Nat} {h : jH} {Q : kQ} {x : Int32} {s : Nat} (hR : MR h) (hs : s < 2 ^ ix (h 131 2)) (kx : K g (d + 2) YX6_pays (j_up (rwH h 138 (gRf (zF (npF (ix (h 131 2)) (pg h 0)) (ix (h 131 2))) s) s) 138 s (nI (rIn (zF (npF (ix (h 131 2)) (pg h 0)) (ix (h 131 2))) (gRf (zF (npF (ix (h 131 2)) (pg h 0)) (ix (h 131 2))) s) s s))) 144 [(0, .ref 131), (1, .int x), (2, .int (nI s)), (3, .int (nI (s + 1)))] [] Q) : ∀ (mm k : Nat) , k ≤ s → s < k + mm → K g (d + 2) YX6_pays (j_up (rwH h 138 (gRf (zF (npF (ix (h 131 2)) (pg h 0)) (ix (h 131 2))) s) s) 138 s (nI (rIn (zF (npF (ix (h 131 2)) (pg h 0)) (ix (h 131 2))) (gRf (zF (npF (ix (h 131 2)) (pg h 0)) (ix (h 131 2))) s) s k))) 57 [(0, .ref 131), (1, .int x), (2, .int (nI s)), (3, .int (nI (k + 1)))] [] Q := by
  intro mm
  induction mm with
  | zero => intro k  hk1 hk2 ; omega
  | succ mm ih =>
    intro k  hk1 hk2 
    have hR0 := hR
    have hG : GD (ix (h 131 2)) (pg h 0) := hR.2.1
    obtain ⟨r1, ⟨⟨v1, v2, v3, v4⟩, v5, v6, v7, v8, v9, va, vb, vc, vd⟩, r3, r4, ⟨r5, r6⟩, r7, r8, r9, ra⟩ := hR
    have hn := r1.1
    have hn4 := v1
    have n5 := r1.2
    have c6 : ix (h 132 37) < 6 := v3.2
    have p9 : ix (h 132 51) < 9 := v5.2
    have p9' : ix (pg h 0 51) < 9 := v5.2
    have p2 := p2_b hn4
    have rl := rIn_le (z := (zF (npF (ix (h 131 2)) (pg h 0)) (ix (h 131 2)))) (a := s) (gRf_le (z := (zF (npF (ix (h 131 2)) (pg h 0)) (ix (h 131 2)))) s) k
    have gl := gRf_le (z := (zF (npF (ix (h 131 2)) (pg h 0)) (ix (h 131 2)))) s (s &&& (15 ^^^ (k + 1)))
    have e131 : (j_up (rwH h 138 (gRf (zF (npF (ix (h 131 2)) (pg h 0)) (ix (h 131 2))) s) s) 138 s (nI (rIn (zF (npF (ix (h 131 2)) (pg h 0)) (ix (h 131 2))) (gRf (zF (npF (ix (h 131 2)) (pg h 0)) (ix (h 131 2))) s) s k))) 131 = h 131 := (j_up_ne 131 (by omega)).trans (funext fun j => rwH_o (by omega))
    have e132 : (j_up (rwH h 138 (gRf (zF (npF (ix (h 131 2)) (pg h 0)) (ix (h 131 2))) s) s) 138 s (nI (rIn (zF (npF (ix (h 131 2)) (pg h 0)) (ix (h 131 2))) (gRf (zF (npF (ix (h 131 2)) (pg h 0)) (ix (h 131 2))) s) s k))) 132 = h 132 := (j_up_ne 132 (by omega)).trans (funext fun j => rwH_o (by omega))
    refine J_iload_n (pc := 57) dX6_pays_57 rfl ?_
    refine J_iload_n (pc := 58) dX6_pays_58 rfl ?_
    refine J_icmp_gt (pc := 59) (tgt := 144) dX6_pays_59 (by decide) (fun c59 => ?_) (fun c59 => ?_)
    · skip
      have q59 : s < k + 1 := (nI_ltI (by omega) (by omega)).mp c59
      have e_k : k = s := by omega
      refine J_ls (ls' := [(0, .ref 131), (1, .int x), (2, .int (nI s)), (3, .int (nI (k + 1)))]) ⟨rfl, rfl, rfl, rfl, trivial⟩ ?_
      rw [e_k]
      exact kx
    · skip
      have q59 : ¬ s < k + 1 := fun z => c59 ((nI_ltI (by omega) (by omega)).mpr z)
      have al := (and16 (k + 1) (by omega) s (by omega)).2
      refine J_iload_n (pc := 62) dX6_pays_62 rfl ?_
      refine J_iload_n (pc := 63) dX6_pays_63 rfl ?_
      refine J_iconst (pc := 64) (v := -1) dX6_pays_64 (by decide) ?_
      refine J_ixor (pc := 65) dX6_pays_65 (rfl) ?_
      refine J_iand (pc := 66) dX6_pays_66 ((and16 (k + 1) (by omega) s (by omega)).1) ?_
      refine J_if_ne (pc := 67) (tgt := 82) dX6_pays_67 (by decide) (fun c67 => ?_) (fun c67 => ?_)
      · skip
        have q67 : ¬ (k + 1) &&& (15 ^^^ s) = 0 := fun z => c67 (congrArg nI z)
        refine J_iconst (pc := 82) (v := nI 0) dX6_pays_82 (by decide) ?_
        refine J_istore (pc := 83) dX6_pays_83 (by decide) ?_
        refine J_aload_n (pc := 85) dX6_pays_85 rfl ?_
        refine J_getR (pc := 86) dX6_pays_86 fX6_28 sh131 rfl ?_
        refine J_iload_n (pc := 89) dX6_pays_89 rfl ?_
        refine J_iload (pc := 90) dX6_pays_90 rfl ?_
        refine J_if_eq (pc := 92) (tgt := 131) dX6_pays_92 (by decide) (fun _ => ?_) (fun c => absurd c (by decide))
        refine J_aload_n (pc := 131) dX6_pays_131 rfl ?_
        refine J_getR (pc := 132) dX6_pays_132 fX6_28 sh131 rfl ?_
        refine J_iload_n (pc := 135) dX6_pays_135 rfl ?_
        refine J_iald (pc := 136) dX6_pays_136 sh138 (rfl) (by omega) (j_up_s) (by decide) ?_
        refine J_iast (pc := 137) dX6_pays_137 sh138 (rfl) (by omega) (by decide) ?_
        refine J_iinc (pc := 138) dX6_pays_138 rfl (v := nI ((k + 1) + 1)) (by exact nI_add _ _) (by decide) ?_
        refine J_goto (pc := 141) (tgt := 57) dX6_pays_141 (by decide) ?_
        have i := ih (k + 1) (by omega) (by omega)
        rw [show (rIn (zF (npF (ix (h 131 2)) (pg h 0)) (ix (h 131 2))) (gRf (zF (npF (ix (h 131 2)) (pg h 0)) (ix (h 131 2))) s) s (k + 1)) = (rIn (zF (npF (ix (h 131 2)) (pg h 0)) (ix (h 131 2))) (gRf (zF (npF (ix (h 131 2)) (pg h 0)) (ix (h 131 2))) s) s k) from if_neg (fun z => q67 z.1)] at i
        rw [up_up]
        refine J_ls ?_ i
        exact ⟨rfl, rfl, rfl, rfl, trivial⟩
      · skip
        have q67 : (k + 1) &&& (15 ^^^ s) = 0 := (nI_eq (b := 0) (by omega) (by omega)).mp c67
        have slt := sub_lt s (by omega) (k + 1) (by omega) (by omega) q67
        refine J_aload_n (pc := 70) dX6_pays_70 rfl ?_
        refine J_iload_n (pc := 71) dX6_pays_71 rfl ?_
        refine K_Vi1 (pc := 72) (Y' := YX6_netOfSome) dX6_pays_72 lX6_259 mX6_netOfSome vX6_netOfSome ⟨_, _, rfl⟩ sh131 (Nat.le_of_ble_eq_true rfl) (c6_netOfSome hR0 (by omega) e131 e132) ?_
        rintro r h0 ⟨e0, rfl⟩
        rw [e0]
        clear e0 h0
        refine J_if_ne (pc := 75) (tgt := 82) dX6_pays_75 (by decide) (fun c75 => ?_) (fun c75 => ?_)
        · skip
          refine J_iconst (pc := 82) (v := nI 0) dX6_pays_82 (by decide) ?_
          refine J_istore (pc := 83) dX6_pays_83 (by decide) ?_
          refine J_aload_n (pc := 85) dX6_pays_85 rfl ?_
          refine J_getR (pc := 86) dX6_pays_86 fX6_28 sh131 rfl ?_
          refine J_iload_n (pc := 89) dX6_pays_89 rfl ?_
          refine J_iload (pc := 90) dX6_pays_90 rfl ?_
          refine J_if_eq (pc := 92) (tgt := 131) dX6_pays_92 (by decide) (fun _ => ?_) (fun c => absurd c (by decide))
          refine J_aload_n (pc := 131) dX6_pays_131 rfl ?_
          refine J_getR (pc := 132) dX6_pays_132 fX6_28 sh131 rfl ?_
          refine J_iload_n (pc := 135) dX6_pays_135 rfl ?_
          refine J_iald (pc := 136) dX6_pays_136 sh138 (rfl) (by omega) (j_up_s) (by decide) ?_
          refine J_iast (pc := 137) dX6_pays_137 sh138 (rfl) (by omega) (by decide) ?_
          refine J_iinc (pc := 138) dX6_pays_138 rfl (v := nI ((k + 1) + 1)) (by exact nI_add _ _) (by decide) ?_
          refine J_goto (pc := 141) (tgt := 57) dX6_pays_141 (by decide) ?_
          have zt : (zF (npF (ix (h 131 2)) (pg h 0)) (ix (h 131 2))) (k + 1) = false := decide_eq_false c75
          have i := ih (k + 1) (by omega) (by omega)
          rw [show (rIn (zF (npF (ix (h 131 2)) (pg h 0)) (ix (h 131 2))) (gRf (zF (npF (ix (h 131 2)) (pg h 0)) (ix (h 131 2))) s) s (k + 1)) = (rIn (zF (npF (ix (h 131 2)) (pg h 0)) (ix (h 131 2))) (gRf (zF (npF (ix (h 131 2)) (pg h 0)) (ix (h 131 2))) s) s k) from if_neg (fun z => absurd z.2.1 (by rw [zt]; decide))] at i
          rw [up_up]
          refine J_ls ?_ i
          exact ⟨rfl, rfl, rfl, rfl, trivial⟩
        · skip
          refine J_iconst (pc := 78) (v := nI 1) dX6_pays_78 (by decide) ?_
          refine J_goto (pc := 79) (tgt := 83) dX6_pays_79 (by decide) ?_
          refine J_istore (pc := 83) dX6_pays_83 (by decide) ?_
          refine J_aload_n (pc := 85) dX6_pays_85 rfl ?_
          refine J_getR (pc := 86) dX6_pays_86 fX6_28 sh131 rfl ?_
          refine J_iload_n (pc := 89) dX6_pays_89 rfl ?_
          refine J_iload (pc := 90) dX6_pays_90 rfl ?_
          refine J_if_eq (pc := 92) (tgt := 131) dX6_pays_92 (by decide) (fun c => absurd c (by decide)) (fun _ => ?_)
          refine J_aload_n (pc := 95) dX6_pays_95 rfl ?_
          refine J_getR (pc := 96) dX6_pays_96 fX6_28 sh131 rfl ?_
          refine J_iload_n (pc := 99) dX6_pays_99 rfl ?_
          refine J_iload_n (pc := 100) dX6_pays_100 rfl ?_
          refine J_iconst (pc := 101) (v := -1) dX6_pays_101 (by decide) ?_
          refine J_ixor (pc := 102) dX6_pays_102 (rfl) ?_
          refine J_iand (pc := 103) dX6_pays_103 ((and16 s (by omega) (k + 1) (by omega)).1) ?_
          refine J_iald (pc := 104) dX6_pays_104 sh138 (rfl) (by omega) ((j_up_o (by omega)).trans (rwH_at slt)) (by decide) ?_
          refine J_iconst (pc := 105) (v := nI 1) dX6_pays_105 (by decide) ?_
          refine J_iadd (pc := 106) dX6_pays_106 (nI_add _ _) ?_
          refine J_aload_n (pc := 107) dX6_pays_107 rfl ?_
          refine J_getR (pc := 108) dX6_pays_108 fX6_28 sh131 rfl ?_
          refine J_iload_n (pc := 111) dX6_pays_111 rfl ?_
          refine J_iald (pc := 112) dX6_pays_112 sh138 (rfl) (by omega) (j_up_s) (by decide) ?_
          refine J_icmp_le (pc := 113) (tgt := 131) dX6_pays_113 (by decide) (fun c113 => ?_) (fun c113 => ?_)
          · skip
            refine J_aload_n (pc := 131) dX6_pays_131 rfl ?_
            refine J_getR (pc := 132) dX6_pays_132 fX6_28 sh131 rfl ?_
            refine J_iload_n (pc := 135) dX6_pays_135 rfl ?_
            refine J_iald (pc := 136) dX6_pays_136 sh138 (rfl) (by omega) (j_up_s) (by decide) ?_
            refine J_iast (pc := 137) dX6_pays_137 sh138 (rfl) (by omega) (by decide) ?_
            refine J_iinc (pc := 138) dX6_pays_138 rfl (v := nI ((k + 1) + 1)) (by exact nI_add _ _) (by decide) ?_
            refine J_goto (pc := 141) (tgt := 57) dX6_pays_141 (by decide) ?_
            have zt : (zF (npF (ix (h 131 2)) (pg h 0)) (ix (h 131 2))) (k + 1) = true := decide_eq_true c75
            have q113 := (nI_leI (by omega) (by omega)).mp c113
            have i := ih (k + 1) (by omega) (by omega)
            rw [show (rIn (zF (npF (ix (h 131 2)) (pg h 0)) (ix (h 131 2))) (gRf (zF (npF (ix (h 131 2)) (pg h 0)) (ix (h 131 2))) s) s (k + 1)) = (rIn (zF (npF (ix (h 131 2)) (pg h 0)) (ix (h 131 2))) (gRf (zF (npF (ix (h 131 2)) (pg h 0)) (ix (h 131 2))) s) s k) from if_neg (fun z => by omega)] at i
            rw [up_up]
            refine J_ls ?_ i
            exact ⟨rfl, rfl, rfl, rfl, trivial⟩
          · skip
            refine J_aload_n (pc := 116) dX6_pays_116 rfl ?_
            refine J_getR (pc := 117) dX6_pays_117 fX6_28 sh131 rfl ?_
            refine J_iload_n (pc := 120) dX6_pays_120 rfl ?_
            refine J_iload_n (pc := 121) dX6_pays_121 rfl ?_
            refine J_iconst (pc := 122) (v := -1) dX6_pays_122 (by decide) ?_
            refine J_ixor (pc := 123) dX6_pays_123 (rfl) ?_
            refine J_iand (pc := 124) dX6_pays_124 ((and16 s (by omega) (k + 1) (by omega)).1) ?_
            refine J_iald (pc := 125) dX6_pays_125 sh138 (rfl) (by omega) ((j_up_o (by omega)).trans (rwH_at slt)) (by decide) ?_
            refine J_iconst (pc := 126) (v := nI 1) dX6_pays_126 (by decide) ?_
            refine J_iadd (pc := 127) dX6_pays_127 (nI_add _ _) ?_
            refine J_goto (pc := 128) (tgt := 137) dX6_pays_128 (by decide) ?_
            refine J_iast (pc := 137) dX6_pays_137 sh138 (rfl) (by omega) (by decide) ?_
            refine J_iinc (pc := 138) dX6_pays_138 rfl (v := nI ((k + 1) + 1)) (by exact nI_add _ _) (by decide) ?_
            refine J_goto (pc := 141) (tgt := 57) dX6_pays_141 (by decide) ?_
            have zt : (zF (npF (ix (h 131 2)) (pg h 0)) (ix (h 131 2))) (k + 1) = true := decide_eq_true c75
            have q113 : ¬ (gRf (zF (npF (ix (h 131 2)) (pg h 0)) (ix (h 131 2))) s) (s &&& (15 ^^^ (k + 1))) + 1 ≤ (rIn (zF (npF (ix (h 131 2)) (pg h 0)) (ix (h 131 2))) (gRf (zF (npF (ix (h 131 2)) (pg h 0)) (ix (h 131 2))) s) s k) := fun z => c113 ((nI_leI (by omega) (by omega)).mpr z)
            have i := ih (k + 1) (by omega) (by omega)
            rw [show (rIn (zF (npF (ix (h 131 2)) (pg h 0)) (ix (h 131 2))) (gRf (zF (npF (ix (h 131 2)) (pg h 0)) (ix (h 131 2))) s) s (k + 1)) = (gRf (zF (npF (ix (h 131 2)) (pg h 0)) (ix (h 131 2))) s) (s &&& (15 ^^^ (k + 1))) + 1 from if_pos ⟨q67, zt, by omega⟩] at i
            rw [up_up]
            refine J_ls ?_ i
            exact ⟨rfl, rfl, rfl, rfl, trivial⟩
set_option maxHeartbeats 4000000 in
theorem l6_pay1 {g : jG} {d : Nat} {h : jH} {Q : kQ} {x : Int32} (hR : MR h) (kx : K g (d + 2) YX6_pays (rwH h 138 (gRf (zF (npF (ix (h 131 2)) (pg h 0)) (ix (h 131 2))) (2 ^ (ix (h 131 2)))) (2 ^ (ix (h 131 2)))) 150 [(0, .ref 131), (1, .int x), (2, .int (nI (2 ^ (ix (h 131 2)))))] [] Q) : ∀ (mm k : Nat) , k ≤ (2 ^ (ix (h 131 2))) → (2 ^ (ix (h 131 2))) < k + mm → K g (d + 2) YX6_pays (rwH h 138 (gRf (zF (npF (ix (h 131 2)) (pg h 0)) (ix (h 131 2))) k) k) 38 [(0, .ref 131), (1, .int x), (2, .int (nI k))] [] Q := by
  intro mm
  induction mm with
  | zero => intro k  hk1 hk2 ; omega
  | succ mm ih =>
    intro k  hk1 hk2 
    have hR0 := hR
    have hG : GD (ix (h 131 2)) (pg h 0) := hR.2.1
    obtain ⟨r1, ⟨⟨v1, v2, v3, v4⟩, v5, v6, v7, v8, v9, va, vb, vc, vd⟩, r3, r4, ⟨r5, r6⟩, r7, r8, r9, ra⟩ := hR
    have hn := r1.1
    have hn4 := v1
    have n5 := r1.2
    have c6 : ix (h 132 37) < 6 := v3.2
    have p9 : ix (h 132 51) < 9 := v5.2
    have p9' : ix (pg h 0 51) < 9 := v5.2
    have p2 := p2_b hn4
    refine J_iload_n (pc := 38) dX6_pays_38 rfl ?_
    refine J_iconst (pc := 39) (v := nI 1) dX6_pays_39 (by decide) ?_
    refine J_aload_n (pc := 40) dX6_pays_40 rfl ?_
    refine J_getI (pc := 41) dX6_pays_41 fX6_148 sh131 rfl ((rwH_o (by omega)).trans hn) ?_
    refine J_ishl (pc := 44) dX6_pays_44 (shl_n hn4) ?_
    refine J_icmp_ge (pc := 45) (tgt := 150) dX6_pays_45 (by decide) (fun c45 => ?_) (fun c45 => ?_)
    · skip
      have q45 : (2 ^ (ix (h 131 2))) ≤ k := (nI_leI (by omega) (by omega)).mp c45
      have e_k : k = (2 ^ (ix (h 131 2))) := by omega
      refine J_ls (ls' := [(0, .ref 131), (1, .int x), (2, .int (nI k))]) ⟨rfl, rfl, rfl, trivial⟩ ?_
      rw [e_k]
      exact kx
    · skip
      have q45 : k < (2 ^ (ix (h 131 2))) := Nat.lt_of_not_le (fun z => c45 ((nI_leI (by omega) (by omega)).mpr z))
      refine J_aload_n (pc := 48) dX6_pays_48 rfl ?_
      refine J_getR (pc := 49) dX6_pays_49 fX6_28 sh131 rfl ?_
      refine J_iload_n (pc := 52) dX6_pays_52 rfl ?_
      refine J_iconst (pc := 53) (v := nI 0) dX6_pays_53 (by decide) ?_
      refine J_iast (pc := 54) dX6_pays_54 sh138 (rfl) (by omega) (by decide) ?_
      refine J_iconst (pc := 55) (v := nI 1) dX6_pays_55 (by decide) ?_
      refine J_istore_n (pc := 56) dX6_pays_56 (by decide) ?_
      refine J_ls (ls' := [(0, .ref 131), (1, .int x), (2, .int (nI k)), (3, .int (nI (0 + 1)))]) ⟨rfl, rfl, rfl, rfl, trivial⟩ ?_
      refine l6_pay2 (s := k) hR0 (by omega) ?_ (k + 1) 0 (Nat.zero_le _) (by omega)
      rw [rwH_up (G' := (gRf (zF (npF (ix (h 131 2)) (pg h 0)) (ix (h 131 2))) (k + 1))) (fun j hj => (if_neg (by omega) : (gRf (zF (npF (ix (h 131 2)) (pg h 0)) (ix (h 131 2))) (k + 1)) j = (gRf (zF (npF (ix (h 131 2)) (pg h 0)) (ix (h 131 2))) k) j)) (if_pos rfl : (gRf (zF (npF (ix (h 131 2)) (pg h 0)) (ix (h 131 2))) (k + 1)) k = rIn (zF (npF (ix (h 131 2)) (pg h 0)) (ix (h 131 2))) (gRf (zF (npF (ix (h 131 2)) (pg h 0)) (ix (h 131 2))) k) k k)]
      refine J_iinc (pc := 144) dX6_pays_144 rfl (v := nI (k + 1)) (by exact nI_add _ _) (by decide) ?_
      refine J_goto (pc := 147) (tgt := 38) dX6_pays_147 (by decide) ?_
      exact J_ls (ls' := [(0, .ref 131), (1, .int x), (2, .int (nI (k + 1)))]) ⟨rfl, rfl, rfl, trivial⟩ (ih (k + 1) (by omega) (by omega))
set_option maxHeartbeats 4000000 in
theorem c6_pays {g : jG} {d : Nat} {h : jH} (hR : MR h) : Mi g (d + 3) YX6_pays h [.ref 131] (fun r h' => r = (oPays h ).1 ∧ sameP (oPays h ).2 h' ∧ lo h h') := by
  refine M.of (by decide) rfl (Nat.le_of_ble_eq_true rfl) ?_
  have hR0 := hR
  have hG : GD (ix (h 131 2)) (pg h 0) := hR.2.1
  obtain ⟨r1, ⟨⟨v1, v2, v3, v4⟩, v5, v6, v7, v8, v9, va, vb, vc, vd⟩, r3, r4, ⟨r5, r6⟩, r7, r8, r9, ra⟩ := hR
  have hn := r1.1
  have hn4 := v1
  have n5 := r1.2
  have c6 : ix (h 132 37) < 6 := v3.2
  have p9 : ix (h 132 51) < 9 := v5.2
  have p9' : ix (pg h 0 51) < 9 := v5.2
  refine J_iconst (pc := 0) (v := nI 0) dX6_pays_0 (by decide) ?_
  refine J_istore_n (pc := 1) dX6_pays_1 (by decide) ?_
  refine J_iconst (pc := 2) (v := nI 0) dX6_pays_2 (by decide) ?_
  refine J_istore_n (pc := 3) dX6_pays_3 (by decide) ?_
  refine J_ls (ls' := [(0, .ref 131), (1, .int (nI (smF (zF (npF (ix (h 131 2)) (pg h 0)) (ix (h 131 2))) 0))), (2, .int (nI 0))]) ⟨rfl, rfl, rfl, trivial⟩ ?_
  refine l6_pay0 hR0 ?_ ((ix (h 131 2)) + 1) 0 (Nat.zero_le _) (by omega)
  have p2 := p2_b hn4
  have sl := smF_lt (z := (zF (npF (ix (h 131 2)) (pg h 0)) (ix (h 131 2)))) hn4
  refine J_iconst (pc := 36) (v := nI 0) dX6_pays_36 (by decide) ?_
  refine J_istore_n (pc := 37) dX6_pays_37 (by decide) ?_
  refine J_h (h' := rwH h 138 (gRf (zF (npF (ix (h 131 2)) (pg h 0)) (ix (h 131 2))) 0) 0) (by
    funext b j
    exact (if_neg (by omega)).symm) ?_
  refine J_ls (ls' := [(0, .ref 131), (1, .int (nI (smF (zF (npF (ix (h 131 2)) (pg h 0)) (ix (h 131 2))) (ix (h 131 2))))), (2, .int (nI 0))]) ⟨rfl, rfl, rfl, trivial⟩ ?_
  refine l6_pay1 hR0 ?_ (2 ^ (ix (h 131 2)) + 1) 0 (Nat.zero_le _) (by omega)
  refine J_iload_n (pc := 150) dX6_pays_150 rfl ?_
  refine K_Si1 (pc := 151) (Y' := YX6_bitsOf) dX6_pays_151 lX6_241 mX6_bitsOf sX6_bitsOf (Nat.le_of_ble_eq_true rfl) (c6_bitsOf) ?_
  rintro r h1 ⟨e0, e1⟩
  rw [e0, e1, bits_pop _ (by omega)]
  clear e0 e1 h1
  refine J_aload_n (pc := 154) dX6_pays_154 rfl ?_
  refine J_getR (pc := 155) dX6_pays_155 fX6_28 sh131 rfl ?_
  refine J_iload_n (pc := 158) dX6_pays_158 rfl ?_
  refine J_iald (pc := 159) dX6_pays_159 sh138 (rfl) (by omega) (rwH_at sl) (by decide) ?_
  refine J_isub (pc := 160) dX6_pays_160 (rfl) ?_
  refine K_iret (pc := 161) dX6_pays_161 rfl ?_
  refine ⟨?_, ⟨fun k hk => rwH_o (by omega), fun k hk => rwH_o (by omega), fun b hb => funext fun k => rwH_o (by omega)⟩, fun b hb => funext fun k => rwH_o (by omega)⟩
  have pe := pays_n (f := (npF (ix (h 131 2)) (pg h 0))) hn4 (net_sum hn4)
  have g1 := gRf_le (z := (zF (npF (ix (h 131 2)) (pg h 0)) (ix (h 131 2)))) (2 ^ (ix (h 131 2))) (smF (zF (npF (ix (h 131 2)) (pg h 0)) (ix (h 131 2))) (ix (h 131 2)))
  have g2 := gCl_le (z := (zF (npF (ix (h 131 2)) (pg h 0)) (ix (h 131 2)))) (n := (ix (h 131 2))) (2 ^ (ix (h 131 2))) (2 ^ (ix (h 131 2)) - 1)
  have g3 := pop_4 (smF (zF (npF (ix (h 131 2)) (pg h 0)) (ix (h 131 2))) (ix (h 131 2))) (by omega)
  show nI (pop (smF (zF (npF (ix (h 131 2)) (pg h 0)) (ix (h 131 2))) (ix (h 131 2)))) - nI ((gRf (zF (npF (ix (h 131 2)) (pg h 0)) (ix (h 131 2))) (2 ^ (ix (h 131 2)))) (smF (zF (npF (ix (h 131 2)) (pg h 0)) (ix (h 131 2))) (ix (h 131 2)))) = nI (ix (h 131 2)) - nI (gCl (zF (npF (ix (h 131 2)) (pg h 0)) (ix (h 131 2))) (ix (h 131 2)) (2 ^ (ix (h 131 2))) (2 ^ (ix (h 131 2)) - 1))
  rw [i_eq, pk_sub_toInt (by omega) (by omega), pk_sub_toInt (by omega) (by omega)]
  omega
