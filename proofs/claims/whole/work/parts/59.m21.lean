theorem mx_if {x y : Nat} (hx : x < 2 ^ 31) (hy : y < 2 ^ 31) : (if nI x < nI y then nI y else nI x) = nI (max x y) := by
  by_cases z : x < y
  · rw [if_pos ((nI_ltI hx hy).mpr z), Nat.max_eq_right (by omega)]
  · rw [if_neg (fun w => z ((nI_ltI hx hy).mp w)), Nat.max_eq_left (by omega)]
set_option maxHeartbeats 4000000 in
theorem c0_purseWithin {g : jG} {d : Nat} {h : jH} {n p m c : Nat} {P : Nat → Int32} (hn : n ≤ 4) (hp : p < n) (hm : m ≤ 4) (hc : c < 256) (hN : ∀ l c, l ≤ 4 → c < 4 ^ l → nd n h (fst4 l + c) (skP n P l c)) : Mi g (d + 1) YX0_purseWithin h [.ref 59, .int (nI c), .int (nI p), .int (nI m)] (fun r h' => h' = h ∧ r = pw n P c p m) := by
  refine M.of (by decide) rfl (Nat.le_of_ble_eq_true rfl) ?_
  refine J_aload_n (pc := 0) dX0_purseWithin_0 rfl ?_
  refine J_iload_n (pc := 1) dX0_purseWithin_1 rfl ?_
  refine J_iload_n (pc := 2) dX0_purseWithin_2 rfl ?_
  refine J_iload_n (pc := 3) dX0_purseWithin_3 rfl ?_
  refine J_iconst (pc := 4) (v := nI 2) dX0_purseWithin_4 (by decide) ?_
  refine J_iconst (pc := 5) (v := nI 4) dX0_purseWithin_5 (by decide) ?_
  refine J_iload_n (pc := 6) dX0_purseWithin_6 rfl ?_
  refine J_isub (pc := 7) dX0_purseWithin_7 (pk_sub hm) ?_
  refine J_imul (pc := 8) dX0_purseWithin_8 (pk_mul _ _) ?_
  refine J_ishr (pc := 9) dX0_purseWithin_9 (shr4 (by omega) (by omega)) ?_
  refine K_Vi3 (pc := 10) (Y' := YX0_purseBehind) dX0_purseWithin_10 lX0_62 mX0_purseBehind vX0_purseBehind ⟨_, _, rfl⟩ sh59 (Nat.le_of_ble_eq_true rfl) (c0_purseBehind hn hp hm (pw_lt hc hm) (hN _ _ hm (pw_lt hc hm))) ?_
  rintro r h0 ⟨e0, rfl⟩
  rw [e0]
  clear e0 h0
  refine K_iret (pc := 13) dX0_purseWithin_13 rfl ?_
  exact ⟨rfl, rfl⟩
set_option maxHeartbeats 4000000 in
theorem l0_seen {g : jG} {d : Nat} {h : jH} {Q : kQ} {n c s : Nat} {P sn : Nat → Int32} (hn : n ≤ 4) (hc : c < 256) (hs : h 81 0 = nI s) (hs7 : s < 7) (hd : ∀ i, i < s → h 82 i = sn (3 * i) ∧ h 83 i = sn (3 * i + 1) ∧ h 84 i = sn (3 * i + 2) ∧ nb n (sn (3 * i)) ∧ nb 5 (sn (3 * i + 1))) (hN : ∀ l c, l ≤ 4 → c < 4 ^ l → nd n h (fst4 l + c) (skP n P l c)) (kr : ¬ asF n P sn c s = true → K g (d + 2) YX0_isAsSeen h 36 [(0, .ref 59)] [] Q) (kx : ∀ (_u : Unit), asF n P sn c s = true → K g (d + 2) YX0_isAsSeen (h) 44 [(0, .ref 59), (1, .int (nI c)), (2, .ref 81), (3, .int (nI s))] [] Q) : ∀ (mm k : Nat) (_u : Unit), k ≤ s → s < k + mm → asF n P sn c k = true → K g (d + 2) YX0_isAsSeen (h) 2 [(0, .ref 59), (1, .int (nI c)), (2, .ref 81), (3, .int (nI k))] [] Q := by
  intro mm
  induction mm with
  | zero => intro k _u hk1 hk2 hI; omega
  | succ mm ih =>
    intro k _u hk1 hk2 hI
    refine J_iload_n (pc := 2) dX0_isAsSeen_2 rfl ?_
    refine J_aload_n (pc := 3) dX0_isAsSeen_3 rfl ?_
    refine J_getI (pc := 4) dX0_isAsSeen_4 fX0_137 sh81 rfl (hs) ?_
    refine J_icmp_ge (pc := 7) (tgt := 44) dX0_isAsSeen_7 (by decide) (fun c7 => ?_) (fun c7 => ?_)
    · skip
      have q7 : s ≤ k := (nI_leI (by omega) (by omega)).mp c7
      have e_k : k = s := by omega
      refine J_ls (ls' := [(0, .ref 59), (1, .int (nI c)), (2, .ref 81), (3, .int (nI k))]) ⟨rfl, rfl, rfl, rfl, trivial⟩ ?_
      rw [e_k] at hI ⊢
      exact kx _u hI
    · skip
      have q7 : k < s := Nat.lt_of_not_le (fun z => c7 ((nI_leI (by omega) (by omega)).mpr z))
      refine J_aload_n (pc := 10) dX0_isAsSeen_10 rfl ?_
      refine J_iload_n (pc := 11) dX0_isAsSeen_11 rfl ?_
      refine J_aload_n (pc := 12) dX0_isAsSeen_12 rfl ?_
      refine J_getR (pc := 13) dX0_isAsSeen_13 fX0_142 sh81 rfl ?_
      refine J_iload_n (pc := 16) dX0_isAsSeen_16 rfl ?_
      refine J_iald (pc := 17) dX0_isAsSeen_17 sh82 (rfl) (by omega) ((hd k q7).1.trans (hd k q7).2.2.2.1.1) (by decide) ?_
      refine J_aload_n (pc := 18) dX0_isAsSeen_18 rfl ?_
      refine J_getR (pc := 19) dX0_isAsSeen_19 fX0_145 sh81 rfl ?_
      refine J_iload_n (pc := 22) dX0_isAsSeen_22 rfl ?_
      refine J_iald (pc := 23) dX0_isAsSeen_23 sh83 (rfl) (by omega) ((hd k q7).2.1.trans (hd k q7).2.2.2.2.1) (by decide) ?_
      refine K_Vi3 (pc := 24) (Y' := YX0_purseWithin) dX0_isAsSeen_24 lX0_148 mX0_purseWithin vX0_purseWithin ⟨_, _, rfl⟩ sh59 (Nat.le_of_ble_eq_true rfl) (c0_purseWithin hn (hd k q7).2.2.2.1.2 (by have := (hd k q7).2.2.2.2.2; omega) hc hN) ?_
      rintro r h0 ⟨e0, rfl⟩
      rw [e0]
      clear e0 h0
      refine J_aload_n (pc := 27) dX0_isAsSeen_27 rfl ?_
      refine J_getR (pc := 28) dX0_isAsSeen_28 fX0_151 sh81 rfl ?_
      refine J_iload_n (pc := 31) dX0_isAsSeen_31 rfl ?_
      refine J_iald (pc := 32) dX0_isAsSeen_32 sh84 (rfl) (by omega) ((hd k q7).2.2.1) (by decide) ?_
      refine J_icmp_eq (pc := 33) (tgt := 38) dX0_isAsSeen_33 (by decide) (fun c33 => ?_) (fun c33 => ?_)
      · skip
        refine J_iinc (pc := 38) dX0_isAsSeen_38 rfl (v := nI (k + 1)) (by exact nI_add _ _) (by decide) ?_
        refine J_goto (pc := 41) (tgt := 2) dX0_isAsSeen_41 (by decide) ?_
        refine J_ls ?_ (ih (k + 1) () (by omega) (by omega) (asF_s.mpr ⟨hI, c33⟩))
        exact ⟨rfl, rfl, rfl, rfl, trivial⟩
      · skip
        refine J_ls (ls' := [(0, .ref 59)]) ⟨rfl, trivial⟩ ?_
        exact kr (asF_no (fun z => c33 (asF_s.mp z).2) (show k + 1 ≤ s by omega))
set_option maxHeartbeats 4000000 in
theorem c0_isAsSeen {g : jG} {d : Nat} {h : jH} {n c s : Nat} {P sn : Nat → Int32} (hn : n ≤ 4) (hc : c < 256) (hs : h 81 0 = nI s) (hs7 : s < 7) (hd : ∀ i, i < s → h 82 i = sn (3 * i) ∧ h 83 i = sn (3 * i + 1) ∧ h 84 i = sn (3 * i + 2) ∧ nb n (sn (3 * i)) ∧ nb 5 (sn (3 * i + 1))) (hN : ∀ l c, l ≤ 4 → c < 4 ^ l → nd n h (fst4 l + c) (skP n P l c)) : Mi g (d + 2) YX0_isAsSeen h [.ref 59, .int (nI c), .ref 81] (fun r h' => h' = h ∧ bq (asF n P sn c s = true) r) := by
  refine M.of (by decide) rfl (Nat.le_of_ble_eq_true rfl) ?_
  refine J_iconst (pc := 0) (v := nI 0) dX0_isAsSeen_0 (by decide) ?_
  refine J_istore_n (pc := 1) dX0_isAsSeen_1 (by decide) ?_
  refine J_ls (ls' := [(0, .ref 59), (1, .int (nI c)), (2, .ref 81), (3, .int (nI 0))]) ⟨rfl, rfl, rfl, rfl, trivial⟩ ?_
  refine l0_seen hn hc hs hs7 hd hN (fun hz => ?_) ?_ (s + 1) 0 () (Nat.zero_le _) (by omega) rfl
  · refine J_iconst (pc := 36) (v := nI 0) dX0_isAsSeen_36 (by decide) ?_
    refine K_zret (pc := 37) dX0_isAsSeen_37 rfl (by decide) ?_
    exact ⟨rfl, bq_f hz⟩
  · intro _ hz
    refine J_iconst (pc := 44) (v := nI 1) dX0_isAsSeen_44 (by decide) ?_
    refine K_zret (pc := 45) dX0_isAsSeen_45 rfl (by decide) ?_
    exact ⟨rfl, bq_t hz⟩
set_option maxHeartbeats 4000000 in
theorem l0_fit {g : jG} {d : Nat} {h : jH} {Q : kQ} {a : jH} {o : Nat} (hR : RX a h) (hN : ∀ l c, l ≤ 4 → c < 4 ^ l → nd (ix (a 131 2)) h (fst4 l + c) (skP (ix (a 131 2)) (pg a 0) l c)) (kx : ∀ (hh : jH), (hh 59 3 = nI (cnF (fitA a) 256) ∧ lst (fitA a) (hh 79) 256 ∧ ∀ b, b ≠ 59 → b ≠ 79 → hh b = h b) → K g (d + 3) YX0_findFitting (hh) 55 [(0, .ref 59), (1, .ref o), (2, .ref 81), (3, .int (nI 256))] [] Q) : ∀ (mm k : Nat) (hh : jH), k ≤ 256 → 256 < k + mm → (hh 59 3 = nI (cnF (fitA a) k) ∧ lst (fitA a) (hh 79) k ∧ ∀ b, b ≠ 59 → b ≠ 79 → hh b = h b) → K g (d + 3) YX0_findFitting (hh) 13 [(0, .ref 59), (1, .ref o), (2, .ref 81), (3, .int (nI k))] [] Q := by
  intro mm
  induction mm with
  | zero => intro k hh hk1 hk2 hI; omega
  | succ mm ih =>
    intro k hh hk1 hk2 hI
    have hR0 := hR
    have hG := hR.1.2.2.2
    obtain ⟨⟨r1, hX, hwk, ⟨⟨v1, v2, v3, v4⟩, v5, v6, v7, v8, v9, va, vb, vc, vd⟩⟩, rK, rT, rS, rH, ⟨r8, r8b, r9, ra⟩⟩ := hR
    obtain ⟨x1, x2, x3, x4, x5, x6, x7, x8, x9⟩ := id hX
    have hn4 := v1
    have n5 := r1.2
    have c6 := v3.2
    have p9 := v5.2
    obtain ⟨s1, s2, s3⟩ := rS
    have ck := cnF_le (f := (fitA a)) k
    have e81 : ∀ b, 78 ≤ b → b ≠ 79 → hh b = h b := fun b h1 h2 => hI.2.2 b (by omega) h2
    have hNh : ∀ l c, l ≤ 4 → c < 4 ^ l → nd (ix (a 131 2)) hh (fst4 l + c) (skP (ix (a 131 2)) (pg a 0) l c) := fun l c hl hc => nd_congr (hN l c hl hc) (e81 78 (by omega) (by omega))
    refine J_iload_n (pc := 13) dX0_findFitting_13 rfl ?_
    refine J_sipush (pc := 14) (v := nI 256) dX0_findFitting_14 (by decide) ?_
    refine J_icmp_ge (pc := 17) (tgt := 55) dX0_findFitting_17 (by decide) (fun c17 => ?_) (fun c17 => ?_)
    · skip
      have q17 : 256 ≤ k := (nI_leI (by omega) (by omega)).mp c17
      have e_k : k = 256 := by omega
      refine J_ls (ls' := [(0, .ref 59), (1, .ref o), (2, .ref 81), (3, .int (nI k))]) ⟨rfl, rfl, rfl, rfl, trivial⟩ ?_
      rw [e_k] at hI ⊢
      exact kx hh hI
    · skip
      have q17 : k < 256 := Nat.lt_of_not_le (fun z => c17 ((nI_leI (by omega) (by omega)).mpr z))
      refine J_aload_n (pc := 20) dX0_findFitting_20 rfl ?_
      refine J_iload_n (pc := 21) dX0_findFitting_21 rfl ?_
      refine J_aload_n (pc := 22) dX0_findFitting_22 rfl ?_
      refine K_Vi2 (pc := 23) (Y' := YX0_isAsSeen) dX0_findFitting_23 lX0_133 mX0_isAsSeen vX0_isAsSeen ⟨_, _, rfl⟩ sh59 (Nat.le_of_ble_eq_true rfl) (c0_isAsSeen (P := (pg a 0)) (sn := a 139) hn4 q17 (by rw [e81 81 (by omega) (by omega)]; exact s1.trans s2.1) s2.2 (fun i hi => by rw [e81 82 (by omega) (by omega), e81 83 (by omega) (by omega), e81 84 (by omega) (by omega)]; exact ⟨(s3 i hi).1, (s3 i hi).2.1, (s3 i hi).2.2.1, (s3 i hi).2.2.2.1, (s3 i hi).2.2.2.2.1⟩) hNh) ?_
      rintro x h0 ⟨e0, ⟨rfl, b23⟩ | ⟨rfl, b23⟩⟩ <;> rw [e0] <;> clear e0 h0
      · skip
        refine J_if_eq (pc := 26) (tgt := 49) dX0_findFitting_26 (by decide) (fun c => absurd c (by decide)) (fun _ => ?_)
        refine J_aload_n (pc := 29) dX0_findFitting_29 rfl ?_
        refine J_getR (pc := 30) dX0_findFitting_30 fX0_22 sh59 rfl ?_
        refine J_aload_n (pc := 33) dX0_findFitting_33 rfl ?_
        refine J_getI (pc := 34) dX0_findFitting_34 fX0_130 sh59 rfl (hI.1) ?_
        refine J_iload_n (pc := 37) dX0_findFitting_37 rfl ?_
        refine J_iast (pc := 38) dX0_findFitting_38 sh79 (rfl) (by omega) (by decide) ?_
        refine J_aload_n (pc := 39) dX0_findFitting_39 rfl ?_
        refine J_dup (pc := 40) dX0_findFitting_40 rfl ?_
        refine J_getI (pc := 41) dX0_findFitting_41 fX0_130 sh59 rfl ((j_up_o (by omega)).trans hI.1) ?_
        refine J_iconst (pc := 44) (v := nI 1) dX0_findFitting_44 (by decide) ?_
        refine J_iadd (pc := 45) dX0_findFitting_45 (nI_add _ _) ?_
        refine J_putI (pc := 46) dX0_findFitting_46 fX0_130 sh59 rfl ?_
        refine J_iinc (pc := 49) dX0_findFitting_49 rfl (v := nI (k + 1)) (by exact nI_add _ _) (by decide) ?_
        refine J_goto (pc := 52) (tgt := 13) dX0_findFitting_52 (by decide) ?_
        have bt : (fitA a) k = true := b23
        have ec : cnF (fitA a) (k + 1) = cnF (fitA a) k + 1 := if_pos bt
        refine J_ls ?_ (ih (k + 1) _ (by omega) (by omega) ⟨?_, fun c hc hf => ?_, fun b h1 h2 => ?_⟩)
        · exact ⟨rfl, rfl, rfl, rfl, trivial⟩
        · rw [j_up_s, ec]
        · rw [j_up_o (by omega)]
          by_cases z : c = k
          · subst z; rw [j_up_s]
          · have := cnF_lt (f := (fitA a)) (c := c) (k := k) (by omega) hf
            rw [j_up_o (by omega)]
            exact hI.2.1 c (by omega) hf
        · rw [j_up_ne b h1, j_up_ne b h2]; exact hI.2.2 b h1 h2
      · skip
        refine J_if_eq (pc := 26) (tgt := 49) dX0_findFitting_26 (by decide) (fun _ => ?_) (fun c => absurd c (by decide))
        refine J_iinc (pc := 49) dX0_findFitting_49 rfl (v := nI (k + 1)) (by exact nI_add _ _) (by decide) ?_
        refine J_goto (pc := 52) (tgt := 13) dX0_findFitting_52 (by decide) ?_
        have bt : ¬ (fitA a) k = true := b23
        have ec : cnF (fitA a) (k + 1) = cnF (fitA a) k := if_neg bt
        refine J_ls ?_ (ih (k + 1) hh (by omega) (by omega) ⟨by rw [ec]; exact hI.1, fun c hc hf => ?_, hI.2.2⟩)
        · exact ⟨rfl, rfl, rfl, rfl, trivial⟩
        · by_cases z : c = k
          · subst z; exact absurd hf bt
          · exact hI.2.1 c (by omega) hf
set_option maxHeartbeats 4000000 in
theorem c0_findFitting {g : jG} {d : Nat} {a h : jH} (hR : RX a h) : Mv g (d + 5) YX0_findFitting h [.ref 59, .ref 1, .ref 81] (fun h' => h' 59 3 = nI (cnF (fitA a) 256) ∧ lst (fitA a) (h' 79) 256 ∧ TR (ix (a 131 2)) (pg a 0) h' ∧ (∀ l c, l ≤ 4 → c < 4 ^ l → nd (ix (a 131 2)) h' (fst4 l + c) (skP (ix (a 131 2)) (pg a 0) l c)) ∧ ∀ b, (b < 59 ∨ 80 ≤ b) → h' b = h b) := by
  refine M.of (by decide) rfl (Nat.le_of_ble_eq_true rfl) ?_
  have hR0 := hR
  have hG := hR.1.2.2.2
  obtain ⟨⟨r1, hX, hwk, ⟨⟨v1, v2, v3, v4⟩, v5, v6, v7, v8, v9, va, vb, vc, vd⟩⟩, rK, rT, rS, rH, ⟨r8, r8b, r9, ra⟩⟩ := hR
  obtain ⟨x1, x2, x3, x4, x5, x6, x7, x8, x9⟩ := id hX
  have hn4 := v1
  have n5 := r1.2
  have c6 := v3.2
  have p9 := v5.2
  refine J_aload_n (pc := 0) dX0_findFitting_0 rfl ?_
  refine J_aload_n (pc := 1) dX0_findFitting_1 rfl ?_
  refine J_iconst (pc := 2) (v := nI 4) dX0_findFitting_2 (by decide) ?_
  refine K_Vv2 (pc := 3) (Y' := YX0_grow) dX0_findFitting_3 lX0_126 mX0_grow vX0_grow ⟨_, _, rfl⟩ sh59 (Nat.le_of_ble_eq_true rfl) (c0_grow isV1 (by omega) hX hG (by omega)) ?_
  rintro h1 ⟨g1, g2, g3⟩
  refine J_aload_n (pc := 6) dX0_findFitting_6 rfl ?_
  refine J_iconst (pc := 7) (v := nI 0) dX0_findFitting_7 (by decide) ?_
  refine J_putI (pc := 8) dX0_findFitting_8 fX0_130 sh59 rfl ?_
  refine J_iconst (pc := 11) (v := nI 0) dX0_findFitting_11 (by decide) ?_
  refine J_istore_n (pc := 12) dX0_findFitting_12 (by decide) ?_
  have hR1 : RX a (j_up h1 59 3 (nI 0)) := RX_congr hR0 sameP.rf (fun b hb => (j_up_ne b (by omega)).trans (g3 b (by omega)))
  refine J_ls (ls' := [(0, .ref 59), (1, .ref 1), (2, .ref 81), (3, .int (nI 0))]) ⟨rfl, rfl, rfl, rfl, trivial⟩ ?_
  refine l0_fit (h := j_up h1 59 3 (nI 0)) hR1 (fun l c hl hc => nd_congr (g2 l c hl hc) (j_up_ne 78 (by omega))) ?_ 257 0 _ (Nat.zero_le _) (by omega) ⟨j_up_s, fun c hc => absurd hc (by omega), fun b h1 h2 => rfl⟩
  intro hh hI
  refine K_ret (pc := 55) dX0_findFitting_55 rfl ?_
  have e : ∀ b, 60 ≤ b → b ≠ 79 → hh b = h1 b := fun b x1 x2 => (hI.2.2 b (by omega) x2).trans (j_up_ne b (by omega))
  exact ⟨hI.1, hI.2.1, TR_congr hG g1 (fun b x1 x2 => e b x1 (by omega)), fun l c hl hc => nd_congr (g2 l c hl hc) (e 78 (by omega) (by omega)), fun b hb => (hI.2.2 b (by omega) (by omega)).trans ((j_up_ne b (by omega)).trans (g3 b (by omega)))⟩
set_option maxHeartbeats 4000000 in
theorem l0_fitIn {g : jG} {d : Nat} {h : jH} {Q : kQ} {f : Nat → Bool} {i : Nat} (hi4 : i < 4) (h3 : h 59 3 = nI (cnF f 256)) (hl : lst f (h 79) 256) (kx : K g d YX0_fittingIn (h) 37 [(0, .ref 59), (1, .int (nI i)), (2, .int (goJ (wbS i) (nI 0) (h 79) (cnF f 256))), (3, .int (nI (cnF f 256)))] [] Q) : ∀ (mm k : Nat) , k ≤ (cnF f 256) → (cnF f 256) < k + mm → K g d YX0_fittingIn (h) 4 [(0, .ref 59), (1, .int (nI i)), (2, .int (goJ (wbS i) (nI 0) (h 79) k)), (3, .int (nI k))] [] Q := by
  intro mm
  induction mm with
  | zero => intro k  hk1 hk2 ; omega
  | succ mm ih =>
    intro k  hk1 hk2 
    have cl := cnF_le (f := f) 256
    refine J_iload_n (pc := 4) dX0_fittingIn_4 rfl ?_
    refine J_aload_n (pc := 5) dX0_fittingIn_5 rfl ?_
    refine J_getI (pc := 6) dX0_fittingIn_6 fX0_130 sh59 rfl (h3) ?_
    refine J_icmp_ge (pc := 9) (tgt := 37) dX0_fittingIn_9 (by decide) (fun c9 => ?_) (fun c9 => ?_)
    · skip
      have q9 : (cnF f 256) ≤ k := (nI_leI (by omega) (by omega)).mp c9
      have e_k : k = (cnF f 256) := by omega
      refine J_ls (ls' := [(0, .ref 59), (1, .int (nI i)), (2, .int (goJ (wbS i) (nI 0) (h 79) k)), (3, .int (nI k))]) ⟨rfl, rfl, rfl, rfl, trivial⟩ ?_
      rw [e_k]
      exact kx
    · skip
      have q9 : k < (cnF f 256) := Nat.lt_of_not_le (fun z => c9 ((nI_leI (by omega) (by omega)).mpr z))
      obtain ⟨c, c1, c2, c3, eg⟩ := lst_at hl k q9
      have cd : ∀ j, c / 4 ^ j < 2 ^ 31 := fun j => by have := Nat.div_le_self c (4 ^ j); omega
      refine J_iload_n (pc := 12) dX0_fittingIn_12 rfl ?_
      refine J_iconst (pc := 13) (v := nI 1) dX0_fittingIn_13 (by decide) ?_
      refine J_aload_n (pc := 14) dX0_fittingIn_14 rfl ?_
      refine J_getR (pc := 15) dX0_fittingIn_15 fX0_22 sh59 rfl ?_
      refine J_iload_n (pc := 18) dX0_fittingIn_18 rfl ?_
      refine J_iald (pc := 19) dX0_fittingIn_19 sh79 (rfl) (by omega) (eg) (by decide) ?_
      refine J_iconst (pc := 20) (v := nI 2) dX0_fittingIn_20 (by decide) ?_
      refine J_iconst (pc := 21) (v := nI 3) dX0_fittingIn_21 (by decide) ?_
      refine J_iload_n (pc := 22) dX0_fittingIn_22 rfl ?_
      refine J_isub (pc := 23) dX0_fittingIn_23 (pk_sub (by omega)) ?_
      refine J_imul (pc := 24) dX0_fittingIn_24 (pk_mul _ _) ?_
      refine J_ishr (pc := 25) dX0_fittingIn_25 (shr4 (by omega) (by omega)) ?_
      refine J_iconst (pc := 26) (v := nI 3) dX0_fittingIn_26 (by decide) ?_
      refine J_iand (pc := 27) dX0_fittingIn_27 (and3 (cd _)) ?_
      refine J_ishl (pc := 28) dX0_fittingIn_28 (rfl) ?_
      refine J_ior (pc := 29) dX0_fittingIn_29 (rfl) ?_
      refine J_istore_n (pc := 30) dX0_fittingIn_30 (by decide) ?_
      refine J_iinc (pc := 31) dX0_fittingIn_31 rfl (v := nI (k + 1)) (by exact nI_add _ _) (by decide) ?_
      refine J_goto (pc := 34) (tgt := 4) dX0_fittingIn_34 (by decide) ?_
      have i := ih (k + 1) (by omega) (by omega)
      rw [goJ, eg, ix_nI (by omega)] at i
      refine J_ls ?_ i
      exact ⟨rfl, rfl, rfl, rfl, trivial⟩
set_option maxHeartbeats 4000000 in
theorem c0_fittingIn {g : jG} {d : Nat} {h : jH} {f : Nat → Bool} {i : Nat} (hi4 : i < 4) (h3 : h 59 3 = nI (cnF f 256)) (hl : lst f (h 79) 256) : Mi g d YX0_fittingIn h [.ref 59, .int (nI i)] (fun r h' => h' = h ∧ r = wbF f i 256) := by
  refine M.of (by decide) rfl (Nat.le_of_ble_eq_true rfl) ?_
  refine J_iconst (pc := 0) (v := nI 0) dX0_fittingIn_0 (by decide) ?_
  refine J_istore_n (pc := 1) dX0_fittingIn_1 (by decide) ?_
  refine J_iconst (pc := 2) (v := nI 0) dX0_fittingIn_2 (by decide) ?_
  refine J_istore_n (pc := 3) dX0_fittingIn_3 (by decide) ?_
  refine J_ls (ls' := [(0, .ref 59), (1, .int (nI i)), (2, .int (goJ (wbS i) (nI 0) (h 79) 0)), (3, .int (nI 0))]) ⟨rfl, rfl, rfl, rfl, trivial⟩ ?_
  refine l0_fitIn hi4 h3 hl ?_ (cnF f 256 + 1) 0 (Nat.zero_le _) (by omega)
  refine J_iload_n (pc := 37) dX0_fittingIn_37 rfl ?_
  refine K_iret (pc := 38) dX0_fittingIn_38 rfl ?_
  exact ⟨rfl, go_eq (by omega) hl⟩
set_option maxHeartbeats 4000000 in
theorem c5_fits {g : jG} {d : Nat} {a h : jH} {x : Int32} (hR : RX a h) : Mi g (d + 6) YX5_fits h [.ref 0, .int x] (fun r h' => ∃ a', oFits a x = (r, a') ∧ RX a' h' ∧ hi h h') := by
  refine M.of (by decide) rfl (Nat.le_of_ble_eq_true rfl) ?_
  have hR0 := hR
  have hG := hR.1.2.2.2
  obtain ⟨⟨r1, hX, hwk, ⟨⟨v1, v2, v3, v4⟩, v5, v6, v7, v8, v9, va, vb, vc, vd⟩⟩, rK, rT, rS, rH, ⟨r8, r8b, r9, ra⟩⟩ := hR
  obtain ⟨x1, x2, x3, x4, x5, x6, x7, x8, x9⟩ := id hX
  have hn4 := v1
  have n5 := r1.2
  have c6 := v3.2
  have p9 := v5.2
  by_cases e0 : x = nI 0
  · subst e0
    refine J_iload_n (pc := 0) dX5_fits_0 rfl ?_
    refine J_bipush (pc := 1) (v := nI 10) dX5_fits_1 (by decide) ?_
    refine J_isub (pc := 3) dX5_fits_3 (rfl) ?_
    refine J_istore_n (pc := 4) dX5_fits_4 (by decide) ?_
    refine J_iload_n (pc := 5) dX5_fits_5 rfl ?_
    refine J_if_eq (pc := 6) (tgt := 25) dX5_fits_6 (by decide) (fun _ => ?_) (fun c => absurd c (by decide))
    refine J_aload_n (pc := 25) dX5_fits_25 rfl ?_
    refine J_getR (pc := 26) dX5_fits_26 fX5_37 sh0 rfl ?_
    refine J_aload_n (pc := 29) dX5_fits_29 rfl ?_
    refine J_getR (pc := 30) dX5_fits_30 fX5_10 sh0 rfl ?_
    refine J_aload_n (pc := 33) dX5_fits_33 rfl ?_
    refine J_getR (pc := 34) dX5_fits_34 fX5_44 sh0 rfl ?_
    refine K_Vv2 (pc := 37) (Y' := YX0_findFitting) dX5_fits_37 lX5_244 mX0_findFitting vX0_findFitting ⟨_, _, rfl⟩ sh59 (Nat.le_of_ble_eq_true rfl) (c0_findFitting hR0) ?_
    rintro h1 ⟨f1, f2, f3, f4, f5⟩
    have cl := cnF_le (f := fitA a) 256
    have fin : RX a h1 ∧ hi h h1 := ⟨RX_congr hR0 sameP.rf (fun b hb => f5 b (by omega)), fun b hb => f5 b (by omega)⟩
    refine J_iload_n (pc := 40) dX5_fits_40 rfl ?_
    refine J_if_ne (pc := 41) (tgt := 52) dX5_fits_41 (by decide) (fun c => absurd c (by decide)) (fun _ => ?_)
    refine J_aload_n (pc := 44) dX5_fits_44 rfl ?_
    refine J_getR (pc := 45) dX5_fits_45 fX5_37 sh0 rfl ?_
    refine J_getI (pc := 48) dX5_fits_48 fX5_248 sh59 rfl (f1) ?_
    refine K_iret (pc := 51) dX5_fits_51 rfl ?_
    exact ⟨a, (iteR_t (Or.inl rfl)).trans (congrArg (fun z => (z, a)) (iteP_t rfl)), fin.1, fin.2⟩
  by_cases e1 : x = nI 1
  · subst e1
    refine J_iload_n (pc := 0) dX5_fits_0 rfl ?_
    refine J_bipush (pc := 1) (v := nI 10) dX5_fits_1 (by decide) ?_
    refine J_isub (pc := 3) dX5_fits_3 (rfl) ?_
    refine J_istore_n (pc := 4) dX5_fits_4 (by decide) ?_
    refine J_iload_n (pc := 5) dX5_fits_5 rfl ?_
    refine J_if_eq (pc := 6) (tgt := 25) dX5_fits_6 (by decide) (fun c => absurd c (by decide)) (fun _ => ?_)
    refine J_iload_n (pc := 9) dX5_fits_9 rfl ?_
    refine J_iconst (pc := 10) (v := nI 1) dX5_fits_10 (by decide) ?_
    refine J_icmp_eq (pc := 11) (tgt := 25) dX5_fits_11 (by decide) (fun _ => ?_) (fun c => absurd c (by decide))
    refine J_aload_n (pc := 25) dX5_fits_25 rfl ?_
    refine J_getR (pc := 26) dX5_fits_26 fX5_37 sh0 rfl ?_
    refine J_aload_n (pc := 29) dX5_fits_29 rfl ?_
    refine J_getR (pc := 30) dX5_fits_30 fX5_10 sh0 rfl ?_
    refine J_aload_n (pc := 33) dX5_fits_33 rfl ?_
    refine J_getR (pc := 34) dX5_fits_34 fX5_44 sh0 rfl ?_
    refine K_Vv2 (pc := 37) (Y' := YX0_findFitting) dX5_fits_37 lX5_244 mX0_findFitting vX0_findFitting ⟨_, _, rfl⟩ sh59 (Nat.le_of_ble_eq_true rfl) (c0_findFitting hR0) ?_
    rintro h1 ⟨f1, f2, f3, f4, f5⟩
    have cl := cnF_le (f := fitA a) 256
    have fin : RX a h1 ∧ hi h h1 := ⟨RX_congr hR0 sameP.rf (fun b hb => f5 b (by omega)), fun b hb => f5 b (by omega)⟩
    refine J_iload_n (pc := 40) dX5_fits_40 rfl ?_
    refine J_if_ne (pc := 41) (tgt := 52) dX5_fits_41 (by decide) (fun _ => ?_) (fun c => absurd c (by decide))
    refine J_iload_n (pc := 52) dX5_fits_52 rfl ?_
    refine J_iconst (pc := 53) (v := nI 1) dX5_fits_53 (by decide) ?_
    refine J_icmp_ne (pc := 54) (tgt := 82) dX5_fits_54 (by decide) (fun c => absurd c (by decide)) (fun _ => ?_)
    refine J_aload_n (pc := 57) dX5_fits_57 rfl ?_
    refine J_getR (pc := 58) dX5_fits_58 fX5_37 sh0 rfl ?_
    refine J_getI (pc := 61) dX5_fits_61 fX5_248 sh59 rfl (f1) ?_
    refine J_if_ne (pc := 64) (tgt := 72) dX5_fits_64 (by decide) (fun c64 => ?_) (fun c64 => ?_)
    · skip
      refine J_aload_n (pc := 72) dX5_fits_72 rfl ?_
      refine J_getR (pc := 73) dX5_fits_73 fX5_37 sh0 rfl ?_
      refine J_getR (pc := 76) dX5_fits_76 fX5_251 sh59 rfl ?_
      refine J_iconst (pc := 79) (v := nI 0) dX5_fits_79 (by decide) ?_
      refine J_iald (pc := 80) dX5_fits_80 sh79 (rfl) (by omega) (rfl) (by decide) ?_
      refine K_iret (pc := 81) dX5_fits_81 rfl ?_
      exact ⟨a, (iteR_t (Or.inr (Or.inl rfl))).trans (congrArg (fun z => (z, a)) ((iteP_f (by decide)).trans ((iteP_t rfl).trans ((fir_eq f2).trans (if_neg (fun z => c64 (congrArg nI z))))))), fin.1, fin.2⟩
    · skip
      refine J_bipush (pc := 67) (v := -4) dX5_fits_67 (by decide) ?_
      refine J_goto (pc := 69) (tgt := 81) dX5_fits_69 (by decide) ?_
      refine K_iret (pc := 81) dX5_fits_81 rfl ?_
      exact ⟨a, (iteR_t (Or.inr (Or.inl rfl))).trans (congrArg (fun z => (z, a)) ((iteP_f (by decide)).trans ((iteP_t rfl).trans ((fir_eq f2).trans (if_pos ((nI_eq (b := 0) (by omega) (by omega)).mp c64)))))), fin.1, fin.2⟩
  refine J_iload_n (pc := 0) dX5_fits_0 rfl ?_
  refine J_bipush (pc := 1) (v := nI 10) dX5_fits_1 (by decide) ?_
  refine J_isub (pc := 3) dX5_fits_3 (rfl) ?_
  refine J_istore_n (pc := 4) dX5_fits_4 (by decide) ?_
  refine J_iload_n (pc := 5) dX5_fits_5 rfl ?_
  refine J_if_eq (pc := 6) (tgt := 25) dX5_fits_6 (by decide) (fun c6 => ?_) (fun c6 => ?_)
  · skip
    exact absurd c6 e0
  · skip
    refine J_iload_n (pc := 9) dX5_fits_9 rfl ?_
    refine J_iconst (pc := 10) (v := nI 1) dX5_fits_10 (by decide) ?_
    refine J_icmp_eq (pc := 11) (tgt := 25) dX5_fits_11 (by decide) (fun c11 => ?_) (fun c11 => ?_)
    · skip
      exact absurd c11 e1
    · skip
      refine J_iload_n (pc := 14) dX5_fits_14 rfl ?_
      refine J_iconst (pc := 15) (v := nI 0) dX5_fits_15 (by decide) ?_
      refine J_iconst (pc := 16) (v := nI 3) dX5_fits_16 (by decide) ?_
      refine K_Si3 (pc := 17) (Y' := YX5_within) dX5_fits_17 lX5_63 mX5_within sX5_within (Nat.le_of_ble_eq_true rfl) (c5_within) ?_
      rintro x h0 ⟨e0, ⟨rfl, b17⟩ | ⟨rfl, b17⟩⟩ <;> rw [e0] <;> clear e0 h0
      · skip
        have bi : nb 4 (x - nI 10) := (in_nbc (n := 3) rfl (by omega)).mp b17
        refine J_if_ne (pc := 20) (tgt := 25) dX5_fits_20 (by decide) (fun _ => ?_) (fun c => absurd c (by decide))
        refine J_aload_n (pc := 25) dX5_fits_25 rfl ?_
        refine J_getR (pc := 26) dX5_fits_26 fX5_37 sh0 rfl ?_
        refine J_aload_n (pc := 29) dX5_fits_29 rfl ?_
        refine J_getR (pc := 30) dX5_fits_30 fX5_10 sh0 rfl ?_
        refine J_aload_n (pc := 33) dX5_fits_33 rfl ?_
        refine J_getR (pc := 34) dX5_fits_34 fX5_44 sh0 rfl ?_
        refine K_Vv2 (pc := 37) (Y' := YX0_findFitting) dX5_fits_37 lX5_244 mX0_findFitting vX0_findFitting ⟨_, _, rfl⟩ sh59 (Nat.le_of_ble_eq_true rfl) (c0_findFitting hR0) ?_
        rintro h1 ⟨f1, f2, f3, f4, f5⟩
        have cl := cnF_le (f := fitA a) 256
        have fin : RX a h1 ∧ hi h h1 := ⟨RX_congr hR0 sameP.rf (fun b hb => f5 b (by omega)), fun b hb => f5 b (by omega)⟩
        refine J_iload_n (pc := 40) dX5_fits_40 rfl ?_
        refine J_if_ne (pc := 41) (tgt := 52) dX5_fits_41 (by decide) (fun c41 => ?_) (fun c41 => ?_)
        · skip
          refine J_iload_n (pc := 52) dX5_fits_52 rfl ?_
          refine J_iconst (pc := 53) (v := nI 1) dX5_fits_53 (by decide) ?_
          refine J_icmp_ne (pc := 54) (tgt := 82) dX5_fits_54 (by decide) (fun c54 => ?_) (fun c54 => ?_)
          · skip
            refine J_ls (ls' := [(0, .ref 0), (1, .int x), (2, .int (nI (ix (x - nI 10))))]) ⟨rfl, rfl, congrArg (fun z => some (Value.int z)) bi.1, trivial⟩ ?_
            refine J_aload_n (pc := 82) dX5_fits_82 rfl ?_
            refine J_getR (pc := 83) dX5_fits_83 fX5_37 sh0 rfl ?_
            refine J_iload_n (pc := 86) dX5_fits_86 rfl ?_
            refine K_Vi1 (pc := 87) (Y' := YX0_fittingIn) dX5_fits_87 lX5_254 mX0_fittingIn vX0_fittingIn ⟨_, _, rfl⟩ sh59 (Nat.le_of_ble_eq_true rfl) (c0_fittingIn (i := ix (x - nI 10)) bi.2 f1 f2) ?_
            rintro r h0 ⟨e0, rfl⟩
            rw [e0]
            clear e0 h0
            refine K_iret (pc := 90) dX5_fits_90 rfl ?_
            exact ⟨a, (iteR_t (Or.inr (Or.inr (in1013.mp b17)))).trans (congrArg (fun z => (z, a)) ((iteP_f e0).trans (iteP_f e1))), fin.1, fin.2⟩
          · skip
            exact absurd c54 e1
        · skip
          exact absurd c41 e0
      · skip
        refine J_if_ne (pc := 20) (tgt := 25) dX5_fits_20 (by decide) (fun c => absurd c (by decide)) (fun _ => ?_)
        refine J_iconst (pc := 23) (v := -1) dX5_fits_23 (by decide) ?_
        refine K_iret (pc := 24) dX5_fits_24 rfl ?_
        exact ⟨a, iteR_f (fun z => z.elim e0 (fun z => z.elim e1 (fun z => b17 (in1013.mpr z)))), hR0, hi.rf⟩
set_option maxHeartbeats 4000000 in
theorem l0_ml1 {g : jG} {d : Nat} {h : jH} {Q : kQ} {n p m : Nat} {f : Nat → Bool} {P : Nat → Int32} (hG : GD n P) (hp : p < n) (hm : m ≤ 4) (h3 : h 59 3 = nI (cnF f 256)) (hl : lst f (h 79) 256) (hN : ∀ l c, l ≤ 4 → c < 4 ^ l → nd n h (fst4 l + c) (skP n P l c)) (kx : K g (d + 2) YX0_mostLeft (tyH h (fun v => tlF (fun c => pw n P c p m) (h 79) v (cnF f 256))) 58 [(0, .ref 59), (1, .int (nI p)), (2, .int (nI m)), (3, .int (nI (tmF (fun c => pw n P c p m) (h 79) (cnF f 256)))), (4, .int (nI (cnF f 256)))] [] Q) : ∀ (mm k : Nat) , k ≤ (cnF f 256) → (cnF f 256) < k + mm → K g (d + 2) YX0_mostLeft (tyH h (fun v => tlF (fun c => pw n P c p m) (h 79) v k)) 5 [(0, .ref 59), (1, .int (nI p)), (2, .int (nI m)), (3, .int (nI (tmF (fun c => pw n P c p m) (h 79) k))), (4, .int (nI k))] [] Q := by
  intro mm
  induction mm with
  | zero => intro k  hk1 hk2 ; omega
  | succ mm ih =>
    intro k  hk1 hk2 
    have hn := hG.1.1
    have cl := cnF_le (f := f) 256
    have tm := tmF_le (U := (fun c => pw n P c p m)) (g := h 79) k
    have hNt : ∀ l c, l ≤ 4 → c < 4 ^ l → nd n (tyH h (fun v => tlF (fun c => pw n P c p m) (h 79) v k)) (fst4 l + c) (skP n P l c) := fun l c x1 x2 => nd_congr (hN l c x1 x2) (funext fun i => tyH_o (by omega))
    refine J_iload (pc := 5) dX0_mostLeft_5 rfl ?_
    refine J_aload_n (pc := 7) dX0_mostLeft_7 rfl ?_
    refine J_getI (pc := 8) dX0_mostLeft_8 fX0_130 sh59 rfl ((tyH_o (by omega)).trans h3) ?_
    refine J_icmp_ge (pc := 11) (tgt := 58) dX0_mostLeft_11 (by decide) (fun c11 => ?_) (fun c11 => ?_)
    · skip
      have q11 : (cnF f 256) ≤ k := (nI_leI (by omega) (by omega)).mp c11
      have e_k : k = (cnF f 256) := by omega
      refine J_ls (ls' := [(0, .ref 59), (1, .int (nI p)), (2, .int (nI m)), (3, .int (nI (tmF (fun c => pw n P c p m) (h 79) k))), (4, .int (nI k))]) ⟨rfl, rfl, rfl, rfl, rfl, trivial⟩ ?_
      rw [e_k]
      exact kx
    · skip
      have q11 : k < (cnF f 256) := Nat.lt_of_not_le (fun z => c11 ((nI_leI (by omega) (by omega)).mpr z))
      obtain ⟨c, c1, c2, c3, eg⟩ := lst_at hl k q11
      have ig : ix (h 79 k) = c := by rw [eg]; exact ix_nI (by omega)
      have sn := pw_nb (c := c) (m := m) hG hp
      have sn2 := sn.2
      have tl := tlF_le (U := (fun c => pw n P c p m)) (g := h 79) (v := nI (ix (pw n P c p m))) k
      refine J_aload_n (pc := 14) dX0_mostLeft_14 rfl ?_
      refine J_aload_n (pc := 15) dX0_mostLeft_15 rfl ?_
      refine J_getR (pc := 16) dX0_mostLeft_16 fX0_22 sh59 rfl ?_
      refine J_iload (pc := 19) dX0_mostLeft_19 rfl ?_
      refine J_iald (pc := 21) dX0_mostLeft_21 sh79 (rfl) (by omega) ((tyH_o (by omega)).trans eg) (by decide) ?_
      refine J_iload_n (pc := 22) dX0_mostLeft_22 rfl ?_
      refine J_iload_n (pc := 23) dX0_mostLeft_23 rfl ?_
      refine K_Vi3 (pc := 24) (Y' := YX0_purseWithin) dX0_mostLeft_24 lX0_148 mX0_purseWithin vX0_purseWithin ⟨_, _, rfl⟩ sh59 (Nat.le_of_ble_eq_true rfl) (c0_purseWithin hn hp hm c1 hNt) ?_
      rintro r h0 ⟨e0, rfl⟩
      rw [e0]
      clear e0 h0
      refine J_istore (pc := 27) dX0_mostLeft_27 (by decide) ?_
      refine J_aload_n (pc := 29) dX0_mostLeft_29 rfl ?_
      refine J_getR (pc := 30) dX0_mostLeft_30 fX0_25 sh59 rfl ?_
      refine J_iload (pc := 33) dX0_mostLeft_33 rfl ?_
      refine J_dup2 (pc := 35) dX0_mostLeft_35 rfl rfl ?_
      refine J_iald (pc := 36) dX0_mostLeft_36 sh80 (sn.1) (sn2) (tyH_at sn2) (by decide) ?_
      refine J_iconst (pc := 37) (v := nI 1) dX0_mostLeft_37 (by decide) ?_
      refine J_iadd (pc := 38) dX0_mostLeft_38 (nI_add _ _) ?_
      refine J_iast (pc := 39) dX0_mostLeft_39 sh80 (sn.1) (sn2) (by decide) ?_
      refine J_iload_n (pc := 40) dX0_mostLeft_40 rfl ?_
      refine J_aload_n (pc := 41) dX0_mostLeft_41 rfl ?_
      refine J_getR (pc := 42) dX0_mostLeft_42 fX0_25 sh59 rfl ?_
      refine J_iload (pc := 45) dX0_mostLeft_45 rfl ?_
      refine J_iald (pc := 47) dX0_mostLeft_47 sh80 (sn.1) (sn2) (j_up_s) (by decide) ?_
      refine J_max (pc := 48) dX0_mostLeft_48 qX0_66 w_max_s w_math w_max_c (Nat.le_of_ble_eq_true rfl) (mx_if (by omega) (by omega)) ?_
      refine J_istore_n (pc := 51) dX0_mostLeft_51 (by decide) ?_
      refine J_iinc (pc := 52) dX0_mostLeft_52 rfl (v := nI (k + 1)) (by exact nI_add _ _) (by decide) ?_
      refine J_goto (pc := 55) (tgt := 5) dX0_mostLeft_55 (by decide) ?_
      have e1 : tyH h (fun v => if nI (ix (pw n P c p m)) = v then tlF (fun c => pw n P c p m) (h 79) (nI (ix (pw n P c p m))) k + 1 else tlF (fun c => pw n P c p m) (h 79) v k) = tyH h (fun v => tlF (fun c => pw n P c p m) (h 79) v (k + 1)) := by
        congr 1
        funext v
        rw [tlF, ig, ← sn.1]
        by_cases z : pw n P c p m = v
        · rw [if_pos z, if_pos z, z]
        · rw [if_neg z, if_neg z]
      rw [tyH_up sn2, e1]
      have i := ih (k + 1) (by omega) (by omega)
      rw [show tmF (fun c => pw n P c p m) (h 79) (k + 1) = max (tmF (fun c => pw n P c p m) (h 79) k) (tlF (fun c => pw n P c p m) (h 79) (nI (ix (pw n P c p m))) k + 1) from by
        rw [tmF, ig]
        congr 1
        rw [tlF, ig, if_pos rfl, ← sn.1]] at i
      refine J_ls ?_ i
      exact ⟨rfl, rfl, rfl, rfl, rfl, trivial⟩
set_option maxHeartbeats 4000000 in
theorem l0_ml2 {g : jG} {d : Nat} {h : jH} {Q : kQ} {n p m : Nat} {f : Nat → Bool} {P : Nat → Int32} (hG : GD n P) (hp : p < n) (hm : m ≤ 4) (h3 : h 59 3 = nI (cnF f 256)) (hl : lst f (h 79) 256) (hN : ∀ l c, l ≤ 4 → c < 4 ^ l → nd n h (fst4 l + c) (skP n P l c)) {x : Nat} (kx : K g (d + 2) YX0_mostLeft (tyH h (fun v => clF (fun c => pw n P c p m) (h 79) (cnF f 256) v (cnF f 256))) 95 [(0, .ref 59), (1, .int (nI p)), (2, .int (nI m)), (3, .int (nI x)), (4, .int (nI (cnF f 256)))] [] Q) : ∀ (mm k : Nat) , k ≤ (cnF f 256) → (cnF f 256) < k + mm → K g (d + 2) YX0_mostLeft (tyH h (fun v => clF (fun c => pw n P c p m) (h 79) (cnF f 256) v k)) 61 [(0, .ref 59), (1, .int (nI p)), (2, .int (nI m)), (3, .int (nI x)), (4, .int (nI k))] [] Q := by
  intro mm
  induction mm with
  | zero => intro k  hk1 hk2 ; omega
  | succ mm ih =>
    intro k  hk1 hk2 
    have hn := hG.1.1
    have cl := cnF_le (f := f) 256
    have tm := tmF_le (U := (fun c => pw n P c p m)) (g := h 79) k
    have hNt : ∀ l c, l ≤ 4 → c < 4 ^ l → nd n (tyH h (fun v => clF (fun c => pw n P c p m) (h 79) (cnF f 256) v k)) (fst4 l + c) (skP n P l c) := fun l c x1 x2 => nd_congr (hN l c x1 x2) (funext fun i => tyH_o (by omega))
    refine J_iload (pc := 61) dX0_mostLeft_61 rfl ?_
    refine J_aload_n (pc := 63) dX0_mostLeft_63 rfl ?_
    refine J_getI (pc := 64) dX0_mostLeft_64 fX0_130 sh59 rfl ((tyH_o (by omega)).trans h3) ?_
    refine J_icmp_ge (pc := 67) (tgt := 95) dX0_mostLeft_67 (by decide) (fun c67 => ?_) (fun c67 => ?_)
    · skip
      have q67 : (cnF f 256) ≤ k := (nI_leI (by omega) (by omega)).mp c67
      have e_k : k = (cnF f 256) := by omega
      refine J_ls (ls' := [(0, .ref 59), (1, .int (nI p)), (2, .int (nI m)), (3, .int (nI x)), (4, .int (nI k))]) ⟨rfl, rfl, rfl, rfl, rfl, trivial⟩ ?_
      rw [e_k]
      exact kx
    · skip
      have q67 : k < (cnF f 256) := Nat.lt_of_not_le (fun z => c67 ((nI_leI (by omega) (by omega)).mpr z))
      obtain ⟨c, c1, c2, c3, eg⟩ := lst_at hl k q67
      have ig : ix (h 79 k) = c := by rw [eg]; exact ix_nI (by omega)
      have sn := pw_nb (c := c) (m := m) hG hp
      have sn2 := sn.2
      refine J_aload_n (pc := 70) dX0_mostLeft_70 rfl ?_
      refine J_getR (pc := 71) dX0_mostLeft_71 fX0_25 sh59 rfl ?_
      refine J_aload_n (pc := 74) dX0_mostLeft_74 rfl ?_
      refine J_aload_n (pc := 75) dX0_mostLeft_75 rfl ?_
      refine J_getR (pc := 76) dX0_mostLeft_76 fX0_22 sh59 rfl ?_
      refine J_iload (pc := 79) dX0_mostLeft_79 rfl ?_
      refine J_iald (pc := 81) dX0_mostLeft_81 sh79 (rfl) (by omega) ((tyH_o (by omega)).trans eg) (by decide) ?_
      refine J_iload_n (pc := 82) dX0_mostLeft_82 rfl ?_
      refine J_iload_n (pc := 83) dX0_mostLeft_83 rfl ?_
      refine K_Vi3 (pc := 84) (Y' := YX0_purseWithin) dX0_mostLeft_84 lX0_148 mX0_purseWithin vX0_purseWithin ⟨_, _, rfl⟩ sh59 (Nat.le_of_ble_eq_true rfl) (c0_purseWithin hn hp hm c1 hNt) ?_
      rintro r h0 ⟨e0, rfl⟩
      rw [e0]
      clear e0 h0
      refine J_iconst (pc := 87) (v := nI 0) dX0_mostLeft_87 (by decide) ?_
      refine J_iast (pc := 88) dX0_mostLeft_88 sh80 (sn.1) (sn2) (by decide) ?_
      have e1 : tyH h (fun v => if nI (ix (pw n P c p m)) = v then 0 else clF (fun c => pw n P c p m) (h 79) (cnF f 256) v k) = tyH h (fun v => clF (fun c => pw n P c p m) (h 79) (cnF f 256) v (k + 1)) := by
        congr 1
        funext v
        rw [clF, ig, ← sn.1]
      rw [tyH_up sn2, e1]
      refine J_iinc (pc := 89) dX0_mostLeft_89 rfl (v := nI (k + 1)) (by exact nI_add _ _) (by decide) ?_
      refine J_goto (pc := 92) (tgt := 61) dX0_mostLeft_92 (by decide) ?_
      exact J_ls (ls' := [(0, .ref 59), (1, .int (nI p)), (2, .int (nI m)), (3, .int (nI x)), (4, .int (nI (k + 1)))]) ⟨rfl, rfl, rfl, rfl, rfl, trivial⟩ (ih (k + 1)  (by omega) (by omega) )
set_option maxHeartbeats 4000000 in
theorem c0_mostLeft {g : jG} {d : Nat} {h : jH} {n p m : Nat} {f : Nat → Bool} {P : Nat → Int32} (hG : GD n P) (hp : p < n) (hm : m ≤ 4) (h3 : h 59 3 = nI (cnF f 256)) (hl : lst f (h 79) 256) (hN : ∀ l c, l ≤ 4 → c < 4 ^ l → nd n h (fst4 l + c) (skP n P l c)) (hz : ∀ i, i < 1000 → h 80 i = 0) : Mi g (d + 2) YX0_mostLeft h [.ref 59, .int (nI p), .int (nI m)] (fun r h' => h' = h ∧ r = nI (mlF f (fun c => pw n P c p m) 256)) := by
  refine M.of (by decide) rfl (Nat.le_of_ble_eq_true rfl) ?_
  refine J_iconst (pc := 0) (v := nI 0) dX0_mostLeft_0 (by decide) ?_
  refine J_istore_n (pc := 1) dX0_mostLeft_1 (by decide) ?_
  refine J_iconst (pc := 2) (v := nI 0) dX0_mostLeft_2 (by decide) ?_
  refine J_istore (pc := 3) dX0_mostLeft_3 (by decide) ?_
  refine J_h (h' := tyH h (fun v => tlF (fun c => pw n P c p m) (h 79) v 0)) (tyH_0 hz).symm ?_
  refine J_ls (ls' := [(0, .ref 59), (1, .int (nI p)), (2, .int (nI m)), (3, .int (nI (tmF (fun c => pw n P c p m) (h 79) 0))), (4, .int (nI 0))]) ⟨rfl, rfl, rfl, rfl, rfl, trivial⟩ ?_
  refine l0_ml1 hG hp hm h3 hl hN ?_ (cnF f 256 + 1) 0 (Nat.zero_le _) (by omega)
  rw [tm_ml (U := (fun c => pw n P c p m)) (by omega) hl]
  refine J_iconst (pc := 58) (v := nI 0) dX0_mostLeft_58 (by decide) ?_
  refine J_istore (pc := 59) dX0_mostLeft_59 (by decide) ?_
  refine J_ls (ls' := [(0, .ref 59), (1, .int (nI p)), (2, .int (nI m)), (3, .int (nI (mlF f (fun c => pw n P c p m) 256))), (4, .int (nI 0))]) ⟨rfl, rfl, rfl, rfl, rfl, trivial⟩ ?_
  refine l0_ml2 (x := mlF f (fun c => pw n P c p m) 256) hG hp hm h3 hl hN ?_ (cnF f 256 + 1) 0 (Nat.zero_le _) (by omega)
  refine J_h (h' := h) (by
    have e : (fun v => clF (fun c => pw n P c p m) (h 79) (cnF f 256) v (cnF f 256)) = fun _ => 0 := funext fun v => clF_end
    rw [e]; exact tyH_0 hz) ?_
  refine J_iload_n (pc := 95) dX0_mostLeft_95 rfl ?_
  refine K_iret (pc := 96) dX0_mostLeft_96 rfl ?_
  exact ⟨rfl, rfl⟩
set_option maxHeartbeats 4000000 in
theorem l0_lk2 {g : jG} {d : Nat} {h : jH} {Q : kQ} {n : Nat} {f : Nat → Bool} {P : Nat → Int32} (hG : GD n P) (hT : TR n P h) (h3 : h 59 3 = nI (cnF f 256)) (hl : lst f (h 79) 256) (hN : ∀ l c, l ≤ 4 → c < 4 ^ l → nd n h (fst4 l + c) (skP n P l c)) (hz : ∀ i, i < 1000 → h 80 i = 0) {p : Nat} {S : Int32 × Nat} (hp : p < n) (hS : S.2 ≤ 256) (kx : K g (d + 3) YX0_searchLook (lkH h (lkI f (pw n P) p S 4)) 64 [(0, .ref 59), (1, .int (nI p)), (2, .int (nI (4 + 1)))] [] Q) : ∀ (mm k : Nat) , k ≤ 4 → 4 < k + mm → K g (d + 3) YX0_searchLook (lkH h (lkI f (pw n P) p S k)) 23 [(0, .ref 59), (1, .int (nI p)), (2, .int (nI (k + 1)))] [] Q := by
  intro mm
  induction mm with
  | zero => intro k  hk1 hk2 ; omega
  | succ mm ih =>
    intro k  hk1 hk2 
    have hn := hG.1.1
    have ll := lkI_le (f := f) (V := (pw n P)) (p := p) hS k
    have m2 := mlF_le (f := f) (U := fun c => pw n P c p (k + 1)) (Nat.le_refl 256)
    refine J_iload_n (pc := 23) dX0_searchLook_23 rfl ?_
    refine J_iconst (pc := 24) (v := nI 4) dX0_searchLook_24 (by decide) ?_
    refine J_icmp_gt (pc := 25) (tgt := 64) dX0_searchLook_25 (by decide) (fun c25 => ?_) (fun c25 => ?_)
    · skip
      have q25 : 4 < k + 1 := (nI_ltI (by omega) (by omega)).mp c25
      have e_k : k = 4 := by omega
      refine J_ls (ls' := [(0, .ref 59), (1, .int (nI p)), (2, .int (nI (k + 1)))]) ⟨rfl, rfl, rfl, trivial⟩ ?_
      rw [e_k]
      exact kx
    · skip
      have q25 : ¬ 4 < k + 1 := fun z => c25 ((nI_ltI (by omega) (by omega)).mpr z)
      refine J_aload_n (pc := 28) dX0_searchLook_28 rfl ?_
      refine J_iload_n (pc := 29) dX0_searchLook_29 rfl ?_
      refine J_iload_n (pc := 30) dX0_searchLook_30 rfl ?_
      refine K_Vi2 (pc := 31) (Y' := YX0_mostLeft) dX0_searchLook_31 lX0_152 mX0_mostLeft vX0_mostLeft ⟨_, _, rfl⟩ sh59 (Nat.le_of_ble_eq_true rfl) (c0_mostLeft (f := f) hG hp (m := k + 1) (by omega) ((lkH_o (by omega)).trans h3) (by rw [show lkH h (lkI f (pw n P) p S k) 79 = h 79 from funext fun i => lkH_o (by omega)]; exact hl) (fun l c x1 x2 => nd_congr (hN l c x1 x2) (funext fun i => lkH_o (by omega))) (fun i hi => (lkH_o (by omega)).trans (hz i hi))) ?_
      rintro r h0 ⟨e0, rfl⟩
      rw [e0]
      clear e0 h0
      refine J_istore_n (pc := 34) dX0_searchLook_34 (by decide) ?_
      refine J_iload_n (pc := 35) dX0_searchLook_35 rfl ?_
      refine J_aload_n (pc := 36) dX0_searchLook_36 rfl ?_
      refine J_getI (pc := 37) dX0_searchLook_37 fX0_123 sh59 rfl (lkH_6) ?_
      refine J_icmp_ge (pc := 40) (tgt := 58) dX0_searchLook_40 (by decide) (fun c40 => ?_) (fun c40 => ?_)
      · skip
        have q40 : (lkI f (pw n P) p S k).2 ≤ mlF f (fun c => pw n P c p (k + 1)) 256 := (nI_leI (by omega) (by omega)).mp c40
        refine J_iinc (pc := 58) dX0_searchLook_58 rfl (v := nI ((k + 1) + 1)) (by exact nI_add _ _) (by decide) ?_
        refine J_goto (pc := 61) (tgt := 23) dX0_searchLook_61 (by decide) ?_
        have i := ih (k + 1) (by omega) (by omega)
        
        rw [show lkI f (pw n P) p S (k + 1) = (lkI f (pw n P) p S k) from if_neg (Nat.not_lt.mpr q40)] at i
        refine J_ls ?_ i
        exact ⟨rfl, rfl, rfl, trivial⟩
      · skip
        have q40 : mlF f (fun c => pw n P c p (k + 1)) 256 < (lkI f (pw n P) p S k).2 := Nat.lt_of_not_le (fun z => c40 ((nI_leI (by omega) (by omega)).mpr z))
        refine J_aload_n (pc := 43) dX0_searchLook_43 rfl ?_
        refine J_bipush (pc := 44) (v := nI 10) dX0_searchLook_44 (by decide) ?_
        refine J_iload_n (pc := 46) dX0_searchLook_46 rfl ?_
        refine J_imul (pc := 47) dX0_searchLook_47 (pk_mul _ _) ?_
        refine J_iload_n (pc := 48) dX0_searchLook_48 rfl ?_
        refine J_iadd (pc := 49) dX0_searchLook_49 (nI_add _ _) ?_
        refine J_putI (pc := 50) dX0_searchLook_50 fX0_120 sh59 rfl ?_
        refine J_aload_n (pc := 53) dX0_searchLook_53 rfl ?_
        refine J_iload_n (pc := 54) dX0_searchLook_54 rfl ?_
        refine J_putI (pc := 55) dX0_searchLook_55 fX0_123 sh59 rfl ?_
        refine J_iinc (pc := 58) dX0_searchLook_58 rfl (v := nI ((k + 1) + 1)) (by exact nI_add _ _) (by decide) ?_
        refine J_goto (pc := 61) (tgt := 23) dX0_searchLook_61 (by decide) ?_
        have i := ih (k + 1) (by omega) (by omega)
        rw [lkH_up]
        rw [show lkI f (pw n P) p S (k + 1) = (nI (10 * p + (k + 1)), mlF f (fun c => pw n P c p (k + 1)) 256) from if_pos q40] at i
        refine J_ls ?_ i
        exact ⟨rfl, rfl, rfl, trivial⟩
set_option maxHeartbeats 4000000 in
theorem l0_lk1 {g : jG} {d : Nat} {h : jH} {Q : kQ} {n : Nat} {f : Nat → Bool} {P : Nat → Int32} (hG : GD n P) (hT : TR n P h) (h3 : h 59 3 = nI (cnF f 256)) (hl : lst f (h 79) 256) (hN : ∀ l c, l ≤ 4 → c < 4 ^ l → nd n h (fst4 l + c) (skP n P l c)) (hz : ∀ i, i < 1000 → h 80 i = 0) (kx : K g (d + 3) YX0_searchLook (lkH h (lkO f (pw n P) n)) 70 [(0, .ref 59), (1, .int (nI n))] [] Q) : ∀ (mm k : Nat) , k ≤ n → n < k + mm → K g (d + 3) YX0_searchLook (lkH h (lkO f (pw n P) k)) 10 [(0, .ref 59), (1, .int (nI k))] [] Q := by
  intro mm
  induction mm with
  | zero => intro k  hk1 hk2 ; omega
  | succ mm ih =>
    intro k  hk1 hk2 
    have hn := hG.1.1
    obtain ⟨Q', hQ, -⟩ := id hT
    have ll := lkO_le (f := f) (V := (pw n P)) k
    refine J_iload_n (pc := 10) dX0_searchLook_10 rfl ?_
    refine J_aload_n (pc := 11) dX0_searchLook_11 rfl ?_
    refine J_getR (pc := 12) dX0_searchLook_12 fX0_12 sh59 rfl ?_
    refine J_getI (pc := 15) dX0_searchLook_15 fX0_82 (sv0 isV60) rfl ((lkH_o (by omega)).trans hQ.1) ?_
    refine J_icmp_ge (pc := 18) (tgt := 70) dX0_searchLook_18 (by decide) (fun c18 => ?_) (fun c18 => ?_)
    · skip
      have q18 : n ≤ k := (nI_leI (by omega) (by omega)).mp c18
      have e_k : k = n := by omega
      refine J_ls (ls' := [(0, .ref 59), (1, .int (nI k))]) ⟨rfl, rfl, trivial⟩ ?_
      rw [e_k]
      exact kx
    · skip
      have q18 : k < n := Nat.lt_of_not_le (fun z => c18 ((nI_leI (by omega) (by omega)).mpr z))
      refine J_iconst (pc := 21) (v := nI 1) dX0_searchLook_21 (by decide) ?_
      refine J_istore_n (pc := 22) dX0_searchLook_22 (by decide) ?_
      refine J_ls (ls' := [(0, .ref 59), (1, .int (nI k)), (2, .int (nI (0 + 1)))]) ⟨rfl, rfl, rfl, trivial⟩ ?_
      refine l0_lk2 hG hT h3 hl hN hz (p := k) (S := (lkO f (pw n P) k)) q18 ll ?_ 5 0 (Nat.zero_le _) (by omega)
      refine J_iinc (pc := 64) dX0_searchLook_64 rfl (v := nI (k + 1)) (by exact nI_add _ _) (by decide) ?_
      refine J_goto (pc := 67) (tgt := 10) dX0_searchLook_67 (by decide) ?_
      exact J_ls (ls' := [(0, .ref 59), (1, .int (nI (k + 1)))]) ⟨rfl, rfl, trivial⟩ (ih (k + 1) (by omega) (by omega))
set_option maxHeartbeats 4000000 in
theorem c0_searchLook {g : jG} {d : Nat} {h : jH} {n : Nat} {f : Nat → Bool} {P : Nat → Int32} (hG : GD n P) (hT : TR n P h) (h3 : h 59 3 = nI (cnF f 256)) (hl : lst f (h 79) 256) (hN : ∀ l c, l ≤ 4 → c < 4 ^ l → nd n h (fst4 l + c) (skP n P l c)) (hz : ∀ i, i < 1000 → h 80 i = 0) : Mv g (d + 3) YX0_searchLook h [.ref 59] (fun h' => h' = lkH h (lkO f (pw n P) n)) := by
  refine M.of (by decide) rfl (Nat.le_of_ble_eq_true rfl) ?_
  refine J_aload_n (pc := 0) dX0_searchLook_0 rfl ?_
  refine J_aload_n (pc := 1) dX0_searchLook_1 rfl ?_
  refine J_getI (pc := 2) dX0_searchLook_2 fX0_130 sh59 rfl (h3) ?_
  refine K_Vv1 (pc := 5) (Y' := YX0_begin) dX0_searchLook_5 lX0_99 mX0_begin vX0_begin ⟨_, _, rfl⟩ sh59 (Nat.le_of_ble_eq_true rfl) (c0_begin) ?_
  rintro h0 e0
  rw [e0]
  clear e0 h0
  refine J_iconst (pc := 8) (v := nI 0) dX0_searchLook_8 (by decide) ?_
  refine J_istore_n (pc := 9) dX0_searchLook_9 (by decide) ?_
  refine J_h (h' := lkH h (lkO f (pw n P) 0)) rfl ?_
  refine J_ls (ls' := [(0, .ref 59), (1, .int (nI 0))]) ⟨rfl, rfl, trivial⟩ ?_
  refine l0_lk1 hG hT h3 hl hN hz ?_ (n + 1) 0 (Nat.zero_le _) (by omega)
  refine K_ret (pc := 70) dX0_searchLook_70 rfl ?_
  exact rfl
set_option maxHeartbeats 4000000 in
theorem c5_look {g : jG} {d : Nat} {a h : jH} {x : Int32} (hR : RX a h) : Mi g (d + 6) YX5_look h [.ref 0, .int x] (fun r h' => ∃ a', oLook a x = (r, a') ∧ RX a' h' ∧ hi h h') := by
  refine M.of (by decide) rfl (Nat.le_of_ble_eq_true rfl) ?_
  have hR0 := hR
  have hG := hR.1.2.2.2
  obtain ⟨⟨r1, hX, hwk, ⟨⟨v1, v2, v3, v4⟩, v5, v6, v7, v8, v9, va, vb, vc, vd⟩⟩, rK, rT, rS, rH, ⟨r8, r8b, r9, ra⟩⟩ := hR
  obtain ⟨x1, x2, x3, x4, x5, x6, x7, x8, x9⟩ := id hX
  have hn4 := v1
  have n5 := r1.2
  have c6 := v3.2
  have p9 := v5.2
  refine J_iload_n (pc := 0) dX5_look_0 rfl ?_
  refine J_iconst (pc := 1) (v := nI 0) dX5_look_1 (by decide) ?_
  refine J_iconst (pc := 2) (v := nI 1) dX5_look_2 (by decide) ?_
  refine K_Si3 (pc := 3) (Y' := YX5_within) dX5_look_3 lX5_63 mX5_within sX5_within (Nat.le_of_ble_eq_true rfl) (c5_within) ?_
  rintro x h0 ⟨e0, ⟨rfl, b3⟩ | ⟨rfl, b3⟩⟩ <;> rw [e0] <;> clear e0 h0
  · skip
    refine J_if_ne (pc := 6) (tgt := 11) dX5_look_6 (by decide) (fun _ => ?_) (fun c => absurd c (by decide))
    refine J_aload_n (pc := 11) dX5_look_11 rfl ?_
    refine J_getR (pc := 12) dX5_look_12 fX5_37 sh0 rfl ?_
    refine J_aload_n (pc := 15) dX5_look_15 rfl ?_
    refine J_getR (pc := 16) dX5_look_16 fX5_10 sh0 rfl ?_
    refine J_aload_n (pc := 19) dX5_look_19 rfl ?_
    refine J_getR (pc := 20) dX5_look_20 fX5_44 sh0 rfl ?_
    refine K_Vv2 (pc := 23) (Y' := YX0_findFitting) dX5_look_23 lX5_244 mX0_findFitting vX0_findFitting ⟨_, _, rfl⟩ sh59 (Nat.le_of_ble_eq_true rfl) (c0_findFitting hR0) ?_
    rintro h1 ⟨f1, f2, f3, f4, f5⟩
    have cl := cnF_le (f := fitA a) 256
    have fin : RX a h1 ∧ hi h h1 := ⟨RX_congr hR0 sameP.rf (fun b hb => f5 b (by omega)), fun b hb => f5 b (by omega)⟩
    refine J_aload_n (pc := 26) dX5_look_26 rfl ?_
    refine J_getR (pc := 27) dX5_look_27 fX5_37 sh0 rfl ?_
    refine K_Vv0 (pc := 30) (Y' := YX0_searchLook) dX5_look_30 lX5_257 mX0_searchLook vX0_searchLook ⟨_, _, rfl⟩ sh59 (Nat.le_of_ble_eq_true rfl) (c0_searchLook hG f3 f1 f2 f4 (fun i hi => by rw [f5 80 (by omega)]; exact r8b i hi)) ?_
    rintro h0 e0
    rw [e0]
    clear e0 h0
    refine J_aload_n (pc := 33) dX5_look_33 rfl ?_
    refine J_getR (pc := 34) dX5_look_34 fX5_37 sh0 rfl ?_
    refine J_iload_n (pc := 37) dX5_look_37 rfl ?_
    refine K_Vi1 (pc := 38) (Y' := YX0_found) dX5_look_38 lX5_202 mX0_found vX0_found ⟨_, _, rfl⟩ sh59 (Nat.le_of_ble_eq_true rfl) (c0_found (S := lkO (fitA a) (pw (ix (a 131 2)) (pg a 0)) (ix (a 131 2))) lkH_5 lkH_6) ?_
    rintro r h0 ⟨e0, rfl⟩
    rw [e0]
    clear e0 h0
    refine K_iret (pc := 41) dX5_look_41 rfl ?_
    exact ⟨a, iteR_t b3, RX_congr hR0 sameP.rf (fun b hb => funext fun i => (lkH_o (by omega)).trans (congrFun (f5 b (by omega)) i)), fun b hb => funext fun i => (lkH_o (by omega)).trans (congrFun (f5 b (by omega)) i)⟩
  · skip
    refine J_if_ne (pc := 6) (tgt := 11) dX5_look_6 (by decide) (fun c => absurd c (by decide)) (fun _ => ?_)
    refine J_iconst (pc := 9) (v := -1) dX5_look_9 (by decide) ?_
    refine K_iret (pc := 10) dX5_look_10 rfl ?_
    exact ⟨a, iteR_f b3, hR0, hi.rf⟩
