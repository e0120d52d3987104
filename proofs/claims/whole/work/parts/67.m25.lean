set_option maxHeartbeats 4000000 in
theorem c1_refuseIf {g : jG} {d : Nat} {h : jH} {L : Nat} {s : sS} {b : Bool} {x : Int32} {c : Nat} (hs : CT L s h) (hb : bq (b = true) x) (hc : c ≤ 6) : Mv g d YX1_refuseIf h [.ref 39, .int x, .int (nI c)] (fun h' => CT L (sRef b c s) h' ∧ tf h h') := by
  refine M.of (by decide) rfl (Nat.le_of_ble_eq_true rfl) ?_
  refine J_iload_n (pc := 0) dX1_refuseIf_0 rfl ?_
  refine J_if_eq (pc := 1) (tgt := 16) dX1_refuseIf_1 (by decide) (fun c1 => ?_) (fun c1 => ?_)
  · skip
    refine K_ret (pc := 16) dX1_refuseIf_16 rfl ?_
    have nbb : ¬ b = true := by
      rcases hb with ⟨z, -⟩ | ⟨-, z⟩
      · rw [z] at c1; exact absurd c1 (by decide)
      · exact z
    rw [sRef_n nbb]
    exact ⟨hs, tf.rf⟩
  · skip
    refine J_aload_n (pc := 4) dX1_refuseIf_4 rfl ?_
    refine J_getI (pc := 5) dX1_refuseIf_5 fX1_15 sh39 rfl (hs.2.2.2.2.1) ?_
    refine J_if_ne (pc := 8) (tgt := 16) dX1_refuseIf_8 (by decide) (fun c8 => ?_) (fun c8 => ?_)
    · skip
      refine K_ret (pc := 16) dX1_refuseIf_16 rfl ?_
      rw [sRef_f (fun z => c8 (by rw [z]; rfl))]
      exact ⟨hs, tf.rf⟩
    · skip
      refine J_aload_n (pc := 11) dX1_refuseIf_11 rfl ?_
      refine J_iload_n (pc := 12) dX1_refuseIf_12 rfl ?_
      refine J_putI (pc := 13) dX1_refuseIf_13 fX1_15 sh39 rfl ?_
      refine K_ret (pc := 16) dX1_refuseIf_16 rfl ?_
      have hb1 : b = true := by
        rcases hb with ⟨-, z⟩ | ⟨z, -⟩
        · exact z
        · exact absurd z (fun z => c1 (by rw [z]; rfl))
      rw [sRef_y hb1 ((nI0e (by have := hs.2.2.2.2.2.1; omega)).mp c8)]
      exact ⟨CT_ref (b := b) hs hc rfl, tf_up tf.rf (by omega) (by omega)⟩
set_option maxHeartbeats 4000000 in
theorem c1_expect {g : jG} {d : Nat} {h : jH} {L : Nat} {s : sS} {k : Nat} (hs : CT L s h) (hk : k ≤ 4) : Mv g (d + 1) YX1_expect h [.ref 39, .int (nI k)] (fun h' => CT L (sExp k s) h' ∧ tf h h') := by
  refine M.of (by decide) rfl (Nat.le_of_ble_eq_true rfl) ?_
  refine J_aload_n (pc := 0) dX1_expect_0 rfl ?_
  refine J_aload_n (pc := 1) dX1_expect_1 rfl ?_
  refine J_getI (pc := 2) dX1_expect_2 fX1_35 sh39 rfl (hs.2.2.1) ?_
  refine J_iconst (pc := 5) (v := nI 4) dX1_expect_5 (by decide) ?_
  refine J_icmp_ne (pc := 6) (tgt := 13) dX1_expect_6 (by decide) (fun c6 => ?_) (fun c6 => ?_)
  · skip
    refine J_iconst (pc := 13) (v := nI 0) dX1_expect_13 (by decide) ?_
    refine J_iconst (pc := 14) (v := nI 1) dX1_expect_14 (by decide) ?_
    refine K_Vv2 (pc := 15) (Y' := YX1_refuseIf) dX1_expect_15 lX1_45 mX1_refuseIf vX1_refuseIf ⟨_, _, rfl⟩ sh39 (Nat.le_of_ble_eq_true rfl) (c1_refuseIf (b := decide (s.2.2.2.1 = 4)) (c := 1) hs (bq_dec (bqf (fun z => c6 ((nIe (by have := hs.2.2.2.2.2.2.2.2.2; omega) (by omega)).mpr z)))) (by omega)) ?_
    rintro h1 ⟨hs1, f1⟩
    have k1 : h1 39 4 = nI s.2.2.2.1 := by have := hs1.2.2.1; rw [sRef_2] at this; exact this
    refine J_aload_n (pc := 18) dX1_expect_18 rfl ?_
    refine J_aload_n (pc := 19) dX1_expect_19 rfl ?_
    refine J_getI (pc := 20) dX1_expect_20 fX1_35 sh39 rfl (k1) ?_
    refine J_iload_n (pc := 23) dX1_expect_23 rfl ?_
    refine J_icmp_eq (pc := 24) (tgt := 31) dX1_expect_24 (by decide) (fun c24 => ?_) (fun c24 => ?_)
    · skip
      refine J_iconst (pc := 31) (v := nI 0) dX1_expect_31 (by decide) ?_
      refine J_iconst (pc := 32) (v := nI 2) dX1_expect_32 (by decide) ?_
      refine K_Vv2 (pc := 33) (Y' := YX1_refuseIf) dX1_expect_33 lX1_45 mX1_refuseIf vX1_refuseIf ⟨_, _, rfl⟩ sh39 (Nat.le_of_ble_eq_true rfl) (c1_refuseIf (b := decide (s.2.2.2.1 ≠ k)) (c := 2) hs1 (bq_dec (bqf (fun z => z ((nIe (by have := hs.2.2.2.2.2.2.2.2.2; omega) (by omega)).mp c24)))) (by omega)) ?_
      rintro h2 ⟨hs2, f2⟩
      refine K_ret (pc := 36) dX1_expect_36 rfl ?_
      exact ⟨hs2, f1.tr f2⟩
    · skip
      refine J_iconst (pc := 27) (v := nI 1) dX1_expect_27 (by decide) ?_
      refine J_goto (pc := 28) (tgt := 32) dX1_expect_28 (by decide) ?_
      refine J_iconst (pc := 32) (v := nI 2) dX1_expect_32 (by decide) ?_
      refine K_Vv2 (pc := 33) (Y' := YX1_refuseIf) dX1_expect_33 lX1_45 mX1_refuseIf vX1_refuseIf ⟨_, _, rfl⟩ sh39 (Nat.le_of_ble_eq_true rfl) (c1_refuseIf (b := decide (s.2.2.2.1 ≠ k)) (c := 2) hs1 (bq_dec (bqt (fun z => c24 ((nIe (by have := hs.2.2.2.2.2.2.2.2.2; omega) (by omega)).mpr z)))) (by omega)) ?_
      rintro h2 ⟨hs2, f2⟩
      refine K_ret (pc := 36) dX1_expect_36 rfl ?_
      exact ⟨hs2, f1.tr f2⟩
  · skip
    refine J_iconst (pc := 9) (v := nI 1) dX1_expect_9 (by decide) ?_
    refine J_goto (pc := 10) (tgt := 14) dX1_expect_10 (by decide) ?_
    refine J_iconst (pc := 14) (v := nI 1) dX1_expect_14 (by decide) ?_
    refine K_Vv2 (pc := 15) (Y' := YX1_refuseIf) dX1_expect_15 lX1_45 mX1_refuseIf vX1_refuseIf ⟨_, _, rfl⟩ sh39 (Nat.le_of_ble_eq_true rfl) (c1_refuseIf (b := decide (s.2.2.2.1 = 4)) (c := 1) hs (bq_dec (bqt ((nIe (by have := hs.2.2.2.2.2.2.2.2.2; omega) (by omega)).mp c6))) (by omega)) ?_
    rintro h1 ⟨hs1, f1⟩
    have k1 : h1 39 4 = nI s.2.2.2.1 := by have := hs1.2.2.1; rw [sRef_2] at this; exact this
    refine J_aload_n (pc := 18) dX1_expect_18 rfl ?_
    refine J_aload_n (pc := 19) dX1_expect_19 rfl ?_
    refine J_getI (pc := 20) dX1_expect_20 fX1_35 sh39 rfl (k1) ?_
    refine J_iload_n (pc := 23) dX1_expect_23 rfl ?_
    refine J_icmp_eq (pc := 24) (tgt := 31) dX1_expect_24 (by decide) (fun c24 => ?_) (fun c24 => ?_)
    · skip
      refine J_iconst (pc := 31) (v := nI 0) dX1_expect_31 (by decide) ?_
      refine J_iconst (pc := 32) (v := nI 2) dX1_expect_32 (by decide) ?_
      refine K_Vv2 (pc := 33) (Y' := YX1_refuseIf) dX1_expect_33 lX1_45 mX1_refuseIf vX1_refuseIf ⟨_, _, rfl⟩ sh39 (Nat.le_of_ble_eq_true rfl) (c1_refuseIf (b := decide (s.2.2.2.1 ≠ k)) (c := 2) hs1 (bq_dec (bqf (fun z => z ((nIe (by have := hs.2.2.2.2.2.2.2.2.2; omega) (by omega)).mp c24)))) (by omega)) ?_
      rintro h2 ⟨hs2, f2⟩
      refine K_ret (pc := 36) dX1_expect_36 rfl ?_
      exact ⟨hs2, f1.tr f2⟩
    · skip
      refine J_iconst (pc := 27) (v := nI 1) dX1_expect_27 (by decide) ?_
      refine J_goto (pc := 28) (tgt := 32) dX1_expect_28 (by decide) ?_
      refine J_iconst (pc := 32) (v := nI 2) dX1_expect_32 (by decide) ?_
      refine K_Vv2 (pc := 33) (Y' := YX1_refuseIf) dX1_expect_33 lX1_45 mX1_refuseIf vX1_refuseIf ⟨_, _, rfl⟩ sh39 (Nat.le_of_ble_eq_true rfl) (c1_refuseIf (b := decide (s.2.2.2.1 ≠ k)) (c := 2) hs1 (bq_dec (bqt (fun z => c24 ((nIe (by have := hs.2.2.2.2.2.2.2.2.2; omega) (by omega)).mpr z)))) (by omega)) ?_
      rintro h2 ⟨hs2, f2⟩
      refine K_ret (pc := 36) dX1_expect_36 rfl ?_
      exact ⟨hs2, f1.tr f2⟩
set_option maxHeartbeats 4000000 in
theorem c1_isLetter {g : jG} {d : Nat} {h : jH} {x : Int32} : Mi g d YX1_isLetter h [.int x] (fun r h' => h' = h ∧ bq (nI 97 ≤ x ∧ x ≤ nI 122) r) := by
  refine M.of (by decide) rfl (Nat.le_of_ble_eq_true rfl) ?_
  refine J_iload_n (pc := 0) dX1_isLetter_0 rfl ?_
  refine J_bipush (pc := 1) (v := nI 97) dX1_isLetter_1 (by decide) ?_
  refine J_icmp_lt (pc := 3) (tgt := 16) dX1_isLetter_3 (by decide) (fun c3 => ?_) (fun c3 => ?_)
  · skip
    refine J_iconst (pc := 16) (v := nI 0) dX1_isLetter_16 (by decide) ?_
    refine K_zret (pc := 17) dX1_isLetter_17 rfl (by decide) ?_
    exact ⟨rfl, bqf (fun z => absurd z.1 (Int32.not_le.mpr c3))⟩
  · skip
    refine J_iload_n (pc := 6) dX1_isLetter_6 rfl ?_
    refine J_bipush (pc := 7) (v := nI 122) dX1_isLetter_7 (by decide) ?_
    refine J_icmp_gt (pc := 9) (tgt := 16) dX1_isLetter_9 (by decide) (fun c9 => ?_) (fun c9 => ?_)
    · skip
      refine J_iconst (pc := 16) (v := nI 0) dX1_isLetter_16 (by decide) ?_
      refine K_zret (pc := 17) dX1_isLetter_17 rfl (by decide) ?_
      exact ⟨rfl, bqf (fun z => absurd z.2 (Int32.not_le.mpr c9))⟩
    · skip
      refine J_iconst (pc := 12) (v := nI 1) dX1_isLetter_12 (by decide) ?_
      refine J_goto (pc := 13) (tgt := 17) dX1_isLetter_13 (by decide) ?_
      refine K_zret (pc := 17) dX1_isLetter_17 rfl (by decide) ?_
      exact ⟨rfl, bqt ⟨Int32.not_lt.mp c3, Int32.not_lt.mp c9⟩⟩
set_option maxHeartbeats 4000000 in
theorem c1_isFigure {g : jG} {d : Nat} {h : jH} {x : Int32} : Mi g d YX1_isFigure h [.int x] (fun r h' => h' = h ∧ bq (nI 48 ≤ x ∧ x ≤ nI 57) r) := by
  refine M.of (by decide) rfl (Nat.le_of_ble_eq_true rfl) ?_
  refine J_iload_n (pc := 0) dX1_isFigure_0 rfl ?_
  refine J_bipush (pc := 1) (v := nI 48) dX1_isFigure_1 (by decide) ?_
  refine J_icmp_lt (pc := 3) (tgt := 16) dX1_isFigure_3 (by decide) (fun c3 => ?_) (fun c3 => ?_)
  · skip
    refine J_iconst (pc := 16) (v := nI 0) dX1_isFigure_16 (by decide) ?_
    refine K_zret (pc := 17) dX1_isFigure_17 rfl (by decide) ?_
    exact ⟨rfl, bqf (fun z => absurd z.1 (Int32.not_le.mpr c3))⟩
  · skip
    refine J_iload_n (pc := 6) dX1_isFigure_6 rfl ?_
    refine J_bipush (pc := 7) (v := nI 57) dX1_isFigure_7 (by decide) ?_
    refine J_icmp_gt (pc := 9) (tgt := 16) dX1_isFigure_9 (by decide) (fun c9 => ?_) (fun c9 => ?_)
    · skip
      refine J_iconst (pc := 16) (v := nI 0) dX1_isFigure_16 (by decide) ?_
      refine K_zret (pc := 17) dX1_isFigure_17 rfl (by decide) ?_
      exact ⟨rfl, bqf (fun z => absurd z.2 (Int32.not_le.mpr c9))⟩
    · skip
      refine J_iconst (pc := 12) (v := nI 1) dX1_isFigure_12 (by decide) ?_
      refine J_goto (pc := 13) (tgt := 17) dX1_isFigure_13 (by decide) ?_
      refine K_zret (pc := 17) dX1_isFigure_17 rfl (by decide) ?_
      exact ⟨rfl, bqt ⟨Int32.not_lt.mp c3, Int32.not_lt.mp c9⟩⟩
set_option maxHeartbeats 4000000 in
theorem l1_readName {g : jG} {d : Nat} {h : jH} {Q : kQ} {L p q : Nat} {t : Nat → Int32} (hT : TP L t h) (hp : p ≤ L) (hq : scan (ltB L t) 161 p = q) (kx : K g (d + 1) YX1_readName (j_up h 39 2 (nI (p + (q - p)))) 39 [(0, .ref 39)] [] Q) : ∀ (mm k : Nat) , k ≤ (q - p) → (q - p) < k + mm → K g (d + 1) YX1_readName (j_up h 39 2 (nI (p + k))) 0 [(0, .ref 39)] [] Q := by
  intro mm
  induction mm with
  | zero => intro k  hk1 hk2 ; omega
  | succ mm ih =>
    intro k  hk1 hk2 
    obtain ⟨a1, a2, a3, a4⟩ := scan_ex (m := 161) (s := p) (fun j => ltB_l (L := L) (t := t) (k := j)) hp (by have := hT.2.1; omega)
    rw [hq] at a1 a2 a3 a4
    have hL := hT.2.1
    refine J_aload_n (pc := 0) dX1_readName_0 rfl ?_
    refine J_getI (pc := 1) dX1_readName_1 fX1_55 sh39 rfl (j_up_s) ?_
    refine J_aload_n (pc := 4) dX1_readName_4 rfl ?_
    refine J_getI (pc := 5) dX1_readName_5 fX1_26 sh39 rfl ((j_up_o (by omega)).trans hT.1) ?_
    refine J_icmp_ge (pc := 8) (tgt := 39) dX1_readName_8 (by decide) (fun c8 => ?_) (fun c8 => ?_)
    · skip
      have q8 : L ≤ (p + k) := (nI_leI (by omega) (by omega)).mp c8
      have e_k : k = (q - p) := by omega
      refine J_ls (ls' := [(0, .ref 39)]) ⟨rfl, trivial⟩ ?_
      rw [e_k]
      exact kx
    · skip
      have q8 : (p + k) < L := Nat.lt_of_not_le (fun z => c8 ((nI_leI (by omega) (by omega)).mpr z))
      refine J_aload_n (pc := 11) dX1_readName_11 rfl ?_
      refine J_getR (pc := 12) dX1_readName_12 fX1_11 sh39 rfl ?_
      refine J_aload_n (pc := 15) dX1_readName_15 rfl ?_
      refine J_getI (pc := 16) dX1_readName_16 fX1_55 sh39 rfl (j_up_s) ?_
      refine J_iald (pc := 19) dX1_readName_19 sh40 (rfl) (by omega) ((j_up_o (by omega)).trans (hT.2.2 _ q8)) (by decide) ?_
      refine K_Si1 (pc := 20) (Y' := YX1_isLetter) dX1_readName_20 lX1_142 mX1_isLetter sX1_isLetter (Nat.le_of_ble_eq_true rfl) (c1_isLetter) ?_
      rintro x h0 ⟨e0, ⟨rfl, b20⟩ | ⟨rfl, b20⟩⟩ <;> rw [e0] <;> clear e0 h0
      · skip
        have z2 : k < q - p := Nat.lt_of_not_le (fun z => by
          have e : p + k = q := by omega
          rw [e] at q8 b20
          rw [ltB, decide_eq_true (⟨q8, b20⟩ : q < L ∧ nI 97 ≤ t q ∧ t q ≤ nI 122)] at a4
          cases a4)
        refine J_if_eq (pc := 23) (tgt := 39) dX1_readName_23 (by decide) (fun c => absurd c (by decide)) (fun _ => ?_)
        refine J_aload_n (pc := 26) dX1_readName_26 rfl ?_
        refine J_dup (pc := 27) dX1_readName_27 rfl ?_
        refine J_getI (pc := 28) dX1_readName_28 fX1_55 sh39 rfl (j_up_s) ?_
        refine J_iconst (pc := 31) (v := nI 1) dX1_readName_31 (by decide) ?_
        refine J_iadd (pc := 32) dX1_readName_32 (nI_add _ _) ?_
        refine J_putI (pc := 33) dX1_readName_33 fX1_55 sh39 rfl ?_
        rw [j_up_up]
        refine J_goto (pc := 36) (tgt := 0) dX1_readName_36 (by decide) ?_
        exact J_ls (ls' := [(0, .ref 39)]) ⟨rfl, trivial⟩ (ih (k + 1)  (by omega) (by omega) )
      · skip
        have z2 : ¬ k < q - p := fun z => b20 (of_decide_eq_true (a3 (p + k) (by omega) (by omega))).2
        refine J_if_eq (pc := 23) (tgt := 39) dX1_readName_23 (by decide) (fun _ => ?_) (fun c => absurd c (by decide))
        have e_k : k = (q - p) := by omega
        refine J_ls (ls' := [(0, .ref 39)]) ⟨rfl, trivial⟩ ?_
        rw [e_k]
        exact kx
set_option maxHeartbeats 4000000 in
theorem c1_readName {g : jG} {d : Nat} {h : jH} {L p q : Nat} {t : Nat → Int32} (hT : TP L t h) (hp : p ≤ L) (hq : scan (ltB L t) 161 p = q) (h2 : h 39 2 = nI p) : Mv g (d + 1) YX1_readName h [.ref 39] (fun h' => h' = j_up (j_up h 39 2 (nI q)) 39 4 (nI 1)) := by
  refine M.of (by decide) rfl (Nat.le_of_ble_eq_true rfl) ?_
  obtain ⟨a1, a2, a3, a4⟩ := scan_ex (m := 161) (s := p) (fun j => ltB_l (L := L) (t := t) (k := j)) hp (by have := hT.2.1; omega)
  rw [hq] at a1 a2 a3 a4
  have hL := hT.2.1
  have e0 : K g (d + 1) YX1_readName (j_up h 39 2 (nI (p + 0))) 0 [(0, .ref 39)] [] (fun r h' => r = none ∧ h' = j_up (j_up h 39 2 (nI q)) 39 4 (nI 1)) := by
    refine l1_readName hT hp hq ?_ (q - p + 1) 0 (Nat.zero_le _) (by omega)
    rw [show p + (q - p) = q by omega]
    refine J_aload_n (pc := 39) dX1_readName_39 rfl ?_
    refine J_iconst (pc := 40) (v := nI 1) dX1_readName_40 (by decide) ?_
    refine J_putI (pc := 41) dX1_readName_41 fX1_35 sh39 rfl ?_
    refine K_ret (pc := 44) dX1_readName_44 rfl ?_
    exact rfl
  rw [show p + 0 = p from rfl, j_up_id h2] at e0
  exact e0
set_option maxHeartbeats 4000000 in
theorem l1_readNumber {g : jG} {d : Nat} {h : jH} {Q : kQ} {L p q : Nat} {t : Nat → Int32} (hT : TP L t h) (hp : p ≤ L) (hq : scan (fgB L t) 161 p = q) (kx : K g (d + 1) YX1_readNumber (j_up (j_up h 39 5 (nvF t p (q - p))) 39 2 (nI (p + (q - p)))) 68 [(0, .ref 39)] [] Q) : ∀ (mm k : Nat) , k ≤ (q - p) → (q - p) < k + mm → K g (d + 1) YX1_readNumber (j_up (j_up h 39 5 (nvF t p k)) 39 2 (nI (p + k))) 5 [(0, .ref 39)] [] Q := by
  intro mm
  induction mm with
  | zero => intro k  hk1 hk2 ; omega
  | succ mm ih =>
    intro k  hk1 hk2 
    obtain ⟨a1, a2, a3, a4⟩ := scan_ex (m := 161) (s := p) (fun j => fgB_l (L := L) (t := t) (k := j)) hp (by have := hT.2.1; omega)
    rw [hq] at a1 a2 a3 a4
    have hL := hT.2.1
    refine J_aload_n (pc := 5) dX1_readNumber_5 rfl ?_
    refine J_getI (pc := 6) dX1_readNumber_6 fX1_55 sh39 rfl (j_up_s) ?_
    refine J_aload_n (pc := 9) dX1_readNumber_9 rfl ?_
    refine J_getI (pc := 10) dX1_readNumber_10 fX1_26 sh39 rfl ((j_up_o (by omega)).trans ((j_up_o (by omega)).trans hT.1)) ?_
    refine J_icmp_ge (pc := 13) (tgt := 68) dX1_readNumber_13 (by decide) (fun c13 => ?_) (fun c13 => ?_)
    · skip
      have q13 : L ≤ (p + k) := (nI_leI (by omega) (by omega)).mp c13
      have e_k : k = (q - p) := by omega
      refine J_ls (ls' := [(0, .ref 39)]) ⟨rfl, trivial⟩ ?_
      rw [e_k]
      exact kx
    · skip
      have q13 : (p + k) < L := Nat.lt_of_not_le (fun z => c13 ((nI_leI (by omega) (by omega)).mpr z))
      refine J_aload_n (pc := 16) dX1_readNumber_16 rfl ?_
      refine J_getR (pc := 17) dX1_readNumber_17 fX1_11 sh39 rfl ?_
      refine J_aload_n (pc := 20) dX1_readNumber_20 rfl ?_
      refine J_getI (pc := 21) dX1_readNumber_21 fX1_55 sh39 rfl (j_up_s) ?_
      refine J_iald (pc := 24) dX1_readNumber_24 sh40 (rfl) (by omega) ((j_up_o (by omega)).trans ((j_up_o (by omega)).trans (hT.2.2 _ q13))) (by decide) ?_
      refine K_Si1 (pc := 25) (Y' := YX1_isFigure) dX1_readNumber_25 lX1_148 mX1_isFigure sX1_isFigure (Nat.le_of_ble_eq_true rfl) (c1_isFigure) ?_
      rintro x h0 ⟨e0, ⟨rfl, b25⟩ | ⟨rfl, b25⟩⟩ <;> rw [e0] <;> clear e0 h0
      · skip
        have z2 : k < q - p := Nat.lt_of_not_le (fun z => by
          have e : p + k = q := by omega
          rw [e] at q13 b25
          rw [fgB, decide_eq_true (⟨q13, b25⟩ : q < L ∧ nI 48 ≤ t q ∧ t q ≤ nI 57)] at a4
          cases a4)
        refine J_if_eq (pc := 28) (tgt := 68) dX1_readNumber_28 (by decide) (fun c => absurd c (by decide)) (fun _ => ?_)
        refine J_aload_n (pc := 31) dX1_readNumber_31 rfl ?_
        refine J_aload_n (pc := 32) dX1_readNumber_32 rfl ?_
        refine J_getI (pc := 33) dX1_readNumber_33 fX1_127 sh39 rfl ((j_up_o (by omega)).trans j_up_s) ?_
        refine J_bipush (pc := 36) (v := nI 10) dX1_readNumber_36 (by decide) ?_
        refine J_imul (pc := 38) dX1_readNumber_38 (rfl) ?_
        refine J_aload_n (pc := 39) dX1_readNumber_39 rfl ?_
        refine J_getR (pc := 40) dX1_readNumber_40 fX1_11 sh39 rfl ?_
        refine J_aload_n (pc := 43) dX1_readNumber_43 rfl ?_
        refine J_getI (pc := 44) dX1_readNumber_44 fX1_55 sh39 rfl (j_up_s) ?_
        refine J_iald (pc := 47) dX1_readNumber_47 sh40 (rfl) (by omega) ((j_up_o (by omega)).trans ((j_up_o (by omega)).trans (hT.2.2 _ q13))) (by decide) ?_
        refine J_iadd (pc := 48) dX1_readNumber_48 (rfl) ?_
        refine J_bipush (pc := 49) (v := nI 48) dX1_readNumber_49 (by decide) ?_
        refine J_isub (pc := 51) dX1_readNumber_51 (rfl) ?_
        refine J_putI (pc := 52) dX1_readNumber_52 fX1_127 sh39 rfl ?_
        refine J_aload_n (pc := 55) dX1_readNumber_55 rfl ?_
        refine J_dup (pc := 56) dX1_readNumber_56 rfl ?_
        refine J_getI (pc := 57) dX1_readNumber_57 fX1_55 sh39 rfl ((j_up_o (by omega)).trans j_up_s) ?_
        refine J_iconst (pc := 60) (v := nI 1) dX1_readNumber_60 (by decide) ?_
        refine J_iadd (pc := 61) dX1_readNumber_61 (nI_add _ _) ?_
        refine J_putI (pc := 62) dX1_readNumber_62 fX1_55 sh39 rfl ?_
        rw [j_up_u4]
        refine J_goto (pc := 65) (tgt := 5) dX1_readNumber_65 (by decide) ?_
        exact J_ls (ls' := [(0, .ref 39)]) ⟨rfl, trivial⟩ (ih (k + 1)  (by omega) (by omega) )
      · skip
        have z2 : ¬ k < q - p := fun z => b25 (of_decide_eq_true (a3 (p + k) (by omega) (by omega))).2
        refine J_if_eq (pc := 28) (tgt := 68) dX1_readNumber_28 (by decide) (fun _ => ?_) (fun c => absurd c (by decide))
        have e_k : k = (q - p) := by omega
        refine J_ls (ls' := [(0, .ref 39)]) ⟨rfl, trivial⟩ ?_
        rw [e_k]
        exact kx
set_option maxHeartbeats 4000000 in
theorem c1_readNumber {g : jG} {d : Nat} {h : jH} {L p q : Nat} {t : Nat → Int32} (hT : TP L t h) (hp : p ≤ L) (hq : scan (fgB L t) 161 p = q) (h2 : h 39 2 = nI p) (h3 : h 39 3 = nI p) : Mv g (d + 1) YX1_readNumber h [.ref 39] (fun h' => h' = j_up (j_up (j_up h 39 5 (nvF t p (q - p))) 39 2 (nI q)) 39 4 (nI (if q - p ≤ 2 then 2 else 4))) := by
  refine M.of (by decide) rfl (Nat.le_of_ble_eq_true rfl) ?_
  obtain ⟨a1, a2, a3, a4⟩ := scan_ex (m := 161) (s := p) (fun j => fgB_l (L := L) (t := t) (k := j)) hp (by have := hT.2.1; omega)
  rw [hq] at a1 a2 a3 a4
  have hL := hT.2.1
  have e0 : K g (d + 1) YX1_readNumber (j_up (j_up h 39 5 (nvF t p 0)) 39 2 (nI (p + 0))) 5 [(0, .ref 39)] [] (fun r h' => r = none ∧ h' = j_up (j_up (j_up h 39 5 (nvF t p (q - p))) 39 2 (nI q)) 39 4 (nI (if q - p ≤ 2 then 2 else 4))) := by
    refine l1_readNumber hT hp hq ?_ (q - p + 1) 0 (Nat.zero_le _) (by omega)
    rw [show p + (q - p) = q by omega]
    refine J_aload_n (pc := 68) dX1_readNumber_68 rfl ?_
    refine J_aload_n (pc := 69) dX1_readNumber_69 rfl ?_
    refine J_getI (pc := 70) dX1_readNumber_70 fX1_55 sh39 rfl (j_up_s) ?_
    refine J_aload_n (pc := 73) dX1_readNumber_73 rfl ?_
    refine J_getI (pc := 74) dX1_readNumber_74 fX1_49 sh39 rfl ((j_up_o (by omega)).trans ((j_up_o (by omega)).trans h3)) ?_
    refine J_isub (pc := 77) dX1_readNumber_77 (nIsub (by omega) (by omega)) ?_
    refine J_iconst (pc := 78) (v := nI 2) dX1_readNumber_78 (by decide) ?_
    refine J_icmp_gt (pc := 79) (tgt := 86) dX1_readNumber_79 (by decide) (fun c79 => ?_) (fun c79 => ?_)
    · skip
      refine J_iconst (pc := 86) (v := nI 4) dX1_readNumber_86 (by decide) ?_
      refine J_putI (pc := 87) dX1_readNumber_87 fX1_35 sh39 rfl ?_
      refine K_ret (pc := 90) dX1_readNumber_90 rfl ?_
      rw [if_neg (fun z => absurd ((nIlt (by omega) (by omega)).mp c79) (by omega))]
    · skip
      refine J_iconst (pc := 82) (v := nI 2) dX1_readNumber_82 (by decide) ?_
      refine J_goto (pc := 83) (tgt := 87) dX1_readNumber_83 (by decide) ?_
      refine J_putI (pc := 87) dX1_readNumber_87 fX1_35 sh39 rfl ?_
      refine K_ret (pc := 90) dX1_readNumber_90 rfl ?_
      rw [if_pos (Nat.le_of_not_lt (fun z => c79 ((nIlt (by omega) (by omega)).mpr z)))]
  refine J_aload_n (pc := 0) dX1_readNumber_0 rfl ?_
  refine J_iconst (pc := 1) (v := nI 0) dX1_readNumber_1 (by decide) ?_
  refine J_putI (pc := 2) dX1_readNumber_2 fX1_127 sh39 rfl ?_
  rw [show p + 0 = p from rfl, show nvF t p 0 = nI 0 from rfl, j_up_id (h := j_up h 39 5 (nI 0)) (x := nI p) ((j_up_o (by omega)).trans h2)] at e0
  exact e0
set_option maxHeartbeats 4000000 in
theorem l1_adv {g : jG} {d : Nat} {h : jH} {Q : kQ} {L p s : Nat} {t : Nat → Int32} (hT : TP L t h) (hsL : s ≤ L) (hp : scan (spB L t) 161 s = p) (kx : K g (d + 2) YX1_advance (j_up h 39 2 (nI (s + (p - s)))) 46 [(0, .ref 39)] [] Q) : ∀ (mm k : Nat) , k ≤ (p - s) → (p - s) < k + mm → K g (d + 2) YX1_advance (j_up h 39 2 (nI (s + k))) 8 [(0, .ref 39)] [] Q := by
  intro mm
  induction mm with
  | zero => intro k  hk1 hk2 ; omega
  | succ mm ih =>
    intro k  hk1 hk2 
    obtain ⟨a1, a2, a3, a4⟩ := scan_ex (m := 161) (s := s) (fun j => spB_l (L := L) (t := t) (k := j)) hsL (by have := hT.2.1; omega)
    rw [hp] at a1 a2 a3 a4
    have hL := hT.2.1
    refine J_aload_n (pc := 8) dX1_advance_8 rfl ?_
    refine J_getI (pc := 9) dX1_advance_9 fX1_55 sh39 rfl (j_up_s) ?_
    refine J_aload_n (pc := 12) dX1_advance_12 rfl ?_
    refine J_getI (pc := 13) dX1_advance_13 fX1_26 sh39 rfl ((j_up_o (by omega)).trans hT.1) ?_
    refine J_icmp_ge (pc := 16) (tgt := 46) dX1_advance_16 (by decide) (fun c16 => ?_) (fun c16 => ?_)
    · skip
      have q16 : L ≤ (s + k) := (nI_leI (by omega) (by omega)).mp c16
      have e_k : k = (p - s) := by omega
      refine J_ls (ls' := [(0, .ref 39)]) ⟨rfl, trivial⟩ ?_
      rw [e_k]
      exact kx
    · skip
      have q16 : (s + k) < L := Nat.lt_of_not_le (fun z => c16 ((nI_leI (by omega) (by omega)).mpr z))
      refine J_aload_n (pc := 19) dX1_advance_19 rfl ?_
      refine J_getR (pc := 20) dX1_advance_20 fX1_11 sh39 rfl ?_
      refine J_aload_n (pc := 23) dX1_advance_23 rfl ?_
      refine J_getI (pc := 24) dX1_advance_24 fX1_55 sh39 rfl (j_up_s) ?_
      refine J_iald (pc := 27) dX1_advance_27 sh40 (rfl) (by omega) ((j_up_o (by omega)).trans (hT.2.2 _ q16)) (by decide) ?_
      refine J_bipush (pc := 28) (v := nI 32) dX1_advance_28 (by decide) ?_
      refine J_icmp_ne (pc := 30) (tgt := 46) dX1_advance_30 (by decide) (fun c30 => ?_) (fun c30 => ?_)
      · skip
        have z2 : ¬ k < p - s := fun z => c30 (of_decide_eq_true (a3 (s + k) (by omega) (by omega))).2
        have e_k : k = (p - s) := by omega
        refine J_ls (ls' := [(0, .ref 39)]) ⟨rfl, trivial⟩ ?_
        rw [e_k]
        exact kx
      · skip
        have z2 : k < p - s := Nat.lt_of_not_le (fun z => by
          have e : s + k = p := by omega
          rw [e] at q16 c30
          rw [spB, decide_eq_true (⟨q16, c30⟩ : p < L ∧ t p = nI 32)] at a4
          cases a4)
        refine J_aload_n (pc := 33) dX1_advance_33 rfl ?_
        refine J_dup (pc := 34) dX1_advance_34 rfl ?_
        refine J_getI (pc := 35) dX1_advance_35 fX1_55 sh39 rfl (j_up_s) ?_
        refine J_iconst (pc := 38) (v := nI 1) dX1_advance_38 (by decide) ?_
        refine J_iadd (pc := 39) dX1_advance_39 (nI_add _ _) ?_
        refine J_putI (pc := 40) dX1_advance_40 fX1_55 sh39 rfl ?_
        rw [j_up_up]
        refine J_goto (pc := 43) (tgt := 8) dX1_advance_43 (by decide) ?_
        exact J_ls (ls' := [(0, .ref 39)]) ⟨rfl, trivial⟩ (ih (k + 1)  (by omega) (by omega) )
set_option maxHeartbeats 4000000 in
theorem c1_advance0 {g : jG} {d : Nat} {h : jH} {L s : Nat} {t : Nat → Int32} (hT : TP L t h) (hsL : s ≤ L) (h2 : h 39 2 = nI s) (h6 : h 39 6 = nI 0) : Mv g (d + 2) YX1_advance h [.ref 39] (fun h' => CT L (0, tk L t s) h' ∧ tf h h') := by
  refine M.of (by decide) rfl (Nat.le_of_ble_eq_true rfl) ?_
  obtain ⟨p, hp⟩ : ∃ p, scan (spB L t) 161 s = p := ⟨_, rfl⟩
  obtain ⟨a1, a2, a3, a4⟩ := scan_ex (m := 161) (s := s) (fun j => spB_l (L := L) (t := t) (k := j)) hsL (by have := hT.2.1; omega)
  rw [hp] at a1 a2 a3 a4
  have hL := hT.2.1
  have e0 : K g (d + 2) YX1_advance (j_up h 39 2 (nI (s + 0))) 8 [(0, .ref 39)] [] (fun r h' => r = none ∧ CT L (0, tk L t s) h' ∧ tf h h') := by
    refine l1_adv hT hsL hp ?_ (p - s + 1) 0 (Nat.zero_le _) (by omega)
    rw [show s + (p - s) = p by omega]
    refine J_aload_n (pc := 46) dX1_advance_46 rfl ?_
    refine J_aload_n (pc := 47) dX1_advance_47 rfl ?_
    refine J_getI (pc := 48) dX1_advance_48 fX1_55 sh39 rfl (j_up_s) ?_
    refine J_putI (pc := 51) dX1_advance_51 fX1_49 sh39 rfl ?_
    refine J_aload_n (pc := 54) dX1_advance_54 rfl ?_
    refine J_getI (pc := 55) dX1_advance_55 fX1_55 sh39 rfl ((j_up_o (by omega)).trans j_up_s) ?_
    refine J_aload_n (pc := 58) dX1_advance_58 rfl ?_
    refine J_getI (pc := 59) dX1_advance_59 fX1_26 sh39 rfl ((j_up_o (by omega)).trans ((j_up_o (by omega)).trans hT.1)) ?_
    refine J_icmp_lt (pc := 62) (tgt := 73) dX1_advance_62 (by decide) (fun c62 => ?_) (fun c62 => ?_)
    · skip
      have q62 : p < L := (nIlt (by omega) (by omega)).mp c62
      refine J_aload_n (pc := 73) dX1_advance_73 rfl ?_
      refine J_getR (pc := 74) dX1_advance_74 fX1_11 sh39 rfl ?_
      refine J_aload_n (pc := 77) dX1_advance_77 rfl ?_
      refine J_getI (pc := 78) dX1_advance_78 fX1_55 sh39 rfl ((j_up_o (by omega)).trans j_up_s) ?_
      refine J_iald (pc := 81) dX1_advance_81 sh40 (rfl) (by omega) ((j_up_o (by omega)).trans ((j_up_o (by omega)).trans (hT.2.2 _ q62))) (by decide) ?_
      refine K_Si1 (pc := 82) (Y' := YX1_isLetter) dX1_advance_82 lX1_142 mX1_isLetter sX1_isLetter (Nat.le_of_ble_eq_true rfl) (c1_isLetter) ?_
      rintro x h0 ⟨e0, ⟨rfl, b82⟩ | ⟨rfl, b82⟩⟩ <;> rw [e0] <;> clear e0 h0
      · skip
        have el : ltB L t p = true := decide_eq_true ⟨q62, b82⟩
        refine J_if_eq (pc := 85) (tgt := 95) dX1_advance_85 (by decide) (fun c => absurd c (by decide)) (fun _ => ?_)
        refine J_aload_n (pc := 88) dX1_advance_88 rfl ?_
        refine K_Vv0 (pc := 89) (Y' := YX1_readName) dX1_advance_89 lX1_145 mX1_readName vX1_readName ⟨_, _, rfl⟩ sh39 (Nat.le_of_ble_eq_true rfl) (c1_readName (L := L) (t := t) (p := p) (hT.tf (tf_up (tf_up tf.rf (by omega) (by omega)) (by omega) (by omega))) (by omega) rfl (by simp [j_up])) ?_
        rintro h1 rfl
        refine J_goto (pc := 92) (tgt := 150) dX1_advance_92 (by decide) ?_
        refine K_ret (pc := 150) dX1_advance_150 rfl ?_
        have hb : bT L (tk L t s) := (tk_b hsL hL).1
        rw [tk_name hp (by omega) el rfl] at hb ⊢
        exact ⟨⟨by simp [j_up], by simp [j_up], by simp [j_up], (fun z => by cases z), by simp [j_up, h6], Nat.zero_le _, hb⟩, tf_up (tf_up (tf_up (tf_up tf.rf (by omega) (by omega)) (by omega) (by omega)) (by omega) (by omega)) (by omega) (by omega)⟩
      · skip
        have el : ¬ ltB L t p = true := fun z => b82 (of_decide_eq_true z).2
        refine J_if_eq (pc := 85) (tgt := 95) dX1_advance_85 (by decide) (fun _ => ?_) (fun c => absurd c (by decide))
        refine J_aload_n (pc := 95) dX1_advance_95 rfl ?_
        refine J_getR (pc := 96) dX1_advance_96 fX1_11 sh39 rfl ?_
        refine J_aload_n (pc := 99) dX1_advance_99 rfl ?_
        refine J_getI (pc := 100) dX1_advance_100 fX1_55 sh39 rfl ((j_up_o (by omega)).trans j_up_s) ?_
        refine J_iald (pc := 103) dX1_advance_103 sh40 (rfl) (by omega) ((j_up_o (by omega)).trans ((j_up_o (by omega)).trans (hT.2.2 _ q62))) (by decide) ?_
        refine K_Si1 (pc := 104) (Y' := YX1_isFigure) dX1_advance_104 lX1_148 mX1_isFigure sX1_isFigure (Nat.le_of_ble_eq_true rfl) (c1_isFigure) ?_
        rintro x h0 ⟨e0, ⟨rfl, b104⟩ | ⟨rfl, b104⟩⟩ <;> rw [e0] <;> clear e0 h0
        · skip
          have ef : fgB L t p = true := decide_eq_true ⟨q62, b104⟩
          refine J_if_eq (pc := 107) (tgt := 117) dX1_advance_107 (by decide) (fun c => absurd c (by decide)) (fun _ => ?_)
          refine J_aload_n (pc := 110) dX1_advance_110 rfl ?_
          refine K_Vv0 (pc := 111) (Y' := YX1_readNumber) dX1_advance_111 lX1_151 mX1_readNumber vX1_readNumber ⟨_, _, rfl⟩ sh39 (Nat.le_of_ble_eq_true rfl) (c1_readNumber (L := L) (t := t) (p := p) (hT.tf (tf_up (tf_up tf.rf (by omega) (by omega)) (by omega) (by omega))) (by omega) rfl (by simp [j_up]) (by simp [j_up])) ?_
          rintro h1 rfl
          refine J_goto (pc := 114) (tgt := 150) dX1_advance_114 (by decide) ?_
          refine K_ret (pc := 150) dX1_advance_150 rfl ?_
          have hb : bT L (tk L t s) := (tk_b hsL hL).1
          rw [tk_num hp (by omega) el ef rfl] at hb ⊢
          exact ⟨⟨by simp [j_up], by simp [j_up], by simp [j_up], (fun z => by simp [j_up]), by simp [j_up, h6], Nat.zero_le _, hb⟩, tf_up (tf_up (tf_up (tf_up (tf_up tf.rf (by omega) (by omega)) (by omega) (by omega)) (by omega) (by omega)) (by omega) (by omega)) (by omega) (by omega)⟩
        · skip
          have ef : ¬ fgB L t p = true := fun z => b104 (of_decide_eq_true z).2
          refine J_if_eq (pc := 107) (tgt := 117) dX1_advance_107 (by decide) (fun _ => ?_) (fun c => absurd c (by decide))
          refine J_aload_n (pc := 117) dX1_advance_117 rfl ?_
          refine J_aload_n (pc := 118) dX1_advance_118 rfl ?_
          refine J_getR (pc := 119) dX1_advance_119 fX1_11 sh39 rfl ?_
          refine J_aload_n (pc := 122) dX1_advance_122 rfl ?_
          refine J_getI (pc := 123) dX1_advance_123 fX1_55 sh39 rfl ((j_up_o (by omega)).trans j_up_s) ?_
          refine J_iald (pc := 126) dX1_advance_126 sh40 (rfl) (by omega) ((j_up_o (by omega)).trans ((j_up_o (by omega)).trans (hT.2.2 _ q62))) (by decide) ?_
          refine J_bipush (pc := 127) (v := nI 59) dX1_advance_127 (by decide) ?_
          refine J_icmp_ne (pc := 129) (tgt := 136) dX1_advance_129 (by decide) (fun c129 => ?_) (fun c129 => ?_)
          · skip
            refine J_iconst (pc := 136) (v := nI 4) dX1_advance_136 (by decide) ?_
            refine J_putI (pc := 137) dX1_advance_137 fX1_35 sh39 rfl ?_
            refine J_aload_n (pc := 140) dX1_advance_140 rfl ?_
            refine J_dup (pc := 141) dX1_advance_141 rfl ?_
            refine J_getI (pc := 142) dX1_advance_142 fX1_55 sh39 rfl ((j_up_o (by omega)).trans ((j_up_o (by omega)).trans j_up_s)) ?_
            refine J_iconst (pc := 145) (v := nI 1) dX1_advance_145 (by decide) ?_
            refine J_iadd (pc := 146) dX1_advance_146 (nI_add _ _) ?_
            refine J_putI (pc := 147) dX1_advance_147 fX1_55 sh39 rfl ?_
            refine K_ret (pc := 150) dX1_advance_150 rfl ?_
            have hb : bT L (tk L t s) := (tk_b hsL hL).1
            rw [tk_sign hp (by omega) el ef, if_neg c129] at hb ⊢
            exact ⟨⟨by simp [j_up], by simp [j_up], by simp [j_up], (fun z => by cases z), by simp [j_up, h6], Nat.zero_le _, hb⟩, tf_up (tf_up (tf_up (tf_up tf.rf (by omega) (by omega)) (by omega) (by omega)) (by omega) (by omega)) (by omega) (by omega)⟩
          · skip
            refine J_iconst (pc := 132) (v := nI 3) dX1_advance_132 (by decide) ?_
            refine J_goto (pc := 133) (tgt := 137) dX1_advance_133 (by decide) ?_
            refine J_putI (pc := 137) dX1_advance_137 fX1_35 sh39 rfl ?_
            refine J_aload_n (pc := 140) dX1_advance_140 rfl ?_
            refine J_dup (pc := 141) dX1_advance_141 rfl ?_
            refine J_getI (pc := 142) dX1_advance_142 fX1_55 sh39 rfl ((j_up_o (by omega)).trans ((j_up_o (by omega)).trans j_up_s)) ?_
            refine J_iconst (pc := 145) (v := nI 1) dX1_advance_145 (by decide) ?_
            refine J_iadd (pc := 146) dX1_advance_146 (nI_add _ _) ?_
            refine J_putI (pc := 147) dX1_advance_147 fX1_55 sh39 rfl ?_
            refine K_ret (pc := 150) dX1_advance_150 rfl ?_
            have hb : bT L (tk L t s) := (tk_b hsL hL).1
            rw [tk_sign hp (by omega) el ef, if_pos c129] at hb ⊢
            exact ⟨⟨by simp [j_up], by simp [j_up], by simp [j_up], (fun z => by cases z), by simp [j_up, h6], Nat.zero_le _, hb⟩, tf_up (tf_up (tf_up (tf_up tf.rf (by omega) (by omega)) (by omega) (by omega)) (by omega) (by omega)) (by omega) (by omega)⟩
    · skip
      have q62 : L ≤ p := Nat.le_of_not_lt (fun z => c62 ((nIlt (by omega) (by omega)).mpr z))
      refine J_aload_n (pc := 65) dX1_advance_65 rfl ?_
      refine J_iconst (pc := 66) (v := nI 0) dX1_advance_66 (by decide) ?_
      refine J_putI (pc := 67) dX1_advance_67 fX1_35 sh39 rfl ?_
      refine J_goto (pc := 70) (tgt := 150) dX1_advance_70 (by decide) ?_
      refine K_ret (pc := 150) dX1_advance_150 rfl ?_
      have hb : bT L (tk L t s) := (tk_b hsL hL).1
      rw [tk_end hp q62] at hb ⊢
      exact ⟨⟨by simp [j_up], by simp [j_up], by simp [j_up], (fun z => by cases z), by simp [j_up, h6], Nat.zero_le _, hb⟩, tf_up (tf_up (tf_up tf.rf (by omega) (by omega)) (by omega) (by omega)) (by omega) (by omega)⟩
  refine J_aload_n (pc := 0) dX1_advance_0 rfl ?_
  refine J_getI (pc := 1) dX1_advance_1 fX1_15 sh39 rfl (h6) ?_
  refine J_if_eq (pc := 4) (tgt := 8) dX1_advance_4 (by decide) (fun _ => ?_) (fun c => absurd c (by decide))
  rw [show s + 0 = s from rfl, j_up_id h2] at e0
  exact e0
set_option maxHeartbeats 4000000 in
theorem c1_advance {g : jG} {d : Nat} {h : jH} {L : Nat} {t : Nat → Int32} {s : sS} (hT : TP L t h) (hs : CT L s h) : Mv g (d + 2) YX1_advance h [.ref 39] (fun h' => CT L (sAdv L t s) h' ∧ tf h h') := by
  by_cases z : s.1 = 0
  · rw [sAdv_g z]
    exact c1_advance0 hT hs.2.2.2.2.2.2.2.1 hs.1 (by rw [hs.2.2.2.2.1, z])
  refine M.of (by decide) rfl (Nat.le_of_ble_eq_true rfl) ?_
  refine J_aload_n (pc := 0) dX1_advance_0 rfl ?_
  refine J_getI (pc := 1) dX1_advance_1 fX1_15 sh39 rfl (hs.2.2.2.2.1) ?_
  refine J_if_eq (pc := 4) (tgt := 8) dX1_advance_4 (by decide) (fun c4 => ?_) (fun c4 => ?_)
  · skip
    exact absurd ((nI0e (by have := hs.2.2.2.2.2.1; omega)).mp c4) z
  · skip
    refine K_ret (pc := 7) dX1_advance_7 rfl ?_
    rw [sAdv_f z]
    exact ⟨hs, tf.rf⟩
