def tx0 (a : jH) (e : Nat) : jH := j_up (j_up a 131 8 (nI 0)) 131 9 (nI e)
def tx1 (a : jH) (n : Nat) (P : Nat → Int32) : jH := j_up (j_up (j_up (j_up (mset (tx0 a 0) 0 P) 131 2 (nI n)) 131 21 (nI 0)) 142 0 (nI 0)) 142 1 (nI 0)
noncomputable def txX (a : jH) : sS := txE (ix (a 131 8)) (a 135)
noncomputable def txD (a : jH) : sD × Nat := (tx (ix (a 131 8)) (a 135)).2
noncomputable def oText (a : jH) : Int32 × jH := iteR ((txX a).1 = 0) (nI (txD a).2, tx1 a (txD a).1.1 (txD a).1.2.1) (-10 - nI (txX a).2.1, tx0 a (txX a).1)
theorem RX_tx0 {a h h' : jH} {e : Nat} (hR : RX a h) (h1 : h' 39 1 = nI 0) (h6 : h' 39 6 = nI e) (eh : ∀ b k, ¬ b = 39 → ¬ (41 ≤ b ∧ b ≤ 58) → h' b k = h b k) : RX (tx0 a e) h' := by
  have e' : ∀ b, ¬ b = 39 → ¬ (41 ≤ b ∧ b ≤ 58) → h' b = h b := fun b z1 z2 => funext fun k => eh b k z1 z2
  have ea : ∀ b k, ¬ (b = 131 ∧ (k = 8 ∨ k = 9)) → tx0 a e b k = a b k := fun b k z => by rw [tx0, j_up_o (by omega), j_up_o (by omega)]
  have hn := hR.n4
  obtain ⟨rV, rK, rT, rS, rH, rC⟩ := hR
  refine ⟨rxV_c rV (fun k _ => ea _ _ (by omega)) (ea _ _ (by omega)) (fun b h1 h2 => e' b (by omega) (by omega)), rxK_c rK hn (fun k _ _ => ea _ _ (by omega)) (ea _ _ (by omega)) (fun k _ => ea _ _ (by omega)) (fun b hb => e' b (by omega) (by omega)), ⟨?_, ?_, fun i hi => ?_, ?_⟩, rxS_c rS (ea _ _ (by omega)) (ea _ _ (by omega)) (fun k => ea _ _ (by omega)) (fun b h1 h2 => e' b (by omega) (by omega)), rxH_c rH (fun k => ea _ _ (by omega)) (fun k => ea _ _ (by omega)) (fun k => ea _ _ (by omega)) (ea _ _ (by omega)) (eh 0 9 (by omega) (by omega)) (fun b h1 h2 => e' b (by omega) (by omega)), rxC_c rC (fun b k hb => ea _ _ (by omega)) (e' 80 (by omega) (by omega))⟩
  · rw [h1, tx0, j_up_o (by omega), j_up_s]
  · rw [tx0, j_up_o (by omega), j_up_s]; exact nb_nI (by omega) (by omega)
  · rw [tx0, j_up_o (by omega), j_up_s] at hi; exact absurd hi (Nat.not_lt_zero _)
  · rw [h6, tx0, j_up_s]
theorem tx1_a {a : jH} {n b k : Nat} {P : Nat → Int32} (h1 : b ≠ 132 ∨ 69 ≤ k) (h2 : ¬ (b = 131 ∧ (k = 8 ∨ k = 9 ∨ k = 2 ∨ k = 21))) (h3 : ¬ (b = 142 ∧ k < 2)) : tx1 a n P b k = a b k := by
  rw [tx1, j_up_o (by omega), j_up_o (by omega), j_up_o (by omega), j_up_o (by omega)]
  have : mset (tx0 a 0) 0 P b k = tx0 a 0 b k := by
    by_cases z : b = 132
    · subst z
      exact mset_out (by omega)
    · rw [mset_ne z]
  rw [this, tx0, j_up_o (by omega), j_up_o (by omega)]
theorem tx1_p {a : jH} {n : Nat} {P : Nat → Int32} {k : Nat} (hk : k < 69) : pg (tx1 a n P) 0 k = P k := by
  rw [pg0, tx1, j_up_o (by omega), j_up_o (by omega), j_up_o (by omega), j_up_o (by omega)]
  exact mset_at (o := 0) k hk (by omega)
theorem tx1_f {a : jH} {n : Nat} {P : Nat → Int32} : tx1 a n P 131 2 = nI n ∧ tx1 a n P 131 8 = nI 0 ∧ tx1 a n P 131 9 = nI 0 ∧ tx1 a n P 131 21 = nI 0 ∧ tx1 a n P 142 0 = nI 0 ∧ tx1 a n P 142 1 = nI 0 := by
  have m : ∀ k, mset (tx0 a 0) 0 P 131 k = tx0 a 0 131 k := fun k => by rw [mset_ne (by decide)]
  refine ⟨?_, ?_, ?_, ?_, ?_, ?_⟩
  · rw [tx1, j_up_o (by omega), j_up_o (by omega), j_up_o (by omega), j_up_s]
  · rw [tx1, j_up_o (by omega), j_up_o (by omega), j_up_o (by omega), j_up_o (by omega), m, tx0, j_up_o (by omega), j_up_s]
  · rw [tx1, j_up_o (by omega), j_up_o (by omega), j_up_o (by omega), j_up_o (by omega), m, tx0, j_up_s]
  · rw [tx1, j_up_o (by omega), j_up_o (by omega), j_up_s]
  · rw [tx1, j_up_o (by omega), j_up_s]
  · rw [tx1, j_up_s]
theorem RX_tx1 {a h h' : jH} {n : Nat} {P : Nat → Int32} (hR : RX a h) (hn : n ≤ 4) (hX : XV n P h' 1) (h9 : h' 1 9 = P 52) (hG : GD n P) (h1 : h' 39 1 = nI 0) (h6 : h' 39 6 = nI 0) (k0 : h' 38 0 = nI 0) (k1 : h' 38 1 = nI 0) (s0 : h' 81 0 = nI 0) (eh : ∀ b, b = 80 ∨ (123 ≤ b ∧ b ≤ 130) → h' b = h b) (e0 : h' 0 9 = h 0 9) : RX (tx1 a n P) h' := by
  obtain ⟨f2, f8, f9, f21, f0, f1⟩ := tx1_f (a := a) (n := n) (P := P)
  have i2 : ix (tx1 a n P 131 2) = n := by rw [f2]; exact ix_nI (by omega)
  obtain ⟨rV, rK, rT, rS, rH, rC⟩ := hR
  refine ⟨⟨?_, ?_, ?_, ?_⟩, fun k hk => ?_, ⟨?_, ?_, fun i hi => ?_, ?_⟩, ⟨?_, ?_, fun i hi => ?_⟩, rxH_c rH (fun k => tx1_a (by omega) (by omega) (by omega)) (fun k => tx1_a (by omega) (by omega) (by omega)) (fun k => tx1_a (by omega) (by omega) (by omega)) (tx1_a (by omega) (by omega) (by omega)) e0 (fun b h1 h2 => eh b (by omega)), rxC_c rC (fun b k hb => tx1_a (by omega) (by omega) (by omega)) (eh 80 (by omega))⟩
  · rw [f2]; exact nb_nI (by omega) (by omega)
  · rw [i2]; exact XV_congr hX (fun k hk => tx1_p hk) hn hG.1.2.2.1.2 hG.2.1.2 (fun _ _ _ => rfl)
  · have := tx1_p (a := a) (n := n) (P := P) (k := 52) (by omega)
    rw [pg0] at this
    rw [h9, this]
  · rw [i2]; exact GD_congr hG (fun k hk => tx1_p hk)
  · match k, hk with
    | 0, _ => rw [f0]; exact ⟨k0, Or.inl rfl⟩
    | 1, _ => rw [f1]; exact ⟨k1, Or.inl rfl⟩
  · rw [f8]; exact h1
  · rw [f8]; exact nb_nI (by omega) (by omega)
  · rw [f8] at hi; exact absurd hi (Nat.not_lt_zero _)
  · rw [f9]; exact h6
  · rw [f21]; exact s0
  · rw [f21]; exact nb_nI (by omega) (by omega)
  · rw [f21] at hi; exact absurd hi (Nat.not_lt_zero _)
theorem tx_cnt {L : Nat} {t : Nat → Int32} : ∀ (m k : Nat) {s : sS} {D : sD}, (txF L t m k s D).2.2 ≤ k + m
  | 0, k, s, D => Nat.le_refl _
  | m + 1, k, s, D => by
    rw [txF]
    by_cases z : s.2.2.2.1 ≠ 0 ∧ s.1 = 0
    · rw [if_pos z]; have := tx_cnt (L := L) (t := t) m (k + 1) (s := sAdv L t (lLine L t s D).1) (D := (lLine L t s D).2); omega
    · rw [if_neg z]; show k ≤ _; omega
set_option maxHeartbeats 400000 in
theorem c5_text {g : jG} {d : Nat} {a h : jH} (hR : RX a h) : Mi g (d + 10) YX5_text h [.ref 0] (fun r h' => ∃ a', oText a = (r, a') ∧ RX a' h' ∧ hi h h') := by
  refine M.of (by decide) rfl (Nat.le_of_ble_eq_true rfl) ?_
  have hR0 := hR
  obtain ⟨rV, rK, ⟨t1, t2, t3, t4⟩, rS, rH, rC⟩ := hR
  have hT : TP (ix (a 131 8)) (a 135) h := ⟨by rw [t1]; exact t2.1, by have := t2.2; omega, fun i hi => (t3 i hi).1⟩
  have l160 : (txD a).2 ≤ 160 := by have := tx_cnt (L := ix (a 131 8)) (t := a 135) 160 0 (s := (0, tk (ix (a 131 8)) (a 135) 0)) (D := D0); exact Nat.le_trans this (by omega)
  refine J_aload_n (pc := 0) dX5_text_0 rfl ?_
  refine J_getR (pc := 1) dX5_text_1 fX5_30 sh0 rfl ?_
  refine K_Vi0 (pc := 4) (Y' := YX1_takeAll) dX5_text_4 lX5_74 mX1_takeAll vX1_takeAll ⟨_, _, rfl⟩ sh39 (Nat.le_of_ble_eq_true rfl) (c1_takeAll hT) ?_
  rintro x h1 ⟨ex, hs, ⟨e1, h2, hD, hd⟩, fr1⟩
  have hs : CT (ix (a 131 8)) (txX a) h1 := hs
  have hD : CD (txD a).1 h2 := hD
  have ex : x = if (txX a).1 = 0 then nI (txD a).2 else -10 - nI (txX a).2.1 := ex
  have hpl : (txX a).2.1 ≤ 160 := by have := hs.2.2.2.2.2.2.1; have := hs.2.2.2.2.2.2.2.1; have := hT.2.1; omega
  have neg : ∀ p, p < 161 → (-10 : Int32) - nI p < 0 := by decide +kernel
  refine J_istore_n (pc := 7) dX5_text_7 (by decide) ?_
  refine J_iload_n (pc := 8) dX5_text_8 rfl ?_
  refine J_if_lt (pc := 9) (tgt := 54) dX5_text_9 (by decide) (fun c9 => ?_) (fun c9 => ?_)
  · skip
    have zf : ¬ (txX a).1 = 0 := fun z => by
      rw [ex, if_pos z] at c9
      exact absurd c9 (Int32.not_lt.mpr (show (nI 0 : Int32) ≤ _ from (nI_leI (by omega) (by omega)).mpr (Nat.zero_le _)))
    rw [if_neg zf] at ex
    subst ex
    refine J_iload_n (pc := 54) dX5_text_54 rfl ?_
    refine K_iret (pc := 55) dX5_text_55 rfl ?_
    refine ⟨_, iteR_f zf, RX_tx0 hR0 e1 hs.2.2.2.2.1 fr1, fun b hb => funext fun k => fr1 b k (by omega) (by omega)⟩
  · skip
    have zf : (txX a).1 = 0 := Classical.byContradiction (fun z => by
      rw [ex, if_neg z] at c9
      exact c9 (neg _ (by omega)))
    rw [if_pos zf] at ex
    subst ex
    refine J_aload_n (pc := 12) dX5_text_12 rfl ?_
    refine J_getR (pc := 13) dX5_text_13 fX5_10 sh0 rfl ?_
    refine J_aload_n (pc := 16) dX5_text_16 rfl ?_
    refine J_getR (pc := 17) dX5_text_17 fX5_30 sh0 rfl ?_
    refine J_getR (pc := 20) dX5_text_20 fX5_78 sh39 rfl ?_
    refine K_Vv1 (pc := 23) (Y' := YX4_copyFrom) dX5_text_23 lX5_81 mX4_copyFrom vX4_copyFrom ⟨_, _, rfl⟩ (sv0 isV1) (Nat.le_of_ble_eq_true rfl) (c4_copyFrom isV41 isV1 (by decide)) ?_
    rintro h3 hcp
    refine J_aload_n (pc := 26) dX5_text_26 rfl ?_
    refine J_getR (pc := 27) dX5_text_27 fX5_44 sh0 rfl ?_
    refine J_iconst (pc := 30) (v := nI 0) dX5_text_30 (by decide) ?_
    refine J_putI (pc := 31) dX5_text_31 fX5_85 sh81 rfl ?_
    refine J_iconst (pc := 34) (v := nI 0) dX5_text_34 (by decide) ?_
    refine J_istore_n (pc := 35) dX5_text_35 (by decide) ?_
    refine J_iload_n (pc := 36) dX5_text_36 rfl ?_
    refine J_iconst (pc := 37) (v := nI 2) dX5_text_37 (by decide) ?_
    refine J_icmp_ge (pc := 38) (tgt := 54) dX5_text_38 (by decide) (fun c => absurd c (by decide)) (fun _ => ?_)
    refine J_aload_n (pc := 41) dX5_text_41 rfl ?_
    refine J_getR (pc := 42) dX5_text_42 fX5_23 sh0 rfl ?_
    refine J_iload_n (pc := 45) dX5_text_45 rfl ?_
    refine J_iconst (pc := 46) (v := nI 0) dX5_text_46 (by decide) ?_
    refine J_zast (pc := 47) dX5_text_47 sh38 (rfl) (by omega) (by decide) (by decide) ?_
    refine J_iinc (pc := 48) dX5_text_48 rfl (v := nI 1) (by decide) (by decide) ?_
    refine J_goto (pc := 51) (tgt := 36) dX5_text_51 (by decide) ?_
    refine J_iload_n (pc := 36) dX5_text_36 rfl ?_
    refine J_iconst (pc := 37) (v := nI 2) dX5_text_37 (by decide) ?_
    refine J_icmp_ge (pc := 38) (tgt := 54) dX5_text_38 (by decide) (fun c => absurd c (by decide)) (fun _ => ?_)
    refine J_aload_n (pc := 41) dX5_text_41 rfl ?_
    refine J_getR (pc := 42) dX5_text_42 fX5_23 sh0 rfl ?_
    refine J_iload_n (pc := 45) dX5_text_45 rfl ?_
    refine J_iconst (pc := 46) (v := nI 0) dX5_text_46 (by decide) ?_
    refine J_zast (pc := 47) dX5_text_47 sh38 (rfl) (by omega) (by decide) (by decide) ?_
    refine J_iinc (pc := 48) dX5_text_48 rfl (v := nI 2) (by decide) (by decide) ?_
    refine J_goto (pc := 51) (tgt := 36) dX5_text_51 (by decide) ?_
    refine J_iload_n (pc := 36) dX5_text_36 rfl ?_
    refine J_iconst (pc := 37) (v := nI 2) dX5_text_37 (by decide) ?_
    refine J_icmp_ge (pc := 38) (tgt := 54) dX5_text_38 (by decide) (fun _ => ?_) (fun c => absurd c (by decide))
    refine J_iload_n (pc := 54) dX5_text_54 rfl ?_
    refine K_iret (pc := 55) dX5_text_55 rfl ?_
    obtain ⟨cp1, ⟨cp2, cp3, cp4, cp5, cp6⟩, cp⟩ := id hcp
    have q : ∀ b, b ≠ 81 → b ≠ 38 → (j_up (j_up (j_up h3 81 0 (nI 0)) 38 0 (nI 0)) 38 1 (nI 0)) b = h3 b := fun b z1 z2 => by rw [j_up_ne b z2, j_up_ne b z2, j_up_ne b z1]
    have q3 : ∀ b, b ≠ 81 → b ≠ 38 → (b < 1 ∨ 19 ≤ b) → (j_up (j_up (j_up h3 81 0 (nI 0)) 38 0 (nI 0)) 38 1 (nI 0)) b = h1 b := fun b z1 z2 z3 => (q b z1 z2).trans (cp1 b (by omega))
    have hX3 : XV (txD a).1.1 (txD a).1.2.1 h3 1 := XV_CP (XV_congr hD.1 (fun _ _ => rfl) hD.2.1 hD.2.2.1.2 hD.2.2.2.1.2 (fun b z1 z2 => hd b z1 (by omega))) hD.2.1 hD.2.2.1.2 hD.2.2.2.1.2 hcp
    obtain ⟨gd, g52⟩ := tx_good (L := ix (a 131 8)) (t := a 135) zf
    refine ⟨_, iteR_t zf, RX_tx1 hR0 hD.2.1 (XV_congr hX3 (fun _ _ => rfl) hD.2.1 hD.2.2.1.2 hD.2.2.2.1.2 (fun b z1 z2 => q b (by omega) (by omega))) ?_ gd ?_ ?_ ?_ ?_ ?_ (fun b hb => ?_) ?_, fun b hb => ?_⟩
    · rw [q 1 (by omega) (by omega), cp6, hd 41 (by omega) (by omega), hD.2.2.2.2.2]
    · rw [q3 39 (by omega) (by omega) (by omega)]; exact e1
    · rw [q3 39 (by omega) (by omega) (by omega), hs.2.2.2.2.1, zf]
    · rw [j_up_o (by omega), j_up_s]
    · rw [j_up_s]
    · rw [j_up_o (by omega), j_up_o (by omega), j_up_s]
    · rw [q3 b (by omega) (by omega) (by omega)]; exact funext fun k => fr1 b k (by omega) (by omega)
    · rw [q3 0 (by omega) (by omega) (by omega)]; exact fr1 0 9 (by omega) (by omega)
    · rw [q3 b (by omega) (by omega) (by omega)]; exact funext fun k => fr1 b k (by omega) (by omega)
