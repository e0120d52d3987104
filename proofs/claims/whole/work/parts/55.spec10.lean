/-! the cover more, the cover less -/
theorem XV_sign2 {v n t c : Nat} {P : Nat → Int32} {h : jH} {x : Int32} (hX : XV n P h v) (hn : n ≤ 4) (h6 : ix (P 37) < 6) (h9 : ix (P 51) < 9) (hc : c < ix (P 37)) (ht : t < 5) : XV n (upd P (12 + 5 * c + t) x) (j_up h (v + 6 + t) c x) v := by
  obtain ⟨xa, xb, xc, xd, xe, xg⟩ := XV_parts.mp hX
  have e37 : upd P (12 + 5 * c + t) x 37 = P 37 := upd_ne (by omega)
  refine XV_parts.mpr ⟨xA_congr hn xa (fun k h1 => upd_ne (by omega)) (j_up_o (by omega)) (fun j hj k => j_up_o (by omega)), ⟨?_, fun c' hc' j hj => ?_⟩, xC_congr xc (fun k h1 h2 => upd_ne (by omega)) (fun k => j_up_o (by omega)), ?_, xE_congr xe h9 (fun k h1 h2 => upd_ne (by omega)) (j_up_o (by omega)) (fun k => j_up_o (by omega)), xG_congr xg (fun k h1 h2 => upd_ne (by omega)) (fun q hq k => j_up_o (by omega))⟩
  · rw [j_up_o (by omega), e37]; exact xb.1
  · rw [e37] at hc'
    by_cases z : j = t ∧ c' = c
    · obtain ⟨rfl, rfl⟩ := z
      rw [j_up_s, upd_at]
    · rw [j_up_o (by omega), upd_ne (by omega)]; exact xb.2 c' hc' j hj
  · rw [j_up_o (by omega), upd_ne (by omega)]; exact xd
theorem TR_congr {n : Nat} {P : Nat → Int32} {h h' : jH} (hG : GD n P) (hT : TR n P h) (e : ∀ b, 60 ≤ b → b < 78 → h' b = h b) : TR n P h' := by
  obtain ⟨Q, hQ, kQ⟩ := hT
  refine ⟨Q, XV_congr hQ (fun _ _ => rfl) hG.1.1 ?_ ?_ (fun b h1 h2 => e b (by omega) (by omega)), kQ⟩
  · rw [kQ 37 (by omega)]; exact hG.1.2.2.1.2
  · rw [kQ 51 (by omega)]; exact hG.2.1.2
theorem nd_congr {n i : Nat} {R : Nat → Int32} {h h' : jH} (hN : nd n h i R) (e : h' 78 = h 78) : nd n h' i R := fun p hp => by rw [e]; exact hN p hp
noncomputable def foundF (S : Int32 × Nat) (x : Int32) : Int32 := iteP (S.1 = -4 ∨ x = 0) S.1 (nI S.2)
def bestF (S : Int32 × Nat) (w : Int32) (v : Nat) : Int32 × Nat := if S.2 < v then (w, v) else S
def hpP (P : Nat → Int32) (pay : Int32) (k : Nat) : Nat → Int32 := addP (ix (P 37)) (nI (k / 16)) (nI (k / 4 % 4)) (nI (k % 4)) pay (nI 0) P
def hpF (n : Nat) (P : Nat → Int32) (pay : Int32) : Nat → Int32 × Nat
  | 0 => (-4, pop (sfN n P 3))
  | k + 1 => if k / 16 < n ∧ k / 4 % 4 < n ∧ k / 16 ≠ k / 4 % 4 then bestF (hpF n P pay k) (nI (100 * (k / 16) + 10 * (k / 4 % 4) + k % 4)) (pop (sfN n (hpP P pay k) 3)) else hpF n P pay k
def spF (n : Nat) (P : Nat → Int32) : Nat → Int32 × Nat
  | 0 => (-4, pop (sfN n P 3))
  | c + 1 => bestF (spF n P c) (nI c) (pop (sfN n (dropP c P) 3))
theorem hpF_4 {n : Nat} {P : Nat → Int32} {pay : Int32} (hn : n ≤ 4) : ∀ k : Nat, (hpF n P pay k).2 ≤ 4
  | 0 => pop_4 _ (sfN_lt hn 3)
  | k + 1 => by
    have ih := hpF_4 (P := P) (pay := pay) hn k
    rw [hpF]
    split
    · unfold bestF
      split
      · exact pop_4 _ (sfN_lt hn 3)
      · exact ih
    · exact ih
theorem spF_4 {n : Nat} {P : Nat → Int32} (hn : n ≤ 4) : ∀ k : Nat, (spF n P k).2 ≤ 4
  | 0 => pop_4 _ (sfN_lt hn 3)
  | k + 1 => by
    have ih := spF_4 (P := P) hn k
    rw [spF]
    unfold bestF
    split
    · exact pop_4 _ (sfN_lt hn 3)
    · exact ih
noncomputable def oHelp (a : jH) (p x : Int32) : Int32 × jH := iteR ((nI 1 ≤ p ∧ p ≤ nI 20) ∧ nI 0 ≤ x ∧ x ≤ nI 1) (iteR (pg a 0 37 = nI 5) (-3, a) (foundF (hpF (ix (a 131 2)) (pg a 0) p 64) x, a)) (-1, a)
noncomputable def oSpare (a : jH) (x : Int32) : Int32 × jH := iteR (nI 0 ≤ x ∧ x ≤ nI 1) (foundF (spF (ix (a 131 2)) (pg a 0) (ix (pg a 0 37))) x, a) (-1, a)
theorem hp_gd {n k : Nat} {P : Nat → Int32} {pay : Int32} (hG : GD n P) (h5 : ix (P 37) < 5) (hp : nb 21 pay) (h1 : k / 16 < n) (h2 : k / 4 % 4 < n) (h3 : k / 16 ≠ k / 4 % 4) : GD n (hpP P pay k) := by
  have hn := hG.1.1
  exact GD_add hG hG.1.2.2.1.1 h5 (nb_nI h1 (by omega)) (nb_nI h2 (by omega)) (fun z => h3 ((nI_eq (by omega) (by omega)).mp z)) (nb_nI (Nat.mod_lt _ (by omega)) (by omega)) hp (nb_nI (by omega) (by omega))
/-- the trial with a cover more, its first three terms still open -/
def TH (n : Nat) (P : Nat → Int32) (pay : Int32) (h : jH) : Prop := ∃ Q, XV n Q h 60 ∧ ∀ k, (k < 8 ∨ (12 ≤ k ∧ k < 52)) → (k < 12 + 5 * ix (P 37) ∨ 12 + 5 * ix (P 37) + 3 ≤ k) → Q k = addP (ix (P 37)) (nI 0) (nI 0) (nI 0) pay (nI 0) P k
theorem TH_TR {n k : Nat} {P : Nat → Int32} {pay : Int32} {h : jH} (hG : GD n P) (h5 : ix (P 37) < 5) (hT : TH n P pay h) :
    TR n (hpP P pay k) (j_up (j_up (j_up h (60 + 6) (ix (P 37)) (nI (k / 16))) (60 + 7) (ix (P 37)) (nI (k / 4 % 4))) (60 + 8) (ix (P 37)) (nI (k % 4))) := by
  obtain ⟨Q, hQ, kQ⟩ := hT
  have hn := hG.1.1
  have h9 := hG.2.1.2
  obtain ⟨c, hc⟩ : ∃ c, ix (P 37) = c := ⟨_, rfl⟩
  rw [hc] at kQ h5 ⊢
  have e37 : Q 37 = nI c + nI 1 := (kQ 37 (by omega) (by omega)).trans (addP_at h5).2.2.2.2.2
  have e51 : Q 51 = P 51 := (kQ 51 (by omega) (by omega)).trans (addP_ne (by omega) (by omega))
  have i37 : ix (Q 37) = c + 1 := by rw [e37]; exact ix_succ (by omega)
  have X1 := XV_sign2 (t := 0) (c := c) (x := nI (k / 16)) hQ hn (by omega) (by rw [e51]; exact h9) (by omega) (by omega)
  have u1 : ∀ j, j ≠ 12 + 5 * c + 0 → upd Q (12 + 5 * c + 0) (nI (k / 16)) j = Q j := fun j hj => upd_ne hj
  have X2 := XV_sign2 (t := 1) (c := c) (x := nI (k / 4 % 4)) X1 hn (by rw [u1 37 (by omega)]; omega) (by rw [u1 51 (by omega), e51]; exact h9) (by rw [u1 37 (by omega)]; omega) (by omega)
  have u2 : ∀ j, j ≠ 12 + 5 * c + 0 → j ≠ 12 + 5 * c + 1 → upd (upd Q (12 + 5 * c + 0) (nI (k / 16))) (12 + 5 * c + 1) (nI (k / 4 % 4)) j = Q j := fun j h1 h2 => (upd_ne h2).trans (u1 j h1)
  have X3 := XV_sign2 (t := 2) (c := c) (x := nI (k % 4)) X2 hn (by rw [u2 37 (by omega) (by omega)]; omega) (by rw [u2 51 (by omega) (by omega), e51]; exact h9) (by rw [u2 37 (by omega) (by omega)]; omega) (by omega)
  refine ⟨_, X3, fun j hj => ?_⟩
  have A := addP_at (p := nI (k / 16)) (q := nI (k / 4 % 4)) (w := nI (k % 4)) (x := pay) (y := nI 0) (P := P) h5
  have B := addP_at (p := nI 0) (q := nI 0) (w := nI 0) (x := pay) (y := nI 0) (P := P) h5
  unfold hpP
  rw [hc]
  by_cases z2 : j = 12 + 5 * c + 2
  · subst z2; rw [upd_at, A.2.2.1]
  · rw [upd_ne z2]
    by_cases z1 : j = 12 + 5 * c + 1
    · subst z1; rw [upd_at, A.2.1]
    · rw [upd_ne z1]
      by_cases z0 : j = 12 + 5 * c
      · subst z0
        have e : upd Q (12 + 5 * c + 0) (nI (k / 16)) (12 + 5 * c) = nI (k / 16) := upd_at
        rw [e, A.1]
      · rw [u1 j z0, kQ j hj (by omega)]
        by_cases z3 : j = 12 + 5 * c + 3
        · subst z3; rw [A.2.2.2.1, B.2.2.2.1]
        · by_cases z4 : j = 12 + 5 * c + 4
          · subst z4; rw [A.2.2.2.2.1, B.2.2.2.2.1]
          · by_cases z5 : j = 37
            · subst z5; rw [A.2.2.2.2.2, B.2.2.2.2.2]
            · rw [addP_ne z5 (by omega), addP_ne z5 (by omega)]
/-- a trial of the candidate is a trial with its terms open -/
theorem TR_TH {n k : Nat} {P : Nat → Int32} {pay : Int32} {h : jH} (h5 : ix (P 37) < 5) (hT : TR n (hpP P pay k) h) : TH n P pay h := by
  obtain ⟨Q, hQ, kQ⟩ := hT
  refine ⟨Q, hQ, fun j hj hne => ?_⟩
  rw [kQ j hj]
  unfold hpP
  have A := addP_at (p := nI (k / 16)) (q := nI (k / 4 % 4)) (w := nI (k % 4)) (x := pay) (y := nI 0) (P := P) h5
  have B := addP_at (p := nI 0) (q := nI 0) (w := nI 0) (x := pay) (y := nI 0) (P := P) h5
  by_cases z3 : j = 12 + 5 * ix (P 37) + 3
  · subst z3; rw [A.2.2.2.1, B.2.2.2.1]
  · by_cases z4 : j = 12 + 5 * ix (P 37) + 4
    · subst z4; rw [A.2.2.2.2.1, B.2.2.2.2.1]
    · by_cases z5 : j = 37
      · subst z5; rw [A.2.2.2.2.2, B.2.2.2.2.2]
      · rw [addP_ne z5 (by omega), addP_ne z5 (by omega)]
theorem TH_congr {n : Nat} {P : Nat → Int32} {pay : Int32} {h h' : jH} (hG : GD n P) (h5 : ix (P 37) < 5) (hT : TH n P pay h) (e : ∀ b, 60 ≤ b → b < 78 → h' b = h b) : TH n P pay h' := by
  obtain ⟨Q, hQ, kQ⟩ := hT
  have h9 := hG.2.1.2
  refine ⟨Q, XV_congr hQ (fun _ _ => rfl) hG.1.1 ?_ ?_ (fun b h1 h2 => e b (by omega) (by omega)), kQ⟩
  · rw [kQ 37 (by omega) (by omega), (addP_at h5).2.2.2.2.2, ix_succ (by omega)]; omega
  · rw [kQ 51 (by omega) (by omega), addP_ne (by omega) (by omega)]; exact h9
theorem shr16 {k : Nat} (hk : k < 2 ^ 31) : nI k >>> (nI 4 &&& 31) = nI (k / 16) := pk_shrN hk _ 4 (by decide)
theorem shr2 {k : Nat} (hk : k < 2 ^ 31) : nI k >>> (nI 2 &&& 31) = nI (k / 4) := pk_shrN hk _ 2 (by decide)
theorem mset_comm {h : jH} {o u : Nat} {P Q : Nat → Int32} (hd : o + 69 ≤ u ∨ u + 69 ≤ o) : mset (mset h o P) u Q = mset (mset h u Q) o P := by
  funext b j
  unfold mset
  by_cases z : b = 132 ∧ u ≤ j ∧ j < u + 69
  · rw [if_pos z, if_neg (by omega), if_pos z]
  · rw [if_neg z]
    by_cases z2 : b = 132 ∧ o ≤ j ∧ j < o + 69
    · rw [if_pos z2, if_pos z2]
    · rw [if_neg z2, if_neg z2, if_neg z]
theorem MR_page {h : jH} {P : Nat → Int32} (hR : MR h) (hG : GD (ix (h 131 2)) P) : MR (mset (mset h 345 (pg h 0)) 0 P) := by
  have h1 : MR (mset h 345 (pg h 0)) := MR_same hR (sameP_scr (by omega))
  obtain ⟨r1, r2, r3, r4, ⟨r5, r6⟩, r7, r8, r9, ra⟩ := h1
  have e : ∀ b, b ≠ 132 → mset (mset h 345 (pg h 0)) 0 P b = mset h 345 (pg h 0) b := fun b hb => mset_ne hb
  have e2 : mset (mset h 345 (pg h 0)) 0 P 131 2 = h 131 2 := mset_b (by decide) (mset_b (by decide) rfl)
  have e2' : mset h 345 (pg h 0) 131 2 = h 131 2 := mset_b (by decide) rfl
  rw [e2'] at r1 r3 r6
  refine ⟨by rw [e2]; exact r1, by rw [e2]; exact GD_congr hG (fun k hk => pg_mset hk), fun k hk => ?_, by rw [e _ (by omega)]; exact r4, ⟨by rw [e _ (by omega)]; exact r5, fun i hi => ?_⟩, fun k hk => ?_, fun i hi => by rw [e _ (by omega)]; exact r8 i hi, fun i hi => by rw [e _ (by omega)]; exact r9 i hi, fun i hi => by rw [e _ (by omega)]; exact ra i hi⟩
  · rw [e _ (by omega), e2]
    rcases r3 k hk with z | ⟨z, z2⟩
    · exact Or.inl z
    · exact Or.inr ⟨z, GD_congr z2 (fun j hj => mset_out (by omega))⟩
  · rw [e _ (by omega)] at hi
    rw [e 139 (by omega), e2]; exact r6 i hi
  · rw [e 143 (by omega), e 144 (by omega)]; exact r7 k hk
theorem sfN_page {h : jH} {P : Nat → Int32} {n m : Nat} (hG : GD n P) (hn : n ≤ 4) : sfN n (pg (mset h 0 P) 0) m = sfN n P m :=
  sfN_r hG ⟨fun k hk => pg_mset (by omega), fun p hp => pg_mset (by omega)⟩ m
/-- page 0 back from aside -/
theorem back345 {h : jH} {T P : Nat → Int32} : mset (mset (mset (mset h 345 (pg h 0)) 0 P) 276 T) 0 (pg (mset (mset (mset h 345 (pg h 0)) 0 P) 276 T) 345) = mset (mset h 345 (pg h 0)) 276 T := by
  have e : ∀ k, k < 69 → pg (mset (mset (mset h 345 (pg h 0)) 0 P) 276 T) 345 k = pg h 0 k := fun k hk => by
    show mset (mset (mset h 345 (pg h 0)) 0 P) 276 T 132 (345 + k) = _
    rw [mset_out (by omega), mset_out (by omega), mset_at k hk rfl]
  rw [mset_cong e, mset_comm (o := 276) (u := 0) (by omega), mset_mset]
  rw [mset_comm (o := 0) (u := 276) (by omega)]
  funext b j
  by_cases z : b = 132 ∧ 0 ≤ j ∧ j < 0 + 69
  · obtain ⟨rfl, -, z2⟩ := z
    rw [mset_at j (by omega) (by omega), mset_out (by omega), mset_out (by omega), pg0]
  · rw [mset, if_neg z]
