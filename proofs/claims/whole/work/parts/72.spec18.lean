/-! what a text without a fault tells is good -/
theorem sNum_0 {L : Nat} {t : Nat → Int32} {lo hi : Int32} {s : sS} (h : (sNum L t lo hi s).1 = 0) : s.1 = 0 ∧ lo ≤ sVal (sNum L t lo hi s) ∧ sVal (sNum L t lo hi s) ≤ hi := by
  obtain ⟨h1, h2, h3, h4⟩ := sNm_0 (lo := lo) (hi := hi) (s := sAdv L t s) h
  have e : sVal (sNum L t lo hi s) = (sAdv L t s).2.2.2.2 := by rw [sVal, if_pos h, sNum, sNm_2]
  rw [e]
  exact ⟨sAdv_0 h1, h3⟩
theorem sSem_0 {L : Nat} {t : Nat → Int32} {s : sS} (h : (sSem L t s).1 = 0) : s.1 = 0 := sAdv_0 (sExp_0 (k := 3) h).1
theorem inb {x : Int32} {n : Nat} (hn : n ≤ 100000) (h : nI 0 ≤ x ∧ x ≤ nI n) : nb (n + 1) x := (in_nbc (n := n) rfl hn).mp h
def gB4 (P : Nat → Int32) : Prop := nb 6 (P 37) ∧ ∀ c, c < ix (P 37) → (nb 4 (P (12 + 5 * c)) ∧ nb 4 (P (12 + 5 * c + 1))) ∧ P (12 + 5 * c) ≠ P (12 + 5 * c + 1) ∧ nb 4 (P (12 + 5 * c + 2)) ∧ nb 21 (P (12 + 5 * c + 3)) ∧ nb 10 (P (12 + 5 * c + 4))
theorem gB4_congr {P P' : Nat → Int32} (g : gB4 P) (e : ∀ k, 12 ≤ k → k < 38 → P' k = P k) : gB4 P' := by
  have h6 := g.1.2
  unfold gB4
  rw [e 37 (by omega) (by omega)]
  refine ⟨g.1, fun c hc => ?_⟩
  rw [e _ (by omega) (by omega), e _ (by omega) (by omega), e _ (by omega) (by omega), e _ (by omega) (by omega), e _ (by omega) (by omega)]; exact g.2 c hc
def IG (D : sD) : Prop := D.1 ≤ 4 ∧ gA D.1 D.2.1 ∧ gB4 D.2.1 ∧ gC D.2.1 ∧ nb 100 (D.2.1 42 + nI 5) ∧ gE D.2.1 ∧ (∀ k, 52 ≤ k → D.2.1 k = 0) ∧ (D.2.2.2.2 = false → D.2.1 51 = 0)
theorem IG_0 : IG D0 := by
  refine ⟨by decide, fun p hp => absurd hp (Nat.not_lt_zero _), ⟨(show nb 6 (nI 0) from nb_nI (by omega) (by omega)), fun c hc => absurd hc (Nat.not_lt_zero _)⟩, ⟨fun w hw => ?_, by decide⟩, (show nb 100 (nI 5) from nb_nI (by omega) (by omega)), ⟨(show nb 9 (nI 0) from nb_nI (by omega) (by omega)), fun i hi => absurd hi (Nat.not_lt_zero _)⟩, fun k _ => rfl, fun _ => rfl⟩
  match w, hw with
  | 0, _ => exact (show nb 11 (nI 3) from nb_nI (by omega) (by omega))
  | 1, _ => exact (show nb 11 (nI 3) from nb_nI (by omega) (by omega))
  | 2, _ => exact (show nb 11 (nI 3) from nb_nI (by omega) (by omega))
  | 3, _ => exact (show nb 11 (nI 1) from nb_nI (by omega) (by omega))
theorem IG_one {L w : Nat} {t : Nat → Int32} {s : sS} {D : sD} (hw : w < 4) (h : (lOne L t (nI w) s D).1.1 = 0) (g : IG D) : IG (lOne L t (nI w) s D).2 := by
  obtain ⟨g1, ga, gb, gc, gd, ge, gz, gs⟩ := g
  have h2 := sSem_0 (s := one2 L t s D) h
  obtain ⟨h1, v2⟩ := sNum_0 (s := one1 L t s D) h2
  obtain ⟨h0, v1⟩ := sNum_0 (s := one0 s D) h1
  have hn : D.1 < 4 := by
    have := (sRef_0 (by decide) h0).2.1
    simpa using this
  have v1 : nI 1 ≤ sVal (one1 L t s D) ∧ sVal (one1 L t s D) ≤ nI 5 := v1
  have v2 : nI 0 ≤ sVal (one2 L t s D) ∧ sVal (one2 L t s D) ≤ nI 99 := v2
  show IG (dOne _ _ _ D)
  generalize sVal (one1 L t s D) = f at *
  generalize sVal (one2 L t s D) = p at *
  rw [dOne, if_pos hn]
  have u : ∀ j, j ≠ D.1 → j ≠ 4 + D.1 → j ≠ 8 + D.1 → upd (upd (upd D.2.1 D.1 (nI w)) (4 + D.1) f) (8 + D.1) p j = D.2.1 j := fun j h1 h2 h3 => by rw [upd_ne (by omega), upd_ne (by omega), upd_ne (by omega)]
  refine ⟨by show D.1 + 1 ≤ 4; omega, fun q hq => ?_, gB4_congr gb (fun k h1 h2 => u k (by omega) (by omega) (by omega)), gC_congr gc (fun k h1 h2 => u k (by omega) (by omega) (by omega)), ?_, gE_congr ge (fun k h1 h2 => u k (by omega) (by omega) (by omega)), fun k hk => (u k (by omega) (by omega) (by omega)).trans (gz k hk), fun z => (u 51 (by omega) (by omega) (by omega)).trans (gs z)⟩
  · have hq : q < D.1 + 1 := hq
    dsimp only
    by_cases z : q = D.1
    · subst z
      rw [upd_ne (k := 8 + D.1) (by omega), upd_ne (k := 4 + D.1) (by omega), upd_at, upd_at, upd_ne (k := 8 + D.1) (by omega), upd_at]
      have bp := inb (n := 99) (by omega) v2
      have bf := inb (n := 5) (by omega) ⟨Int32.le_trans (by decide) v1.1, v1.2⟩
      exact ⟨nb_nI hw (by omega), nb_le bp (by have := bp.2; omega), bf⟩
    · rw [u q (by omega) (by omega) (by omega), u (8 + q) (by omega) (by omega) (by omega), u (4 + q) (by omega) (by omega) (by omega)]
      exact ga q (by omega)
  · dsimp only
    rw [u 42 (by omega) (by omega) (by omega)]; exact gd
theorem IG_cov {L : Nat} {t : Nat → Int32} {s : sS} {D : sD} (h : (lCov L t s D).1.1 = 0) (g : IG D) : IG (lCov L t s D).2 := by
  obtain ⟨g1, ga, gb, gc, gd, ge, gz, gs⟩ := g
  have h7 := sSem_0 (s := cov7 L t s D) h
  obtain ⟨h6, v7⟩ := sNum_0 (s := cov6 L t s D) h7
  obtain ⟨h5, v6⟩ := sNum_0 (s := cov5 L t s D) h6
  obtain ⟨h4, -, w5, e5⟩ := sWea_0 (s := sAdv L t (cov3 L t s D)) h5
  have h3 := sAdv_0 h4
  obtain ⟨h2, ne, -⟩ := sRef_0 (by decide) h3
  obtain ⟨h1, v2⟩ := sNum_0 (s := cov1 L t s D) h2
  obtain ⟨h0, v1⟩ := sNum_0 (s := cov0 s D) h1
  have hn : ix (D.2.1 37) < 5 := by
    have := (sRef_0 (by decide) h0).2.1
    simpa using this
  have ne : sVal (cov1 L t s D) ≠ sVal (cov2 L t s D) := by simpa using ne
  have bw : nb 4 (sWv t (cov5 L t s D)) := by
    have e : (cov5 L t s D) = sAdv L t (cov3 L t s D) := e5
    rw [sWv, if_pos h5, e]
    exact nb_nI (by omega) (by omega)
  have b1 : nb 4 (sVal (cov1 L t s D)) := inb (n := 3) (by omega) v1
  have b2 : nb 4 (sVal (cov2 L t s D)) := inb (n := 3) (by omega) v2
  have b6 : nb 21 (sVal (cov6 L t s D)) := inb (n := 20) (by omega) v6
  have b7 : nb 10 (sVal (cov7 L t s D)) := inb (n := 9) (by omega) v7
  show IG (dCov _ _ _ _ _ D)
  generalize sVal (cov1 L t s D) = x1 at *
  generalize sVal (cov2 L t s D) = x2 at *
  generalize sWv t (cov5 L t s D) = x3 at *
  generalize sVal (cov6 L t s D) = x4 at *
  generalize sVal (cov7 L t s D) = x5 at *
  rw [dCov, if_pos hn]
  obtain ⟨a0, a1, a2, a3, a4, a5⟩ := addP_at (p := x1) (q := x2) (w := x3) (x := x4) (y := x5) (P := D.2.1) hn
  refine ⟨g1, gA_congr g1 ga (fun k h1 => addP_ne (by omega) (by omega)), ⟨?_, fun c hc => ?_⟩, gC_congr gc (fun k h1 h2 => addP_ne (by omega) (by omega)), ?_, gE_congr ge (fun k h1 h2 => addP_ne (by omega) (by omega)), fun k hk => (addP_ne (by omega) (by omega)).trans (gz k hk), fun z => (addP_ne (by omega) (by omega)).trans (gs z)⟩
  · dsimp only
    rw [a5]; exact nb_succ (by omega) (by omega)
  · dsimp only at hc ⊢
    rw [a5, ix_succ (by omega)] at hc
    by_cases z : c = ix (D.2.1 37)
    · subst z
      rw [a0, a1, a2, a3, a4]
      exact ⟨⟨b1, b2⟩, ne, bw, b6, b7⟩
    · rw [addP_ne (by omega) (by omega), addP_ne (by omega) (by omega), addP_ne (by omega) (by omega), addP_ne (by omega) (by omega), addP_ne (by omega) (by omega)]
      exact gb.2 c (by omega)
  · dsimp only
    rw [addP_ne (by omega) (by omega)]; exact gd
theorem IG_flo {L : Nat} {t : Nat → Int32} {s : sS} {D : sD} (h : (lFlo L t s D).1.1 = 0) (g : IG D) : IG (lFlo L t s D).2 := by
  obtain ⟨g1, ga, gb, gc, gd, ge, gz, gs⟩ := g
  have h2 := sSem_0 (s := flo1 L t s D) h
  have v1 : nI 0 ≤ sVal (flo1 L t s D) ∧ sVal (flo1 L t s D) ≤ nI 99 := (sNum_0 (s := sRef D.2.2.2.1 4 s) h2).2
  show IG (dFlo _ (dTf D))
  generalize sVal (flo1 L t s D) = f at *
  refine ⟨g1, gA_congr g1 ga (fun k h1 => upd_ne (by omega)), gB4_congr gb (fun k h1 h2 => upd_ne (by omega)), gC_congr gc (fun k h1 h2 => upd_ne (by omega)), ?_, gE_congr ge (fun k h1 h2 => upd_ne (by omega)), fun k hk => (upd_ne (by omega)).trans (gz k hk), fun z => (upd_ne (f := D.2.1) (k := 42) (j := 51) (x := f - nI 5) (by omega)).trans (gs z)⟩
  dsimp only [dFlo, dTf]
  rw [upd_at, Int32.sub_add_cancel]
  exact inb (n := 99) (by omega) v1
theorem nb_sub {x y : Int32} {a : Nat} (hx : x = nI a) (ha : a ≤ 10) (hy : nI 0 ≤ y ∧ y ≤ x) : y = nI (ix y) ∧ ix y ≤ a ∧ x - y = nI (a - ix y) := by
  subst hx
  have b := inb (n := a) (by omega) hy
  have := b.2
  refine ⟨b.1, by omega, ?_⟩
  rw [show nI a - y = nI a - nI (ix y) from congrArg (nI a - ·) b.1]
  exact nIsub (by omega) (by omega)
theorem IG_odd {L : Nat} {t : Nat → Int32} {s : sS} {D : sD} (h : (lOdd L t s D).1.1 = 0) (g : IG D) : IG (lOdd L t s D).2 := by
  obtain ⟨g1, ga, gb, gc, gd, ge, gz, gs⟩ := g
  have h4 := sSem_0 (s := odd4 L t s D) h
  obtain ⟨h3, v4⟩ := sNum_0 (s := odd3 L t s D) h4
  obtain ⟨h2, v3⟩ := sNum_0 (s := odd2 L t s D) h3
  obtain ⟨h1, v2⟩ := sNum_0 (s := odd1 L t s D) h2
  obtain ⟨-, v1⟩ := sNum_0 (s := odd0 s D) h1
  obtain ⟨e1, l1, r1⟩ := nb_sub (x := nI 10) (y := sVal (odd1 L t s D)) (a := 10) rfl (by omega) v1
  obtain ⟨e2, l2, r2⟩ := nb_sub (x := left1 L t s D) (y := sVal (odd2 L t s D)) r1 (by omega) v2
  obtain ⟨e3, l3, r3⟩ := nb_sub (x := left2 L t s D) (y := sVal (odd3 L t s D)) r2 (by omega) v3
  have e4 : sVal (odd4 L t s D) = left3 L t s D := Int32.le_antisymm v4.2 v4.1
  have r3 : left3 L t s D = nI (10 - ix (sVal (odd1 L t s D)) - ix (sVal (odd2 L t s D)) - ix (sVal (odd3 L t s D))) := r3
  rw [r3] at e4
  show IG (dOdd 3 _ (dOdd 2 _ (dOdd 1 _ (dOdd 0 _ (dTo D)))))
  generalize sVal (odd1 L t s D) = x1 at *
  generalize sVal (odd2 L t s D) = x2 at *
  generalize sVal (odd3 L t s D) = x3 at *
  generalize sVal (odd4 L t s D) = x4 at *
  have i4 : ix x4 = 10 - ix x1 - ix x2 - ix x3 := by rw [e4]; exact ix_nI (by omega)
  have b4 : nb 11 x4 := by rw [e4]; exact nb_nI (by omega) (by omega)
  have u : ∀ j, j < 38 ∨ 42 ≤ j → (dOdd 3 x4 (dOdd 2 x3 (dOdd 1 x2 (dOdd 0 x1 (dTo D))))).2.1 j = D.2.1 j := fun j hj => by
    dsimp only [dOdd, dTo]
    rw [upd_ne (by omega), upd_ne (by omega), upd_ne (by omega), upd_ne (by omega)]
  have p0 : (dOdd 3 x4 (dOdd 2 x3 (dOdd 1 x2 (dOdd 0 x1 (dTo D))))).2.1 38 + fo 0 = x1 := by
    dsimp only [dOdd, dTo]
    rw [upd_ne (by omega), upd_ne (by omega), upd_ne (by omega), upd_at, Int32.sub_add_cancel]
  have p1 : (dOdd 3 x4 (dOdd 2 x3 (dOdd 1 x2 (dOdd 0 x1 (dTo D))))).2.1 39 + fo 1 = x2 := by
    dsimp only [dOdd, dTo]
    rw [upd_ne (by omega), upd_ne (by omega), upd_at, Int32.sub_add_cancel]
  have p2 : (dOdd 3 x4 (dOdd 2 x3 (dOdd 1 x2 (dOdd 0 x1 (dTo D))))).2.1 40 + fo 2 = x3 := by
    dsimp only [dOdd, dTo]
    rw [upd_ne (by omega), upd_at, Int32.sub_add_cancel]
  have p3 : (dOdd 3 x4 (dOdd 2 x3 (dOdd 1 x2 (dOdd 0 x1 (dTo D))))).2.1 41 + fo 3 = x4 := by
    dsimp only [dOdd, dTo]
    rw [upd_at, Int32.sub_add_cancel]
  refine ⟨g1, gA_congr g1 ga (fun k h1 => u k (by omega)), gB4_congr gb (fun k h1 h2 => u k (by omega)), ⟨fun w hw => ?_, ?_⟩, ?_, gE_congr ge (fun k h1 h2 => u k (by omega)), fun k hk => (u k (by omega)).trans (gz k hk), fun z => (u 51 (by omega)).trans (gs z)⟩
  · match w, hw with
    | 0, _ => rw [p0]; exact ⟨e1, by omega⟩
    | 1, _ => rw [p1]; exact ⟨e2, by omega⟩
    | 2, _ => rw [p2]; exact ⟨e3, by omega⟩
    | 3, _ => rw [p3]; exact b4
  · rw [p0, p1, p2, p3]; omega
  · rw [u 42 (by omega)]; exact gd
theorem IG_skF {L : Nat} {t : Nat → Int32} : ∀ (m : Nat) {s : sS} {D : sD}, (skF L t m s D).1.1 = 0 → D.2.2.2.2 = true → IG D → IG (skF L t m s D).2
  | 0, s, D, _, _, g => g
  | m + 1, s, D, h, hf, g => by
    rw [skF] at h ⊢
    by_cases z : s.1 = 0
    · rw [if_pos z] at h ⊢
      by_cases z3 : (sAdv L t s).2.2.2.1 = 3
      · rw [if_pos z3]; exact g
      · rw [if_neg z3] at h ⊢
        by_cases ze : (sky3 L t s D).1 = 0
        · obtain ⟨h1, h2, h3, h4⟩ := sWea_0 ze
          have hp : ix (D.2.1 51) < 8 := by
            have := (sRef_0 (by decide) h1).2.1
            simpa using this
          have bw : nb 4 (sWv t (sky3 L t s D)) := by
            have e2 : (sky3 L t s D).2 = (sRef (decide (8 ≤ ix (D.2.1 51))) 5 (sExp 1 (sAdv L t s))).2 := by rw [sky3, sWea_2]
            rw [sWv, if_pos ze, e2]
            exact nb_nI (by omega) (by omega)
          refine IG_skF m h ?_ ?_
          · rw [dPln, if_pos hp]; exact hf
          · obtain ⟨g1, ga, gb, gc, gd, ge, gz, gs⟩ := g
            rw [dPln, if_pos hp]
            have hm := ge.1.1
            have u : ∀ j, j < 43 ∨ 52 ≤ j → planP (sWv t (sky3 L t s D)) D.2.1 j = D.2.1 j := fun j hj => by rw [planP, upd_ne (by omega), upd_ne (by omega)]
            refine ⟨g1, gA_congr g1 ga (fun k h1 => u k (by omega)), gB4_congr gb (fun k h1 h2 => u k (by omega)), gC_congr gc (fun k h1 h2 => u k (by omega)), ?_, ⟨?_, fun i hi => ?_⟩, fun k hk => (u k (by omega)).trans (gz k hk), fun q => ?_⟩
            · dsimp only
              rw [u 42 (by omega)]; exact gd
            · dsimp only
              have q := ix_suc ge.1 (by omega)
              rw [planP, upd_at]; exact nb_le q.1 (by rw [q.2]; omega)
            · dsimp only at hi ⊢
              have q := ix_suc ge.1 (by omega)
              rw [planP, upd_at, q.2] at hi
              rw [planP, upd_ne (by omega)]
              by_cases zi : i = ix (D.2.1 51)
              · rw [zi, upd_at]; exact bw
              · rw [upd_ne (by omega)]; exact ge.2 i (by omega)
            · have q : D.2.2.2.2 = false := q
              rw [hf] at q; cases q
        · have e : skF L t m (sky3 L t s D) (dPln (sWv t (sky3 L t s D)) D) = (sky3 L t s D, dPln (sWv t (sky3 L t s D)) D) := by
            cases m with
            | zero => rfl
            | succ m => rw [skF, if_neg ze]
          rw [e] at h
          exact absurd h ze
    · rw [if_neg z]; exact g
theorem IG_line {L : Nat} {t : Nat → Int32} {s : sS} {D : sD} (h : (lLine L t s D).1.1 = 0) (g : IG D) : IG (lLine L t s D).2 := by
  rw [lLine] at h ⊢
  by_cases z : (sExp 1 s).1 = 0
  · rw [if_pos z] at h ⊢
    rw [lWord] at h ⊢
    by_cases z4 : wd t s.2 < 4
    · rw [if_pos z4] at h ⊢; exact IG_one z4 h g
    · rw [if_neg z4] at h ⊢
      by_cases z8 : wd t s.2 = 8
      · rw [if_pos z8] at h ⊢; exact IG_cov h g
      · rw [if_neg z8] at h ⊢
        by_cases z9 : wd t s.2 = 9
        · rw [if_pos z9] at h ⊢; exact IG_odd h g
        · rw [if_neg z9] at h ⊢
          by_cases z10 : wd t s.2 = 10
          · rw [if_pos z10] at h ⊢; exact IG_flo h g
          · rw [if_neg z10] at h ⊢
            by_cases z11 : wd t s.2 = 11
            · rw [if_pos z11] at h ⊢
              refine IG_skF 9 h rfl ?_
              obtain ⟨g1, ga, gb, gc, gd, ge, gz, gs⟩ := g
              exact ⟨g1, ga, gb, gc, gd, ge, gz, fun q => by cases q⟩
            · rw [if_neg z11] at h; cases h
  · rw [if_neg z] at h; exact absurd h z
theorem IG_txF {L : Nat} {t : Nat → Int32} : ∀ (m k : Nat) {s : sS} {D : sD}, (txF L t m k s D).1.1 = 0 → IG D → IG (txF L t m k s D).2.1
  | 0, k, s, D, _, g => g
  | m + 1, k, s, D, h, g => by
    rw [txF] at h ⊢
    by_cases z : s.2.2.2.1 ≠ 0 ∧ s.1 = 0
    · rw [if_pos z] at h ⊢
      by_cases ze : (lLine L t s D).1.1 = 0
      · exact IG_txF m (k + 1) h (IG_line ze g)
      · exfalso
        rw [sAdv_f ze] at h
        have e : ∀ m k D', (txF L t m k (lLine L t s D).1 D').1 = (lLine L t s D).1 := fun m k D' => by
          cases m with
          | zero => rfl
          | succ m => rw [txF, if_neg (fun q => ze q.2)]
        rw [e] at h
        exact ze h
    · rw [if_neg z]; exact g
theorem tx_good {L : Nat} {t : Nat → Int32} (h : (txE L t).1 = 0) : GD (tx L t).2.1.1 (tx L t).2.1.2.1 ∧ (tx L t).2.1.2.1 52 = 0 := by
  obtain ⟨h1, h2, -⟩ := sRef_0 (by decide) h
  obtain ⟨g1, ga, gb, gc, gd, ge, gz, gs⟩ := IG_txF (L := L) (t := t) 160 0 (s := (0, tk L t 0)) (D := D0) h1 IG_0
  have ns : ∀ c, c < ix ((tx L t).2.1.2.1 37) → ¬ (nI (tx L t).2.1.1 ≤ (tx L t).2.1.2.1 (12 + 5 * c) ∨ nI (tx L t).2.1.1 ≤ (tx L t).2.1.2.1 (12 + 5 * c + 1)) := fun c hc z => h2 (decide_eq_true ⟨c, hc, z⟩)
  have nn : ∀ x : Int32, nb 4 x → ¬ nI (tx L t).2.1.1 ≤ x → nb (tx L t).2.1.1 x := fun x hx hq => by
    refine ⟨hx.1, ?_⟩
    have h4 := hx.2
    have g1 : (tx L t).2.1.1 ≤ 4 := g1
    rw [hx.1] at hq
    exact Nat.lt_of_not_le (fun z => hq ((nI_leI (by omega) (by omega)).mpr z))
  refine ⟨GD_parts.mpr ⟨g1, ga, ⟨gb.1, fun c hc => ?_⟩, gc, gd, ge, ?_, fun p q hp hq _ => gz _ (by omega)⟩, gz 52 (by omega)⟩
  · have q := gb.2 c hc
    exact ⟨⟨nn _ q.1.1 (fun z => ns c hc (Or.inl z)), nn _ q.1.2 (fun z => ns c hc (Or.inr z))⟩, q.2⟩
  · have e : (tx L t).2.1.2.1 52 = 0 := gz 52 (by omega)
    rw [e]; exact (show nb 1000 (nI 0) from nb_nI (by omega) (by omega))
