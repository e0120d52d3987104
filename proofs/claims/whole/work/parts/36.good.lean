/-! good pages stay good; valleys follow -/
theorem XV_alter {v n t p : Nat} {P : Nat → Int32} {h : jH} {x : Int32} (hX : XV n P h v) (hG : GD n P) (hp : p < n) (ht : t < 3) : XV n (upd P (4 * t + p) x) (j_up h (v + 2 + t) p x) v := by
  have hn := hG.1.1
  have h6 := hG.1.2.2.1.2
  have h9 := hG.2.1.2
  obtain ⟨xa, xb, xc, xd, xe, xg⟩ := XV_parts.mp hX
  have key : ∀ j, j < 3 → ∀ q, q < n → h (v + 2 + j) q = P (4 * j + q) → j_up h (v + 2 + t) p x (v + 2 + j) q = upd P (4 * t + p) x (4 * j + q) := fun j hj q hq e => by
    by_cases z : j = t ∧ q = p
    · obtain ⟨rfl, rfl⟩ := z
      rw [j_up_s, upd_at]
    · rw [j_up_o (by omega), upd_ne (by omega)]; exact e
  refine XV_parts.mpr ⟨⟨?_, fun q hq => ⟨?_, key 1 (by omega) q hq (xa.2 q hq).2.1, key 2 (by omega) q hq (xa.2 q hq).2.2⟩⟩, xB_congr xb h6 (fun k h1 h2 => upd_ne (by omega)) (j_up_o (by omega)) (fun j hj k => j_up_o (by omega)), xC_congr xc (fun k h1 h2 => upd_ne (by omega)) (fun k => j_up_o (by omega)), ?_, xE_congr xe h9 (fun k h1 h2 => upd_ne (by omega)) (j_up_o (by omega)) (fun k => j_up_o (by omega)), xG_congr xg (fun k h1 h2 => upd_ne (by omega)) (fun q hq k => j_up_o (by omega))⟩
  · rw [j_up_o (by omega)]; exact xa.1
  · have := key 0 (by omega) q hq (by rw [show 4 * 0 + q = q by omega]; exact (xa.2 q hq).1)
    rw [show 4 * 0 + q = q by omega] at this
    exact this
  · rw [j_up_o (by omega), upd_ne (by omega)]; exact xd
theorem GD_alter {n t p : Nat} {P : Nat → Int32} {x : Int32} (hG : GD n P) (hp : p < n) (ht : t < 3) (h0 : t = 0 → nb 4 x) (h1 : t = 1 → nb 6 x) (h2 : t = 2 → nb 1000 x) : GD n (upd P (4 * t + p) x) := by
  obtain ⟨hn, ga, gb, gc, gd, ge, gf, gg⟩ := GD_parts.mp hG
  refine GD_parts.mpr ⟨hn, fun q hq => ⟨?_, ?_, ?_⟩, gB_congr gb (fun k h1 h2 => upd_ne (by omega)), gC_congr gc (fun k h1 h2 => upd_ne (by omega)), by rw [upd_ne (by omega)]; exact gd, gE_congr ge (fun k h1 h2 => upd_ne (by omega)), by rw [upd_ne (by omega)]; exact gf, gG_congr gg (fun k h1 h2 => upd_ne (by omega))⟩
  · by_cases z : q = 4 * t + p
    · rw [z, upd_at]; exact h0 (by omega)
    · rw [upd_ne z]; exact (ga q hq).1
  · by_cases z : 8 + q = 4 * t + p
    · rw [z, upd_at]; exact h2 (by omega)
    · rw [upd_ne z]; exact (ga q hq).2.1
  · by_cases z : 4 + q = 4 * t + p
    · rw [z, upd_at]; exact h1 (by omega)
    · rw [upd_ne z]; exact (ga q hq).2.2
theorem XV_sign {v n t c : Nat} {P : Nat → Int32} {h : jH} {x : Int32} (hX : XV n P h v) (hG : GD n P) (hc : c < ix (P 37)) (ht : t < 5) : XV n (upd P (12 + 5 * c + t) x) (j_up h (v + 6 + t) c x) v := by
  have hn := hG.1.1
  have h6 := hG.1.2.2.1.2
  have h9 := hG.2.1.2
  obtain ⟨xa, xb, xc, xd, xe, xg⟩ := XV_parts.mp hX
  have e37 : upd P (12 + 5 * c + t) x 37 = P 37 := upd_ne (by omega)
  refine XV_parts.mpr ⟨xA_congr hn xa (fun k h1 => upd_ne (by omega)) (j_up_o (by omega)) (fun j hj k => j_up_o (by omega)), ⟨?_, fun c' hc' j hj => ?_⟩, xC_congr xc (fun k h1 h2 => upd_ne (by omega)) (fun k => j_up_o (by omega)), ?_, xE_congr xe h9 (fun k h1 h2 => upd_ne (by omega)) (j_up_o (by omega)) (fun k => j_up_o (by omega)), xG_congr xg (fun k h1 h2 => upd_ne (by omega)) (fun q hq k => j_up_o (by omega))⟩
  · rw [j_up_o (by omega), e37]; exact xb.1
  · rw [e37] at hc'
    by_cases z : j = t ∧ c' = c
    · obtain ⟨rfl, rfl⟩ := z
      rw [j_up_s, upd_at]
    · rw [j_up_o (by omega), upd_ne (by omega)]; exact xb.2 c' hc' j hj
  · rw [j_up_o (by omega), upd_ne (by omega)]; exact xd
theorem GD_sign {n t c : Nat} {P : Nat → Int32} {x : Int32} (hG : GD n P) (hc : c < ix (P 37)) (ht : t < 5) (ht2 : 2 ≤ t) (h2 : t = 2 → nb 4 x) (h3 : t = 3 → nb 21 x) (h4 : t = 4 → nb 10 x) : GD n (upd P (12 + 5 * c + t) x) := by
  obtain ⟨hn, ga, gb, gc, gd, ge, gf, gg⟩ := GD_parts.mp hG
  have h6 := gb.1.2
  have e37 : upd P (12 + 5 * c + t) x 37 = P 37 := upd_ne (by omega)
  refine GD_parts.mpr ⟨hn, gA_congr hn ga (fun k h1 => upd_ne (by omega)), ⟨by rw [e37]; exact gb.1, fun c' hc' => ?_⟩, gC_congr gc (fun k h1 h2 => upd_ne (by omega)), by rw [upd_ne (by omega)]; exact gd, gE_congr ge (fun k h1 h2 => upd_ne (by omega)), by rw [upd_ne (by omega)]; exact gf, gG_congr gg (fun k h1 h2 => upd_ne (by omega))⟩
  rw [e37] at hc'
  obtain ⟨g1, g2, g3, g4, g5⟩ := gb.2 c' hc'
  rw [upd_ne (j := 12 + 5 * c') (by omega), upd_ne (j := 12 + 5 * c' + 1) (by omega)]
  refine ⟨g1, g2, ?_, ?_, ?_⟩
  · by_cases z : 12 + 5 * c' + 2 = 12 + 5 * c + t
    · rw [z, upd_at]; exact h2 (by omega)
    · rw [upd_ne z]; exact g3
  · by_cases z : 12 + 5 * c' + 3 = 12 + 5 * c + t
    · rw [z, upd_at]; exact h3 (by omega)
    · rw [upd_ne z]; exact g4
  · by_cases z : 12 + 5 * c' + 4 = 12 + 5 * c + t
    · rw [z, upd_at]; exact h4 (by omega)
    · rw [upd_ne z]; exact g5
/-- a valley changes, weeks and all else stay -/
def fr (v : Nat) (h h' : jH) : Prop := (∀ b, (b < v ∨ v + 18 ≤ b) → h' b = h b) ∧ h' v 9 = h v 9
theorem fr.rf {v : Nat} {h : jH} : fr v h h := ⟨fun _ _ => rfl, rfl⟩
theorem fr.tr {v : Nat} {h h' h2 : jH} (a : fr v h h') (b : fr v h' h2) : fr v h h2 := ⟨fun c hc => (b.1 c hc).trans (a.1 c hc), b.2.trans a.2⟩
theorem fr_up {v a i : Nat} {h h' : jH} {x : Int32} (t : fr v h h') (ha : v ≤ a ∧ a < v + 18) (hi : a ≠ v ∨ i ≠ 9) : fr v h (j_up h' a i x) :=
  ⟨fun b hb => (j_up_ne b (by omega)).trans (t.1 b hb), (j_up_o (by omega)).trans t.2⟩
theorem fr.hi {v : Nat} {h h' : jH} (hv : isV v) (t : fr v h h') : hi h h' := fun b hb => t.1 b (by rcases hv with z | z | z | z | z | z <;> omega)
theorem fr.xs {h h' : jH} (t : fr 1 h h') : xs h h' := fun b hb => t.1 b (by omega)
theorem fr.xq {v : Nat} {h h' : jH} (hv : v = 19 ∨ v = 60) (t : fr v h h') : xq h h' := fun b hb => t.1 b (by omega)
theorem addP_at {c : Nat} {p q w x y : Int32} {P : Nat → Int32} (hc : c < 5) : addP c p q w x y P (12 + 5 * c) = p ∧ addP c p q w x y P (12 + 5 * c + 1) = q ∧ addP c p q w x y P (12 + 5 * c + 2) = w ∧ addP c p q w x y P (12 + 5 * c + 3) = x ∧ addP c p q w x y P (12 + 5 * c + 4) = y ∧ addP c p q w x y P 37 = nI c + nI 1 := by
  refine ⟨?_, ?_, ?_, ?_, ?_, upd_at⟩ <;> unfold addP
  · rw [upd_ne (by omega), upd_ne (by omega), upd_ne (by omega), upd_ne (by omega), upd_ne (by omega), upd_at]
  · rw [upd_ne (by omega), upd_ne (by omega), upd_ne (by omega), upd_ne (by omega), upd_at]
  · rw [upd_ne (by omega), upd_ne (by omega), upd_ne (by omega), upd_at]
  · rw [upd_ne (by omega), upd_ne (by omega), upd_at]
  · rw [upd_ne (by omega), upd_at]
theorem addP_ne {c k : Nat} {p q w x y : Int32} {P : Nat → Int32} (hk : k ≠ 37) (h2 : k < 12 + 5 * c ∨ 12 + 5 * c + 5 ≤ k) : addP c p q w x y P k = P k := by
  unfold addP
  rw [upd_ne (by omega), upd_ne (by omega), upd_ne (by omega), upd_ne (by omega), upd_ne (by omega), upd_ne (by omega)]
theorem ix_succ {k : Nat} (hk : k < 1000000) : ix (nI k + nI 1) = k + 1 := by rw [nI_add]; exact ix_nI (by omega)
theorem nb_succ {k b : Nat} (hk : k + 1 < b) (hb : b ≤ 1000000) : nb b (nI k + nI 1) := by rw [nI_add]; exact nb_nI hk (by omega)
theorem pred_nI {k : Nat} (hk : 1 ≤ k) (h2 : k < 1000000) : nI k - nI 1 = nI (k - 1) := by
  rw [i_eq, pk_sub_toInt (by omega) (by omega), nI_n (by omega)]
  omega
theorem GD_add {n c : Nat} {p q w x y : Int32} {P : Nat → Int32} (hG : GD n P) (hc : P 37 = nI c) (hc5 : c < 5) (hp : nb n p) (hq : nb n q) (hpq : p ≠ q) (hw : nb 4 w) (hx : nb 21 x) (hy : nb 10 y) : GD n (addP c p q w x y P) := by
  obtain ⟨hn, ga, gb, gc, gd, ge, gf, gg⟩ := GD_parts.mp hG
  obtain ⟨a0, a1, a2, a3, a4, a5⟩ := addP_at (p := p) (q := q) (w := w) (x := x) (y := y) (P := P) hc5
  have ec : ix (P 37) = c := by rw [hc]; exact ix_nI (by omega)
  refine GD_parts.mpr ⟨hn, gA_congr hn ga (fun k h1 => addP_ne (by omega) (by omega)), ⟨by rw [a5]; exact nb_succ (by omega) (by omega), fun c' hc' => ?_⟩, gC_congr gc (fun k h1 h2 => addP_ne (by omega) (by omega)), by rw [addP_ne (by omega) (by omega)]; exact gd, gE_congr ge (fun k h1 h2 => addP_ne (by omega) (by omega)), by rw [addP_ne (by omega) (by omega)]; exact gf, gG_congr gg (fun k h1 h2 => addP_ne (by omega) (by omega))⟩
  rw [a5, ix_succ (by omega)] at hc'
  by_cases z : c' = c
  · subst z
    rw [a0, a1, a2, a3, a4]
    exact ⟨⟨hp, hq⟩, hpq, hw, hx, hy⟩
  · rw [addP_ne (k := 12 + 5 * c') (by omega) (by omega), addP_ne (k := 12 + 5 * c' + 1) (by omega) (by omega), addP_ne (k := 12 + 5 * c' + 2) (by omega) (by omega), addP_ne (k := 12 + 5 * c' + 3) (by omega) (by omega), addP_ne (k := 12 + 5 * c' + 4) (by omega) (by omega)]
    exact gb.2 c' (by omega)
def acH (h : jH) (v c : Nat) (p q w x y : Int32) : jH := j_up (j_up (j_up (j_up (j_up (j_up h (v + 6) c p) (v + 7) c q) (v + 8) c w) (v + 9) c x) (v + 10) c y) v 3 (nI c + nI 1)
theorem acH_fr {h : jH} {v c : Nat} {p q w x y : Int32} : fr v h (acH h v c p q w x y) :=
  fr_up (fr_up (fr_up (fr_up (fr_up (fr_up fr.rf (by omega) (by omega)) (by omega) (by omega)) (by omega) (by omega)) (by omega) (by omega)) (by omega) (by omega)) (by omega) (by omega)
theorem acH_ne {h : jH} {v c b k : Nat} {p q w x y : Int32} (h1 : b ≠ v ∨ k ≠ 3) (h2 : b < v + 6 ∨ v + 10 < b ∨ k ≠ c) : acH h v c p q w x y b k = h b k := by
  unfold acH
  rw [j_up_o (by omega), j_up_o (by omega), j_up_o (by omega), j_up_o (by omega), j_up_o (by omega), j_up_o (by omega)]
theorem XV_add {v n c : Nat} {p q w x y : Int32} {P : Nat → Int32} {h : jH} (hX : XV n P h v) (hn : n ≤ 4) (h9 : ix (P 51) < 9) (hc : P 37 = nI c) (hc5 : c < 5) : XV n (addP c p q w x y P) (acH h v c p q w x y) v := by
  obtain ⟨xa, xb, xc, xd, xe, xg⟩ := XV_parts.mp hX
  obtain ⟨a0, a1, a2, a3, a4, a5⟩ := addP_at (p := p) (q := q) (w := w) (x := x) (y := y) (P := P) hc5
  have ec : ix (P 37) = c := by rw [hc]; exact ix_nI (by omega)
  refine XV_parts.mpr ⟨xA_congr hn xa (fun k h1 => addP_ne (by omega) (by omega)) (acH_ne (by omega) (by omega)) (fun j hj k => acH_ne (by omega) (by omega)), ⟨?_, fun c' hc' j hj => ?_⟩, xC_congr xc (fun k h1 h2 => addP_ne (by omega) (by omega)) (fun k => acH_ne (by omega) (by omega)), ?_, xE_congr xe h9 (fun k h1 h2 => addP_ne (by omega) (by omega)) (acH_ne (by omega) (by omega)) (fun k => acH_ne (by omega) (by omega)), xG_congr xg (fun k h1 h2 => addP_ne (by omega) (by omega)) (fun q hq k => acH_ne (by omega) (by omega))⟩
  · rw [a5]; exact j_up_s
  · rw [a5, ix_succ (by omega)] at hc'
    by_cases z : c' = c
    · subst z
      match j, hj with
      | 0, _ => show acH h v c' p q w x y (v + 6) c' = addP c' p q w x y P (12 + 5 * c'); rw [a0]; unfold acH; rw [j_up_o (by omega), j_up_o (by omega), j_up_o (by omega), j_up_o (by omega), j_up_o (by omega), j_up_s]
      | 1, _ => rw [a1]; unfold acH; rw [j_up_o (by omega), j_up_o (by omega), j_up_o (by omega), j_up_o (by omega)]; exact j_up_s
      | 2, _ => rw [a2]; unfold acH; rw [j_up_o (by omega), j_up_o (by omega), j_up_o (by omega)]; exact j_up_s
      | 3, _ => rw [a3]; unfold acH; rw [j_up_o (by omega), j_up_o (by omega)]; exact j_up_s
      | 4, _ => rw [a4]; unfold acH; rw [j_up_o (by omega)]; exact j_up_s
      | j + 5, hj => omega
    · rw [acH_ne (by omega) (by omega), addP_ne (by omega) (by omega)]
      exact xb.2 c' (by omega) j hj
  · rw [acH_ne (by omega) (by omega), addP_ne (by omega) (by omega)]; exact xd
/-- a cover is dropped -/
def rcI (h : jH) (v c M k i : Nat) : jH := fun b j => if (v + 6 ≤ b ∧ b < v + 6 + k ∧ c ≤ j ∧ j < M) ∨ (b = v + 6 + k ∧ c ≤ j ∧ j < c + i) then h b (j + 1) else h b j
theorem rcI_0 {h : jH} {v c M : Nat} : rcI h v c M 0 0 = h := by
  funext b j
  simp only [rcI, show ¬ ((v + 6 ≤ b ∧ b < v + 6 + 0 ∧ c ≤ j ∧ j < M) ∨ (b = v + 6 + 0 ∧ c ≤ j ∧ j < c + 0)) by omega, if_false]
theorem rcI_n {h : jH} {v c M k : Nat} (hc : c ≤ M) : rcI h v c M k (M - c) = rcI h v c M (k + 1) 0 := by
  funext b j
  have : ((v + 6 ≤ b ∧ b < v + 6 + k ∧ c ≤ j ∧ j < M) ∨ (b = v + 6 + k ∧ c ≤ j ∧ j < c + (M - c))) ↔ ((v + 6 ≤ b ∧ b < v + 6 + (k + 1) ∧ c ≤ j ∧ j < M) ∨ (b = v + 6 + (k + 1) ∧ c ≤ j ∧ j < c + 0)) := by omega
  simp only [rcI, this]
theorem rcI_s {h : jH} {v c M k i : Nat} (hi : c + i < M) : j_up (rcI h v c M k i) (v + 6 + k) (c + i) (h (v + 6 + k) (c + i + 1)) = rcI h v c M k (i + 1) := by
  funext b j
  unfold j_up
  by_cases z : b = v + 6 + k ∧ j = c + i
  · obtain ⟨rfl, rfl⟩ := z
    rw [if_pos ⟨rfl, rfl⟩, rcI, if_pos (by omega)]
  · rw [if_neg z]
    have : ((v + 6 ≤ b ∧ b < v + 6 + k ∧ c ≤ j ∧ j < M) ∨ (b = v + 6 + k ∧ c ≤ j ∧ j < c + i)) ↔ ((v + 6 ≤ b ∧ b < v + 6 + k ∧ c ≤ j ∧ j < M) ∨ (b = v + 6 + k ∧ c ≤ j ∧ j < c + (i + 1))) := by omega
    simp only [rcI, this]
theorem rcI_o {h : jH} {v c M k i b j : Nat} (hb : b < v + 6 ∨ v + 6 + k < b ∨ (b = v + 6 + k ∧ (c + i ≤ j ∨ i = 0))) : rcI h v c M k i b j = h b j := by
  simp only [rcI, show ¬ ((v + 6 ≤ b ∧ b < v + 6 + k ∧ c ≤ j ∧ j < M) ∨ (b = v + 6 + k ∧ c ≤ j ∧ j < c + i)) by omega, if_false]
def rcH (h : jH) (v c M : Nat) : jH := rcI (j_up h v 3 (nI M)) v c M 5 0
theorem rcH_fr {h : jH} {v c M : Nat} : fr v h (rcH h v c M) := by
  refine ⟨fun b hb => funext fun j => ?_, ?_⟩
  · rw [rcH, rcI]
    rw [if_neg (by omega), j_up_o (by omega)]
  · rw [rcH, rcI_o (by omega), j_up_o (by omega)]
theorem dropP_ne {c k : Nat} {P : Nat → Int32} (hk : k ≠ 37) (h2 : k < 12 + 5 * c ∨ 32 ≤ k) : dropP c P k = P k := by
  have h1 : ¬ (12 + 5 * c ≤ k ∧ k < 32) := by omega
  simp only [dropP, if_neg h1, if_neg hk]
theorem dropP_at {c k : Nat} {P : Nat → Int32} (h1 : 12 + 5 * c ≤ k) (h2 : k < 32) : dropP c P k = P (k + 5) := by
  simp only [dropP, if_pos (And.intro h1 h2)]
theorem dropP_37 {c : Nat} {P : Nat → Int32} : dropP c P 37 = P 37 - nI 1 := by
  simp [dropP]
theorem XV_drop {v n c m : Nat} {P : Nat → Int32} {h : jH} (hX : XV n P h v) (hn : n ≤ 4) (h9 : ix (P 51) < 9) (hm : P 37 = nI m) (hm6 : m < 6) (hc : c < m) : XV n (dropP c P) (rcH h v c (m - 1)) v := by
  obtain ⟨xa, xb, xc, xd, xe, xg⟩ := XV_parts.mp hX
  have e37 : dropP c P 37 = nI (m - 1) := by rw [dropP_37, hm]; exact pred_nI (by omega) (by omega)
  have ec : ix (P 37) = m := by rw [hm]; exact ix_nI (by omega)
  have o : ∀ b j, (b < v + 6 ∨ v + 11 < b ∨ b = v + 11) → (b ≠ v ∨ j ≠ 3) → rcH h v c (m - 1) b j = h b j := fun b j h1 h2 => by rw [rcH, rcI_o (by omega), j_up_o (by omega)]
  refine XV_parts.mpr ⟨xA_congr hn xa (fun k h1 => dropP_ne (by omega) (by omega)) (o _ _ (by omega) (by omega)) (fun j hj k => o _ _ (by omega) (by omega)), ⟨?_, fun c' hc' j hj => ?_⟩, xC_congr xc (fun k h1 h2 => dropP_ne (by omega) (by omega)) (fun k => o _ _ (by omega) (by omega)), ?_, xE_congr xe h9 (fun k h1 h2 => dropP_ne (by omega) (by omega)) (o _ _ (by omega) (by omega)) (fun k => o _ _ (by omega) (by omega)), xG_congr xg (fun k h1 h2 => dropP_ne (by omega) (by omega)) (fun q hq k => o _ _ (by omega) (by omega))⟩
  · rw [e37, rcH, rcI_o (by omega)]; exact j_up_s
  · rw [e37, ix_nI (by omega)] at hc'
    rw [rcH, rcI]
    by_cases z : c ≤ c'
    · rw [if_pos (by omega), j_up_o (by omega), dropP_at (by omega) (by omega), xb.2 (c' + 1) (by omega) j hj]
      congr 1
      omega
    · rw [if_neg (by omega), j_up_o (by omega), dropP_ne (by omega) (by omega)]
      exact xb.2 c' (by omega) j hj
  · rw [o _ _ (by omega) (by omega), dropP_ne (by omega) (by omega)]; exact xd
theorem GD_drop {n c m : Nat} {P : Nat → Int32} (hG : GD n P) (hm : P 37 = nI m) (hm6 : m < 6) (hc : c < m) : GD n (dropP c P) := by
  obtain ⟨hn, ga, gb, gc, gd, ge, gf, gg⟩ := GD_parts.mp hG
  have ec : ix (P 37) = m := by rw [hm]; exact ix_nI (by omega)
  have e37 : dropP c P 37 = nI (m - 1) := by rw [dropP_37, hm]; exact pred_nI (by omega) (by omega)
  refine GD_parts.mpr ⟨hn, gA_congr hn ga (fun k h1 => dropP_ne (by omega) (by omega)), ⟨by rw [e37]; exact nb_nI (by omega) (by omega), fun c' hc' => ?_⟩, gC_congr gc (fun k h1 h2 => dropP_ne (by omega) (by omega)), by rw [dropP_ne (by omega) (by omega)]; exact gd, gE_congr ge (fun k h1 h2 => dropP_ne (by omega) (by omega)), by rw [dropP_ne (by omega) (by omega)]; exact gf, gG_congr gg (fun k h1 h2 => dropP_ne (by omega) (by omega))⟩
  rw [e37, ix_nI (by omega)] at hc'
  by_cases z : c ≤ c'
  · have g := gb.2 (c' + 1) (by omega)
    rw [dropP_at (k := 12 + 5 * c') (by omega) (by omega), dropP_at (k := 12 + 5 * c' + 1) (by omega) (by omega), dropP_at (k := 12 + 5 * c' + 2) (by omega) (by omega), dropP_at (k := 12 + 5 * c' + 3) (by omega) (by omega), dropP_at (k := 12 + 5 * c' + 4) (by omega) (by omega)]
    exact g
  · rw [dropP_ne (k := 12 + 5 * c') (by omega) (by omega), dropP_ne (k := 12 + 5 * c' + 1) (by omega) (by omega), dropP_ne (k := 12 + 5 * c' + 2) (by omega) (by omega), dropP_ne (k := 12 + 5 * c' + 3) (by omega) (by omega), dropP_ne (k := 12 + 5 * c' + 4) (by omega) (by omega)]
    exact gb.2 c' (by omega)
/-- odds shift -/
theorem ix_pred {x : Int32} {b : Nat} (hx : nb b x) (hb : b ≤ 1000000) (h1 : ix x ≠ 0) : nb b (x - nI 1) ∧ ix (x - nI 1) = ix x - 1 := by
  have h2 := hx.2
  have e : x - nI 1 = nI (ix x - 1) := by rw [show x - nI 1 = nI (ix x) - nI 1 from congrArg (· - nI 1) hx.1]; exact pred_nI (by omega) (by omega)
  rw [e]
  exact ⟨nb_nI (by omega) (by omega), ix_nI (by omega)⟩
theorem ix_suc {x : Int32} {b : Nat} (hx : nb b x) (hb : b ≤ 1000000) : nb (b + 1) (x + nI 1) ∧ ix (x + nI 1) = ix x + 1 := by
  have h2 := hx.2
  have e : x + nI 1 = nI (ix x + 1) := by rw [show x + nI 1 = nI (ix x) + nI 1 from congrArg (· + nI 1) hx.1]; exact nI_add _ _
  rw [e]
  exact ⟨nb_nI (by omega) (by omega), ix_nI (by omega)⟩
theorem nb_le {x : Int32} {b c : Nat} (hx : nb b x) (h : ix x < c) : nb c x := ⟨hx.1, h⟩
theorem shiftP_ne {w u k : Nat} {P : Nat → Int32} (h1 : k ≠ 38 + w) (h2 : k ≠ 38 + u) : shiftP w u P k = P k := by
  unfold shiftP
  rw [upd_ne h2, upd_ne h1]
theorem shiftP_w {w u : Nat} {P : Nat → Int32} (h : w ≠ u) : shiftP w u P (38 + w) = P (38 + w) - nI 1 := by
  unfold shiftP
  rw [upd_ne (by omega), upd_at]
theorem shiftP_u {w u : Nat} {P : Nat → Int32} : shiftP w u P (38 + u) = P (38 + u) + nI 1 := upd_at
theorem GD_shift {n w u : Nat} {P : Nat → Int32} (hG : GD n P) (hw : w < 4) (hu : u < 4) (hwu : w ≠ u) (hz : P (38 + w) + fo w ≠ 0) : GD n (shiftP w u P) := by
  obtain ⟨hn, ga, gb, gc, gd, ge, gf, gg⟩ := GD_parts.mp hG
  have ew : shiftP w u P (38 + w) + fo w = (P (38 + w) + fo w) - nI 1 := by rw [shiftP_w hwu, Int32.sub_eq_add_neg, Int32.sub_eq_add_neg, Int32.add_assoc, Int32.add_assoc, Int32.add_comm (-nI 1)]
  have eu : shiftP w u P (38 + u) + fo u = (P (38 + u) + fo u) + nI 1 := by rw [shiftP_u, Int32.add_assoc, Int32.add_assoc, Int32.add_comm (nI 1)]
  have hzw : ix (P (38 + w) + fo w) ≠ 0 := fun z => hz (by rw [(gc.1 w hw).1, z]; rfl)
  obtain ⟨w1, w2⟩ := ix_pred (gc.1 w hw) (by omega) hzw
  obtain ⟨u1, u2⟩ := ix_suc (gc.1 u hu) (by omega)
  have sm : ∀ k, k < 4 → ix (shiftP w u P (38 + k) + fo k) = if k = w then ix (P (38 + w) + fo w) - 1 else if k = u then ix (P (38 + u) + fo u) + 1 else ix (P (38 + k) + fo k) := fun k hk => by
    by_cases z1 : k = w
    · subst z1; rw [if_pos rfl, ew, w2]
    · rw [if_neg z1]
      by_cases z2 : k = u
      · subst z2; rw [if_pos rfl, eu, u2]
      · rw [if_neg z2, shiftP_ne (by omega) (by omega)]
  have s4 := gc.2
  have tot : ix (shiftP w u P 38 + fo 0) + ix (shiftP w u P 39 + fo 1) + ix (shiftP w u P 40 + fo 2) + ix (shiftP w u P 41 + fo 3) = 10 := by
    rw [sm 0 (by omega), sm 1 (by omega), sm 2 (by omega), sm 3 (by omega)]
    match w, u, hw, hu, hwu with
    | 0, 1, _, _, _ => simp at hzw ⊢; omega
    | 0, 2, _, _, _ => simp at hzw ⊢; omega
    | 0, 3, _, _, _ => simp at hzw ⊢; omega
    | 1, 0, _, _, _ => simp at hzw ⊢; omega
    | 1, 2, _, _, _ => simp at hzw ⊢; omega
    | 1, 3, _, _, _ => simp at hzw ⊢; omega
    | 2, 0, _, _, _ => simp at hzw ⊢; omega
    | 2, 1, _, _, _ => simp at hzw ⊢; omega
    | 2, 3, _, _, _ => simp at hzw ⊢; omega
    | 3, 0, _, _, _ => simp at hzw ⊢; omega
    | 3, 1, _, _, _ => simp at hzw ⊢; omega
    | 3, 2, _, _, _ => simp at hzw ⊢; omega
    | 0, 0, _, _, h => exact absurd rfl h
    | 1, 1, _, _, h => exact absurd rfl h
    | 2, 2, _, _, h => exact absurd rfl h
    | 3, 3, _, _, h => exact absurd rfl h
    | w + 4, _, h, _, _ => omega
    | _, u + 4, _, h, _ => omega
  refine GD_parts.mpr ⟨hn, gA_congr hn ga (fun k h1 => shiftP_ne (by omega) (by omega)), gB_congr gb (fun k h1 h2 => shiftP_ne (by omega) (by omega)), ⟨fun k hk => ?_, tot⟩, by rw [shiftP_ne (by omega) (by omega)]; exact gd, gE_congr ge (fun k h1 h2 => shiftP_ne (by omega) (by omega)), by rw [shiftP_ne (by omega) (by omega)]; exact gf, gG_congr gg (fun k h1 h2 => shiftP_ne (by omega) (by omega))⟩
  have bound : ix (shiftP w u P (38 + k) + fo k) < 11 := by
    match k, hk with
    | 0, _ => show ix (shiftP w u P 38 + fo 0) < 11; omega
    | 1, _ => show ix (shiftP w u P 39 + fo 1) < 11; omega
    | 2, _ => show ix (shiftP w u P 40 + fo 2) < 11; omega
    | 3, _ => show ix (shiftP w u P 41 + fo 3) < 11; omega
    | k + 4, h => omega
  by_cases z1 : k = w
  · subst z1
    refine ⟨?_, bound⟩
    rw [ew]; exact w1.1
  · by_cases z2 : k = u
    · subst z2
      refine ⟨?_, bound⟩
      rw [eu]; exact u1.1
    · rw [shiftP_ne (by omega) (by omega)]; exact gc.1 k hk
def shH (h : jH) (v w u : Nat) : jH := j_up (j_up h (v + 11) w (h (v + 11) w - nI 1)) (v + 11) u (h (v + 11) u + nI 1)
theorem XV_shift {v n w u : Nat} {P : Nat → Int32} {h : jH} (hX : XV n P h v) (hG : GD n P) (hw : w < 4) (hu : u < 4) (hwu : w ≠ u) : XV n (shiftP w u P) (shH h v w u) v := by
  have hn := hG.1.1
  have h6 := hG.1.2.2.1.2
  have h9 := hG.2.1.2
  obtain ⟨xa, xb, xc, xd, xe, xg⟩ := XV_parts.mp hX
  have o : ∀ b j, (b ≠ v + 11 ∨ (j ≠ w ∧ j ≠ u)) → shH h v w u b j = h b j := fun b j hb => by rw [shH, j_up_o (by omega), j_up_o (by omega)]
  refine XV_parts.mpr ⟨xA_congr hn xa (fun k h1 => shiftP_ne (by omega) (by omega)) (o _ _ (by omega)) (fun j hj k => o _ _ (by omega)), xB_congr xb h6 (fun k h1 h2 => shiftP_ne (by omega) (by omega)) (o _ _ (by omega)) (fun j hj k => o _ _ (by omega)), fun k hk => ?_, ?_, xE_congr xe h9 (fun k h1 h2 => shiftP_ne (by omega) (by omega)) (o _ _ (by omega)) (fun k => o _ _ (by omega)), xG_congr xg (fun k h1 h2 => shiftP_ne (by omega) (by omega)) (fun q hq k => o _ _ (by omega))⟩
  · by_cases z1 : k = w
    · subst z1
      rw [shH, j_up_o (by omega), j_up_s, shiftP_w hwu, xc k hk, Int32.sub_eq_add_neg, Int32.sub_eq_add_neg, Int32.add_assoc, Int32.add_assoc, Int32.add_comm (-nI 1)]
    · by_cases z2 : k = u
      · subst z2
        rw [shH, j_up_s, shiftP_u, xc k hk, Int32.add_assoc, Int32.add_assoc, Int32.add_comm (nI 1)]
      · rw [o _ _ (by omega), shiftP_ne (by omega) (by omega)]; exact xc k hk
  · rw [o _ _ (by omega), shiftP_ne (by omega) (by omega)]; exact xd
theorem XV_floor {v n : Nat} {P : Nat → Int32} {h : jH} {x : Int32} (hX : XV n P h v) (hG : GD n P) : XV n (upd P 42 (x - nI 5)) (j_up h v 6 x) v := by
  have hn := hG.1.1
  have h6 := hG.1.2.2.1.2
  have h9 := hG.2.1.2
  obtain ⟨xa, xb, xc, xd, xe, xg⟩ := XV_parts.mp hX
  refine XV_parts.mpr ⟨xA_congr hn xa (fun k h1 => upd_ne (by omega)) (j_up_o (by omega)) (fun j hj k => j_up_o (by omega)), xB_congr xb h6 (fun k h1 h2 => upd_ne (by omega)) (j_up_o (by omega)) (fun j hj k => j_up_o (by omega)), xC_congr xc (fun k h1 h2 => upd_ne (by omega)) (fun k => j_up_o (by omega)), ?_, xE_congr xe h9 (fun k h1 h2 => upd_ne (by omega)) (j_up_o (by omega)) (fun k => j_up_o (by omega)), xG_congr xg (fun k h1 h2 => upd_ne (by omega)) (fun q hq k => j_up_o (by omega))⟩
  rw [j_up_s, upd_at, Int32.sub_add_cancel]
theorem GD_floor {n : Nat} {P : Nat → Int32} {x : Int32} (hG : GD n P) (hx : nb 100 x) : GD n (upd P 42 (x - nI 5)) := by
  obtain ⟨hn, ga, gb, gc, gd, ge, gf, gg⟩ := GD_parts.mp hG
  exact GD_parts.mpr ⟨hn, gA_congr hn ga (fun k h1 => upd_ne (by omega)), gB_congr gb (fun k h1 h2 => upd_ne (by omega)), gC_congr gc (fun k h1 h2 => upd_ne (by omega)), by rw [upd_at, Int32.sub_add_cancel]; exact hx, gE_congr ge (fun k h1 h2 => upd_ne (by omega)), by rw [upd_ne (by omega)]; exact gf, gG_congr gg (fun k h1 h2 => upd_ne (by omega))⟩
theorem XV_cut {v n : Nat} {P : Nat → Int32} {h : jH} {x : Int32} (hX : XV n P h v) (hG : GD n P) (hx : ix x ≤ ix (P 51)) : XV n (upd P 51 x) (j_up h v 7 x) v := by
  have hn := hG.1.1
  have h6 := hG.1.2.2.1.2
  have h9 := hG.2.1.2
  obtain ⟨xa, xb, xc, xd, xe, xg⟩ := XV_parts.mp hX
  refine XV_parts.mpr ⟨xA_congr hn xa (fun k h1 => upd_ne (by omega)) (j_up_o (by omega)) (fun j hj k => j_up_o (by omega)), xB_congr xb h6 (fun k h1 h2 => upd_ne (by omega)) (j_up_o (by omega)) (fun j hj k => j_up_o (by omega)), xC_congr xc (fun k h1 h2 => upd_ne (by omega)) (fun k => j_up_o (by omega)), by rw [j_up_o (by omega), upd_ne (by omega)]; exact xd, ⟨by rw [j_up_s, upd_at], fun i hi => ?_⟩, xG_congr xg (fun k h1 h2 => upd_ne (by omega)) (fun q hq k => j_up_o (by omega))⟩
  rw [upd_at] at hi
  rw [j_up_o (by omega), upd_ne (by omega)]
  exact xe.2 i (by omega)
theorem GD_cut {n : Nat} {P : Nat → Int32} {x : Int32} (hG : GD n P) (hx : nb 9 x) (h1 : ix x ≤ ix (P 51)) : GD n (upd P 51 x) := by
  obtain ⟨hn, ga, gb, gc, gd, ge, gf, gg⟩ := GD_parts.mp hG
  have h9 := ge.1.2
  refine GD_parts.mpr ⟨hn, gA_congr hn ga (fun k h1 => upd_ne (by omega)), gB_congr gb (fun k h1 h2 => upd_ne (by omega)), gC_congr gc (fun k h1 h2 => upd_ne (by omega)), by rw [upd_ne (by omega)]; exact gd, ⟨by rw [upd_at]; exact hx, fun i hi => ?_⟩, by rw [upd_ne (by omega)]; exact gf, gG_congr gg (fun k h1 h2 => upd_ne (by omega))⟩
  rw [upd_at] at hi
  rw [upd_ne (by omega)]
  exact ge.2 i (by omega)
theorem XV_plan {v n m : Nat} {P : Nat → Int32} {h : jH} {x : Int32} (hX : XV n P h v) (hn : n ≤ 4) (h6 : ix (P 37) < 6) (hm : P 51 = nI m) (hm8 : m < 8) : XV n (planP x P) (j_up (j_up h (v + 12) m x) v 7 (nI m + nI 1)) v := by
  obtain ⟨xa, xb, xc, xd, xe, xg⟩ := XV_parts.mp hX
  have em : ix (P 51) = m := by rw [hm]; exact ix_nI (by omega)
  have pe : planP x P = upd (upd P (43 + m) x) 51 (nI m + nI 1) := by unfold planP; rw [em, hm]
  rw [pe]
  have pn : ∀ k, k ≠ 51 → k ≠ 43 + m → upd (upd P (43 + m) x) 51 (nI m + nI 1) k = P k := fun k h1 h2 => by rw [upd_ne h1, upd_ne h2]
  have o : ∀ b j, (b ≠ v ∨ j ≠ 7) → (b ≠ v + 12 ∨ j ≠ m) → j_up (j_up h (v + 12) m x) v 7 (nI m + nI 1) b j = h b j := fun b j h1 h2 => by rw [j_up_o (by omega), j_up_o (by omega)]
  refine XV_parts.mpr ⟨xA_congr hn xa (fun k h1 => pn _ (by omega) (by omega)) (o _ _ (by omega) (by omega)) (fun j hj k => o _ _ (by omega) (by omega)), xB_congr xb h6 (fun k h1 h2 => pn _ (by omega) (by omega)) (o _ _ (by omega) (by omega)) (fun j hj k => o _ _ (by omega) (by omega)), xC_congr xc (fun k h1 h2 => pn _ (by omega) (by omega)) (fun k => o _ _ (by omega) (by omega)), by rw [o _ _ (by omega) (by omega), pn _ (by omega) (by omega)]; exact xd, ⟨by rw [j_up_s, upd_at], fun i hi => ?_⟩, xG_congr xg (fun k h1 h2 => pn _ (by omega) (by omega)) (fun q hq k => o _ _ (by omega) (by omega))⟩
  rw [upd_at, ix_succ (by omega)] at hi
  by_cases z : i = m
  · subst z
    rw [j_up_o (by omega), j_up_s, upd_ne (by omega), upd_at]
  · rw [o _ _ (by omega) (by omega), pn _ (by omega) (by omega)]
    exact xe.2 i (by omega)
theorem GD_plan {n m : Nat} {P : Nat → Int32} {x : Int32} (hG : GD n P) (hm : P 51 = nI m) (hm8 : m < 8) (hx : nb 4 x) : GD n (planP x P) := by
  obtain ⟨hn, ga, gb, gc, gd, ge, gf, gg⟩ := GD_parts.mp hG
  have em : ix (P 51) = m := by rw [hm]; exact ix_nI (by omega)
  have pe : planP x P = upd (upd P (43 + m) x) 51 (nI m + nI 1) := by unfold planP; rw [em, hm]
  rw [pe]
  have pn : ∀ k, k ≠ 51 → k ≠ 43 + m → upd (upd P (43 + m) x) 51 (nI m + nI 1) k = P k := fun k h1 h2 => by rw [upd_ne h1, upd_ne h2]
  refine GD_parts.mpr ⟨hn, gA_congr hn ga (fun k h1 => pn _ (by omega) (by omega)), gB_congr gb (fun k h1 h2 => pn _ (by omega) (by omega)), gC_congr gc (fun k h1 h2 => pn _ (by omega) (by omega)), by rw [pn _ (by omega) (by omega)]; exact gd, ⟨by rw [upd_at]; exact nb_succ (by omega) (by omega), fun i hi => ?_⟩, by rw [pn _ (by omega) (by omega)]; exact gf, gG_congr gg (fun k h1 h2 => pn _ (by omega) (by omega))⟩
  rw [upd_at, ix_succ (by omega)] at hi
  by_cases z : i = m
  · subst z
    rw [upd_ne (by omega), upd_at]; exact hx
  · rw [pn _ (by omega) (by omega)]
    exact ge.2 i (by omega)
/-- debts forgiven -/
theorem XV_free {v n : Nat} {P : Nat → Int32} {h h' : jH} (hX : XV n P h v) (hG : GD n P) (ho : ∀ b, (b < v + 14 ∨ v + 18 ≤ b) → h' b = h b) (hz : ∀ p q, p < 4 → q < 4 → h' (v + 14 + p) q = 0) : XV n (freeP P) h' v := by
  have hn := hG.1.1
  have h6 := hG.1.2.2.1.2
  have h9 := hG.2.1.2
  obtain ⟨xa, xb, xc, xd, xe, xg⟩ := XV_parts.mp hX
  have fe : ∀ k, k < 53 → freeP P k = P k := fun k hk => if_neg (by omega)
  refine XV_parts.mpr ⟨xA_congr hn xa (fun k h1 => fe k (by omega)) (by rw [ho v (by omega)]) (fun j hj k => by rw [ho _ (by omega)]), xB_congr xb h6 (fun k h1 h2 => fe k (by omega)) (by rw [ho v (by omega)]) (fun j hj k => by rw [ho _ (by omega)]), xC_congr xc (fun k h1 h2 => fe k (by omega)) (fun k => by rw [ho _ (by omega)]), by rw [ho v (by omega), fe 42 (by omega)]; exact xd, xE_congr xe h9 (fun k h1 h2 => fe k (by omega)) (by rw [ho v (by omega)]) (fun k => by rw [ho _ (by omega)]), fun p q hp hq => ?_⟩
  rw [hz p q hp hq, freeP, if_pos (by omega)]
theorem GD_free {n : Nat} {P : Nat → Int32} (hG : GD n P) : GD n (freeP P) := by
  obtain ⟨hn, ga, gb, gc, gd, ge, gf, gg⟩ := GD_parts.mp hG
  have fe : ∀ k, k < 53 → freeP P k = P k := fun k hk => if_neg (by omega)
  exact GD_parts.mpr ⟨hn, gA_congr hn ga (fun k h1 => fe k (by omega)), gB_congr gb (fun k h1 h2 => fe k (by omega)), gC_congr gc (fun k h1 h2 => fe k (by omega)), by rw [fe 42 (by omega)]; exact gd, gE_congr ge (fun k h1 h2 => fe k (by omega)), by rw [fe 52 (by omega)]; exact gf, fun p q hp hq hz => if_pos (by omega)⟩
/-- a week keeps a page good -/
def pOK (n : Nat) (P : Nat → Int32) : Prop := ∀ p, p < n → nb 1000 (P (8 + p))
theorem clamp_nb (v : Int32) : nb 1000 (clampP v) := by
  unfold clampP
  by_cases h1 : 0 ≤ v
  · rw [if_pos h1]
    by_cases h2 : v ≤ nI 999
    · rw [if_pos h2]
      rw [i_le] at h1 h2
      exact nb_of h1 (by have e9 : (nI 999).toInt = 999 := rfl; omega)
    · rw [if_neg h2]; exact nb_nI (by omega) (by omega)
  · rw [if_neg h1]; exact nb_nI (by omega) (by omega)
theorem payF_nb {x v : Int32} {m : Nat} (hx : nb 1000 x) (hv : nb m v) (hm : m ≤ 100) : nb m (payF x v) ∧ ix (payF x v) ≤ ix x := by
  have e1 := hx.toInt (by omega)
  have e2 := hv.toInt (by omega)
  have h2 := hv.2
  unfold payF
  by_cases h : v ≤ x
  · rw [if_pos h]
    rw [i_le] at h
    exact ⟨hv, by omega⟩
  · rw [if_neg h]
    rw [i_le] at h
    exact ⟨⟨hx.1, by omega⟩, Nat.le_refl _⟩
theorem sub_nb {x y : Int32} {b : Nat} (hx : nb b x) (hy : nb 1000 y) (hb : b ≤ 1000) (h : ix y ≤ ix x) : nb b (x - y) := by
  have h1 := hx.2
  have h2 := hy.2
  have e : x - y = nI (ix x - ix y) := by
    rw [i_eq, show x - y = nI (ix x) - nI (ix y) from by rw [← hx.1, ← hy.1], pk_sub_toInt (by omega) (by omega), nI_n (by omega)]
    omega
  rw [e]
  exact nb_nI (by omega) (by omega)
theorem cap_nb {x y : Int32} (hx : nb 1000 x) (hy : nb 1000 y) : nb 1000 (capF (x + y)) := by
  have h1 := hx.2
  have h2 := hy.2
  have e : x + y = nI (ix x + ix y) := by rw [show x + y = nI (ix x) + nI (ix y) from by rw [← hx.1, ← hy.1]]; exact nI_add _ _
  rw [e]
  unfold capF
  by_cases h : nI (ix x + ix y) ≤ nI 999
  · rw [if_pos h]
    exact nb_nI (by have := (nI_leI (by omega) (by omega)).mp h; omega) (by omega)
  · rw [if_neg h]; exact nb_nI (by omega) (by omega)
theorem payP_ok {n p q m : Nat} {v : Int32} {P : Nat → Int32} (h : pOK n P) (hn : n ≤ 4) (hp : p < n) (hq : q < n) (hv : nb m v) (hm : m ≤ 100) : pOK n (payP p q v P) := fun k hk => by
  obtain ⟨f1, f2⟩ := payF_nb (h p hp) hv hm
  unfold payP pay2
  rw [upd_ne (j := 8 + k) (by omega)]
  by_cases e1 : k = q
  · subst e1
    rw [upd_at]
    exact cap_nb (h k hk) (f1.mono (by omega))
  · rw [upd_ne (j := 8 + k) (by omega)]
    by_cases e2 : k = p
    · subst e2
      rw [upd_at]
      exact sub_nb (h k hk) (f1.mono (by omega)) (by omega) f2
    · rw [upd_ne (by omega)]; exact h k hk
theorem payP_gG {n p q : Nat} {v : Int32} {P : Nat → Int32} (h : gG n P) (hn : n ≤ 4) (hp : p < n) (hq : q < n) : gG n (payP p q v P) := fun a b ha hb hz => by
  unfold payP pay2
  rw [upd_ne (by omega), upd_ne (by omega), upd_ne (by omega)]
  exact h a b ha hb hz
theorem w1_ok {n : Nat} {γ P : Nat → Int32} (h : pOK n P) (hn : n ≤ 4) : ∀ {k : Nat}, k ≤ n → pOK n (w1 γ P k)
  | 0, _ => h
  | k + 1, hk => fun p hp => by
    rw [w1]
    by_cases e : p = k
    · subst e; rw [upd_at]; exact clamp_nb _
    · rw [upd_ne (by omega)]; exact w1_ok h hn (by omega) p hp
theorem w1_gG {n : Nat} {γ P : Nat → Int32} (h : gG n P) (hn : n ≤ 4) : gG n (w1 γ P n) := gG_congr h (fun k h1 h2 => w1_keep hn (by omega))
theorem cvF_ok {n w : Nat} {P : Nat → Int32} (hn : n ≤ 4) (hB : gB n P) (hp : pOK n P) (hg : gG n P) : ∀ {c : Nat}, c ≤ ix (P 37) → pOK n (cvF w P c).1 ∧ gG n (cvF w P c).1
  | 0, _ => ⟨hp, hg⟩
  | c + 1, hc => by
    have h6 := hB.1.2
    have cv : cvOK P := ⟨hB.1, fun c hc => ⟨(hB.2 c hc).1.1.mono hn, (hB.2 c hc).1.2.mono hn⟩⟩
    obtain ⟨i1, i2⟩ := cvF_ok (w := w) hn hB hp hg (c := c) (by omega)
    obtain ⟨⟨b1, b2⟩, b3, b4, b5, b6⟩ := hB.2 c (by omega)
    have k0 := cvF_keep (w := w) cv (k := 12 + 5 * c) (by omega) (c := c) (by omega)
    have k1 := cvF_keep (w := w) cv (k := 12 + 5 * c + 1) (by omega) (c := c) (by omega)
    have k3 := cvF_keep (w := w) cv (k := 12 + 5 * c + 3) (by omega) (c := c) (by omega)
    have a0 := cvA_keep (w := w) cv (k := 12 + 5 * c) (by omega) (c := c) (by omega)
    have a1 := cvA_keep (w := w) cv (k := 12 + 5 * c + 1) (by omega) (c := c) (by omega)
    have a4 := cvA_keep (w := w) cv (k := 12 + 5 * c + 4) (by omega) (c := c) (by omega)
    have hA : pOK n (cvA w c (cvF w P c)).1 ∧ gG n (cvA w c (cvF w P c)).1 := by
      unfold cvA
      split
      · rw [k0, k1, k3]
        exact ⟨payP_ok i1 hn b1.2 b2.2 b5 (by omega), payP_gG i2 hn b1.2 b2.2⟩
      · exact ⟨i1, i2⟩
    rw [cvF]
    unfold cvB
    rw [a0, a1, a4]
    exact ⟨payP_ok hA.1 hn b2.2 b1.2 b6 (by omega), payP_gG hA.2 hn b2.2 b1.2⟩
theorem GD_live {n w : Nat} {P : Nat → Int32} (hG : GD n P) : GD n (liveP n w P).1 := by
  have hk : ∀ k, k < 8 ∨ (12 ≤ k ∧ k < 53) → (liveP n w P).1 k = P k := fun k hk => liveP_keep hG.1 hk
  obtain ⟨hn, ga, gb, gc, gd, ge, gf, gg⟩ := GD_parts.mp hG
  have e37 : w1 (γP P w) P n 37 = P 37 := w1_keep hn (by omega)
  have := cvF_ok (w := w) hn (gB_congr gb (fun k h1 h2 => w1_keep (γ := γP P w) hn (by omega))) (w1_ok (γ := γP P w) (fun p hp => (ga p hp).2.1) hn (Nat.le_refl n)) (w1_gG (γ := γP P w) gg hn) (Nat.le_of_eq (congrArg ix e37.symm))
  refine GD_parts.mpr ⟨hn, fun p hp => ⟨by rw [hk _ (by omega)]; exact (ga p hp).1, this.1 p hp, by rw [hk _ (by omega)]; exact (ga p hp).2.2⟩, gB_congr gb (fun k h1 h2 => hk k (by omega)), gC_congr gc (fun k h1 h2 => hk k (by omega)), by rw [hk _ (by omega)]; exact gd, gE_congr ge (fun k h1 h2 => hk k (by omega)), by rw [hk _ (by omega)]; exact gf, this.2⟩
theorem GD_52 {n : Nat} {P : Nat → Int32} {x : Int32} (hG : GD n P) (hx : nb 1000 x) : GD n (upd P 52 x) := by
  obtain ⟨hn, ga, gb, gc, gd, ge, gf, gg⟩ := GD_parts.mp hG
  exact GD_parts.mpr ⟨hn, gA_congr hn ga (fun k h1 => upd_ne (by omega)), gB_congr gb (fun k h1 h2 => upd_ne (by omega)), gC_congr gc (fun k h1 h2 => upd_ne (by omega)), by rw [upd_ne (by omega)]; exact gd, gE_congr ge (fun k h1 h2 => upd_ne (by omega)), by rw [upd_at]; exact hx, gG_congr gg (fun k h1 h2 => upd_ne (by omega))⟩
theorem weekP_live {n w : Nat} {P : Nat → Int32} : weekP n (γP P w) w P = (upd (liveP n w P).1 52 ((liveP n w P).1 52 + nI 1), (liveP n w P).2) := rfl
theorem XV_52 {v n : Nat} {P : Nat → Int32} {h : jH} {x : Int32} (hX : XV n P h v) (hn : n ≤ 4) (h6 : ix (P 37) < 6) (h9 : ix (P 51) < 9) : XV n (upd P 52 x) h v := by
  obtain ⟨xa, xb, xc, xd, xe, xg⟩ := XV_parts.mp hX
  exact XV_parts.mpr ⟨xA_congr hn xa (fun k h1 => upd_ne (by omega)) rfl (fun j hj k => rfl), xB_congr xb h6 (fun k h1 h2 => upd_ne (by omega)) rfl (fun j hj k => rfl), xC_congr xc (fun k h1 h2 => upd_ne (by omega)) (fun k => rfl), by rw [upd_ne (by omega)]; exact xd, xE_congr xe h9 (fun k h1 h2 => upd_ne (by omega)) rfl (fun k => rfl), xG_congr xg (fun k h1 h2 => upd_ne (by omega)) (fun q hq k => rfl)⟩
theorem XV_9 {v n : Nat} {P : Nat → Int32} {h : jH} {x : Int32} (hX : XV n P h v) : XV n P (j_up h v 9 x) v := by
  obtain ⟨x1, x2, x3, x4, x5, x6, x7, x8, x9⟩ := hX
  refine ⟨by rw [j_up_o (by omega)]; exact x1, fun p hp => ?_, by rw [j_up_o (by omega)]; exact x3, fun c hc j hj => by rw [j_up_o (by omega)]; exact x4 c hc j hj, fun w hw => by rw [j_up_o (by omega)]; exact x5 w hw, by rw [j_up_o (by omega)]; exact x6, by rw [j_up_o (by omega)]; exact x7, fun i hi => by rw [j_up_o (by omega)]; exact x8 i hi, fun p q hp hq => by rw [j_up_o (by omega)]; exact x9 p q hp hq⟩
  rw [j_up_o (by omega), j_up_o (by omega), j_up_o (by omega)]; exact x2 p hp
