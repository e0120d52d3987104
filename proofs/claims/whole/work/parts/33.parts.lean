/-! the relation in parts, for calls that change something -/
def hi (h h' : jH) : Prop := ∀ b, 131 ≤ b → h' b = h b
def lo (h h' : jH) : Prop := ∀ b, b < 131 → h' b = h b
theorem hi.rf {h : jH} : hi h h := fun _ _ => rfl
theorem lo.rf {h : jH} : lo h h := fun _ _ => rfl
theorem hi.tr {h h' h2 : jH} (a : hi h h') (b : hi h' h2) : hi h h2 := fun c hc => (b c hc).trans (a c hc)
theorem lo.tr {h h' h2 : jH} (a : lo h h') (b : lo h' h2) : lo h h2 := fun c hc => (b c hc).trans (a c hc)
theorem hi_up {h : jH} {a i : Nat} {x : Int32} (ha : a < 131) : hi h (j_up h a i x) := fun b hb => j_up_ne b (by omega)
theorem lo_up {h : jH} {a i : Nat} {x : Int32} (ha : 131 ≤ a) : lo h (j_up h a i x) := fun b hb => j_up_ne b (by omega)
theorem hi_upt {h h' : jH} {a i : Nat} {x : Int32} (t : hi h h') (ha : a < 131) : hi h (j_up h' a i x) := t.tr (hi_up ha)
theorem lo_mset {h : jH} {o : Nat} {P : Nat → Int32} : lo h (mset h o P) := fun b hb => mset_ne (by omega)
theorem hi_vset {h : jH} {v : Nat} {U : Nat → Int32} {D : Nat → Nat → Int32} (hv : isV v) : hi h (vset h v U D) := fun b hb => vset_o (by rcases hv with z | z | z | z | z | z <;> omega) (by rcases hv with z | z | z | z | z | z <;> omega)
theorem j_up_o {h : jH} {a i b k : Nat} {x : Int32} (hb : b ≠ a ∨ k ≠ i) : j_up h a i x b k = h b k := by
  have : ¬ (b = a ∧ k = i) := by omega
  simp only [j_up, if_neg this]
theorem j_up_s {h : jH} {a i : Nat} {x : Int32} : j_up h a i x a i = x := by simp [j_up]
theorem j_up_x {h : jH} {a i b k : Nat} {x y : Int32} (hb : b ≠ a ∨ k ≠ i) (e : h b k = y) : j_up h a i x b k = y := (j_up_o hb).trans e
theorem j_up_t {h : jH} {a i b k : Nat} {x : Int32} (h1 : b = a) (h2 : k = i) : j_up h a i x b k = x := by subst h1; subst h2; exact j_up_s
def gA (n : Nat) (P : Nat → Int32) : Prop := ∀ p, p < n → nb 4 (P p) ∧ nb 1000 (P (8 + p)) ∧ nb 6 (P (4 + p))
def gB (n : Nat) (P : Nat → Int32) : Prop := nb 6 (P 37) ∧ ∀ c, c < ix (P 37) → (nb n (P (12 + 5 * c)) ∧ nb n (P (12 + 5 * c + 1))) ∧ P (12 + 5 * c) ≠ P (12 + 5 * c + 1) ∧ nb 4 (P (12 + 5 * c + 2)) ∧ nb 21 (P (12 + 5 * c + 3)) ∧ nb 10 (P (12 + 5 * c + 4))
def gC (P : Nat → Int32) : Prop := (∀ w, w < 4 → nb 11 (P (38 + w) + fo w)) ∧ ix (P 38 + fo 0) + ix (P 39 + fo 1) + ix (P 40 + fo 2) + ix (P 41 + fo 3) = 10
def gE (P : Nat → Int32) : Prop := nb 9 (P 51) ∧ ∀ i, i < ix (P 51) → nb 4 (P (43 + i))
def gG (n : Nat) (P : Nat → Int32) : Prop := ∀ p q, p < 4 → q < 4 → (n ≤ p ∨ n ≤ q) → P (53 + 4 * p + q) = 0
theorem GD_parts {n : Nat} {P : Nat → Int32} : GD n P ↔ n ≤ 4 ∧ gA n P ∧ gB n P ∧ gC P ∧ nb 100 (P 42 + nI 5) ∧ gE P ∧ nb 1000 (P 52) ∧ gG n P := by
  constructor
  · rintro ⟨⟨g1, g2, g3, g4⟩, g5, g6, g7, g8, g9, ga, gb, gc, gd⟩
    exact ⟨g1, fun p hp => ⟨g2 p hp, ga p hp⟩, ⟨g3, fun c hc => ⟨g4 c hc, g7 c hc⟩⟩, ⟨g8, g9⟩, gb, ⟨g5, g6⟩, gc, gd⟩
  · rintro ⟨g1, ga, ⟨g3, gb⟩, ⟨g8, g9⟩, gf, ⟨g5, g6⟩, gc, gd⟩
    exact ⟨⟨g1, fun p hp => (ga p hp).1, g3, fun c hc => (gb c hc).1⟩, g5, g6, fun c hc => (gb c hc).2, g8, g9, fun p hp => (ga p hp).2, gf, gc, gd⟩
theorem gA_congr {n : Nat} {P P' : Nat → Int32} (hn : n ≤ 4) (g : gA n P) (e : ∀ k, k < 12 → P' k = P k) : gA n P' := fun p hp => by
  rw [e _ (by omega), e _ (by omega), e _ (by omega)]; exact g p hp
theorem gB_congr {n : Nat} {P P' : Nat → Int32} (g : gB n P) (e : ∀ k, 12 ≤ k → k < 38 → P' k = P k) : gB n P' := by
  have h6 := g.1.2
  unfold gB
  rw [e 37 (by omega) (by omega)]
  refine ⟨g.1, fun c hc => ?_⟩
  rw [e _ (by omega) (by omega), e _ (by omega) (by omega), e _ (by omega) (by omega), e _ (by omega) (by omega), e _ (by omega) (by omega)]; exact g.2 c hc
theorem gC_congr {P P' : Nat → Int32} (g : gC P) (e : ∀ k, 38 ≤ k → k < 42 → P' k = P k) : gC P' := by
  unfold gC
  rw [e 38 (by omega) (by omega), e 39 (by omega) (by omega), e 40 (by omega) (by omega), e 41 (by omega) (by omega)]
  exact ⟨fun w hw => by rw [e _ (by omega) (by omega)]; exact g.1 w hw, g.2⟩
theorem gE_congr {P P' : Nat → Int32} (g : gE P) (e : ∀ k, 43 ≤ k → k < 52 → P' k = P k) : gE P' := by
  have h9 := g.1.2
  unfold gE
  rw [e 51 (by omega) (by omega)]
  exact ⟨g.1, fun i hi => by rw [e _ (by omega) (by omega)]; exact g.2 i hi⟩
theorem gG_congr {n : Nat} {P P' : Nat → Int32} (g : gG n P) (e : ∀ k, 53 ≤ k → k < 69 → P' k = P k) : gG n P' := fun p q hp hq hz => by
  rw [e _ (by omega) (by omega)]; exact g p q hp hq hz
def xA (n : Nat) (P : Nat → Int32) (h : jH) (v : Nat) : Prop := h v 0 = nI n ∧ ∀ p, p < n → h (v + 2) p = P p ∧ h (v + 3) p = P (4 + p) ∧ h (v + 4) p = P (8 + p)
def xB (P : Nat → Int32) (h : jH) (v : Nat) : Prop := h v 3 = P 37 ∧ ∀ c, c < ix (P 37) → ∀ j, j < 5 → h (v + 6 + j) c = P (12 + 5 * c + j)
def xC (P : Nat → Int32) (h : jH) (v : Nat) : Prop := ∀ w, w < 4 → h (v + 11) w = P (38 + w) + fo w
def xE (P : Nat → Int32) (h : jH) (v : Nat) : Prop := h v 7 = P 51 ∧ ∀ i, i < ix (P 51) → h (v + 12) i = P (43 + i)
def xG (P : Nat → Int32) (h : jH) (v : Nat) : Prop := ∀ p q, p < 4 → q < 4 → h (v + 14 + p) q = P (53 + 4 * p + q)
theorem XV_parts {n v : Nat} {P : Nat → Int32} {h : jH} : XV n P h v ↔ xA n P h v ∧ xB P h v ∧ xC P h v ∧ h v 6 = P 42 + nI 5 ∧ xE P h v ∧ xG P h v := by
  constructor
  · rintro ⟨x1, x2, x3, x4, x5, x6, x7, x8, x9⟩
    exact ⟨⟨x1, x2⟩, ⟨x3, x4⟩, x5, x6, ⟨x7, x8⟩, x9⟩
  · rintro ⟨⟨x1, x2⟩, ⟨x3, x4⟩, x5, x6, ⟨x7, x8⟩, x9⟩
    exact ⟨x1, x2, x3, x4, x5, x6, x7, x8, x9⟩
theorem xA_congr {n v : Nat} {P P' : Nat → Int32} {h h' : jH} (hn : n ≤ 4) (x : xA n P h v) (e : ∀ k, k < 12 → P' k = P k) (e0 : h' v 0 = h v 0) (e2 : ∀ j, j < 3 → ∀ k, h' (v + 2 + j) k = h (v + 2 + j) k) : xA n P' h' v :=
  ⟨e0.trans x.1, fun p hp => by rw [e p (by omega), e (4 + p) (by omega), e (8 + p) (by omega), e2 0 (by omega), show v + 3 = v + 2 + 1 from rfl, e2 1 (by omega), show v + 4 = v + 2 + 2 from rfl, e2 2 (by omega)]; exact x.2 p hp⟩
theorem xB_congr {v : Nat} {P P' : Nat → Int32} {h h' : jH} (x : xB P h v) (h6 : ix (P 37) < 6) (e : ∀ k, 12 ≤ k → k < 38 → P' k = P k) (e0 : h' v 3 = h v 3) (e2 : ∀ j, j < 5 → ∀ k, h' (v + 6 + j) k = h (v + 6 + j) k) : xB P' h' v := by
  unfold xB
  rw [e 37 (by omega) (by omega)]
  exact ⟨e0.trans x.1, fun c hc j hj => by rw [e _ (by omega) (by omega), e2 j hj]; exact x.2 c hc j hj⟩
theorem xC_congr {v : Nat} {P P' : Nat → Int32} {h h' : jH} (x : xC P h v) (e : ∀ k, 38 ≤ k → k < 42 → P' k = P k) (e2 : ∀ k, h' (v + 11) k = h (v + 11) k) : xC P' h' v := fun w hw => by rw [e _ (by omega) (by omega), e2]; exact x w hw
theorem xE_congr {v : Nat} {P P' : Nat → Int32} {h h' : jH} (x : xE P h v) (h9 : ix (P 51) < 9) (e : ∀ k, 43 ≤ k → k < 52 → P' k = P k) (e0 : h' v 7 = h v 7) (e2 : ∀ k, h' (v + 12) k = h (v + 12) k) : xE P' h' v := by
  unfold xE
  rw [e 51 (by omega) (by omega)]
  exact ⟨e0.trans x.1, fun i hi => by rw [e _ (by omega) (by omega), e2]; exact x.2 i hi⟩
theorem xG_congr {v : Nat} {P P' : Nat → Int32} {h h' : jH} (x : xG P h v) (e : ∀ k, 53 ≤ k → k < 69 → P' k = P k) (e2 : ∀ p, p < 4 → ∀ k, h' (v + 14 + p) k = h (v + 14 + p) k) : xG P' h' v := fun p q hp hq => by rw [e _ (by omega) (by omega), e2 p hp]; exact x p q hp hq
/-- all but the valley and the trials -/
def xs (h h' : jH) : Prop := ∀ b, (b = 0 ∨ (37 ≤ b ∧ b ≤ 40) ∨ (80 ≤ b ∧ b ≤ 85) ∨ (87 ≤ b ∧ b ≤ 130)) → h' b = h b
theorem RX_now {a h h' : jH} {P' : Nat → Int32} (hR : RX a h) (hX : XV (ix (a 131 2)) P' h' 1) (hw : h' 1 9 = P' 52) (hG : GD (ix (a 131 2)) P') (hh : xs h h') : RX (mset a 0 P') h' := by
  obtain ⟨⟨v1, v2, v3, v4⟩, rK, ⟨t1, t2, t3, t4⟩, ⟨s1, s2, s3⟩, ⟨q1, q2⟩, ⟨c1, c2, c3, c4⟩⟩ := hR
  have en : ∀ b, b ≠ 132 → mset a 0 P' b = a b := fun b hb => mset_ne hb
  have hn : ix (a 131 2) ≤ 4 := by have := v1.2; omega
  have pp : ∀ o, 69 ≤ o → ∀ k, k < 69 → pg (mset a 0 P') o k = pg a o k := fun o ho k hk => mset_out (by omega)
  have p0 : ∀ k, k < 69 → pg (mset a 0 P') 0 k = P' k := fun k hk => pg_mset hk
  refine ⟨⟨by rw [en 131 (by omega)]; exact v1, ?_, ?_, ?_⟩, fun k hk => ?_, ⟨?_, by rw [en 131 (by omega)]; exact t2, fun i hi => ?_, ?_⟩, ⟨?_, by rw [en 131 (by omega)]; exact s2, fun i hi => ?_⟩, ⟨fun k hk => ?_, ?_⟩, ⟨fun i hi => by rw [en 133 (by omega)]; exact c1 i hi, fun i hi => by rw [hh 80 (by omega)]; exact c2 i hi, fun i hi => by rw [en 136 (by omega)]; exact c3 i hi, fun i hi => by rw [en 137 (by omega)]; exact c4 i hi⟩⟩
  · rw [en 131 (by omega)]
    exact XV_congr hX p0 hn hG.1.2.2.1.2 hG.2.1.2 (fun _ _ _ => rfl)
  · rw [hw]; exact (pg_mset (h := a) (o := 0) (P := P') (k := 52) (by omega)).symm
  · rw [en 131 (by omega)]; exact GD_congr hG p0
  · obtain ⟨k1, k2⟩ := rK k hk
    rw [hh 38 (by omega), en 142 (by omega), en 131 (by omega)]
    refine ⟨k1, ?_⟩
    rcases k2 with k2 | ⟨k2, k3, k4, k5⟩
    · exact Or.inl k2
    · refine Or.inr ⟨k2, XV_congr k3 (pp _ (by omega)) hn k5.1.2.2.1.2 k5.2.1.2 (fun b h1 h2 => hh b (by omega)), ?_, GD_congr k5 (pp _ (by omega))⟩
      rw [hh _ (by omega), pp _ (by omega) 52 (by omega)]; exact k4
  · rw [hh 39 (by omega), en 131 (by omega)]; exact t1
  · rw [en 131 (by omega)] at hi
    rw [hh 40 (by omega), en 135 (by omega)]; exact t3 i hi
  · rw [hh 39 (by omega), en 131 (by omega)]; exact t4
  · rw [hh 81 (by omega), en 131 (by omega)]; exact s1
  · rw [en 131 (by omega)] at hi
    rw [hh 82 (by omega), hh 83 (by omega), hh 84 (by omega), en 139 (by omega), en 131 (by omega)]; exact s3 i hi
  · rw [hh (123 + 2 * k) (by omega), hh (124 + 2 * k) (by omega), en 143 (by omega), en 144 (by omega), en 145 (by omega)]; exact q1 k hk
  · rw [hh 0 (by omega), en 131 (by omega)]; exact q2
theorem xs_up {h h' : jH} {a i : Nat} {x : Int32} (t : xs h h') (ha : (1 ≤ a ∧ a ≤ 36) ∨ (41 ≤ a ∧ a ≤ 79) ∨ a = 86) : xs h (j_up h' a i x) := fun b hb => (j_up_ne b (by omega)).trans (t b hb)
theorem xs.rf {h : jH} : xs h h := fun _ _ => rfl
theorem xs.tr {h h' h2 : jH} (a : xs h h') (b : xs h' h2) : xs h h2 := fun c hc => (b c hc).trans (a c hc)
section CR
noncomputable def iteR (C : Prop) (x y : Int32 × jH) : Int32 × jH := @ite (Int32 × jH) C (Classical.propDecidable C) x y
theorem iteR_t {C : Prop} {x y : Int32 × jH} (h : C) : iteR C x y = x := by unfold iteR; exact if_pos h
theorem iteR_f {C : Prop} {x y : Int32 × jH} (h : ¬ C) : iteR C x y = y := by unfold iteR; exact if_neg h
end CR
def eqR (p q : Int32 × jH) : Prop := p.1 = q.1 ∧ sameP p.2 q.2
theorem eqR_ite {C D : Prop} {x y x' y' : Int32 × jH} (e : C ↔ D) (h1 : eqR x x') (h2 : eqR y y') : eqR (iteR C x y) (iteR D x' y') := by
  by_cases c : C
  · rw [iteR_t c, iteR_t (e.mp c)]; exact h1
  · rw [iteR_f c, iteR_f (fun z => c (e.mpr z))]; exact h2
