/-! the relation of the two at the boundaries of calls; a: the reference's part -/
def GD (n : Nat) (P : Nat → Int32) : Prop := gdV n P ∧ nb 9 (P 51) ∧ (∀ i, i < ix (P 51) → nb 4 (P (43 + i))) ∧
  (∀ c, c < ix (P 37) → P (12 + 5 * c) ≠ P (12 + 5 * c + 1) ∧ nb 4 (P (12 + 5 * c + 2)) ∧ nb 21 (P (12 + 5 * c + 3)) ∧ nb 10 (P (12 + 5 * c + 4))) ∧
  (∀ w, w < 4 → nb 11 (P (38 + w) + fo w)) ∧ ix (P 38 + fo 0) + ix (P 39 + fo 1) + ix (P 40 + fo 2) + ix (P 41 + fo 3) = 10 ∧
  (∀ p, p < n → nb 1000 (P (8 + p)) ∧ nb 6 (P (4 + p))) ∧ nb 100 (P 42 + nI 5) ∧ nb 1000 (P 52) ∧ (∀ p q, p < 4 → q < 4 → (n ≤ p ∨ n ≤ q) → P (53 + 4 * p + q) = 0)
def rxV (a h : jH) : Prop := nb 5 (a 131 2) ∧ XV (ix (a 131 2)) (pg a 0) h 1 ∧ h 1 9 = a 132 52 ∧ GD (ix (a 131 2)) (pg a 0)
def rxK (a h : jH) : Prop := ∀ k, k < 2 → h 38 k = a 142 k ∧ (a 142 k = 0 ∨ (a 142 k = 1 ∧ XV (ix (a 131 2)) (pg a (69 * (k + 1))) h (87 + 18 * k) ∧ h (87 + 18 * k) 9 = pg a (69 * (k + 1)) 52 ∧ GD (ix (a 131 2)) (pg a (69 * (k + 1)))))
def rxT (a h : jH) : Prop := h 39 1 = a 131 8 ∧ nb 161 (a 131 8) ∧ (∀ i, i < ix (a 131 8) → h 40 i = a 135 i ∧ nI 0 ≤ a 135 i) ∧ h 39 6 = a 131 9
def rxS (a h : jH) : Prop := h 81 0 = a 131 21 ∧ nb 7 (a 131 21) ∧ ∀ i, i < ix (a 131 21) → h 82 i = a 139 (3 * i) ∧ h 83 i = a 139 (3 * i + 1) ∧ h 84 i = a 139 (3 * i + 2) ∧ nb (ix (a 131 2)) (a 139 (3 * i)) ∧ nb 5 (a 139 (3 * i + 1)) ∧ 1 ≤ ix (a 139 (3 * i + 1))
def rxH (a h : jH) : Prop := (∀ k, k < 4 → ((h (123 + 2 * k) 0 = -1 ∧ a 143 k = -4) ∨ (h (123 + 2 * k) 0 = a 143 k ∧ nb 3 (a 143 k))) ∧ h (123 + 2 * k) 1 = a 144 k ∧ nb 41 (a 144 k) ∧ ∀ i, i < 40 → h (124 + 2 * k) i = a 145 (40 * k + i)) ∧ h 0 9 = a 131 28
def j_cut : List Int32 := [0, 6, 13, 19, 24, 29, 33, 38, 41, 44, 48, 51, 56]
def j_let : List Int32 := [102, 97, 114, 109, 101, 114, 98, 111, 97, 116, 109, 97, 110, 109, 105, 108, 108, 101, 114, 101, 101, 108, 101, 114, 99, 111, 118, 101, 114, 111, 100, 100, 115, 102, 108, 111, 111, 114, 115, 107, 121, 115, 117, 110, 103, 114, 101, 121, 119, 101, 116, 102, 114, 111, 115, 116]
def rxC (a h : jH) : Prop := (∀ i, i < 16 → a 133 i = j_bri.getD i 0) ∧ (∀ i, i < 1000 → h 80 i = 0) ∧ (∀ i, i < 13 → a 136 i = j_cut.getD i 0) ∧ ∀ i, i < 56 → a 137 i = j_let.getD i 0
def RX (a h : jH) : Prop := rxV a h ∧ rxK a h ∧ rxT a h ∧ rxS a h ∧ rxH a h ∧ rxC a h
/-- what a question of the class leaves as it was -/
def xq (h h' : jH) : Prop := ∀ b, (b ≤ 18 ∨ (37 ≤ b ∧ b ≤ 40) ∨ (80 ≤ b ∧ b ≤ 85) ∨ (87 ≤ b ∧ b ≤ 130)) → h' b = h b
/-- what a question of the reference leaves as it was -/
def mq (h h' : jH) : Prop := ∀ b k, ¬ (b = 132 ∧ 207 ≤ k) → ¬ (b = 131 ∧ k = 18) → b ≠ 138 → b ≠ 140 → b ≠ 141 → h' b k = h b k
theorem xq.rf {h : jH} : xq h h := fun _ _ => rfl
theorem mq.rf {h : jH} : mq h h := fun _ _ _ _ _ _ _ => rfl
theorem XV_congr {n v : Nat} {P P' : Nat → Int32} {h h' : jH} (hX : XV n P h v) (hP : ∀ k, k < 69 → P' k = P k) (hn : n ≤ 4) (h6 : ix (P 37) < 6) (h9 : ix (P 51) < 9) (hh : ∀ b, v ≤ b → b < v + 18 → h' b = h b) : XV n P' h' v := by
  obtain ⟨x1, x2, x3, x4, x5, x6, x7, x8, x9⟩ := hX
  have e37 := hP 37 (by omega)
  have e51 := hP 51 (by omega)
  refine ⟨by rw [hh v (by omega) (by omega)]; exact x1, fun p hp => ⟨?_, ?_, ?_⟩, by rw [hh v (by omega) (by omega), e37]; exact x3, fun c hc j hj => ?_, fun w hw => ?_, by rw [hh v (by omega) (by omega), hP 42 (by omega)]; exact x6, by rw [hh v (by omega) (by omega), e51]; exact x7, fun i hi => ?_, fun p q hp hq => ?_⟩
  · rw [hh _ (by omega) (by omega), hP p (by omega)]; exact (x2 p hp).1
  · rw [hh _ (by omega) (by omega), hP (4 + p) (by omega)]; exact (x2 p hp).2.1
  · rw [hh _ (by omega) (by omega), hP (8 + p) (by omega)]; exact (x2 p hp).2.2
  · rw [e37] at hc
    rw [hh _ (by omega) (by omega), hP _ (by omega)]; exact x4 c hc j hj
  · rw [hh _ (by omega) (by omega), hP _ (by omega)]; exact x5 w hw
  · rw [e51] at hi
    rw [hh _ (by omega) (by omega), hP _ (by omega)]; exact x8 i hi
  · rw [hh _ (by omega) (by omega), hP _ (by omega)]; exact x9 p q hp hq
theorem GD_congr {n : Nat} {P P' : Nat → Int32} (hG : GD n P) (hP : ∀ k, k < 69 → P' k = P k) : GD n P' := by
  obtain ⟨⟨g1, g2, g3, g4⟩, g5, g6, g7, g8, g9, ga, gb, gc, gd⟩ := hG
  have h6 := g3.2
  have h9 := g5.2
  have e37 := hP 37 (by omega)
  have e51 := hP 51 (by omega)
  refine ⟨⟨g1, fun p hp => by rw [hP p (by omega)]; exact g2 p hp, by rw [e37]; exact g3, fun c hc => ?_⟩, by rw [e51]; exact g5, fun i hi => ?_, fun c hc => ?_, fun w hw => by rw [hP _ (by omega)]; exact g8 w hw, by rw [hP 38 (by omega), hP 39 (by omega), hP 40 (by omega), hP 41 (by omega)]; exact g9, fun p hp => by rw [hP _ (by omega), hP _ (by omega)]; exact ga p hp, by rw [hP 42 (by omega)]; exact gb, by rw [hP 52 (by omega)]; exact gc, fun p q hp hq hz => by rw [hP _ (by omega)]; exact gd p q hp hq hz⟩
  · rw [e37] at hc
    rw [hP _ (by omega), hP _ (by omega)]; exact g4 c hc
  · rw [e51] at hi
    rw [hP _ (by omega)]; exact g6 i hi
  · rw [e37] at hc
    rw [hP _ (by omega), hP _ (by omega), hP _ (by omega), hP _ (by omega), hP _ (by omega)]; exact g7 c hc
/-- the reference's part as far as calls behind see it -/
def sameP (a a' : jH) : Prop := (∀ k, k < 207 → a' 132 k = a 132 k) ∧ (∀ k, k = 2 ∨ k = 8 ∨ k = 9 ∨ k = 21 ∨ k = 28 → a' 131 k = a 131 k) ∧ ∀ b, b = 133 ∨ b = 135 ∨ b = 136 ∨ b = 137 ∨ b = 139 ∨ b = 142 ∨ b = 143 ∨ b = 144 ∨ b = 145 → a' b = a b
theorem sameP.rf {a : jH} : sameP a a := ⟨fun _ _ => rfl, fun _ _ => rfl, fun _ _ => rfl⟩
theorem mq.sameP {h h' : jH} (q : mq h h') : sameP h h' := by
  refine ⟨fun k hk => q 132 k (by omega) (by omega) (by omega) (by omega) (by omega), fun k hk => q 131 k (by omega) (by omega) (by omega) (by omega) (by omega), fun b hb => ?_⟩
  funext k
  exact q b k (by omega) (by omega) (by omega) (by omega) (by omega)
/-- all that the relation looks at -/
theorem RX_congr {a a' h h' : jH} (hR : RX a h) (ha : sameP a a') (hh : xq h h') : RX a' h' := by
  obtain ⟨⟨v1, v2, v3, v4⟩, rK, ⟨t1, t2, t3, t4⟩, ⟨s1, s2, s3⟩, ⟨q1, q2⟩, ⟨c1, c2, c3, c4⟩⟩ := hR
  obtain ⟨p1, p2, p3⟩ := ha
  have e2 := p2 2 (by omega)
  have e8 := p2 8 (by omega)
  have e9 := p2 9 (by omega)
  have e21 := p2 21 (by omega)
  have e28 := p2 28 (by omega)
  have pp : ∀ o, o + 69 ≤ 207 → ∀ k, k < 69 → pg a' o k = pg a o k := fun o ho k hk => p1 (o + k) (by omega)
  have hn : ix (a 131 2) ≤ 4 := by have := v1.2; omega
  refine ⟨⟨by rw [e2]; exact v1, ?_, ?_, ?_⟩, fun k hk => ?_, ⟨?_, by rw [e8]; exact t2, fun i hi => ?_, ?_⟩, ⟨?_, by rw [e21]; exact s2, fun i hi => ?_⟩, ⟨fun k hk => ?_, ?_⟩, ⟨fun i hi => by rw [p3 133 (by omega)]; exact c1 i hi, fun i hi => by rw [hh 80 (by omega)]; exact c2 i hi, fun i hi => by rw [p3 136 (by omega)]; exact c3 i hi, fun i hi => by rw [p3 137 (by omega)]; exact c4 i hi⟩⟩
  · rw [e2]
    exact XV_congr v2 (pp 0 (by omega)) hn v4.1.2.2.1.2 v4.2.1.2 (fun b h1 h2 => hh b (by omega))
  · rw [hh 1 (by omega), p1 52 (by omega)]; exact v3
  · rw [e2]; exact GD_congr v4 (pp 0 (by omega))
  · obtain ⟨k1, k2⟩ := rK k hk
    rw [hh 38 (by omega), p3 142 (by omega), e2]
    refine ⟨k1, ?_⟩
    rcases k2 with k2 | ⟨k2, k3, k4, k5⟩
    · exact Or.inl k2
    · refine Or.inr ⟨k2, XV_congr k3 (pp _ (by omega)) hn k5.1.2.2.1.2 k5.2.1.2 (fun b h1 h2 => hh b (by omega)), ?_, GD_congr k5 (pp _ (by omega))⟩
      rw [hh _ (by omega), pp _ (by omega) 52 (by omega)]; exact k4
  · rw [hh 39 (by omega), e8]; exact t1
  · rw [e8] at hi
    rw [hh 40 (by omega), p3 135 (by omega)]; exact t3 i hi
  · rw [hh 39 (by omega), e9]; exact t4
  · rw [hh 81 (by omega), e21]; exact s1
  · rw [e21] at hi
    rw [hh 82 (by omega), hh 83 (by omega), hh 84 (by omega), p3 139 (by omega), e2]; exact s3 i hi
  · rw [hh (123 + 2 * k) (by omega), hh (124 + 2 * k) (by omega), p3 143 (by omega), p3 144 (by omega), p3 145 (by omega)]; exact q1 k hk
  · rw [hh 0 (by omega), e28]; exact q2
