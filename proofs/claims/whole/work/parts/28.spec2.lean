/-- what the reference's own part keeps -/
def MR (a : jH) : Prop := nb 5 (a 131 2) ∧ GD (ix (a 131 2)) (pg a 0) ∧ (∀ k, k < 2 → a 142 k = 0 ∨ (a 142 k = 1 ∧ GD (ix (a 131 2)) (pg a (69 * (k + 1))))) ∧ nb 161 (a 131 8) ∧
  (nb 7 (a 131 21) ∧ ∀ i, i < ix (a 131 21) → nb (ix (a 131 2)) (a 139 (3 * i)) ∧ nb 5 (a 139 (3 * i + 1)) ∧ 1 ≤ ix (a 139 (3 * i + 1))) ∧ (∀ k, k < 4 → (a 143 k = -4 ∨ nb 3 (a 143 k)) ∧ nb 41 (a 144 k)) ∧
  (∀ i, i < 16 → a 133 i = j_bri.getD i 0) ∧ (∀ i, i < 13 → a 136 i = j_cut.getD i 0) ∧ ∀ i, i < 56 → a 137 i = j_let.getD i 0
theorem RX.mr {a h : jH} (r : RX a h) : MR a := by
  obtain ⟨⟨v1, v2, v3, v4⟩, rK, ⟨t1, t2, t3, t4⟩, ⟨s1, s2, s3⟩, ⟨q1, q2⟩, ⟨c1, c2, c3, c4⟩⟩ := r
  refine ⟨v1, v4, fun k hk => ?_, t2, ⟨s2, fun i hi => ⟨(s3 i hi).2.2.2.1, (s3 i hi).2.2.2.2.1, (s3 i hi).2.2.2.2.2⟩⟩, fun k hk => ⟨?_, (q1 k hk).2.2.1⟩, c1, c3, c4⟩
  · rcases (rK k hk).2 with z | ⟨z, -, -, z2⟩
    · exact Or.inl z
    · exact Or.inr ⟨z, z2⟩
  · rcases (q1 k hk).1 with ⟨-, z⟩ | ⟨-, z⟩
    · exact Or.inl z
    · exact Or.inr z
theorem pg0 {h : jH} {k : Nat} : pg h 0 k = h 132 k := by rw [pg, Nat.zero_add]
/-- the answer by a number -/
def sel (x : Int32) : List Int32 → Nat → Int32 → Int32
  | [], _, e => e
  | r :: t, k, e => if x = nI k then r else sel x t (k + 1) e
theorem tsw_out {x : Int32} {N : Nat} (hN : N ≤ 1000) (h : ∀ k, k < N → ¬ x = nI k) : x.toInt < 0 ∨ (N : Int) - 1 < x.toInt := by
  by_cases h1 : x.toInt < 0
  · exact Or.inl h1
  · by_cases h2 : (N : Int) - 1 < x.toInt
    · exact Or.inr h2
    · have := nb_of (x := x) (b := N) (by omega) (by omega)
      exact absurd this.1 (h _ this.2)
theorem sel_out {x e : Int32} : ∀ {l : List Int32} {k : Nat}, (∀ j, k ≤ j → j < k + l.length → ¬ x = nI j) → sel x l k e = e
  | [], _, _ => rfl
  | r :: t, k, h => by
    rw [sel, if_neg (h k (Nat.le_refl _) (by simp))]
    exact sel_out (fun j h1 h2 => h j (by omega) (by simp at h2 ⊢; omega))
section CT
noncomputable def iteP (C : Prop) (x y : Int32) : Int32 := @ite Int32 C (Classical.propDecidable C) x y
theorem iteP_t {C : Prop} {x y : Int32} (h : C) : iteP C x y = x := by unfold iteP; exact if_pos h
theorem iteP_f {C : Prop} {x y : Int32} (h : ¬ C) : iteP C x y = y := by unfold iteP; exact if_neg h
noncomputable def iteH (C : Prop) (x y : jH) : jH := @ite jH C (Classical.propDecidable C) x y
theorem iteH_t {C : Prop} {x y : jH} (h : C) : iteH C x y = x := by unfold iteH; exact if_pos h
theorem iteH_f {C : Prop} {x y : jH} (h : ¬ C) : iteH C x y = y := by unfold iteH; exact if_neg h
end CT
def rRule (n : Nat) (P : Nat → Int32) (x : Int32) : Int32 := sel x [nI n, P 37, P 42 + nI 5, P 52, P 51, blw (fun p => P (8 + p)) (P 42 + nI 5) n] 0 (-1)
noncomputable def rOne (n : Nat) (P : Nat → Int32) (p x : Int32) : Int32 := iteP (nb n p) (sel x [P (ix p), P (4 + ix p), P (8 + ix p), cwF (fun c => P (12 + 5 * c)) p (ix (P 37)), cwF (fun c => P (12 + 5 * c + 1)) p (ix (P 37))] 0 (-1)) (-1)
noncomputable def rGain (n : Nat) (P : Nat → Int32) (p w : Int32) : Int32 := iteP (nb n p ∧ nb 4 w) (nI 100 + γP P (ix w) (ix p)) (-1)
noncomputable def rCover (P : Nat → Int32) (c x : Int32) : Int32 := iteP (nb (ix (P 37)) c ∧ nb 5 x) (P (12 + 5 * ix c + ix x)) (-1)
noncomputable def rOdds (P : Nat → Int32) (w : Int32) : Int32 := iteP (nb 4 w) (P (38 + ix w) + fo (ix w)) (-1)
noncomputable def rSky (P : Nat → Int32) (i : Int32) : Int32 := iteP (nb (ix (P 51)) i) (P (43 + ix i)) (-1)
noncomputable def rOwed (n : Nat) (P : Nat → Int32) (p q : Int32) : Int32 := iteP (nb n p ∧ nb n q ∧ p ≠ q) (P (53 + 4 * ix p + ix q)) (-1)
noncomputable def rFair (P : Nat → Int32) (c : Int32) : Int32 := iteP (nb (ix (P 37)) c) ((P (12 + 5 * ix c + 3) * (P (38 + ix (P (12 + 5 * ix c + 2))) + fo (ix (P (12 + 5 * ix c + 2)))) + nI 9) / nI 10) (-1)
