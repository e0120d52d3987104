/-! numbers -/
def ix (x : Int32) : Nat := x.toNatClampNeg
def nb (b : Nat) (x : Int32) : Prop := x = nI (ix x) ∧ ix x < b
theorem ix_nI {k : Nat} (h : k < 2147483648) : ix (nI k) = k := nI_clamp h
theorem nb_nI {k b : Nat} (h : k < b) (hb : b < 2147483648) : nb b (nI k) := by
  have e := ix_nI (k := k) (by omega)
  exact ⟨by rw [e], by rw [e]; exact h⟩
theorem nb_of {x : Int32} {b : Nat} (h0 : 0 ≤ x.toInt) (h1 : x.toInt < b) : nb b x := by
  have e : ix x = x.toInt.toNat := rfl
  have hr := Int32.toInt_lt x
  have h2 : (ix x : Int) = x.toInt := by rw [e]; omega
  refine ⟨?_, by omega⟩
  apply Int32.toInt_inj.mp
  rw [nI_toInt (by omega)]
  exact h2.symm
theorem nb.toInt {x : Int32} {b : Nat} (h : nb b x) (hb : b ≤ 2147483648) : x.toInt = (ix x : Int) := by
  have h1 := h.1
  have h2 := h.2
  calc x.toInt = (nI (ix x)).toInt := by rw [← h1]
    _ = _ := nI_toInt (by omega)
theorem nb.ix {x : Int32} {b k : Nat} (h : nb b x) (hb : b ≤ 2147483648) (e : x = nI k) (hk : k < 2147483648) : ix x = k := by
  rw [e]; exact ix_nI hk
theorem nb.mono {x : Int32} {b c : Nat} (h : nb b x) (hc : b ≤ c) : nb c x := ⟨h.1, Nat.lt_of_lt_of_le h.2 hc⟩
theorem i_lt {x y : Int32} : x < y ↔ x.toInt < y.toInt := Int32.lt_iff_toInt_lt
theorem i_le {x y : Int32} : x ≤ y ↔ x.toInt ≤ y.toInt := Int32.le_iff_toInt_le
theorem i_eq {x y : Int32} : x = y ↔ x.toInt = y.toInt := Int32.toInt_inj.symm
theorem l_lt {x y : Int64} : x < y ↔ x.toInt < y.toInt := Int64.lt_iff_toInt_lt
theorem l_le {x y : Int64} : x ≤ y ↔ x.toInt ≤ y.toInt := Int64.le_iff_toInt_le
theorem i_l {x : Int32} : x.toInt64.toInt = x.toInt := Int32.toInt_toInt64 x
theorem nI_n {k : Nat} (h : k < 2147483648) : (nI k).toInt = (k : Int) := nI_toInt h
theorem i_not_lt {x y : Int32} : ¬ x < y ↔ y ≤ x := Int32.not_lt
theorem i_not_le {x y : Int32} : ¬ x ≤ y ↔ y < x := Int32.not_le
/-- a boolean answer -/
def bq (C : Prop) (x : Int32) : Prop := (x = nI 1 ∧ C) ∨ (x = nI 0 ∧ ¬ C)
theorem bq_t {C : Prop} (h : C) : bq C (nI 1) := Or.inl ⟨rfl, h⟩
theorem bq_f {C : Prop} (h : ¬ C) : bq C (nI 0) := Or.inr ⟨rfl, h⟩
theorem bq_if {C : Prop} [Decidable C] {x : Int32} (h : bq C x) : x = if C then 1 else 0 := by
  rcases h with ⟨rfl, h⟩ | ⟨rfl, h⟩
  · rw [if_pos h]; rfl
  · rw [if_neg h]; rfl
theorem bq_z {C : Prop} {x : Int32} (h : bq C x) : x = 0 ∨ x = 1 := by
  rcases h with ⟨rfl, h⟩ | ⟨rfl, h⟩
  · exact Or.inr rfl
  · exact Or.inl rfl
theorem bq_congr {C D : Prop} {x : Int32} (h : bq C x) (e : C ↔ D) : bq D x := by
  rcases h with ⟨rfl, h⟩ | ⟨rfl, h⟩
  · exact Or.inl ⟨rfl, e.mp h⟩
  · exact Or.inr ⟨rfl, fun z => h (e.mpr z)⟩
/-- sums and such over a count -/
def sumN (f : Nat → Int32) : Nat → Int32
  | 0 => 0
  | n + 1 => sumN f n + f n
theorem sumN_cong {f g : Nat → Int32} : ∀ {n : Nat}, (∀ k, k < n → f k = g k) → sumN f n = sumN g n
  | 0, _ => rfl
  | n + 1, h => by rw [sumN, sumN, sumN_cong (fun k hk => h k (Nat.lt_succ_of_lt hk)), h n (Nat.lt_succ_self n)]
