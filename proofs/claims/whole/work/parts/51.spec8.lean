/-! weights by odds -/
def wtF (P : Nat → Int32) (c : Nat) : Nat → Nat
  | 0 => 1
  | t + 1 => wtF P c t * ix (P (38 + c / 4 ^ t % 4) + fo (c / 4 ^ t % 4))
theorem wtF_b {n : Nat} {P : Nat → Int32} (hG : GD n P) {c : Nat} : ∀ t : Nat, wtF P c t ≤ 10 ^ t
  | 0 => by simp [wtF]
  | t + 1 => by
    have ih := wtF_b hG (c := c) t
    have h := (hG.2.2.2.2.1 (c / 4 ^ t % 4) (Nat.mod_lt _ (by omega))).2
    rw [wtF, Nat.pow_succ]
    exact Nat.mul_le_mul ih (by omega)
def mnF (P : Nat → Int32) (m : Nat) (f : Nat → Nat) : Nat → Nat
  | 0 => 0
  | c + 1 => mnF P m f c + wtF P c m * f c
theorem mnF_b {n m : Nat} {P : Nat → Int32} {f : Nat → Nat} (hG : GD n P) (hm : m ≤ 4) (hf : ∀ c, f c ≤ 1000) : ∀ c : Nat, mnF P m f c ≤ c * 10000000
  | 0 => by simp [mnF]
  | c + 1 => by
    have ih := mnF_b hG hm hf c
    have h1 := wtF_b hG (c := c) m
    have h2 : 10 ^ m ≤ 10 ^ 4 := Nat.pow_le_pow_right (by omega) hm
    have h3 : wtF P c m * f c ≤ 10000 * 1000 := Nat.mul_le_mul (by omega) (hf c)
    rw [mnF]
    omega
noncomputable def qMean (a : jH) (p n x : Int32) : Int64 := iteX (nb (ix (a 131 2)) p ∧ nb 5 n ∧ nI 0 ≤ x ∧ x ≤ nI 1) (frac (mnF (pg a 0) (ix n) (fun c => ix (skU (ix (a 131 2)) (pg a 0) (ix n) (ix p) c)) (4 ^ ix n)) (10 ^ ix n) x) (-1)
noncomputable def qLuck (a : jH) (p n x : Int32) : Int64 := iteX (nb (ix (a 131 2)) p ∧ nb 5 n ∧ nI 0 ≤ x ∧ x ≤ nI 1) (frac (mnF (pg a 0) (ix n) (fun c => if pg a 0 42 + nI 5 ≤ skU (ix (a 131 2)) (pg a 0) (ix n) (ix p) c then 1 else 0) (4 ^ ix n)) (10 ^ ix n) x) (-1)
theorem skU_nb {n m p c : Nat} {P : Nat → Int32} (hG : GD n P) (hp : p < n) : nb 1000 (skU n P m p c) := ((sk_ok hG m c).1.2.2.2.2.2.2.1 p hp).1
theorem mn1_b {n m p : Nat} {P : Nat → Int32} (hG : GD n P) (hp : p < n) (hm : m ≤ 4) : mnF P m (fun c => ix (skU n P m p c)) (4 ^ m) < 2 ^ 60 := by
  have := mnF_b hG hm (f := fun c => ix (skU n P m p c)) (fun c => by have := (skU_nb (m := m) (c := c) hG hp).2; show ix (skU n P m p c) ≤ 1000; omega) (4 ^ m)
  have := p4_b hm
  omega
theorem mn2_b {n m p : Nat} {P : Nat → Int32} {f : Int32} (hG : GD n P) (hm : m ≤ 4) : mnF P m (fun c => if f ≤ skU n P m p c then 1 else 0) (4 ^ m) < 2 ^ 60 := by
  have := mnF_b hG hm (f := fun c => if f ≤ skU n P m p c then 1 else 0) (fun c => by show (if f ≤ skU n P m p c then 1 else 0) ≤ 1000; split <;> omega) (4 ^ m)
  have := p4_b hm
  omega
theorem p10_b {m : Nat} (hm : m ≤ 4) : 10 ^ m ≤ 10000 ∧ 0 < 10 ^ m := ⟨Nat.le_trans (Nat.pow_le_pow_right (by omega) hm) (by decide), Nat.pow_pos (by omega)⟩
