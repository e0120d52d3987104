def adF (P : Nat → Int32) (p : Nat) (s : Int32) : Nat → Int32
  | 0 => s
  | k + 1 => adF P p s k + P (53 + 4 * p + k)
def adG (P : Nat → Int32) (n : Nat) : Nat → Int32
  | 0 => nI 0
  | k + 1 => adF P k (adG P n k) n
theorem adG_all {n : Nat} {P : Nat → Int32} (hn : n ≤ 4) (hz : ∀ p q, p < 4 → q < 4 → (n ≤ p ∨ n ≤ q) → P (53 + 4 * p + q) = 0) : adG P n n = sumZ (fun k => P (53 + k)) 16 := by
  have e : ∀ x : Int32, x + 0 = x := Int32.add_zero
  match n, hn with
  | 0, _ =>
    simp only [adG, sumZ, hz 0 0, hz 0 1, hz 0 2, hz 0 3, hz 1 0, hz 1 1, hz 1 2, hz 1 3, hz 2 0, hz 2 1, hz 2 2, hz 2 3, hz 3 0, hz 3 1, hz 3 2, hz 3 3]
    sorry
  | 1, _ => sorry
  | 2, _ => sorry
  | 3, _ => sorry
  | 4, _ => rfl
  | n + 5, h => exact absurd h (by omega)
