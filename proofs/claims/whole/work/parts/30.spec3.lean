def adF (P : Nat → Int32) (p : Nat) (s : Int32) : Nat → Int32
  | 0 => s
  | k + 1 => adF P p s k + P (53 + 4 * p + k)
def adG (P : Nat → Int32) (n : Nat) : Nat → Int32
  | 0 => nI 0
  | k + 1 => adF P k (adG P n k) n
theorem adG_all {n : Nat} {P : Nat → Int32} (hn : n ≤ 4) (hz : ∀ p q, p < 4 → q < 4 → (n ≤ p ∨ n ≤ q) → P (53 + 4 * p + q) = 0) : adG P n n = sumZ (fun k => P (53 + k)) 16 := by
  have e : ∀ x : Int32, x + 0 = x := Int32.add_zero
  match n, hn with
  | 0, _ =>
    have z53 : P 53 = 0 := hz 0 0 (by omega) (by omega) (by omega)
    have z54 : P 54 = 0 := hz 0 1 (by omega) (by omega) (by omega)
    have z55 : P 55 = 0 := hz 0 2 (by omega) (by omega) (by omega)
    have z56 : P 56 = 0 := hz 0 3 (by omega) (by omega) (by omega)
    have z57 : P 57 = 0 := hz 1 0 (by omega) (by omega) (by omega)
    have z58 : P 58 = 0 := hz 1 1 (by omega) (by omega) (by omega)
    have z59 : P 59 = 0 := hz 1 2 (by omega) (by omega) (by omega)
    have z60 : P 60 = 0 := hz 1 3 (by omega) (by omega) (by omega)
    have z61 : P 61 = 0 := hz 2 0 (by omega) (by omega) (by omega)
    have z62 : P 62 = 0 := hz 2 1 (by omega) (by omega) (by omega)
    have z63 : P 63 = 0 := hz 2 2 (by omega) (by omega) (by omega)
    have z64 : P 64 = 0 := hz 2 3 (by omega) (by omega) (by omega)
    have z65 : P 65 = 0 := hz 3 0 (by omega) (by omega) (by omega)
    have z66 : P 66 = 0 := hz 3 1 (by omega) (by omega) (by omega)
    have z67 : P 67 = 0 := hz 3 2 (by omega) (by omega) (by omega)
    have z68 : P 68 = 0 := hz 3 3 (by omega) (by omega) (by omega)
    simp only [adG, adF, sumZ, Nat.reduceAdd, Nat.reduceMul, z53, z54, z55, z56, z57, z58, z59, z60, z61, z62, z63, z64, z65, z66, z67, z68, e]
  | 1, _ =>
    have z54 : P 54 = 0 := hz 0 1 (by omega) (by omega) (by omega)
    have z55 : P 55 = 0 := hz 0 2 (by omega) (by omega) (by omega)
    have z56 : P 56 = 0 := hz 0 3 (by omega) (by omega) (by omega)
    have z57 : P 57 = 0 := hz 1 0 (by omega) (by omega) (by omega)
    have z58 : P 58 = 0 := hz 1 1 (by omega) (by omega) (by omega)
    have z59 : P 59 = 0 := hz 1 2 (by omega) (by omega) (by omega)
    have z60 : P 60 = 0 := hz 1 3 (by omega) (by omega) (by omega)
    have z61 : P 61 = 0 := hz 2 0 (by omega) (by omega) (by omega)
    have z62 : P 62 = 0 := hz 2 1 (by omega) (by omega) (by omega)
    have z63 : P 63 = 0 := hz 2 2 (by omega) (by omega) (by omega)
    have z64 : P 64 = 0 := hz 2 3 (by omega) (by omega) (by omega)
    have z65 : P 65 = 0 := hz 3 0 (by omega) (by omega) (by omega)
    have z66 : P 66 = 0 := hz 3 1 (by omega) (by omega) (by omega)
    have z67 : P 67 = 0 := hz 3 2 (by omega) (by omega) (by omega)
    have z68 : P 68 = 0 := hz 3 3 (by omega) (by omega) (by omega)
    simp only [adG, adF, sumZ, Nat.reduceAdd, Nat.reduceMul, z54, z55, z56, z57, z58, z59, z60, z61, z62, z63, z64, z65, z66, z67, z68, e]
  | 2, _ =>
    have z55 : P 55 = 0 := hz 0 2 (by omega) (by omega) (by omega)
    have z56 : P 56 = 0 := hz 0 3 (by omega) (by omega) (by omega)
    have z59 : P 59 = 0 := hz 1 2 (by omega) (by omega) (by omega)
    have z60 : P 60 = 0 := hz 1 3 (by omega) (by omega) (by omega)
    have z61 : P 61 = 0 := hz 2 0 (by omega) (by omega) (by omega)
    have z62 : P 62 = 0 := hz 2 1 (by omega) (by omega) (by omega)
    have z63 : P 63 = 0 := hz 2 2 (by omega) (by omega) (by omega)
    have z64 : P 64 = 0 := hz 2 3 (by omega) (by omega) (by omega)
    have z65 : P 65 = 0 := hz 3 0 (by omega) (by omega) (by omega)
    have z66 : P 66 = 0 := hz 3 1 (by omega) (by omega) (by omega)
    have z67 : P 67 = 0 := hz 3 2 (by omega) (by omega) (by omega)
    have z68 : P 68 = 0 := hz 3 3 (by omega) (by omega) (by omega)
    simp only [adG, adF, sumZ, Nat.reduceAdd, Nat.reduceMul, z55, z56, z59, z60, z61, z62, z63, z64, z65, z66, z67, z68, e]
  | 3, _ =>
    have z56 : P 56 = 0 := hz 0 3 (by omega) (by omega) (by omega)
    have z60 : P 60 = 0 := hz 1 3 (by omega) (by omega) (by omega)
    have z64 : P 64 = 0 := hz 2 3 (by omega) (by omega) (by omega)
    have z65 : P 65 = 0 := hz 3 0 (by omega) (by omega) (by omega)
    have z66 : P 66 = 0 := hz 3 1 (by omega) (by omega) (by omega)
    have z67 : P 67 = 0 := hz 3 2 (by omega) (by omega) (by omega)
    have z68 : P 68 = 0 := hz 3 3 (by omega) (by omega) (by omega)
    simp only [adG, adF, sumZ, Nat.reduceAdd, Nat.reduceMul, z56, z60, z64, z65, z66, z67, z68, e]
  | 4, _ => rfl
  | n + 5, h => exact absurd h (by omega)
