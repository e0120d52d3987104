/-! words of both sides: 1 -/
theorem in_nb {x : Int32} {n : Nat} (hn : n ≤ 1000) : (nI 0 ≤ x ∧ x ≤ nI n - nI 1) ↔ nb n x := by
  have e0 : (nI 0).toInt = 0 := rfl
  have e1 : (nI n - nI 1).toInt = (n : Int) - 1 := by
    rw [pk_sub_toInt (by omega) (by omega)]
    rfl
  rw [i_le, i_le, e0, e1]
  constructor
  · rintro ⟨h1, h2⟩
    exact nb_of h1 (by omega)
  · intro h
    have h1 := h.toInt (by omega)
    have h2 := h.2
    omega
theorem in_nb0 {x : Int32} {n : Nat} (hn : n ≤ 1000) : ((0 : Int32) ≤ x ∧ x ≤ nI n - nI 1) ↔ nb n x := in_nb hn
theorem in_nbc {x : Int32} {c : Int32} {n : Nat} (hc : c = nI n) (hn : n ≤ 100000) : ((0 : Int32) ≤ x ∧ x ≤ c) ↔ nb (n + 1) x := by
  subst hc
  have e1 : (nI n).toInt = (n : Int) := nI_n (by omega)
  have e0 : (0 : Int32).toInt = 0 := rfl
  rw [i_le, i_le, e0, e1]
  constructor
  · rintro ⟨h1, h2⟩
    exact nb_of h1 (by omega)
  · intro h
    have h1 := h.toInt (by omega)
    have h2 := h.2
    omega
def blw (U : Nat → Int32) (f : Int32) : Nat → Int32
  | 0 => nI 0
  | k + 1 => if f ≤ U k then blw U f k else blw U f k ||| (nI 1 <<< (nI k &&& 31))
def cwF (T : Nat → Int32) (x : Int32) : Nat → Int32
  | 0 => nI 0
  | k + 1 => if T k = x then cwF T x k ||| (nI 1 <<< (nI k &&& 31)) else cwF T x k
theorem or0 (x : Int32) : x ||| nI 0 = x := Int32.or_zero
theorem blw_cong {U V : Nat → Int32} {f : Int32} : ∀ {n : Nat}, (∀ k, k < n → U k = V k) → blw U f n = blw V f n
  | 0, _ => rfl
  | n + 1, h => by rw [blw, blw, blw_cong (n := n) (fun k hk => h k (by omega)), h n (by omega)]
theorem cwF_cong {U V : Nat → Int32} {f : Int32} : ∀ {n : Nat}, (∀ k, k < n → U k = V k) → cwF U f n = cwF V f n
  | 0, _ => rfl
  | n + 1, h => by rw [cwF, cwF, cwF_cong (n := n) (fun k hk => h k (by omega)), h n (by omega)]
def sumZ (f : Nat → Int32) : Nat → Int32
  | 0 => nI 0
  | n + 1 => sumZ f n + f n
theorem sumZ_cong {f g : Nat → Int32} : ∀ {n : Nat}, (∀ k, k < n → f k = g k) → sumZ f n = sumZ g n
  | 0, _ => rfl
  | n + 1, h => by rw [sumZ, sumZ, sumZ_cong (n := n) (fun k hk => h k (by omega)), h n (by omega)]
def bitsF (x : Int32) : Int32 := sumZ (fun k => (x >>> (nI k &&& 31)) &&& nI 1) 4
def dropP (c : Nat) (P : Nat → Int32) : Nat → Int32 := fun k => if 12 + 5 * c ≤ k ∧ k < 32 then P (k + 5) else if k = 37 then P 37 - nI 1 else P k
def addP (c : Nat) (p q w a m : Int32) (P : Nat → Int32) : Nat → Int32 := upd (upd (upd (upd (upd (upd P (12 + 5 * c) p) (12 + 5 * c + 1) q) (12 + 5 * c + 2) w) (12 + 5 * c + 3) a) (12 + 5 * c + 4) m) 37 (nI c + nI 1)
def netP (n p : Nat) (P : Nat → Int32) : Int32 := sumZ (fun q => P (53 + 4 * q + p) - P (53 + 4 * p + q)) n
def cpP (k : Nat) (A B : Nat → Int32) : Nat → Int32 := fun j => if j < k then A j else B j
theorem cpP_s {k : Nat} {A B : Nat → Int32} : upd (cpP k A B) k (A k) = cpP (k + 1) A B := by
  funext j
  unfold upd cpP
  by_cases h : j = k
  · subst h; simp
  · by_cases h2 : j < k
    · simp [h, h2, Nat.lt_succ_of_lt h2]
    · simp [h, h2, show ¬ j < k + 1 by omega]
def pow4 (n : Nat) : Nat := 4 ^ n
theorem pow4_shl {n : Nat} (hn : n ≤ 4) : nI 1 <<< (nI (2 * n) &&& 31) = nI (4 ^ n) := by
  match n, hn with
  | 0, _ => decide
  | 1, _ => decide
  | 2, _ => decide
  | 3, _ => decide
  | 4, _ => decide
  | n + 5, h => omega
