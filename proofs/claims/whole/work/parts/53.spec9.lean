/-! who is safe: bits as small numbers -/
def pop (k : Nat) : Nat := k % 2 + k / 2 % 2 + k / 4 % 2 + k / 8 % 2
def bmN (U : Nat → Int32) (f : Int32) : Nat → Nat
  | 0 => 0
  | k + 1 => if f ≤ U k then bmN U f k else bmN U f k ||| 2 ^ k
theorem or16 : ∀ k, k < 4 → ∀ b, b < 16 → nI b ||| (nI 1 <<< (nI k &&& 31)) = nI (b ||| 2 ^ k) ∧ b ||| 2 ^ k < 16 := by decide
theorem and16 : ∀ a, a < 16 → ∀ b, b < 16 → nI a &&& (nI b ^^^ (-1)) = nI (a &&& (15 ^^^ b)) ∧ a &&& (15 ^^^ b) < 16 := by decide
theorem pop_and : ∀ a, a < 16 → ∀ b, b < 16 → pop (a &&& (15 ^^^ b)) ≤ pop a := by decide
theorem pop_0 : ∀ a, a < 16 → pop a = 0 → a = 0 := by decide
theorem pop_4 : ∀ a, a < 16 → pop a ≤ 4 := by decide
theorem bits_pop : ∀ a, a < 16 → bitsF (nI a) = nI (pop a) := by decide
theorem bmN_lt {U : Nat → Int32} {f : Int32} : ∀ {k : Nat}, k ≤ 4 → bmN U f k < 16 ∧ blw U f k = nI (bmN U f k)
  | 0, _ => ⟨show (0 : Nat) < 16 by omega, rfl⟩
  | k + 1, hk => by
    obtain ⟨i1, i2⟩ := bmN_lt (U := U) (f := f) (k := k) (by omega)
    have := or16 k (by omega) _ i1
    rw [bmN, blw]
    split
    · exact ⟨i1, i2⟩
    · rw [i2]; exact ⟨this.2, this.1⟩
theorem bmN_cong {U V : Nat → Int32} {f : Int32} : ∀ {n : Nat}, (∀ k, k < n → U k = V k) → bmN U f n = bmN V f n
  | 0, _ => rfl
  | n + 1, h => by rw [bmN, bmN, bmN_cong (n := n) (fun k hk => h k (by omega)), h n (by omega)]
def sbF (n : Nat) (M : Nat → Nat) : Nat → Nat
  | 0 => 2 ^ n - 1
  | c + 1 => sbF n M c &&& (15 ^^^ M c)
theorem sbF_lt {n : Nat} {M : Nat → Nat} (hn : n ≤ 4) (hM : ∀ c, M c < 16) : ∀ c : Nat, sbF n M c < 16
  | 0 => by
    match n, hn with
    | 0, _ => show 2 ^ 0 - 1 < 16; decide
    | 1, _ => show 2 ^ 1 - 1 < 16; decide
    | 2, _ => show 2 ^ 2 - 1 < 16; decide
    | 3, _ => show 2 ^ 3 - 1 < 16; decide
    | 4, _ => show 2 ^ 4 - 1 < 16; decide
    | n + 5, h => omega
  | c + 1 => (and16 _ (sbF_lt hn hM c) _ (hM c)).2
theorem sbF_cong {n : Nat} {M M' : Nat → Nat} : ∀ {c : Nat}, (∀ i, i < c → M i = M' i) → sbF n M c = sbF n M' c
  | 0, _ => rfl
  | c + 1, h => by rw [sbF, sbF, sbF_cong (c := c) (fun i hi => h i (by omega)), h c (by omega)]
/-- the first put last -/
theorem sbF_front {n : Nat} {M : Nat → Nat} : ∀ c : Nat, sbF n M (c + 1) = sbF n (fun i => M (i + 1)) c &&& (15 ^^^ M 0)
  | 0 => rfl
  | c + 1 => by
    rw [sbF, sbF_front c, sbF, Nat.and_assoc, Nat.and_assoc, Nat.and_comm (15 ^^^ M 0)]
theorem sbF_rev {n : Nat} {M : Nat → Nat} : ∀ c : Nat, sbF n (fun i => M (c - 1 - i)) c = sbF n M c
  | 0 => rfl
  | c + 1 => by
    rw [sbF_front, sbF, ← sbF_rev c]
    congr 1
    exact sbF_cong (fun i hi => by congr 1; omega)
theorem sbF_pop {n : Nat} {M : Nat → Nat} (hn : n ≤ 4) (hM : ∀ c, M c < 16) {j : Nat} : ∀ i : Nat, pop (sbF n M (j + i)) ≤ pop (sbF n M j)
  | 0 => Nat.le_refl _
  | i + 1 => Nat.le_trans (pop_and _ (sbF_lt hn hM (j + i)) _ (hM _)) (sbF_pop hn hM i)
def sfM (n : Nat) (P : Nat → Int32) (m c : Nat) : Nat := bmN (fun p => skP n P m c (8 + p)) (P 42 + nI 5) n
def sfN (n : Nat) (P : Nat → Int32) (m : Nat) : Nat := sbF n (sfM n P m) (4 ^ m)
theorem sfM_lt {n : Nat} {P : Nat → Int32} (hn : n ≤ 4) (m c : Nat) : sfM n P m c < 16 := (bmN_lt hn).1
theorem sfN_lt {n : Nat} {P : Nat → Int32} (hn : n ≤ 4) (m : Nat) : sfN n P m < 16 := sbF_lt hn (fun c => sfM_lt hn m c) _
theorem sk_r {n : Nat} {P Q : Nat → Int32} (hG : GD n P) (e : lpR n P Q) : ∀ m c : Nat, lpR n (skP n P m c) (skP n Q m c)
  | 0, _ => e
  | m + 1, c => live_r (sk_ok hG m (c / 4)).1.1 (sk_r hG e m (c / 4))
theorem sfN_r {n : Nat} {P Q : Nat → Int32} (hG : GD n P) (e : lpR n P Q) (m : Nat) : sfN n Q m = sfN n P m := by
  unfold sfN
  refine sbF_cong (fun c hc => ?_)
  unfold sfM
  rw [e.1 42 (by omega)]
  exact bmN_cong (fun p hp => (sk_r hG e m c).2 p hp)
theorem full_n {n : Nat} (hn : n ≤ 4) : (nI 1 <<< (nI n &&& 31)) - nI 1 = nI (2 ^ n - 1) := by
  match n, hn with
  | 0, _ => decide
  | 1, _ => decide
  | 2, _ => decide
  | 3, _ => decide
  | 4, _ => decide
  | n + 5, h => omega
noncomputable def oSafe (a : jH) (n : Int32) : Int32 × jH := iteR (nb 5 n) (nI (sfN (ix (a 131 2)) (pg a 0) (ix n)), a) (-1, a)
/-- the way down the tree to a run -/
def PATH (n : Nat) (P : Nat → Int32) (m : Nat) (h : jH) (c : Nat) : Prop := ∀ l, l ≤ m → nd n h (fst4 l + c / 4 ^ (m - l)) (skP n P l (c / 4 ^ (m - l)))
theorem and_p {c t : Nat} (hc : c < 2 ^ 31) (ht : t ≤ 4) : nI c &&& (nI (4 ^ t) - nI 1) = nI (c % 4 ^ t) := by
  match t, ht with
  | 0, _ => exact pk_andN (by omega) 0 (by decide)
  | 1, _ => exact pk_andN (by omega) 2 (by decide)
  | 2, _ => exact pk_andN (by omega) 4 (by decide)
  | 3, _ => exact pk_andN (by omega) 6 (by decide)
  | 4, _ => exact pk_andN (by omega) 8 (by decide)
  | t + 5, h => omega
theorem div_same {k q : Nat} (hq : 0 < q) (h : (k + 1) % q ≠ 0) : (k + 1) / q = k / q := by
  have h1 := Nat.div_add_mod (k + 1) q
  have h2 := Nat.mod_lt (k + 1) hq
  have h3 := Nat.div_add_mod k q
  have h4 := Nat.mod_lt k hq
  apply Nat.le_antisymm
  · apply Nat.le_of_lt_succ
    apply Nat.lt_of_not_le
    intro z
    have z2 : q * (k / q + 1) ≤ q * ((k + 1) / q) := Nat.mul_le_mul_left q z
    rw [Nat.mul_add, Nat.mul_one] at z2
    omega
  · exact Nat.div_le_div_right (Nat.le_succ k)
theorem mod_pow {m t : Nat} (h : t ≤ m) : 4 ^ m % 4 ^ t = 0 := Nat.mod_eq_zero_of_dvd (Nat.pow_dvd_pow 4 h)
theorem lev_lt {l m c : Nat} (hl : l ≤ m) (hc : c ≤ 4 ^ m) (h0 : c = 4 ^ m → False) : c / 4 ^ (m - l) < 4 ^ l := by
  have hc2 : c < 4 ^ m := by
    rcases Nat.lt_or_eq_of_le hc with z | z
    · exact z
    · exact absurd z h0
  rw [Nat.div_lt_iff_lt_mul (Nat.pow_pos (by omega)), ← Nat.pow_add, show l + (m - l) = m by omega]
  exact hc2
