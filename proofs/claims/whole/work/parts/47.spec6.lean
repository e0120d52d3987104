/-! what is due in a weather; fractions -/
def dueT (P : Nat → Int32) (w c : Nat) : Int32 := if P (12 + 5 * c + 2) = nI w then P (12 + 5 * c + 3) else nI 0
def dueF (P : Nat → Int32) (w : Nat) : Nat → Int32
  | 0 => nI 0
  | c + 1 => dueF P w c + (P (12 + 5 * c + 4) + dueT P w c)
def dueA (P : Nat → Int32) (w : Nat) : Int32 := dueF P w (ix (P 37))
def dq (P : Nat → Int32) : Nat → Nat
  | 0 => 0
  | w + 1 => if dueA P (dq P w) < dueA P (w + 1) then w + 1 else dq P w
theorem dq_le {P : Nat → Int32} : ∀ w : Nat, dq P w ≤ w
  | 0 => Nat.le_refl _
  | w + 1 => by
    have := dq_le (P := P) w
    rw [dq]
    split <;> omega
theorem due_nb {n : Nat} {P : Nat → Int32} (hB : gB n P) {w : Nat} : ∀ {c : Nat}, c ≤ ix (P 37) → ∃ k, k ≤ 29 * c ∧ dueF P w c = nI k
  | 0, _ => ⟨0, by omega, rfl⟩
  | c + 1, hc => by
    obtain ⟨k, hk, e⟩ := due_nb hB (w := w) (c := c) (by omega)
    obtain ⟨-, -, -, b3, b4⟩ := hB.2 c (by omega)
    have h3 := b3.2
    have h4 := b4.2
    rw [dueF, e, dueT, b4.1]
    split
    · rw [b3.1, nI_add, nI_add]
      exact ⟨_, by omega, rfl⟩
    · rw [nI_add, nI_add]
      exact ⟨_, by omega, rfl⟩
noncomputable def oDear (a : jH) (x : Int32) : Int32 × jH := iteR (nI 0 ≤ x ∧ x ≤ nI 1) (iteP (x = 0) (nI (dq (pg a 0) 3)) (dueA (pg a 0) (dq (pg a 0) 3)), a) (-1, a)
noncomputable def frac (X D : Nat) (x : Int32) : Int64 := iteX (x = 0) (lN (X / Nat.gcd X D)) (lN (D / Nat.gcd X D))
theorem lN_inj0 {n : Nat} (h : n < 2 ^ 63) : lN n = 0 ↔ n = 0 := pk_lEQ (b := 0) h (by omega)
/-- forecasts: by whole numbers -/
def gI (P : Nat → Int32) (p w : Nat) : Int := (γP P w p).toInt
def tI (P : Nat → Int32) (w : Nat) : Int := (ix (P (38 + w) + fo w) : Int)
def fcO (P : Nat → Int32) (p : Nat) : Nat → Int
  | 0 => 0
  | w + 1 => fcO P p w + tI P w * gI P p w
def fcC (P : Nat → Int32) (p : Nat) : Nat → Int
  | 0 => 0
  | w + 1 => fcC P p w + max (tI P w * gI P p w) 0
def fcX (P : Nat → Int32) (p : Nat) : Nat := (fcC P p 4 - max (fcO P p 4) 0).toNat
theorem bri_b : ∀ i, i < 16 → -4 ≤ (j_bri.getD i 0).toInt ∧ (j_bri.getD i 0).toInt ≤ 4 := by decide
theorem mulI {x y : Int32} {A B : Int} (hx : -A ≤ x.toInt ∧ x.toInt ≤ A) (hy : -B ≤ y.toInt ∧ y.toInt ≤ B) (hA : 0 ≤ A ∧ A ≤ 10000) (hB : 0 ≤ B ∧ B ≤ 10000) : (x * y).toInt = x.toInt * y.toInt ∧ -(A * B) ≤ x.toInt * y.toInt ∧ x.toInt * y.toInt ≤ A * B := by
  have h1 : x.toInt * y.toInt ≤ A * B := by
    have := Int.natAbs_mul x.toInt y.toInt
    have a1 : (x.toInt.natAbs : Int) ≤ A := by omega
    have a2 : (y.toInt.natAbs : Int) ≤ B := by omega
    have a3 : (x.toInt.natAbs : Int) * y.toInt.natAbs ≤ A * B := Int.mul_le_mul a1 a2 (by omega) (by omega)
    have a4 : x.toInt * y.toInt ≤ ((x.toInt * y.toInt).natAbs : Int) := by omega
    rw [this] at a4
    rw [Int.natCast_mul] at a4
    omega
  have h2 : -(A * B) ≤ x.toInt * y.toInt := by
    have := Int.natAbs_mul x.toInt y.toInt
    have a1 : (x.toInt.natAbs : Int) ≤ A := by omega
    have a2 : (y.toInt.natAbs : Int) ≤ B := by omega
    have a3 : (x.toInt.natAbs : Int) * y.toInt.natAbs ≤ A * B := Int.mul_le_mul a1 a2 (by omega) (by omega)
    have a4 : -((x.toInt * y.toInt).natAbs : Int) ≤ x.toInt * y.toInt := by omega
    rw [this] at a4
    rw [Int.natCast_mul] at a4
    omega
  have h3 : A * B ≤ 10000 * 10000 := Int.mul_le_mul hA.2 hB.2 hB.1 (by omega)
  refine ⟨?_, h2, h1⟩
  rw [Int32.toInt_mul]
  apply Int.bmod_eq_of_le <;> omega
theorem gI_b {n p w : Nat} {P : Nat → Int32} (hG : GD n P) (hp : p < n) (hw : w < 4) : -20 ≤ gI P p w ∧ gI P p w ≤ 20 := by
  have k4 := (hG.1.2.1 p hp).2
  have f6 := (hG.2.2.2.2.2.2.1 p hp).2
  have f5 := f6.2
  have fe := f6.toInt (by omega)
  have := mulI (x := j_bri.getD (4 * ix (P p) + w) 0) (y := P (4 + p)) (A := 4) (B := 5) (bri_b _ (by omega)) (by omega) (by omega) (by omega)
  unfold gI γP
  rw [this.1]
  omega
theorem tI_b {n w : Nat} {P : Nat → Int32} (hG : GD n P) (hw : w < 4) : 0 ≤ tI P w ∧ tI P w ≤ 10 ∧ (P (38 + w) + fo w).toInt = tI P w := by
  have h := hG.2.2.2.2.1 w hw
  have h2 := h.2
  have h3 := h.toInt (by omega)
  unfold tI
  omega
theorem tg_b {t g : Int} (ht : 0 ≤ t ∧ t ≤ 10) (hg : -20 ≤ g ∧ g ≤ 20) : -200 ≤ t * g ∧ t * g ≤ 200 := by
  have h1 : t * g ≤ 10 * 20 := by
    have a : t * g ≤ t * 20 := Int.mul_le_mul_of_nonneg_left hg.2 ht.1
    omega
  have h2 : t * (-20) ≤ t * g := Int.mul_le_mul_of_nonneg_left hg.1 ht.1
  omega
theorem fc_b {n p : Nat} {P : Nat → Int32} (hG : GD n P) (hp : p < n) : ∀ {w : Nat}, w ≤ 4 → -(200 * w : Int) ≤ fcO P p w ∧ fcO P p w ≤ 200 * w ∧ 0 ≤ fcC P p w ∧ fcC P p w ≤ 200 * w ∧ fcO P p w ≤ fcC P p w
  | 0, _ => by simp [fcO, fcC]
  | w + 1, hw => by
    obtain ⟨h1, h2, h3, h4, h5⟩ := fc_b hG hp (w := w) (by omega)
    have hg := gI_b hG hp (show w < 4 by omega)
    have ht := tI_b hG (show w < 4 by omega)
    have := tg_b ⟨ht.1, ht.2.1⟩ hg
    rw [fcO, fcC]
    omega
noncomputable def qForecast (a : jH) (p x : Int32) : Int64 := iteX (nb (ix (a 131 2)) p ∧ nI 0 ≤ x ∧ x ≤ nI 1) (frac (fcX (pg a 0) (ix p)) 10 x) (-1)
theorem addI {x y : Int32} (h : -1000000 ≤ x.toInt ∧ x.toInt ≤ 1000000) (h2 : -1000000 ≤ y.toInt ∧ y.toInt ≤ 1000000) : (x + y).toInt = x.toInt + y.toInt := by
  rw [Int32.toInt_add]
  apply Int.bmod_eq_of_le <;> omega
theorem subI {x y : Int32} (h : -1000000 ≤ x.toInt ∧ x.toInt ≤ 1000000) (h2 : -1000000 ≤ y.toInt ∧ y.toInt ≤ 1000000) : (x - y).toInt = x.toInt - y.toInt := by
  rw [Int32.toInt_sub]
  apply Int.bmod_eq_of_le <;> omega
theorem addL {x y : Int64} (h : -1000000000000 ≤ x.toInt ∧ x.toInt ≤ 1000000000000) (h2 : -1000000000000 ≤ y.toInt ∧ y.toInt ≤ 1000000000000) : (x + y).toInt = x.toInt + y.toInt := by
  rw [Int64.toInt_add]
  apply Int.bmod_eq_of_le <;> omega
theorem subL {x y : Int64} (h : -1000000000000 ≤ x.toInt ∧ x.toInt ≤ 1000000000000) (h2 : -1000000000000 ≤ y.toInt ∧ y.toInt ≤ 1000000000000) : (x - y).toInt = x.toInt - y.toInt := by
  rw [Int64.toInt_sub]
  apply Int.bmod_eq_of_le <;> omega
theorem mulLI {x y : Int32} {A B : Int} (hx : -A ≤ x.toInt ∧ x.toInt ≤ A) (hy : -B ≤ y.toInt ∧ y.toInt ≤ B) (hA : 0 ≤ A ∧ A ≤ 10000) (hB : 0 ≤ B ∧ B ≤ 10000) : (x.toInt64 * y.toInt64).toInt = x.toInt * y.toInt := by
  have m := mulI hx hy hA hB
  have h3 : A * B ≤ 10000 * 10000 := Int.mul_le_mul hA.2 hB.2 hB.1 (by omega)
  rw [Int64.toInt_mul, i_l, i_l]
  apply Int.bmod_eq_of_le <;> omega
theorem fc5 {n p k : Nat} {P : Nat → Int32} {o c : Int32} (hG : GD n P) (hp : p < n) (hk : k < 4) (ho : o.toInt = fcO P p k) (hc : c.toInt = fcC P p k) :
    (o + (P (38 + k) + fo k) * γP P k p).toInt = fcO P p (k + 1) ∧ (c + (if (P (38 + k) + fo k) * γP P k p < nI 0 then nI 0 else (P (38 + k) + fo k) * γP P k p)).toInt = fcC P p (k + 1) := by
  have b := fc_b hG hp (w := k) (by omega)
  have g := gI_b hG hp hk
  have t := tI_b hG hk
  have tg := tg_b ⟨t.1, t.2.1⟩ g
  have hg : (γP P k p).toInt = gI P p k := rfl
  have m := mulI (x := P (38 + k) + fo k) (y := γP P k p) (A := 10) (B := 20) (by omega) (by omega) (by omega) (by omega)
  have e : ((P (38 + k) + fo k) * γP P k p).toInt = tI P k * gI P p k := by rw [m.1, t.2.2, hg]
  have e0 : (nI 0).toInt = 0 := rfl
  refine ⟨by rw [addI (by omega) (by omega), ho, e, fcO], ?_⟩
  rw [fcC]
  by_cases z : (P (38 + k) + fo k) * γP P k p < nI 0
  · rw [if_pos z, addI (by omega) (by omega), hc, e0]
    rw [i_lt, e, e0] at z
    omega
  · rw [if_neg z, addI (by omega) (by omega), hc, e]
    rw [i_lt, e, e0] at z
    omega
theorem fc6 {n p k : Nat} {P : Nat → Int32} {o c : Int64} (hG : GD n P) (hp : p < n) (hk : k < 4) (ho : o.toInt = fcO P p k) (hc : c.toInt = fcC P p k) :
    (o + (P (38 + k) + fo k).toInt64 * (γP P k p).toInt64).toInt = fcO P p (k + 1) ∧ (γP P k p ≤ 0 → (c + (P (38 + k) + fo k).toInt64 * (nI 0).toInt64).toInt = fcC P p (k + 1)) ∧ (¬ γP P k p ≤ 0 → (c + (P (38 + k) + fo k).toInt64 * (γP P k p).toInt64).toInt = fcC P p (k + 1)) := by
  have b := fc_b hG hp (w := k) (by omega)
  have g := gI_b hG hp hk
  have t := tI_b hG hk
  have tg := tg_b ⟨t.1, t.2.1⟩ g
  have hg : (γP P k p).toInt = gI P p k := rfl
  have e : ((P (38 + k) + fo k).toInt64 * (γP P k p).toInt64).toInt = tI P k * gI P p k := by rw [mulLI (A := 10) (B := 20) (by omega) (by omega) (by omega) (by omega), t.2.2, hg]
  have e0 : (nI 0).toInt = 0 := rfl
  have e1 : ((P (38 + k) + fo k).toInt64 * (nI 0).toInt64).toInt = 0 := by rw [mulLI (A := 10) (B := 20) (by omega) (by omega) (by omega) (by omega), e0]; omega
  refine ⟨by rw [addL (by omega) (by omega), ho, e, fcO], fun z => ?_, fun z => ?_⟩
  · rw [addL (by omega) (by omega), hc, e1, fcC]
    rw [i_le, hg, show (0 : Int32).toInt = 0 from rfl] at z
    have : tI P k * gI P p k ≤ tI P k * 0 := Int.mul_le_mul_of_nonneg_left z t.1
    omega
  · rw [addL (by omega) (by omega), hc, e, fcC]
    rw [i_le, hg, show (0 : Int32).toInt = 0 from rfl] at z
    have : 0 ≤ tI P k * gI P p k := Int.mul_nonneg t.1 (by omega)
    omega
theorem fc5_end {n p : Nat} {P : Nat → Int32} {o c : Int32} (hG : GD n P) (hp : p < n) (ho : o.toInt = fcO P p 4) (hc : c.toInt = fcC P p 4) : (c - (if o < nI 0 then nI 0 else o)).toInt64 = lN (fcX P p) ∧ fcX P p ≤ 1000 := by
  have b := fc_b hG hp (w := 4) (by omega)
  have e0 : (nI 0).toInt = 0 := rfl
  have hx : fcX P p ≤ 1000 := by unfold fcX; omega
  refine ⟨?_, hx⟩
  apply Int64.toInt_inj.mp
  rw [i_l, pk_lT (by omega)]
  unfold fcX
  by_cases z : o < nI 0
  · rw [if_pos z, subI (by omega) (by omega), e0, hc]
    rw [i_lt, e0] at z
    omega
  · rw [if_neg z, subI (by omega) (by omega), ho, hc]
    rw [i_lt, e0] at z
    omega
theorem fc6_end {n p : Nat} {P : Nat → Int32} {o c : Int64} (hG : GD n P) (hp : p < n) (ho : o.toInt = fcO P p 4) (hc : c.toInt = fcC P p 4) : (o ≤ 0 → c - 0 = lN (fcX P p)) ∧ (¬ o ≤ 0 → c - o = lN (fcX P p)) := by
  have b := fc_b hG hp (w := 4) (by omega)
  have e0 : (0 : Int64).toInt = 0 := rfl
  have hx : fcX P p ≤ 1000 := by unfold fcX; omega
  refine ⟨fun z => ?_, fun z => ?_⟩ <;> apply Int64.toInt_inj.mp <;> rw [pk_lT (by omega), subL (by omega) (by omega)] <;> unfold fcX <;> rw [l_le, e0] at z <;> omega
theorem gcd_step (x y : Nat) : Nat.gcd x y = Nat.gcd y (x % y) := by rw [Nat.gcd_comm x y, Nat.gcd_rec y x, Nat.gcd_comm]
theorem mod_half {x y f : Nat} (hy : y < 2 ^ (f + 1)) (h0 : x % y ≠ 0) : y % (x % y) < 2 ^ f := by
  have hp : 2 ^ (f + 1) = 2 * 2 ^ f := by rw [Nat.pow_succ]; omega
  by_cases yz : y = 0
  · subst yz
    rw [Nat.zero_mod]
    exact Nat.two_pow_pos f
  have y0 : 0 < y := by omega
  have h1 := Nat.mod_lt x y0
  have h2 := Nat.mod_lt y (show 0 < x % y by omega)
  by_cases z : x % y < 2 ^ f
  · omega
  · have h3 : y % (x % y) = y - x % y := by
      rw [Nat.mod_eq_sub_mod (by omega), Nat.mod_eq_of_lt (by omega)]
    omega
