/-! weathers from purses that were seen -/
def pw (n : Nat) (P : Nat → Int32) (c p m : Nat) : Int32 := skP n P m (c / 4 ^ (4 - m)) (8 + p)
def asF (n : Nat) (P sn : Nat → Int32) (c : Nat) : Nat → Bool
  | 0 => true
  | i + 1 => asF n P sn c i && decide (pw n P c (ix (sn (3 * i))) (ix (sn (3 * i + 1))) = sn (3 * i + 2))
def fitA (a : jH) (c : Nat) : Bool := asF (ix (a 131 2)) (pg a 0) (a 139) c (ix (a 131 21))
def cnF (f : Nat → Bool) : Nat → Nat
  | 0 => 0
  | k + 1 => if f k = true then cnF f k + 1 else cnF f k
theorem cnF_le {f : Nat → Bool} : ∀ k : Nat, cnF f k ≤ k
  | 0 => Nat.le_refl _
  | k + 1 => by
    have := cnF_le (f := f) k
    rw [cnF]
    split <;> omega
theorem cnF_mono {f : Nat → Bool} {k : Nat} : ∀ {j : Nat}, k ≤ j → cnF f k ≤ cnF f j
  | 0, h => by rw [show k = 0 by omega]; exact Nat.le_refl _
  | j + 1, h => by
    by_cases z : k = j + 1
    · subst z; exact Nat.le_refl _
    · have := cnF_mono (f := f) (k := k) (j := j) (by omega)
      rw [cnF]
      split <;> omega
theorem cnF_lt {f : Nat → Bool} {c k : Nat} (hc : c < k) (hf : f c = true) : cnF f c < cnF f k := by
  have h1 := cnF_mono (f := f) (k := c + 1) (j := k) (by omega)
  rw [cnF, if_pos hf] at h1
  omega
/-- a row lists the codes that fit -/
def lst (f : Nat → Bool) (g : Nat → Int32) (k : Nat) : Prop := ∀ c, c < k → f c = true → g (cnF f c) = nI c
theorem lst_at {f : Nat → Bool} {g : Nat → Int32} : ∀ {k : Nat}, lst f g k → ∀ j, j < cnF f k → ∃ c, c < k ∧ f c = true ∧ cnF f c = j ∧ g j = nI c
  | 0, _, j, hj => by simp [cnF] at hj
  | k + 1, h, j, hj => by
    by_cases z : j < cnF f k
    · obtain ⟨c, h1, h2, h3, h4⟩ := lst_at (k := k) (fun c hc hf => h c (by omega) hf) j z
      exact ⟨c, by omega, h2, h3, h4⟩
    · rw [cnF] at hj
      by_cases hf : f k = true
      · rw [if_pos hf] at hj
        have e : j = cnF f k := by omega
        exact ⟨k, by omega, hf, e.symm, by rw [e]; exact h k (by omega) hf⟩
      · rw [if_neg hf] at hj
        exact absurd hj z
/-- going through the list, and going through all codes -/
def goJ {α : Type} (s : α → Nat → α) (a : α) (g : Nat → Int32) : Nat → α
  | 0 => a
  | j + 1 => s (goJ s a g j) (ix (g j))
def goC {α : Type} (s : α → Nat → α) (a : α) (f : Nat → Bool) : Nat → α
  | 0 => a
  | k + 1 => if f k = true then s (goC s a f k) k else goC s a f k
theorem go_eq {α : Type} {s : α → Nat → α} {a : α} {f : Nat → Bool} {g : Nat → Int32} : ∀ {k : Nat}, k < 1000 → lst f g k → goJ s a g (cnF f k) = goC s a f k
  | 0, _, _ => rfl
  | k + 1, hk, h => by
    have ih := go_eq (s := s) (a := a) (k := k) (by omega) (fun c hc hf => h c (by omega) hf)
    rw [cnF, goC]
    by_cases hf : f k = true
    · rw [if_pos hf, if_pos hf, goJ, ih, h k (by omega) hf, ix_nI (by omega)]
    · rw [if_neg hf, if_neg hf, ih]
def firF (f : Nat → Bool) : Nat → Int32
  | 0 => -4
  | k + 1 => if f k = true ∧ cnF f k = 0 then nI k else firF f k
theorem fir_eq {f : Nat → Bool} {g : Nat → Int32} : ∀ {k : Nat}, lst f g k → firF f k = if cnF f k = 0 then -4 else g 0
  | 0, _ => rfl
  | k + 1, h => by
    have ih := fir_eq (k := k) (fun c hc hf => h c (by omega) hf)
    rw [firF, ih, cnF]
    by_cases hf : f k = true
    · by_cases hz : cnF f k = 0
      · rw [if_pos ⟨hf, hz⟩, if_pos hf, if_neg (by omega), ← h k (by omega) hf, hz]
      · rw [if_neg (fun z => hz z.2), if_pos hf, if_neg hz, if_neg (by omega)]
    · rw [if_neg (fun z => hf z.1), if_neg hf]
def wbS (i : Nat) (x : Int32) (c : Nat) : Int32 := x ||| (nI 1 <<< (nI (c / 4 ^ (3 - i) % 4) &&& 31))
def wbF (f : Nat → Bool) (i k : Nat) : Int32 := goC (wbS i) (nI 0) f k
noncomputable def oFits (a : jH) (x : Int32) : Int32 × jH := iteR (x = nI 0 ∨ x = nI 1 ∨ nI 10 ≤ x ∧ x ≤ nI 13) (iteP (x = nI 0) (nI (cnF (fitA a) 256)) (iteP (x = nI 1) (firF (fitA a) 256) (wbF (fitA a) (ix (x - nI 10)) 256)), a) (-1, a)
theorem in1013 {x : Int32} : (nI 0 ≤ x - nI 10 ∧ x - nI 10 ≤ nI 3) ↔ (nI 10 ≤ x ∧ x ≤ nI 13) := by
  have x1 := Int32.toInt_lt x
  have x2 := Int32.le_toInt x
  have e0 : (nI 0).toInt = 0 := rfl
  have e3 : (nI 3).toInt = 3 := rfl
  have e10 : (nI 10).toInt = 10 := rfl
  have e13 : (nI 13).toInt = 13 := rfl
  rw [i_le, i_le, i_le, i_le, e0, e3, e10, e13]
  have s := Int32.toInt_sub x (nI 10)
  rw [e10] at s
  by_cases h : -2147483648 ≤ x.toInt - 10
  · have : (x - nI 10).toInt = x.toInt - 10 := by rw [s]; apply Int.bmod_eq_of_le <;> omega
    omega
  · have : (x - nI 10).toInt = x.toInt - 10 + 2 ^ 32 := by rw [s, Int.bmod_def]; omega
    omega
/-- where to look: the most that are left alike -/
def cntF (f : Nat → Bool) (U : Nat → Int32) (v : Int32) : Nat → Nat
  | 0 => 0
  | k + 1 => if f k = true ∧ U k = v then cntF f U v k + 1 else cntF f U v k
def mlS (f : Nat → Bool) (U : Nat → Int32) (x c : Nat) : Nat := max x (cntF f U (U c) (c + 1))
def mlF (f : Nat → Bool) (U : Nat → Int32) (k : Nat) : Nat := goC (mlS f U) 0 f k
def waF (f : Nat → Bool) (U : Nat → Int32) : Nat → Nat
  | 0 => 0
  | k + 1 => if f k = true then max (waF f U k) (cntF f U (U k) 256) else waF f U k
theorem cntF_mono {f : Nat → Bool} {U : Nat → Int32} {v : Int32} {k : Nat} : ∀ {j : Nat}, k ≤ j → cntF f U v k ≤ cntF f U v j
  | 0, h => by rw [show k = 0 by omega]; exact Nat.le_refl _
  | j + 1, h => by
    by_cases z : k = j + 1
    · subst z; exact Nat.le_refl _
    · have := cntF_mono (f := f) (U := U) (v := v) (k := k) (j := j) (by omega)
      rw [cntF]
      split <;> omega
theorem cntF_le {f : Nat → Bool} {U : Nat → Int32} {v : Int32} : ∀ k : Nat, cntF f U v k ≤ cnF f k
  | 0 => Nat.le_refl _
  | k + 1 => by
    have := cntF_le (f := f) (U := U) (v := v) k
    rw [cntF, cnF]
    by_cases hf : f k = true
    · rw [if_pos hf]; split <;> omega
    · rw [if_neg hf, if_neg (fun z => hf z.1)]; exact this
theorem mlF_s {f : Nat → Bool} {U : Nat → Int32} {k : Nat} : mlF f U (k + 1) = if f k = true then max (mlF f U k) (cntF f U (U k) (k + 1)) else mlF f U k := rfl
theorem cnt_ml {f : Nat → Bool} {U : Nat → Int32} {v : Int32} : ∀ k : Nat, cntF f U v k ≤ mlF f U k
  | 0 => Nat.le_refl _
  | k + 1 => by
    have ih := cnt_ml (f := f) (U := U) (v := v) k
    rw [mlF_s]
    by_cases hf : f k = true
    · rw [if_pos hf]
      by_cases hv : U k = v
      · rw [hv]; omega
      · rw [cntF, if_neg (fun z => hv z.2)]; omega
    · rw [if_neg hf, cntF, if_neg (fun z => hf z.1)]; exact ih
theorem ml_wa {f : Nat → Bool} {U : Nat → Int32} : ∀ {k : Nat}, k ≤ 256 → mlF f U k ≤ waF f U k
  | 0, _ => Nat.le_refl _
  | k + 1, hk => by
    have ih := ml_wa (f := f) (U := U) (k := k) (by omega)
    rw [mlF_s, waF]
    by_cases hf : f k = true
    · rw [if_pos hf, if_pos hf]
      have := cntF_mono (f := f) (U := U) (v := U k) (k := k + 1) (j := 256) hk
      omega
    · rw [if_neg hf, if_neg hf]; exact ih
theorem wa_ml {f : Nat → Bool} {U : Nat → Int32} : ∀ k : Nat, waF f U k ≤ mlF f U 256
  | 0 => Nat.zero_le _
  | k + 1 => by
    have ih := wa_ml (f := f) (U := U) k
    have := cnt_ml (f := f) (U := U) (v := U k) 256
    rw [waF]
    split <;> omega
theorem wa_eq {f : Nat → Bool} {U : Nat → Int32} : waF f U 256 = mlF f U 256 := Nat.le_antisymm (wa_ml 256) (ml_wa (Nat.le_refl _))
theorem mlF_le {f : Nat → Bool} {U : Nat → Int32} : ∀ {k : Nat}, k ≤ 256 → mlF f U k ≤ 256
  | 0, _ => by show 0 ≤ 256; omega
  | k + 1, hk => by
    have ih := mlF_le (f := f) (U := U) (k := k) (by omega)
    have h1 := cntF_le (f := f) (U := U) (v := U k) (k + 1)
    have h2 := cnF_le (f := f) (k + 1)
    rw [mlF_s]
    split <;> omega
def bestL (S : Int32 × Nat) (w : Int32) (v : Nat) : Int32 × Nat := if v < S.2 then (w, v) else S
def lkI (f : Nat → Bool) (V : Nat → Nat → Nat → Int32) (p : Nat) (S : Int32 × Nat) : Nat → Int32 × Nat
  | 0 => S
  | m + 1 => bestL (lkI f V p S m) (nI (10 * p + (m + 1))) (mlF f (fun c => V c p (m + 1)) 256)
def lkO (f : Nat → Bool) (V : Nat → Nat → Nat → Int32) : Nat → Int32 × Nat
  | 0 => (-4, cnF f 256)
  | p + 1 => lkI f V p (lkO f V p) 4
theorem lkI_le {f : Nat → Bool} {V : Nat → Nat → Nat → Int32} {p : Nat} {S : Int32 × Nat} (hS : S.2 ≤ 256) : ∀ m : Nat, (lkI f V p S m).2 ≤ 256
  | 0 => hS
  | m + 1 => by
    have ih := lkI_le (f := f) (V := V) (p := p) hS m
    rw [lkI]
    unfold bestL
    split
    · exact mlF_le (Nat.le_refl _)
    · exact ih
theorem lkO_le {f : Nat → Bool} {V : Nat → Nat → Nat → Int32} : ∀ p : Nat, (lkO f V p).2 ≤ 256
  | 0 => cnF_le 256
  | p + 1 => lkI_le (lkO_le p) 4
noncomputable def oLook (a : jH) (x : Int32) : Int32 × jH := iteR (nI 0 ≤ x ∧ x ≤ nI 1) (foundF (lkO (fitA a) (pw (ix (a 131 2)) (pg a 0)) (ix (a 131 2))) x, a) (-1, a)
/-- the tally: how often a purse was met so far -/
def tlF (U : Nat → Int32) (g : Nat → Int32) (v : Int32) : Nat → Nat
  | 0 => 0
  | j + 1 => if U (ix (g j)) = v then tlF U g v j + 1 else tlF U g v j
theorem tl_cnt {f : Nat → Bool} {U g : Nat → Int32} {v : Int32} : ∀ {k : Nat}, k < 1000 → lst f g k → tlF U g v (cnF f k) = cntF f U v k
  | 0, _, _ => rfl
  | k + 1, hk, h => by
    have ih := tl_cnt (U := U) (v := v) (k := k) (by omega) (fun c hc hf => h c (by omega) hf)
    rw [cnF, cntF]
    by_cases hf : f k = true
    · rw [if_pos hf, tlF, h k (by omega) hf, ix_nI (by omega), ih]
      by_cases hv : U k = v
      · rw [if_pos hv, if_pos ⟨hf, hv⟩]
      · rw [if_neg hv, if_neg (fun z => hv z.2)]
    · rw [if_neg hf, if_neg (fun z => hf z.1)]; exact ih
/-- the greatest tally while the list is gone through -/
def tmF (U : Nat → Int32) (g : Nat → Int32) : Nat → Nat
  | 0 => 0
  | j + 1 => max (tmF U g j) (tlF U g (U (ix (g j))) (j + 1))
theorem tm_ml {f : Nat → Bool} {U g : Nat → Int32} : ∀ {k : Nat}, k < 1000 → lst f g k → tmF U g (cnF f k) = mlF f U k
  | 0, _, _ => rfl
  | k + 1, hk, h => by
    have ih := tm_ml (U := U) (k := k) (by omega) (fun c hc hf => h c (by omega) hf)
    rw [cnF, mlF_s]
    by_cases hf : f k = true
    · rw [if_pos hf, if_pos hf, tmF, ih, h k (by omega) hf, ix_nI (by omega)]
      have := tl_cnt (U := U) (v := U k) (k := k + 1) hk h
      rw [cnF, if_pos hf] at this
      rw [this]
    · rw [if_neg hf, if_neg hf]; exact ih
theorem tlF_le {U g : Nat → Int32} {v : Int32} : ∀ j : Nat, tlF U g v j ≤ j
  | 0 => Nat.le_refl _
  | j + 1 => by
    have := tlF_le (U := U) (g := g) (v := v) j
    rw [tlF]
    split <;> omega
theorem tmF_le {U g : Nat → Int32} : ∀ j : Nat, tmF U g j ≤ j
  | 0 => Nat.le_refl _
  | j + 1 => by
    have h1 := tmF_le (U := U) (g := g) j
    have h2 := tlF_le (U := U) (g := g) (v := U (ix (g j))) (j + 1)
    rw [tmF]
    omega
/-- what is still tallied when the first so many were cleared -/
def clF (U g : Nat → Int32) (N : Nat) (v : Int32) : Nat → Nat
  | 0 => tlF U g v N
  | j + 1 => if U (ix (g j)) = v then 0 else clF U g N v j
theorem clF_0 {U g : Nat → Int32} {N : Nat} {v : Int32} : ∀ {j : Nat}, tlF U g v j ≠ 0 → clF U g N v j = 0
  | 0, h => absurd rfl h
  | j + 1, h => by
    rw [tlF] at h
    rw [clF]
    by_cases z : U (ix (g j)) = v
    · rw [if_pos z]
    · rw [if_neg z] at h ⊢; exact clF_0 h
theorem clF_n {U g : Nat → Int32} {N : Nat} {v : Int32} : ∀ {j : Nat}, tlF U g v j = 0 → clF U g N v j = tlF U g v N
  | 0, _ => rfl
  | j + 1, h => by
    rw [tlF] at h
    rw [clF]
    by_cases z : U (ix (g j)) = v
    · rw [if_pos z] at h; omega
    · rw [if_neg z] at h ⊢; exact clF_n h
theorem clF_end {U g : Nat → Int32} {N : Nat} {v : Int32} : clF U g N v N = 0 := by
  by_cases z : tlF U g v N = 0
  · rw [clF_n z, z]
  · exact clF_0 z
theorem pw_nb {n c p m : Nat} {P : Nat → Int32} (hG : GD n P) (hp : p < n) : nb 1000 (pw n P c p m) := ((sk_ok hG m _).1.2.2.2.2.2.2.1 p hp).1
