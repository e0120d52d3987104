/-! a valley of the class against a page -/
def fo (w : Nat) : Int32 := nI (if w = 3 then 1 else 3)
def XV (n : Nat) (P : Nat → Int32) (h : jH) (v : Nat) : Prop :=
  h v 0 = nI n ∧ (∀ p, p < n → h (v + 2) p = P p ∧ h (v + 3) p = P (4 + p) ∧ h (v + 4) p = P (8 + p)) ∧ h v 3 = P 37 ∧
  (∀ c, c < ix (P 37) → ∀ j, j < 5 → h (v + 6 + j) c = P (12 + 5 * c + j)) ∧ (∀ w, w < 4 → h (v + 11) w = P (38 + w) + fo w) ∧ h v 6 = P 42 + nI 5 ∧ h v 7 = P 51 ∧
  (∀ i, i < ix (P 51) → h (v + 12) i = P (43 + i)) ∧ (∀ p q, p < 4 → q < 4 → h (v + 14 + p) q = P (53 + 4 * p + q))
def gdV (n : Nat) (P : Nat → Int32) : Prop := n ≤ 4 ∧ (∀ p, p < n → nb 4 (P p)) ∧ nb 6 (P 37) ∧ (∀ c, c < ix (P 37) → nb n (P (12 + 5 * c)) ∧ nb n (P (12 + 5 * c + 1)))
def γP (P : Nat → Int32) (w p : Nat) : Int32 := j_bri.getD (4 * ix (P p) + w) 0 * P (4 + p)
def liveP (n w : Nat) (P : Nat → Int32) : (Nat → Int32) × Int32 := cvF w (w1 (γP P w) P n) (ix (P 37))
theorem gdV.cv {n : Nat} {P : Nat → Int32} (h : gdV n P) : cvOK P := ⟨h.2.2.1, fun c hc => ⟨(h.2.2.2 c hc).1.mono h.1, (h.2.2.2 c hc).2.mono h.1⟩⟩
theorem onesR {v k : Nat} (hk : k < 3) : ([some (v + 2), some (v + 3), some (v + 4)] : List (Option Nat))[k]? = some (some (v + 2 + k)) := by
  match k, hk with
  | 0, _ => rfl
  | 1, _ => rfl
  | 2, _ => rfl
theorem termsR {v k : Nat} (hk : k < 5) : ([some (v + 6), some (v + 7), some (v + 8), some (v + 9), some (v + 10)] : List (Option Nat))[k]? = some (some (v + 6 + k)) := by
  match k, hk with
  | 0, _ => rfl
  | 1, _ => rfl
  | 2, _ => rfl
  | 3, _ => rfl
  | 4, _ => rfl
theorem debtsR {v k : Nat} (hk : k < 4) : ([some (v + 14), some (v + 15), some (v + 16), some (v + 17)] : List (Option Nat))[k]? = some (some (v + 14 + k)) := by
  match k, hk with
  | 0, _ => rfl
  | 1, _ => rfl
  | 2, _ => rfl
  | 3, _ => rfl
theorem onesRS {v k : Nat} (hv : isV v) (hk : k < 3) : SH[v + 2 + k]? = some (.inl (0, 4)) := by
  match k, hk with
  | 0, _ => exact sv2 hv
  | 1, _ => exact sv3 hv
  | 2, _ => exact sv4 hv
theorem termsRS {v k : Nat} (hv : isV v) (hk : k < 5) : SH[v + 6 + k]? = some (.inl (0, 5)) := by
  match k, hk with
  | 0, _ => exact sv6 hv
  | 1, _ => exact sv7 hv
  | 2, _ => exact sv8 hv
  | 3, _ => exact sv9 hv
  | 4, _ => exact sv10 hv
theorem debtsRS {v k : Nat} (hv : isV v) (hk : k < 4) : SH[v + 14 + k]? = some (.inl (0, 4)) := by
  match k, hk with
  | 0, _ => exact sv14 hv
  | 1, _ => exact sv15 hv
  | 2, _ => exact sv16 hv
  | 3, _ => exact sv17 hv
/-- purses and debts of a valley -/
def vset (h : jH) (v : Nat) (U : Nat → Int32) (D : Nat → Nat → Int32) : jH := fun b k => if b = v + 4 then U k else if v + 14 ≤ b ∧ b < v + 18 then D (b - (v + 14)) k else h b k
theorem vset_u {h : jH} {v k : Nat} {U : Nat → Int32} {D : Nat → Nat → Int32} : vset h v U D (v + 4) k = U k := by simp [vset]
theorem vset_d {h : jH} {v p k : Nat} {U : Nat → Int32} {D : Nat → Nat → Int32} (hp : p < 4) : vset h v U D (v + 14 + p) k = D p k := by
  have h1 : ¬ v + 14 + p = v + 4 := by omega
  have h2 : v + 14 ≤ v + 14 + p ∧ v + 14 + p < v + 18 := by omega
  have h3 : v + 14 + p - (v + 14) = p := by omega
  simp only [vset, if_neg h1, if_pos h2, h3]
theorem vset_o {h : jH} {v b : Nat} {U : Nat → Int32} {D : Nat → Nat → Int32} (h1 : b ≠ v + 4) (h2 : b < v + 14 ∨ v + 18 ≤ b) : vset h v U D b = h b := by
  funext k
  have h3 : ¬ (v + 14 ≤ b ∧ b < v + 18) := by omega
  simp only [vset, if_neg h1, if_neg h3]
theorem vset_x {h : jH} {v b k : Nat} {U : Nat → Int32} {D : Nat → Nat → Int32} {x : Int32} (h1 : b ≠ v + 4) (h2 : b < v + 14 ∨ v + 18 ≤ b) (hx : h b k = x) : vset h v U D b k = x := by rw [vset_o h1 h2]; exact hx
theorem vset_uu {h : jH} {v k : Nat} {U : Nat → Int32} {D : Nat → Nat → Int32} {x : Int32} : j_up (vset h v U D) (v + 4) k x = vset h v (upd U k x) D := by
  funext b j
  by_cases hb : b = v + 4
  · subst hb
    by_cases hj : j = k <;> simp [j_up, vset, upd, hj]
  · simp [j_up, vset, hb]
theorem vset_ud {h : jH} {v p k : Nat} {U : Nat → Int32} {D : Nat → Nat → Int32} {x : Int32} (hp : p < 4) : j_up (vset h v U D) (v + 14 + p) k x = vset h v U (fun a => if a = p then upd (D p) k x else D a) := by
  funext b j
  by_cases hb : b = v + 14 + p
  · subst hb
    have h1 : ¬ v + 14 + p = v + 4 := by omega
    have h2 : v + 14 ≤ v + 14 + p ∧ v + 14 + p < v + 18 := by omega
    have h3 : v + 14 + p - (v + 14) = p := by omega
    by_cases hj : j = k
    · simp only [j_up, vset, if_neg h1, if_pos h2, h3, upd, hj, and_self, if_true]
    · simp only [j_up, vset, if_neg h1, if_pos h2, h3, upd, hj, and_false, if_false, if_true]
  · by_cases h4 : b = v + 4
    · simp [j_up, vset, h4]
      omega
    · by_cases h2 : v + 14 ≤ b ∧ b < v + 18
      · have h3 : ¬ b - (v + 14) = p := by omega
        simp only [j_up, vset, if_neg h4, if_pos h2, hb, false_and, if_false, if_neg h3]
      · simp only [j_up, vset, if_neg h4, if_neg h2, hb, false_and, if_false]
theorem vset_self {h : jH} {v : Nat} : vset h v (h (v + 4)) (fun p => h (v + 14 + p)) = h := by
  funext b j
  unfold vset
  split
  next e => rw [e]
  next e =>
    split
    next e2 => show h (v + 14 + (b - (v + 14))) j = _; rw [show v + 14 + (b - (v + 14)) = b by omega]
    next e2 => rfl
def UD (n : Nat) (U : Nat → Int32) (D : Nat → Nat → Int32) (P : Nat → Int32) : Prop := (∀ p, p < n → U p = P (8 + p)) ∧ ∀ p q, p < 4 → q < 4 → D p q = P (53 + 4 * p + q)
theorem UD.pay {n p q : Nat} {U : Nat → Int32} {D : Nat → Nat → Int32} {P : Nat → Int32} {v : Int32} (h : UD n U D P) (hn : n ≤ 4) (hp : p < n) (hq : q < n) :
    UD n (upd (upd U p (U p - payF (U p) v)) q (capF (U q + payF (U p) v))) (fun a => if a = p then upd (D p) q (D p q + (v - payF (U p) v)) else D a) (payP p q v P) := by
  have ep := h.1 p hp
  have eq := h.1 q hq
  refine ⟨fun k hk => ?_, fun a b ha hb => ?_⟩
  · unfold payP pay2
    rw [upd_ne (j := 8 + k) (by omega)]
    by_cases e1 : k = q
    · subst e1
      rw [upd_at, upd_at, ep, eq]
    · rw [upd_ne e1, upd_ne (j := 8 + k) (by omega)]
      by_cases e2 : k = p
      · subst e2
        rw [upd_at, upd_at, ep]
      · rw [upd_ne e2, upd_ne (by omega)]
        exact h.1 k hk
  · have hpp : pay2 p q v P (53 + 4 * a + b) = P (53 + 4 * a + b) := by
      unfold pay2
      rw [upd_ne (by omega), upd_ne (by omega)]
    unfold payP
    by_cases e1 : a = p
    · subst e1
      dsimp only
      rw [if_pos rfl]
      by_cases e2 : b = q
      · subst e2
        rw [upd_at, upd_at, hpp, h.2 a b ha hb, ep]
      · rw [upd_ne e2, upd_ne (by omega), hpp]
        exact h.2 a b ha hb
    · dsimp only
      rw [if_neg e1, upd_ne (by omega), hpp]
      exact h.2 a b ha hb
theorem mm_clamp (v : Int32) : (if nI 0 < (if v < nI 999 then v else nI 999) then (if v < nI 999 then v else nI 999) else nI 0) = clampP v := by
  have e0 : (nI 0).toInt = 0 := rfl
  have e9 : (nI 999).toInt = 999 := rfl
  have ez : (0 : Int32).toInt = 0 := rfl
  unfold clampP
  by_cases h1 : v < nI 999
  · rw [if_pos h1]
    have h2 : v ≤ nI 999 := Int32.le_of_lt h1
    by_cases h3 : nI 0 < v
    · rw [if_pos h3, if_pos (show (0 : Int32) ≤ v from Int32.le_of_lt h3), if_pos h2]
    · rw [if_neg h3]
      by_cases h4 : 0 ≤ v
      · rw [if_pos h4, if_pos h2]
        rw [i_lt] at h3
        rw [i_le] at h4
        rw [i_eq]
        omega
      · rw [if_neg h4]
  · rw [if_neg h1]
    have h5 : nI 0 < nI 999 := by decide
    rw [if_pos h5]
    rw [i_lt] at h1
    have h6 : 0 ≤ v := by rw [i_le]; omega
    rw [if_pos h6]
    by_cases h7 : v ≤ nI 999
    · rw [if_pos h7]
      rw [i_le] at h7
      rw [i_eq]
      omega
    · rw [if_neg h7]
theorem UD.w1 {n k : Nat} {U : Nat → Int32} {D : Nat → Nat → Int32} {γ P : Nat → Int32} (h : UD n U D (w1 γ P k)) (hn : n ≤ 4) (hk : k < n) : UD n (upd U k (clampP (U k + γ k))) D (w1 γ P (k + 1)) := by
  refine ⟨fun p hp => ?_, fun p q hp hq => ?_⟩
  · show _ = upd _ _ _ _
    by_cases e : p = k
    · subst e
      rw [upd_at, upd_at, h.1 p hp]
    · rw [upd_ne e, upd_ne (by omega)]
      exact h.1 p hp
  · show _ = upd _ _ _ _
    rw [upd_ne (by omega)]
    exact h.2 p q hp hq
theorem XV_vset {n v : Nat} {P P' : Nat → Int32} {h : jH} {U : Nat → Int32} {D : Nat → Nat → Int32} (hn : n ≤ 4) (h6 : ix (P 37) < 6) (h51 : ix (P 51) < 9) (hX : XV n P h v) (hu : UD n U D P') (hk : ∀ k, (k < 8 ∨ (12 ≤ k ∧ k < 53)) → P' k = P k) : XV n P' (vset h v U D) v := by
  obtain ⟨x1, x2, x3, x4, x5, x6, x7, x8, x9⟩ := hX
  have o : ∀ b, b ≠ v + 4 → (b < v + 14 ∨ v + 18 ≤ b) → vset h v U D b = h b := fun b h1 h2 => vset_o h1 h2
  have e37 := hk 37 (by omega)
  have e51 := hk 51 (by omega)
  refine ⟨by rw [o v (by omega) (by omega)]; exact x1, fun p hp => ⟨?_, ?_, ?_⟩, by rw [o v (by omega) (by omega), e37]; exact x3, fun c hc j hj => ?_, fun w hw => ?_, by rw [o v (by omega) (by omega), hk 42 (by omega)]; exact x6, by rw [o v (by omega) (by omega), e51]; exact x7, fun i hi => ?_, fun p q hp hq => ?_⟩
  · rw [o _ (by omega) (by omega), hk p (by omega)]; exact (x2 p hp).1
  · rw [o _ (by omega) (by omega), hk (4 + p) (by omega)]; exact (x2 p hp).2.1
  · rw [vset_u]; exact hu.1 p hp
  · rw [e37] at hc
    rw [o _ (by omega) (by omega), hk _ (by omega)]; exact x4 c hc j hj
  · rw [o _ (by omega) (by omega), hk _ (by omega)]; exact x5 w hw
  · rw [e51] at hi
    rw [o _ (by omega) (by omega), hk _ (by omega)]; exact x8 i hi
  · rw [vset_d hp]; exact hu.2 p q hp hq
theorem liveP_keep {n w k : Nat} {P : Nat → Int32} (h : gdV n P) (hk : k < 8 ∨ (12 ≤ k ∧ k < 53)) : (liveP n w P).1 k = P k := by
  unfold liveP
  have e37 : w1 (γP P w) P n 37 = P 37 := w1_keep h.1 (by omega)
  rw [cvF_keep (w1_cvOK h.1 h.cv) hk (by rw [e37]; exact Nat.le_refl _), w1_keep h.1 (by omega)]
theorem XV.ud {n v : Nat} {P : Nat → Int32} {h : jH} (hX : XV n P h v) : UD n (h (v + 4)) (fun p => h (v + 14 + p)) P := ⟨fun p hp => (hX.2.1 p hp).2.2, fun p q hp hq => hX.2.2.2.2.2.2.2.2 p q hp hq⟩
