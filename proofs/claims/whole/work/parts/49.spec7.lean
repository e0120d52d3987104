/-! weeks ahead: a page behind a run of weathers; the tree of purses -/
def skP (n : Nat) (P : Nat → Int32) : Nat → Nat → (Nat → Int32)
  | 0, _ => P
  | m + 1, c => (liveP n (c % 4) (skP n P m (c / 4))).1
def fst4 : Nat → Nat
  | 0 => 0
  | m + 1 => 4 * fst4 m + 1
theorem fst_v {m : Nat} (hm : m < 5) : j_fst.getD m 0 = nI (fst4 m) := by
  match m, hm with
  | 0, _ => rfl
  | 1, _ => rfl
  | 2, _ => rfl
  | 3, _ => rfl
  | 4, _ => rfl
theorem fst_b {m c : Nat} (hm : m ≤ 4) (hc : c < 4 ^ m) : fst4 m + c < 341 := by
  match m, hm with
  | 0, _ => simp [fst4] at hc ⊢; omega
  | 1, _ => simp [fst4] at hc ⊢; omega
  | 2, _ => simp [fst4] at hc ⊢; omega
  | 3, _ => simp [fst4] at hc ⊢; omega
  | 4, _ => simp [fst4] at hc ⊢; omega
  | m + 5, h => omega
theorem fst_85 {m : Nat} (hm : m ≤ 4) : fst4 m ≤ 85 := by
  match m, hm with
  | 0, _ => decide
  | 1, _ => decide
  | 2, _ => decide
  | 3, _ => decide
  | 4, _ => decide
  | m + 5, h => omega
theorem p4_b {m : Nat} (hm : m ≤ 4) : 4 ^ m ≤ 256 ∧ 1 ≤ 4 ^ m := ⟨Nat.le_trans (Nat.pow_le_pow_right (by omega) hm) (by decide), Nat.pow_pos (by omega)⟩
def ndP (n : Nat) (P : Nat → Int32) (j : Nat) : Nat → Int32 := if h : j = 0 then P else (liveP n ((j - 1) % 4) (ndP n P ((j - 1) / 4))).1
termination_by j
decreasing_by omega
theorem ndP_0 {n : Nat} {P : Nat → Int32} : ndP n P 0 = P := by rw [ndP]; simp
theorem ndP_s {n i w : Nat} {P : Nat → Int32} (hw : w < 4) : ndP n P (4 * i + 1 + w) = (liveP n w (ndP n P i)).1 := by
  rw [ndP]
  have h1 : ¬ 4 * i + 1 + w = 0 := by omega
  rw [dif_neg h1, show (4 * i + 1 + w - 1) % 4 = w by omega, show (4 * i + 1 + w - 1) / 4 = i by omega]
theorem ndP_sk {n : Nat} {P : Nat → Int32} : ∀ {m c : Nat}, c < 4 ^ m → ndP n P (fst4 m + c) = skP n P m c
  | 0, c, hc => by
    have : c = 0 := by simp at hc; omega
    subst this
    exact ndP_0
  | m + 1, c, hc => by
    rw [Nat.pow_succ] at hc
    rw [show fst4 (m + 1) + c = 4 * (fst4 m + c / 4) + 1 + c % 4 by rw [fst4]; omega, ndP_s (by omega), ndP_sk (m := m) (by omega), skP]
def lpR (n : Nat) (P Q : Nat → Int32) : Prop := (∀ k, (k < 8 ∨ (12 ≤ k ∧ k < 52)) → Q k = P k) ∧ ∀ p, p < n → Q (8 + p) = P (8 + p)
theorem gdV_r {n : Nat} {P Q : Nat → Int32} (hG : gdV n P) (e : ∀ k, (k < 8 ∨ (12 ≤ k ∧ k < 52)) → Q k = P k) : gdV n Q := by
  obtain ⟨g1, g2, g3, g4⟩ := hG
  have h6 := g3.2
  have e37 := e 37 (by omega)
  refine ⟨g1, fun p hp => by rw [e p (by omega)]; exact g2 p hp, by rw [e37]; exact g3, fun c hc => ?_⟩
  rw [e37] at hc
  rw [e _ (by omega), e _ (by omega)]; exact g4 c hc
theorem payP_r {n p q : Nat} {v : Int32} {P Q : Nat → Int32} (hn : n ≤ 4) (hp : p < n) (hq : q < n) (e : ∀ k, k < n → Q (8 + k) = P (8 + k)) : ∀ k, k < n → payP p q v Q (8 + k) = payP p q v P (8 + k) := fun k hk => by
  unfold payP
  rw [upd_ne (by omega), upd_ne (by omega)]
  unfold pay2
  rw [e p hp, e q hq]
  by_cases e1 : k = q
  · subst e1; rw [upd_at, upd_at]
  · have h1 : ¬ 8 + k = 8 + q := by omega
    simp only [upd, h1, if_false]
    by_cases e2 : k = p
    · subst e2; simp only [if_true]
    · have h2 : ¬ 8 + k = 8 + p := by omega
      simp only [h2, if_false]; exact e k hk
theorem w1_r {n : Nat} {γ γ' P Q : Nat → Int32} (hn : n ≤ 4) (e : ∀ k, k < n → Q (8 + k) = P (8 + k)) (hg : ∀ k, k < n → γ' k = γ k) : ∀ {m : Nat}, m ≤ n → ∀ k, k < n → w1 γ' Q m (8 + k) = w1 γ P m (8 + k)
  | 0, _, k, hk => e k hk
  | m + 1, hm, k, hk => by
    have ih := w1_r hn e hg (m := m) (by omega)
    rw [w1, w1, ih m (by omega), hg m (by omega)]
    by_cases z : k = m
    · subst z; rw [upd_at, upd_at]
    · rw [upd_ne (by omega), upd_ne (by omega)]; exact ih k hk
theorem cvF_r {n w : Nat} {P Q : Nat → Int32} (hP : gdV n P) (hQ : gdV n Q) (e : lpR n P Q) : ∀ {c : Nat}, c ≤ ix (P 37) → ∀ k, k < n → (cvF w Q c).1 (8 + k) = (cvF w P c).1 (8 + k)
  | 0, _, k, hk => e.2 k hk
  | c + 1, hc, k, hk => by
    have h6 := hP.2.2.1.2
    have e37 : Q 37 = P 37 := e.1 37 (by omega)
    have ih := cvF_r (w := w) hP hQ e (c := c) (by omega)
    obtain ⟨n1, n2⟩ := hP.2.2.2 c (by omega)
    have kP : ∀ j, (j < 8 ∨ (12 ≤ j ∧ j < 53)) → (cvF w P c).1 j = P j := fun j hj => cvF_keep hP.cv hj (by omega)
    have kQ : ∀ j, (j < 8 ∨ (12 ≤ j ∧ j < 53)) → (cvF w Q c).1 j = Q j := fun j hj => cvF_keep hQ.cv hj (by rw [e37]; omega)
    have aP : ∀ j, (j < 8 ∨ (12 ≤ j ∧ j < 53)) → (cvA w c (cvF w P c)).1 j = P j := fun j hj => cvA_keep hP.cv hj (by omega)
    have aQ : ∀ j, (j < 8 ∨ (12 ≤ j ∧ j < 53)) → (cvA w c (cvF w Q c)).1 j = Q j := fun j hj => cvA_keep hQ.cv hj (by rw [e37]; omega)
    have hA : ∀ k, k < n → (cvA w c (cvF w Q c)).1 (8 + k) = (cvA w c (cvF w P c)).1 (8 + k) := fun k hk => by
      unfold cvA
      rw [kQ (12 + 5 * c + 2) (by omega), kP (12 + 5 * c + 2) (by omega), e.1 (12 + 5 * c + 2) (by omega), kQ (12 + 5 * c) (by omega), kP (12 + 5 * c) (by omega), e.1 (12 + 5 * c) (by omega), kQ (12 + 5 * c + 1) (by omega), kP (12 + 5 * c + 1) (by omega), e.1 (12 + 5 * c + 1) (by omega), kQ (12 + 5 * c + 3) (by omega), kP (12 + 5 * c + 3) (by omega), e.1 (12 + 5 * c + 3) (by omega)]
      split
      · exact payP_r hP.1 n1.2 n2.2 ih k hk
      · exact ih k hk
    rw [cvF, cvF]
    unfold cvB
    rw [aQ (12 + 5 * c) (by omega), aP (12 + 5 * c) (by omega), e.1 (12 + 5 * c) (by omega), aQ (12 + 5 * c + 1) (by omega), aP (12 + 5 * c + 1) (by omega), e.1 (12 + 5 * c + 1) (by omega), aQ (12 + 5 * c + 4) (by omega), aP (12 + 5 * c + 4) (by omega), e.1 (12 + 5 * c + 4) (by omega)]
    exact payP_r hP.1 n2.2 n1.2 hA k hk
theorem live_r {n w : Nat} {P Q : Nat → Int32} (hP : gdV n P) (e : lpR n P Q) : lpR n (liveP n w P).1 (liveP n w Q).1 := by
  have hQ := gdV_r hP e.1
  have hn := hP.1
  refine ⟨fun k hk => by rw [liveP_keep hQ (by omega), liveP_keep hP (by omega)]; exact e.1 k hk, fun p hp => ?_⟩
  have g : ∀ k, k < n → γP Q w k = γP P w k := fun k hk => by unfold γP; rw [e.1 k (by omega), e.1 (4 + k) (by omega)]
  have ww : lpR n (w1 (γP P w) P n) (w1 (γP Q w) Q n) := ⟨fun k hk => by rw [w1_keep hn (by omega), w1_keep hn (by omega)]; exact e.1 k hk, w1_r hn e.2 g (Nat.le_refl n)⟩
  have gd : ∀ R γ, gdV n R → gdV n (w1 γ R n) := fun R γ h => gdV_r h (fun k hk => w1_keep hn (by omega))
  unfold liveP
  rw [e.1 37 (by omega)]
  have e37 : w1 (γP P w) P n 37 = P 37 := w1_keep hn (by omega)
  exact cvF_r (gd _ _ hP) (gd _ _ hQ) ww (Nat.le_of_eq (congrArg ix e37.symm)) p hp
theorem sk_ok {n : Nat} {P : Nat → Int32} (hG : GD n P) : ∀ m c : Nat, GD n (skP n P m c) ∧ ∀ j, (j < 8 ∨ (12 ≤ j ∧ j < 53)) → (skP n P m c) j = P j
  | 0, _ => ⟨hG, fun _ _ => rfl⟩
  | m + 1, c => by
    obtain ⟨i1, i2⟩ := sk_ok hG m (c / 4)
    refine ⟨GD_live i1, fun j hj => ?_⟩
    rw [skP]
    exact (liveP_keep i1.1 hj).trans (i2 j hj)
theorem nd_ok {n : Nat} {P : Nat → Int32} (hG : GD n P) (j : Nat) : GD n (ndP n P j) ∧ ∀ k, (k < 8 ∨ (12 ≤ k ∧ k < 53)) → (ndP n P j) k = P k := by
  induction j using Nat.strongRecOn with
  | _ j ih =>
    by_cases z : j = 0
    · subst z; rw [ndP_0]; exact ⟨hG, fun _ _ => rfl⟩
    · obtain ⟨i1, i2⟩ := ih ((j - 1) / 4) (by omega)
      rw [ndP, dif_neg z]
      exact ⟨GD_live i1, fun k hk => (liveP_keep i1.1 hk).trans (i2 k hk)⟩
/-- the trial of the outlook; a node of the tree -/
def TR (n : Nat) (P : Nat → Int32) (h : jH) : Prop := ∃ Q, XV n Q h 60 ∧ ∀ k, (k < 8 ∨ (12 ≤ k ∧ k < 52)) → Q k = P k
def nd (n : Nat) (h : jH) (i : Nat) (R : Nat → Int32) : Prop := ∀ p, p < n → h 78 (4 * i + p) = R (8 + p)
def setU (Q U : Nat → Int32) : Nat → Int32 := fun k => if 8 ≤ k ∧ k < 12 then U (k - 8) else Q k
theorem setU_o {Q U : Nat → Int32} {k : Nat} (hk : k < 8 ∨ 12 ≤ k) : setU Q U k = Q k := if_neg (by omega)
theorem setU_u {Q U : Nat → Int32} {p : Nat} (hp : p < 4) : setU Q U (8 + p) = U p := by
  rw [setU, if_pos (by omega), show 8 + p - 8 = p by omega]
theorem XV_setU {n v : Nat} {Q f : Nat → Int32} {h : jH} (hX : XV n Q h v) (hn : n ≤ 4) : XV n (setU Q f) (j_row h (v + 4) f) v := by
  obtain ⟨x1, x2, x3, x4, x5, x6, x7, x8, x9⟩ := hX
  have o : ∀ b, b ≠ v + 4 → j_row h (v + 4) f b = h b := fun b hb => j_row_ne b hb
  have e37 : setU Q f 37 = Q 37 := setU_o (by omega)
  have e51 : setU Q f 51 = Q 51 := setU_o (by omega)
  refine ⟨by rw [o _ (by omega)]; exact x1, fun p hp => ⟨by rw [o _ (by omega), setU_o (by omega)]; exact (x2 p hp).1, by rw [o _ (by omega), setU_o (by omega)]; exact (x2 p hp).2.1, by rw [j_row_at, setU_u (by omega)]⟩, by rw [o _ (by omega), e37]; exact x3, fun c hc j hj => ?_, fun w hw => by rw [o _ (by omega), setU_o (by omega)]; exact x5 w hw, by rw [o _ (by omega), setU_o (by omega)]; exact x6, by rw [o _ (by omega), e51]; exact x7, fun i hi => ?_, fun p q hp hq => by rw [o _ (by omega), setU_o (by omega)]; exact x9 p q hp hq⟩
  · rw [e37] at hc
    rw [o _ (by omega), setU_o (by omega)]; exact x4 c hc j hj
  · rw [e51] at hi
    rw [o _ (by omega), setU_o (by omega)]; exact x8 i hi
/-- shifts of a code -/
theorem shr4 {c j : Nat} (hc : c < 2 ^ 31) (hj : j ≤ 4) : nI c >>> (nI (2 * j) &&& 31) = nI (c / 4 ^ j) := by
  match j, hj with
  | 0, _ => exact pk_shrN hc _ 0 (by decide)
  | 1, _ => exact pk_shrN hc _ 2 (by decide)
  | 2, _ => exact pk_shrN hc _ 4 (by decide)
  | 3, _ => exact pk_shrN hc _ 6 (by decide)
  | 4, _ => exact pk_shrN hc _ 8 (by decide)
  | j + 5, h => omega
theorem and3 {c : Nat} (hc : c < 2 ^ 31) : nI c &&& nI 3 = nI (c % 4) := pk_andN (by omega) 2 (by decide)
theorem div4_lt {c m : Nat} (hc : c < 4 ^ m) (j : Nat) : c / 4 ^ j < 2 ^ 31 ∨ True := Or.inr trivial
def flF (U : Nat → Int32) : Nat → Nat
  | 0 => 0
  | k + 1 => if U (k + 1) < U (flF U k) then k + 1 else flF U k
theorem flF_le {U : Nat → Int32} : ∀ k : Nat, flF U k ≤ k
  | 0 => Nat.le_refl _
  | k + 1 => by
    have := flF_le (U := U) k
    rw [flF]
    split <;> omega
def mxF (U : Nat → Int32) : Nat → Int32
  | 0 => nI 0
  | k + 1 => if mxF U k < U k then U k else mxF U k
def skU (n : Nat) (P : Nat → Int32) (m p : Nat) : Nat → Int32 := fun c => skP n P m c (8 + p)
noncomputable def oLeast (a : jH) (p n x : Int32) : Int32 × jH := iteR (nb (ix (a 131 2)) p ∧ nb 5 n ∧ nI 0 ≤ x ∧ x ≤ nI 2)
  (sel x [skU (ix (a 131 2)) (pg a 0) (ix n) (ix p) (flF (skU (ix (a 131 2)) (pg a 0) (ix n) (ix p)) (4 ^ ix n - 1)), nI (flF (skU (ix (a 131 2)) (pg a 0) (ix n) (ix p)) (4 ^ ix n - 1))] 0 (mxF (skU (ix (a 131 2)) (pg a 0) (ix n) (ix p)) (4 ^ ix n)), a) (-1, a)
theorem fst_p : ∀ m : Nat, fst4 m + 4 ^ m = 4 * fst4 m + 1
  | 0 => by decide
  | m + 1 => by
    have := fst_p m
    rw [fst4, Nat.pow_succ]
    omega
theorem three_of {k : Int32} (h : nI 0 ≤ k ∧ k ≤ nI 2) : k = nI 0 ∨ k = nI 1 ∨ k = nI 2 := by
  have b := (in_nbc (n := 2) (c := nI 2) rfl (by omega)).mp h
  have h1 := b.1
  have h2 := b.2
  by_cases z : ix k = 0
  · rw [z] at h1; exact Or.inl h1
  · by_cases z2 : ix k = 1
    · rw [z2] at h1; exact Or.inr (Or.inl h1)
    · have z3 : ix k = 2 := by omega
      rw [z3] at h1; exact Or.inr (Or.inr h1)
theorem MR_same {h h' : jH} (hR : MR h) (s : sameP h h') : MR h' := by
  obtain ⟨r1, r2, r3, r4, ⟨r5, r6⟩, r7, r8, r9, ra⟩ := hR
  obtain ⟨s1, s2, s3⟩ := s
  have e2 := s2 2 (by omega)
  have pp : ∀ o, o + 69 ≤ 207 → ∀ k, k < 69 → pg h' o k = pg h o k := fun o ho k hk => s1 (o + k) (by omega)
  refine ⟨by rw [e2]; exact r1, by rw [e2]; exact GD_congr r2 (pp 0 (by omega)), fun k hk => ?_, by rw [s2 8 (by omega)]; exact r4, ⟨by rw [s2 21 (by omega)]; exact r5, fun i hi => ?_⟩, fun k hk => ?_, fun i hi => ?_, fun i hi => ?_, fun i hi => ?_⟩
  · rw [s3 142 (by omega), e2]
    rcases r3 k hk with z | ⟨z, z2⟩
    · exact Or.inl z
    · exact Or.inr ⟨z, GD_congr z2 (pp _ (by omega))⟩
  · rw [s2 21 (by omega)] at hi
    rw [s3 139 (by omega), e2]; exact r6 i hi
  · rw [s3 143 (by omega), s3 144 (by omega)]; exact r7 k hk
  · rw [s3 133 (by omega)]; exact r8 i hi
  · rw [s3 136 (by omega)]; exact r9 i hi
  · rw [s3 137 (by omega)]; exact ra i hi
theorem mset_mset {h : jH} {o : Nat} {P Q : Nat → Int32} : mset (mset h o P) o Q = mset h o Q := by
  funext b j
  unfold mset
  by_cases z : b = 132 ∧ o ≤ j ∧ j < o + 69
  · rw [if_pos z, if_pos z]
  · rw [if_neg z, if_neg z, if_neg z]
theorem sk_step {n k m c : Nat} {P : Nat → Int32} (hk : k < m) : skP n P (k + 1) (c / 4 ^ (m - (k + 1))) = (liveP n (c / 4 ^ (m - 1 - k) % 4) (skP n P k (c / 4 ^ (m - k)))).1 := by
  rw [skP, show m - (k + 1) = m - 1 - k by omega, Nat.div_div_eq_div_mul, ← Nat.pow_succ, show (m - 1 - k).succ = m - k by omega]
