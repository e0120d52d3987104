section JT
variable {g : jG} {d : Nat} {Y : jY} {b : Nat × Nat} {σ : List jD} {h : jH} {pc : Nat} {ls : List (Nat × Value)} {st : List Value} {Q : jQ}
theorem J_top {x : Int32} (k : ∀ v : Int32, v = x → J g d Y b σ h pc ls (.int v :: st) Q) : J g d Y b σ h pc ls (.int x :: st) Q := k x rfl
theorem J_joinZ {x : Int32} (jp : Nat) (v : Int32) (k : J g d Y b σ h jp ls (.int v :: st) Q) (f : J g d Y b σ h jp ls (.int v :: st) Q → J g d Y b σ h pc ls (.int x :: st) Q) : J g d Y b σ h pc ls (.int x :: st) Q := f k
theorem J_joinC {x y : Int32} (jp : Nat) (v : Int32) (k : J g d Y b σ h jp ls (.int v :: st) Q) (f : J g d Y b σ h jp ls (.int v :: st) Q → J g d Y b σ h pc ls (.int y :: .int x :: st) Q) : J g d Y b σ h pc ls (.int y :: .int x :: st) Q := f k
theorem J_h {h' : jH} (e : h = h') (k : J g d Y b σ h' pc ls st Q) : J g d Y b σ h pc ls st Q := e ▸ k
theorem J_st {st' : List Value} (e : st = st') (k : J g d Y b σ h pc ls st' Q) : J g d Y b σ h pc ls st Q := e ▸ k
end JT
/-! the reference's pages: 69 ints of its row, from o on -/
def pg (h : jH) (o : Nat) : Nat → Int32 := fun k => h 132 (o + k)
def mset (h : jH) (o : Nat) (P : Nat → Int32) : jH := fun b k => if b = 132 ∧ o ≤ k ∧ k < o + 69 then P (k - o) else h b k
theorem mset_at {h : jH} {o : Nat} {P : Nat → Int32} {i : Nat} (k : Nat) (hk : k < 69) (e : i = o + k) : mset h o P 132 i = P k := by
  subst e
  simp [mset, hk]
theorem mset_b {h : jH} {o b k : Nat} {P : Nat → Int32} {x : Int32} (hb : b ≠ 132) (hx : h b k = x) : mset h o P b k = x := by
  rw [← hx]
  simp [mset, hb]
theorem mset_ne {h : jH} {o b : Nat} {P : Nat → Int32} (hb : b ≠ 132) : mset h o P b = h b := by
  funext k
  simp [mset, hb]
theorem mset_out {h : jH} {o k : Nat} {P : Nat → Int32} (hk : k < o ∨ o + 69 ≤ k) : mset h o P 132 k = h 132 k := by
  have : ¬ (o ≤ k ∧ k < o + 69) := by omega
  simp [mset, this]
theorem mset_up {h : jH} {o i : Nat} {P : Nat → Int32} {x : Int32} (k : Nat) (hk : k < 69) (e : i = o + k) : j_up (mset h o P) 132 i x = mset h o (upd P k x) := by
  subst e
  funext b j
  by_cases hb : b = 132
  · subst hb
    by_cases hj : j = o + k
    · subst hj
      simp [j_up, mset, upd, hk]
    · by_cases hr : o ≤ j ∧ j < o + 69
      · have : ¬ j - o = k := by omega
        simp [j_up, mset, upd, hj, hr, this]
      · simp [j_up, mset, hj, hr]
  · simp [j_up, mset, hb]
theorem mset_pg {h : jH} {o : Nat} : mset h o (pg h o) = h := by
  funext b j
  by_cases hb : b = 132
  · subst hb
    by_cases hr : o ≤ j ∧ j < o + 69
    · have : o + (j - o) = j := by omega
      simp [mset, pg, hr, this]
    · simp [mset, hr]
  · simp [mset, hb]
theorem pg_mset {h : jH} {o k : Nat} {P : Nat → Int32} (hk : k < 69) : pg (mset h o P) o k = P k := mset_at k hk rfl
theorem mset_cong {h : jH} {o : Nat} {P P' : Nat → Int32} (e : ∀ k, k < 69 → P k = P' k) : mset h o P = mset h o P' := by
  funext b j
  unfold mset
  split
  next z => rw [e _ (by omega)]
  next => rfl
theorem upd_at {f : Nat → Int32} {k : Nat} {x : Int32} : upd f k x k = x := by simp [upd]
theorem upd_ne {f : Nat → Int32} {k j : Nat} {x : Int32} (hj : j ≠ k) : upd f k x j = f j := by simp [upd, hj]
/-! a week on a page -/
def clampP (v : Int32) : Int32 := if 0 ≤ v then (if v ≤ nI 999 then v else nI 999) else nI 0
def payF (has v : Int32) : Int32 := if v ≤ has then v else has
def capF (x : Int32) : Int32 := if x ≤ nI 999 then x else nI 999
def pay2 (p q : Nat) (v : Int32) (P : Nat → Int32) : Nat → Int32 := upd (upd P (8 + p) (P (8 + p) - payF (P (8 + p)) v)) (8 + q) (capF (P (8 + q) + payF (P (8 + p)) v))
def payP (p q : Nat) (v : Int32) (P : Nat → Int32) : Nat → Int32 := upd (pay2 p q v P) (53 + 4 * p + q) (pay2 p q v P (53 + 4 * p + q) + (v - payF (P (8 + p)) v))
def payB (p : Nat) (v : Int32) (P : Nat → Int32) : Prop := ¬ v ≤ payF (P (8 + p)) v
noncomputable def payN (p : Nat) (v : Int32) (P : Nat → Int32) : Int32 := if v ≤ payF (P (8 + p)) v then 0 else 1
def gM (h : jH) (p w : Nat) : Int32 := h 133 (4 * ix (h 132 p) + w) * h 132 (4 + p)
def w1 (γ : Nat → Int32) (P : Nat → Int32) : Nat → (Nat → Int32)
  | 0 => P
  | k + 1 => upd (w1 γ P k) (8 + k) (clampP (w1 γ P k (8 + k) + γ k))
def payK (p : Nat) (v : Int32) (P : Nat → Int32) : Int32 := if v ≤ payF (P (8 + p)) v then nI 0 else nI 1
def cvA (w c : Nat) (S : (Nat → Int32) × Int32) : (Nat → Int32) × Int32 := if S.1 (12 + 5 * c + 2) = nI w then (payP (ix (S.1 (12 + 5 * c))) (ix (S.1 (12 + 5 * c + 1))) (S.1 (12 + 5 * c + 3)) S.1, S.2 + payK (ix (S.1 (12 + 5 * c))) (S.1 (12 + 5 * c + 3)) S.1) else (S.1, S.2 + nI 0)
def cvB (c : Nat) (S : (Nat → Int32) × Int32) : (Nat → Int32) × Int32 := (payP (ix (S.1 (12 + 5 * c + 1))) (ix (S.1 (12 + 5 * c))) (S.1 (12 + 5 * c + 4)) S.1, S.2 + payK (ix (S.1 (12 + 5 * c + 1))) (S.1 (12 + 5 * c + 4)) S.1)
def cvF (w : Nat) (P : Nat → Int32) : Nat → (Nat → Int32) × Int32
  | 0 => (P, nI 0)
  | c + 1 => cvB c (cvA w c (cvF w P c))
def weekP (n : Nat) (γ : Nat → Int32) (w : Nat) (P : Nat → Int32) : (Nat → Int32) × Int32 :=
  (upd (cvF w (w1 γ P n) (ix (P 37))).1 52 ((cvF w (w1 γ P n) (ix (P 37))).1 52 + nI 1), (cvF w (w1 γ P n) (ix (P 37))).2)
/-- the covers of a page name only places below 4 -/
def cvOK (P : Nat → Int32) : Prop := nb 6 (P 37) ∧ ∀ c, c < ix (P 37) → nb 4 (P (12 + 5 * c)) ∧ nb 4 (P (12 + 5 * c + 1))
theorem w1_keep {γ P : Nat → Int32} {k : Nat} : ∀ {n : Nat}, n ≤ 4 → (k < 8 ∨ 12 ≤ k) → w1 γ P n k = P k
  | 0, _, _ => rfl
  | n + 1, hn, hk => by
    rw [w1, upd_ne (by omega), w1_keep (n := n) (by omega) hk]
theorem payP_keep {p q k : Nat} {v : Int32} {P : Nat → Int32} (hp : p < 4) (hq : q < 4) (hk : k < 8 ∨ (12 ≤ k ∧ k < 53)) : payP p q v P k = P k := by
  unfold payP pay2
  rw [upd_ne (by omega), upd_ne (by omega), upd_ne (by omega)]
theorem cvF_keep {w : Nat} {P : Nat → Int32} (h : cvOK P) {k : Nat} (hk : k < 8 ∨ (12 ≤ k ∧ k < 53)) : ∀ {c : Nat}, c ≤ ix (P 37) → (cvF w P c).1 k = P k
  | 0, _ => rfl
  | c + 1, hc => by
    have h37 := h.1.2
    have ih : ∀ j, (j < 8 ∨ (12 ≤ j ∧ j < 53)) → (cvF w P c).1 j = P j := fun j hj => cvF_keep h hj (by omega)
    obtain ⟨n1, n2⟩ := h.2 c (by omega)
    have e1 := ih (12 + 5 * c) (by omega)
    have e2 := ih (12 + 5 * c + 1) (by omega)
    have hA : ∀ j, (j < 8 ∨ (12 ≤ j ∧ j < 53)) → (cvA w c (cvF w P c)).1 j = P j := fun j hj => by
      unfold cvA
      split
      · show payP _ _ _ _ j = _
        rw [payP_keep (by rw [e1]; exact n1.2) (by rw [e2]; exact n2.2) hj, ih j hj]
      · exact ih j hj
    show payP _ _ _ _ k = _
    rw [payP_keep (by rw [hA _ (by omega)]; exact n2.2) (by rw [hA _ (by omega)]; exact n1.2) hk, hA k hk]
theorem cvA_keep {w c : Nat} {P : Nat → Int32} (h : cvOK P) {k : Nat} (hk : k < 8 ∨ (12 ≤ k ∧ k < 53)) (hc : c < ix (P 37)) : (cvA w c (cvF w P c)).1 k = P k := by
  have h37 := h.1.2
  obtain ⟨n1, n2⟩ := h.2 c hc
  unfold cvA
  split
  · show payP _ _ _ _ k = _
    rw [payP_keep (by rw [cvF_keep h (by omega) (by omega)]; exact n1.2) (by rw [cvF_keep h (by omega) (by omega)]; exact n2.2) hk, cvF_keep h hk (by omega)]
  · exact cvF_keep h hk (by omega)
theorem w1_cvOK {γ P : Nat → Int32} {n : Nat} (hn : n ≤ 4) (h : cvOK P) : cvOK (w1 γ P n) := by
  unfold cvOK
  have e := w1_keep (γ := γ) (P := P) (k := 37) hn (by omega)
  rw [e]
  refine ⟨h.1, fun c hc => ?_⟩
  rw [w1_keep hn (by omega), w1_keep hn (by omega)]
  exact h.2 c hc
theorem payK_1 {p : Nat} {v : Int32} {P : Nat → Int32} (h : payB p v P) : payK p v P = nI 1 := if_neg h
theorem payK_0 {p : Nat} {v : Int32} {P : Nat → Int32} (h : ¬ payB p v P) : payK p v P = nI 0 := if_pos (Classical.not_not.mp h)
