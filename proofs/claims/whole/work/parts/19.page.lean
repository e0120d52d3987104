section JT
variable {g : jG} {d : Nat} {Y : jY} {b : Nat × Nat} {σ : List jD} {h : jH} {pc : Nat} {ls : List (Nat × Value)} {st : List Value} {Q : jQ}
theorem J_top {x : Int32} (k : ∀ v : Int32, v = x → J g d Y b σ h pc ls (.int v :: st) Q) : J g d Y b σ h pc ls (.int x :: st) Q := k x rfl
theorem J_joinZ {x : Int32} (jp : Nat) (v : Int32) (k : J g d Y b σ h jp ls (.int v :: st) Q) (f : J g d Y b σ h jp ls (.int v :: st) Q → J g d Y b σ h pc ls (.int x :: st) Q) : J g d Y b σ h pc ls (.int x :: st) Q := f k
theorem J_joinC {x y : Int32} (jp : Nat) (v : Int32) (k : J g d Y b σ h jp ls (.int v :: st) Q) (f : J g d Y b σ h jp ls (.int v :: st) Q → J g d Y b σ h pc ls (.int y :: .int x :: st) Q) : J g d Y b σ h pc ls (.int y :: .int x :: st) Q := f k
theorem J_h {h' : jH} (e : h = h') (k : J g d Y b σ h' pc ls st Q) : J g d Y b σ h pc ls st Q := e ▸ k
theorem J_st {st' : List Value} (e : st = st') (k : J g d Y b σ h pc ls st' Q) : J g d Y b σ h pc ls st Q := e ▸ k
end JT
/-! the reference's pages: 69 ints of its row, from o on -/
def pg (h : jH) (o : Nat) : Nat → Int32 := fun k => h 132 (o + k)
def mset (h : jH) (o : Nat) (P : Nat → Int32) : jH := fun b k => if b = 132 ∧ o ≤ k ∧ k < o + 69 then P (k - o) else h b k
theorem mset_at {h : jH} {o : Nat} {P : Nat → Int32} {i : Nat} (k : Nat) (hk : k < 69) (e : i = o + k) : mset h o P 132 i = P k := by
  subst e
  simp [mset, hk]
theorem mset_b {h : jH} {o b k : Nat} {P : Nat → Int32} {x : Int32} (hb : b ≠ 132) (hx : h b k = x) : mset h o P b k = x := by
  rw [← hx]
  simp [mset, hb]
theorem mset_ne {h : jH} {o b : Nat} {P : Nat → Int32} (hb : b ≠ 132) : mset h o P b = h b := by
  funext k
  simp [mset, hb]
theorem mset_out {h : jH} {o k : Nat} {P : Nat → Int32} (hk : k < o ∨ o + 69 ≤ k) : mset h o P 132 k = h 132 k := by
  have : ¬ (o ≤ k ∧ k < o + 69) := by omega
  simp [mset, this]
theorem mset_up {h : jH} {o i : Nat} {P : Nat → Int32} {x : Int32} (k : Nat) (hk : k < 69) (e : i = o + k) : j_up (mset h o P) 132 i x = mset h o (upd P k x) := by
  subst e
  funext b j
  by_cases hb : b = 132
  · subst hb
    by_cases hj : j = o + k
    · subst hj
      simp [j_up, mset, upd, hk]
    · by_cases hr : o ≤ j ∧ j < o + 69
      · have : ¬ j - o = k := by omega
        simp [j_up, mset, upd, hj, hr, this]
      · simp [j_up, mset, hj, hr]
  · simp [j_up, mset, hb]
theorem mset_pg {h : jH} {o : Nat} : mset h o (pg h o) = h := by
  funext b j
  by_cases hb : b = 132
  · subst hb
    by_cases hr : o ≤ j ∧ j < o + 69
    · have : o + (j - o) = j := by omega
      simp [mset, pg, hr, this]
    · simp [mset, hr]
  · simp [mset, hb]
theorem pg_mset {h : jH} {o k : Nat} {P : Nat → Int32} (hk : k < 69) : pg (mset h o P) o k = P k := mset_at k hk rfl
theorem mset_cong {h : jH} {o : Nat} {P P' : Nat → Int32} (e : ∀ k, k < 69 → P k = P' k) : mset h o P = mset h o P' := by
  funext b j
  unfold mset
  split
  next z => rw [e _ (by omega)]
  next => rfl
theorem upd_at {f : Nat → Int32} {k : Nat} {x : Int32} : upd f k x k = x := by simp [upd]
theorem upd_ne {f : Nat → Int32} {k j : Nat} {x : Int32} (hj : j ≠ k) : upd f k x j = f j := by simp [upd, hj]
/-! a week on a page -/
def clampP (v : Int32) : Int32 := if 0 ≤ v then (if v ≤ nI 999 then v else nI 999) else nI 0
def payF (has v : Int32) : Int32 := if v ≤ has then v else has
def capF (x : Int32) : Int32 := if x ≤ nI 999 then x else nI 999
def pay2 (p q : Nat) (v : Int32) (P : Nat → Int32) : Nat → Int32 := upd (upd P (8 + p) (P (8 + p) - payF (P (8 + p)) v)) (8 + q) (capF (P (8 + q) + payF (P (8 + p)) v))
def payP (p q : Nat) (v : Int32) (P : Nat → Int32) : Nat → Int32 := upd (pay2 p q v P) (53 + 4 * p + q) (pay2 p q v P (53 + 4 * p + q) + (v - payF (P (8 + p)) v))
def payB (p : Nat) (v : Int32) (P : Nat → Int32) : Prop := ¬ v ≤ payF (P (8 + p)) v
noncomputable def payN (p : Nat) (v : Int32) (P : Nat → Int32) : Int32 := if v ≤ payF (P (8 + p)) v then 0 else 1
