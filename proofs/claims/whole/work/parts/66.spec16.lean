/-! the class's reader against the steps -/
def TP (L : Nat) (t : Nat → Int32) (h : jH) : Prop := h 39 1 = nI L ∧ L ≤ 160 ∧ ∀ i, i < L → h 40 i = t i
def CT (L : Nat) (s : sS) (h : jH) : Prop := h 39 2 = nI s.2.2.1 ∧ h 39 3 = nI s.2.1 ∧ h 39 4 = nI s.2.2.2.1 ∧ (s.2.2.2.1 = 2 → h 39 5 = s.2.2.2.2) ∧ h 39 6 = nI s.1 ∧ s.1 ≤ 6 ∧ bT L s.2
def tf (h h' : jH) : Prop := ∀ b k, ¬ (b = 39 ∧ 2 ≤ k ∧ k ≤ 6) → h' b k = h b k
theorem tf.rf {h : jH} : tf h h := fun _ _ _ => rfl
theorem tf.tr {h h' h2 : jH} (a : tf h h') (b : tf h' h2) : tf h h2 := fun x k z => (b x k z).trans (a x k z)
theorem tf_up {h h' : jH} {k : Nat} {x : Int32} (a : tf h h') (h1 : 2 ≤ k) (h2 : k ≤ 6) : tf h (j_up h' 39 k x) := fun b j z => (j_up_o (by omega)).trans (a b j z)
theorem TP.tf {L : Nat} {t : Nat → Int32} {h h' : jH} (a : TP L t h) (f : tf h h') : TP L t h' := ⟨(f 39 1 (by omega)).trans a.1, a.2.1, fun i hi => (f 40 i (by omega)).trans (a.2.2 i hi)⟩
theorem j_up_id {h : jH} {a i : Nat} {x : Int32} (e : h a i = x) : j_up h a i x = h := by
  funext b k
  by_cases z : b = a ∧ k = i
  · rw [z.1, z.2, j_up_s, e]
  · exact j_up_o (by omega)
theorem j_up_up {h : jH} {a i : Nat} {x y : Int32} : j_up (j_up h a i x) a i y = j_up h a i y := by
  funext b k
  by_cases z : b = a ∧ k = i
  · rw [z.1, z.2, j_up_s, j_up_s]
  · rw [j_up_o (by omega), j_up_o (by omega), j_up_o (by omega)]
theorem j_up_u4 {h : jH} {a i j : Nat} {x y z w : Int32} : j_up (j_up (j_up (j_up h a i x) a j y) a i z) a j w = j_up (j_up h a i z) a j w := by
  funext b k
  by_cases e : b = a ∧ k = j
  · rw [e.1, e.2, j_up_s, j_up_s]
  · rw [j_up_o (i := j) (by omega), j_up_o (i := j) (by omega)]
    by_cases e2 : b = a ∧ k = i
    · rw [e2.1, e2.2, j_up_s, j_up_s]
    · rw [j_up_o (i := i) (by omega), j_up_o (i := i) (by omega), j_up_o (i := j) (by omega), j_up_o (i := i) (by omega)]
theorem nIe {a b : Nat} (ha : a ≤ 1000) (hb : b ≤ 1000) : nI a = nI b ↔ a = b := by
  rw [i_eq, nI_n (by omega), nI_n (by omega)]
  omega
theorem nI0e {a : Nat} (ha : a ≤ 1000) : nI a = 0 ↔ a = 0 := nIe (b := 0) ha (by omega)
theorem nIsub {a b : Nat} (ha : a ≤ 1000) (hb : b ≤ a) : nI a - nI b = nI (a - b) := by
  rw [i_eq, pk_sub_toInt (by omega) (by omega), nI_n (by omega)]
  omega
theorem nIlt {a b : Nat} (ha : a ≤ 1000) (hb : b ≤ 1000) : nI a < nI b ↔ a < b := by
  rw [i_lt, nI_n (by omega), nI_n (by omega)]
  omega
theorem bqt {C : Prop} (h : C) : bq C (nI 1) := Or.inl ⟨rfl, h⟩
theorem bqf {C : Prop} (h : ¬ C) : bq C (nI 0) := Or.inr ⟨rfl, h⟩
theorem bq_dec {C : Prop} [Decidable C] {x : Int32} (h : bq C x) : bq (decide C = true) x := h.imp (fun z => ⟨z.1, decide_eq_true z.2⟩) (fun z => ⟨z.1, fun q => z.2 (of_decide_eq_true q)⟩)
theorem CT_ref {L c : Nat} {b : Bool} {s : sS} {h h' : jH} (hs : CT L s h) (hc : c ≤ 6) (h6 : h' = j_up h 39 6 (nI c)) : CT L (c, s.2) h' := by
  obtain ⟨c1, c2, c3, c4, c5, c6, c7⟩ := hs
  subst h6
  exact ⟨(j_up_o (by omega)).trans c1, (j_up_o (by omega)).trans c2, (j_up_o (by omega)).trans c3, fun z => (j_up_o (by omega)).trans (c4 z), j_up_s, hc, c7⟩
def wI (w : Nat) : Int32 := if w = 12 then -1 else nI w
