/-! weeks read from a sheet -/
section CX
noncomputable def iteX {α : Type} (C : Prop) (x y : α) : α := @ite α C (Classical.propDecidable C) x y
theorem iteX_t {α : Type} {C : Prop} {x y : α} (h : C) : iteX C x y = x := by unfold iteX; exact if_pos h
theorem iteX_f {α : Type} {C : Prop} {x y : α} (h : ¬ C) : iteX C x y = y := by unfold iteX; exact if_neg h
end CX
abbrev rdT : Type := Int32 × Option (Int32 × (Nat → Int32))
noncomputable def rdF (n : Nat) (cell flt : Nat → Int32) : Nat → Nat → (Nat → Int32) → rdT
  | 0, i, P => (nI i, some (nI 0, P))
  | m + 1, i, P => iteX (flt i = nI 0) (iteX (nb 4 (cell i) ∧ ¬ P 52 = nI 999) (rdF n cell flt m (i + 1) (weekP n (γP P (ix (cell i))) (ix (cell i)) P).1) (-20 - nI i, none)) (nI i, some (flt i, P))
def rdO (a : jH) (x : rdT) : Int32 × jH := match x with
  | (r, none) => (r, a)
  | (r, some (b, P)) => (r, j_up (mset a 0 P) 131 28 b)
noncomputable def fltM (L l : Int32) (m : Nat) (i : Int32) : Int32 := iteP (L = -4) (nI 1) (iteP (¬ L = l) (nI 3) (iteP (nb m i) (nI 0) (nI 2)))
noncomputable def oRead (a : jH) (k l f n : Int32) : Int32 × jH := iteR (nb 4 k ∧ nb 3 l ∧ nI 0 ≤ n ∧ n ≤ nI 20)
  (rdO a (rdF (ix (a 131 2)) (fun i => a 145 (40 * ix k + ix (f + nI i))) (fun i => fltM (a 143 (ix k)) l (ix (a 144 (ix k))) (f + nI i)) (ix n) 0 (pg a 0))) (-1, a)
theorem flt_eq {x y l i : Int32} {m : Nat} (h : (x = -1 ∧ y = -4) ∨ (x = y ∧ nb 3 y)) : fltF x l m i = fltM y l m i := by
  unfold fltF fltM
  by_cases c : x = -1
  · rw [iteP_t c, iteP_t (lane_n h c)]
  · rw [iteP_f c, iteP_f (lane_y h c), lane_e h c]
theorem fltM_0 {L l i : Int32} {m : Nat} (h : fltM L l m i = nI 0) : ¬ L = -4 ∧ L = l ∧ nb m i := by
  unfold fltM at h
  by_cases h1 : L = -4
  · rw [iteP_t h1] at h; exact absurd h (by decide)
  · rw [iteP_f h1] at h
    by_cases h2 : L = l
    · rw [iteP_f (fun z => z h2)] at h
      by_cases h3 : nb m i
      · exact ⟨h1, h2, h3⟩
      · rw [iteP_f h3] at h; exact absurd h (by decide)
    · rw [iteP_t h2] at h; exact absurd h (by decide)
theorem RX_fin {a h hh h1 : jH} {P : Nat → Int32} {b : Int32} (hR : RX a h) (fr : ∀ b, (b < 19 ∨ 37 ≤ b) → hh b = h b) (hX : XV (ix (a 131 2)) P hh 19) (hw : hh 19 9 = P 52) (hG : GD (ix (a 131 2)) P) (hc : CP hh h1 19 1) : RX (j_up (mset a 0 P) 131 28 b) (j_up h1 0 9 b) ∧ hi h (j_up h1 0 9 b) := by
  have e : ∀ b, (b < 1 ∨ 37 ≤ b) → h1 b = h b := fun b hb => (hc.1 b (by omega)).trans (fr b (by omega))
  have h2 : RX (mset a 0 P) h1 := RX_now hR (XV_CP hX hG.1.1 hG.1.2.2.1.2 hG.2.1.2 hc) (hc.2.1.2.2.2.2.trans hw) hG (fun b hb => e b (by omega))
  refine ⟨RX_H h2 ⟨fun k hk => ?_, by rw [j_up_s, j_up_s]⟩ (fun b k h1 h2 => j_up_o (by omega)) (fun b k h1 h2 => j_up_o (by omega)), fun b hb => (j_up_ne b (by omega)).trans (e b (by omega))⟩
  have q := h2.2.2.2.2.1.1 k hk
  rw [j_up_o (b := 123 + 2 * k) (by omega), j_up_o (b := 123 + 2 * k) (by omega), j_up_o (b := 143) (by omega), j_up_o (b := 144) (by omega)]
  exact ⟨q.1, q.2.1, q.2.2.1, fun i hi => by rw [j_up_o (by omega), j_up_o (by omega)]; exact q.2.2.2 i hi⟩
theorem week_ge {n w : Nat} {P : Nat → Int32} (h6 : ix (P 37) < 6) : ¬ (weekP n (γP P w) w P).2 < 0 := by
  obtain ⟨k, hk, e⟩ := live_cnt (n := n) (w := w) h6
  rw [weekP_live]
  show ¬ (liveP n w P).2 < 0
  rw [e]
  exact nI_pos (by omega)
theorem rd_ix {k i : Nat} {f : Int32} {m : Nat} (h : nb m (f + nI i)) : nI k + f + nI i = nI (k + ix (f + nI i)) := by
  rw [Int32.add_assoc, ← nI_add, ← h.1]
theorem rd_in {f : Int32} {i m : Nat} (hi : i < 21) (hm : m < 41) : ((0 : Int64) ≤ f.toInt64 + (nI i).toInt64 ∧ f.toInt64 + (nI i).toInt64 ≤ (nI m - nI 1).toInt64) ↔ nb m (f + nI i) := by
  have f1 := Int32.toInt_lt f
  have f2 := Int32.le_toInt f
  have ei := nI_n (k := i) (by omega)
  have s : (f.toInt64 + (nI i).toInt64).toInt = f.toInt + i := by
    rw [Int64.toInt_add, i_l, i_l, ei]
    apply Int.bmod_eq_of_le <;> omega
  have em : (nI m - nI 1).toInt64.toInt = (m : Int) - 1 := by
    rw [i_l, pk_sub_toInt (by omega) (by omega)]
    rfl
  have e0 : (0 : Int64).toInt = 0 := rfl
  rw [l_le, l_le, s, em, e0]
  have s2 : (f + nI i).toInt = (f.toInt + i).bmod (2 ^ 32) := by rw [Int32.toInt_add, ei]
  by_cases hb : f.toInt + i < 2 ^ 31
  · have s3 : (f + nI i).toInt = f.toInt + i := by
      rw [s2]
      apply Int.bmod_eq_of_le <;> omega
    constructor
    · rintro ⟨h1, h2⟩
      exact nb_of (by omega) (by omega)
    · intro h
      have h1 := h.toInt (by omega)
      have h2 := h.2
      omega
  · have s3 : (f + nI i).toInt = f.toInt + i - 2 ^ 32 := by
      rw [s2, Int.bmod_def]
      omega
    constructor
    · rintro ⟨h1, h2⟩
      omega
    · intro h
      have h1 := h.toInt (by omega)
      have h2 := h.2
      omega
