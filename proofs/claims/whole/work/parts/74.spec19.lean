/-! the reference's reader: one token ahead -/
noncomputable def nrm (s : sS) : sS := sRef (decide (s.2.2.2.1 = 4)) 1 s
def RP (L : Nat) (t : Nat → Int32) (h : jH) : Prop := h 131 8 = nI L ∧ L ≤ 160 ∧ ∀ i, i < L → h 135 i = t i ∧ nI 0 ≤ t i
def RW (h : jH) : Prop := (∀ i, i < 13 → h 136 i = j_cut.getD i 0) ∧ ∀ i, i < 56 → h 137 i = j_let.getD i 0
def RT (L : Nat) (s : sS) (h : jH) : Prop := h 131 12 = nI s.2.2.1 ∧ h 131 13 = nI s.2.1 ∧ bT L s.2 ∧ s.1 ≤ 6 ∧ h 131 10 = nI s.1 ∧ (s.1 = 0 → h 131 14 = nI s.2.2.2.1 ∧ (s.2.2.2.1 = 2 → h 131 15 = s.2.2.2.2) ∧ s.2.2.2.1 ≠ 4) ∧ (s.1 ≠ 0 → h 131 11 = nI s.2.1)
def rfm (h h' : jH) : Prop := ∀ b k, ¬ (b = 131 ∧ 10 ≤ k ∧ k ≤ 15) → h' b k = h b k
theorem rfm.rf {h : jH} : rfm h h := fun _ _ _ => rfl
theorem rfm.tr {h h' h2 : jH} (a : rfm h h') (b : rfm h' h2) : rfm h h2 := fun x k z => (b x k z).trans (a x k z)
theorem rfm_up {h h' : jH} {k : Nat} {x : Int32} (a : rfm h h') (h1 : 10 ≤ k) (h2 : k ≤ 15) : rfm h (j_up h' 131 k x) := fun b j z => (j_up_o (by omega)).trans (a b j z)
theorem RP.rf {L : Nat} {t : Nat → Int32} {h h' : jH} (a : RP L t h) (f : rfm h h') : RP L t h' := ⟨(f 131 8 (by omega)).trans a.1, a.2.1, fun i hi => ⟨(f 135 i (by omega)).trans (a.2.2 i hi).1, (a.2.2 i hi).2⟩⟩
theorem RW.rf {h h' : jH} (a : RW h) (f : rfm h h') : RW h' := ⟨fun i hi => (f 136 i (by omega)).trans (a.1 i hi), fun i hi => (f 137 i (by omega)).trans (a.2 i hi)⟩
def byF (L : Nat) (t : Nat → Int32) (k : Nat) : Int32 := if k < L then t k else -4
theorem byF_i {L k : Nat} {t : Nat → Int32} (h : k < L) : byF L t k = t k := if_pos h
theorem byF_o {L k : Nat} {t : Nat → Int32} (h : ¬ k < L) : byF L t k = -4 := if_neg h
theorem byF_sp {L k : Nat} {t : Nat → Int32} : byF L t k = nI 32 ↔ spB L t k = true := by
  unfold byF spB
  by_cases h : k < L
  · rw [if_pos h, decide_eq_true_iff]; exact ⟨fun z => ⟨h, z⟩, fun z => z.2⟩
  · rw [if_neg h, decide_eq_true_iff]; exact ⟨fun z => absurd z (by decide), fun z => absurd z.1 h⟩
theorem byF_lt {L k : Nat} {t : Nat → Int32} : (nI 97 ≤ byF L t k ∧ byF L t k ≤ nI 122) ↔ ltB L t k = true := by
  unfold byF ltB
  by_cases h : k < L
  · rw [if_pos h, decide_eq_true_iff]; exact ⟨fun z => ⟨h, z⟩, fun z => z.2⟩
  · rw [if_neg h, decide_eq_true_iff]; exact ⟨fun z => absurd z.1 (by decide), fun z => absurd z.1 h⟩
theorem byF_fg {L k : Nat} {t : Nat → Int32} : (nI 48 ≤ byF L t k ∧ byF L t k ≤ nI 57) ↔ fgB L t k = true := by
  unfold byF fgB
  by_cases h : k < L
  · rw [if_pos h, decide_eq_true_iff]; exact ⟨fun z => ⟨h, z⟩, fun z => z.2⟩
  · rw [if_neg h, decide_eq_true_iff]; exact ⟨fun z => absurd z.1 (by decide), fun z => absurd z.1 h⟩
theorem byF_end {L k : Nat} {t : Nat → Int32} (ht : ∀ i, i < L → nI 0 ≤ t i) : byF L t k = -4 ↔ L ≤ k := by
  unfold byF
  by_cases h : k < L
  · rw [if_pos h]
    refine ⟨fun z => absurd (ht k h) (by rw [z]; decide), fun z => by omega⟩
  · rw [if_neg h]; exact ⟨fun _ => by omega, fun _ => rfl⟩
def nv2 (t : Nat → Int32) (p k : Nat) : Int32 := nvF t p (if k < 2 then k else 2)
theorem nv2_s {t : Nat → Int32} {p k : Nat} (h : k < 2) : nI 10 * nv2 t p k + t (p + k) - nI 48 = nv2 t p (k + 1) := by
  have e : (if k + 1 < 2 then k + 1 else 2) = k + 1 := by
    by_cases z : k + 1 < 2
    · rw [if_pos z]
    · rw [if_neg z]; omega
  rw [nv2, nv2, if_pos h, e, nvF, Int32.mul_comm]
theorem nv2_t {t : Nat → Int32} {p k : Nat} (h : ¬ k < 2) : nv2 t p k = nv2 t p (k + 1) := by rw [nv2, nv2, if_neg h, if_neg (by omega)]
theorem nv2_e {t : Nat → Int32} {p k : Nat} (h : k ≤ 2) : nv2 t p k = nvF t p k := by
  rw [nv2]
  by_cases z : k < 2
  · rw [if_pos z]
  · rw [if_neg z, show k = 2 by omega]
/-- the reference's number of a word -/
def rn (w : Nat) : Nat := if w < 4 then w else if w < 8 then w + 4 else w - 4
def nmI (w : Nat) : Int32 := if w = 12 then -4 else nI (rn w)
theorem cut_l : ∀ n, n < 12 → j_cut.getD (n + 1) 0 - j_cut.getD n 0 = nI (wL (rn n)) := by decide +kernel
theorem cut_c : ∀ n, n < 12 → ∀ k, k < wL (rn n) → j_let.getD (ix (j_cut.getD n 0 + nI k)) 0 = wC (rn n) k ∧ ix (j_cut.getD n 0 + nI k) < 56 ∧ j_cut.getD n 0 + nI k = nI (ix (j_cut.getD n 0 + nI k)) := by decide +kernel
theorem rn_rn : ∀ n, n < 12 → rn (rn n) = n ∧ rn n < 12 := by decide +kernel
theorem nmI_rn {n : Nat} (h : n < 12) : nmI (rn n) = nI n := by
  have := rn_rn n h
  rw [nmI, if_neg (by omega), this.1]
def flH (h : jH) (c : Nat) : jH := if h 131 10 = 0 then j_up (j_up h 131 10 (nI c)) 131 11 (h 131 13) else h
theorem flH_rf {h : jH} {c : Nat} : rfm h (flH h c) := by
  unfold flH
  split
  · exact rfm_up (rfm_up rfm.rf (by omega) (by omega)) (by omega) (by omega)
  · exact rfm.rf
theorem RT_fl {L c : Nat} {s : sS} {h : jH} (hs : RT L s h) (hc : c ≤ 6) (hc0 : c ≠ 0) : RT L (sRef true c s) (flH h c) := by
  by_cases z : s.1 = 0
  · obtain ⟨r1, r2, r3, r4, r5, r6, r7⟩ := hs
    rw [sRef_y rfl z, flH, if_pos (by rw [r5, z]; rfl)]
    exact ⟨(j_up_o (by omega)).trans ((j_up_o (by omega)).trans r1), (j_up_o (by omega)).trans ((j_up_o (by omega)).trans r2), r3, hc, (j_up_o (by omega)).trans j_up_s, fun q => absurd q hc0, fun _ => j_up_s.trans r2⟩
  · rw [sRef_f z, flH, if_neg (fun q => z ((nI0e (Nat.le_trans hs.2.2.2.1 (by omega))).mp (by rw [← hs.2.2.2.2.1]; exact q)))]
    exact hs
theorem nrm_2 {s : sS} : (nrm s).2 = s.2 := sRef_2
theorem nrm_f {s : sS} (h : s.1 ≠ 0) : nrm s = s := sRef_f h
theorem nrm_g {s : sS} (h : s.2.2.2.1 ≠ 4) : nrm s = s := sRef_n (by simpa using h)
theorem nrm_0 {s : sS} (h : (nrm s).1 = 0) : s.1 = 0 ∧ s.2.2.2.1 ≠ 4 ∧ nrm s = s := by
  obtain ⟨h1, h2, h3⟩ := sRef_0 (by decide) h
  exact ⟨h1, by simpa using h2, h3⟩
theorem nrm_n {s : sS} : nrm (nrm s) = nrm s := by
  by_cases h : (nrm s).1 = 0
  · rw [(nrm_0 h).2.2]; exact (nrm_0 h).2.2
  · exact nrm_f h
