/-! what the reference keeps of the lines -/
def HI (P : Nat → Int32) (x : Int32) : Prop := (∀ c, c < ix (P 37) → P (12 + 5 * c) ≤ x ∧ P (12 + 5 * c + 1) ≤ x) ∧ (x = -1 ∨ ∃ c, c < ix (P 37) ∧ (x = P (12 + 5 * c) ∨ x = P (12 + 5 * c + 1)))
theorem HI_congr {P P' : Nat → Int32} {x : Int32} (g : HI P x) (h6 : ix (P 37) < 6) (e : ∀ k, 12 ≤ k → k < 38 → P' k = P k) : HI P' x := by
  unfold HI
  rw [e 37 (by omega) (by omega)]
  refine ⟨fun c hc => by rw [e _ (by omega) (by omega), e _ (by omega) (by omega)]; exact g.1 c hc, g.2.imp id (fun ⟨c, hc, z⟩ => ⟨c, hc, by rw [e _ (by omega) (by omega), e _ (by omega) (by omega)]; exact z⟩)⟩
theorem mxI_le {r x : Int32} : r ≤ mxI r x ∧ x ≤ mxI r x := by
  unfold mxI
  by_cases z : r ≤ x
  · rw [if_pos z]; exact ⟨z, Int32.le_refl _⟩
  · rw [if_neg z]; exact ⟨Int32.le_refl _, Int32.le_of_lt (Int32.not_le.mp z)⟩
theorem mxI_or {r x : Int32} : mxI r x = r ∨ mxI r x = x := by
  unfold mxI
  by_cases z : r ≤ x
  · rw [if_pos z]; exact Or.inr rfl
  · rw [if_neg z]; exact Or.inl rfl
theorem HI_add {P : Nat → Int32} {x a b w y z : Int32} {c : Nat} (g : HI P x) (hc : P 37 = nI c) (hc5 : c < 5) (ha : nb 4 a) (hb : nb 4 b) : HI (addP c a b w y z P) (mxI b (mxI a x)) := by
  obtain ⟨a0, a1, a2, a3, a4, a5⟩ := addP_at (p := a) (q := b) (w := w) (x := y) (y := z) (P := P) hc5
  have ec : ix (P 37) = c := by rw [hc]; exact ix_nI (by omega)
  have e1 : ix (addP c a b w y z P 37) = c + 1 := by rw [a5]; exact ix_succ (by omega)
  have m1 := mxI_le (r := b) (x := mxI a x)
  have m2 := mxI_le (r := a) (x := x)
  refine ⟨fun k hk => ?_, ?_⟩
  · rw [e1] at hk
    by_cases q : k = c
    · subst q
      rw [a0, a1]; exact ⟨Int32.le_trans m2.1 m1.2, m1.1⟩
    · have := g.1 k (by omega)
      rw [addP_ne (by omega) (by omega), addP_ne (by omega) (by omega)]
      exact ⟨Int32.le_trans this.1 (Int32.le_trans m2.2 m1.2), Int32.le_trans this.2 (Int32.le_trans m2.2 m1.2)⟩
  · rw [e1]
    rcases mxI_or (r := b) (x := mxI a x) with q | q
    · exact Or.inr ⟨c, by omega, Or.inr (by rw [q, a1])⟩
    · rcases mxI_or (r := a) (x := x) with q2 | q2
      · exact Or.inr ⟨c, by omega, Or.inl (by rw [q, q2, a0])⟩
      · rcases g.2 with q3 | ⟨k, hk, q3⟩
        · exfalso
          have := m2.1
          rw [q2, q3] at this
          have h0 : nI 0 ≤ a := ((in_nbc (n := 3) rfl (by omega)).mpr ha).1
          exact absurd (Int32.le_trans h0 this) (by decide)
        · refine Or.inr ⟨k, by omega, ?_⟩
          rw [q, q2, addP_ne (by omega) (by omega), addP_ne (by omega) (by omega)]
          exact q3
theorem HI_str {x : Int32} {D : sD} (g : HI D.2.1 x) (hn : D.1 ≤ 4) : (nI D.1 ≤ x) ↔ strB D = true := by
  constructor
  · intro h
    rcases g.2 with q | ⟨c, hc, q⟩
    · exfalso
      rw [q] at h
      exact absurd (Int32.le_trans ((nI_leI (a := 0) (by omega) (by omega)).mpr (Nat.zero_le _)) h) (by decide)
    · refine decide_eq_true ⟨c, hc, ?_⟩
      rcases q with q | q
      · exact Or.inl (by rw [← q]; exact h)
      · exact Or.inr (by rw [← q]; exact h)
  · intro h
    obtain ⟨c, hc, q⟩ := of_decide_eq_true h
    rcases q with q | q
    · exact Int32.le_trans q (g.1 c hc).1
    · exact Int32.le_trans q (g.1 c hc).2
def TB (x : Int32) (f : Bool × Bool × Bool) : Prop := ∃ m, m < 256 ∧ x = nI m ∧ (m / 32 % 2 = 1 ↔ f.1 = true) ∧ (m / 64 % 2 = 1 ↔ f.2.1 = true) ∧ (m / 128 % 2 = 1 ↔ f.2.2 = true)
theorem tb_all : ∀ m, m < 256 → ∀ n, n < 8 → ix (nI m ||| (nI 1 <<< (nI n &&& 31))) < 256 ∧ (nI m ||| (nI 1 <<< (nI n &&& 31))) = nI (ix (nI m ||| (nI 1 <<< (nI n &&& 31)))) ∧ (ix (nI m ||| (nI 1 <<< (nI n &&& 31))) / 32 % 2 = 1 ↔ (n = 5 ∨ m / 32 % 2 = 1)) ∧ (ix (nI m ||| (nI 1 <<< (nI n &&& 31))) / 64 % 2 = 1 ↔ (n = 6 ∨ m / 64 % 2 = 1)) ∧ (ix (nI m ||| (nI 1 <<< (nI n &&& 31))) / 128 % 2 = 1 ↔ (n = 7 ∨ m / 128 % 2 = 1)) := by decide +kernel
theorem tb_get : ∀ m, m < 256 → (((nI m >>> (nI 5 &&& 31)) &&& nI 1 = nI 1) ↔ m / 32 % 2 = 1) ∧ (((nI m >>> (nI 6 &&& 31)) &&& nI 1 = nI 1) ↔ m / 64 % 2 = 1) ∧ (((nI m >>> (nI 7 &&& 31)) &&& nI 1 = nI 1) ↔ m / 128 % 2 = 1) := by decide +kernel
def tbs (n : Nat) (f : Bool × Bool × Bool) : Bool × Bool × Bool := if n = 5 then (true, f.2) else if n = 6 then (f.1, true, f.2.2) else if n = 7 then (f.1, f.2.1, true) else f
theorem TB_set {x : Int32} {f : Bool × Bool × Bool} {n : Nat} (h : TB x f) (hn : n < 8) : TB (x ||| (nI 1 <<< (nI n &&& 31))) (tbs n f) := by
  obtain ⟨m, hm, rfl, h1, h2, h3⟩ := h
  obtain ⟨hm', e, g1, g2, g3⟩ := tb_all m hm n hn
  refine ⟨_, hm', e, ?_, ?_, ?_⟩
  · rw [g1, h1]
    match n, hn with
    | 0, _ => simp [tbs]
    | 1, _ => simp [tbs]
    | 2, _ => simp [tbs]
    | 3, _ => simp [tbs]
    | 4, _ => simp [tbs]
    | 5, _ => simp [tbs]
    | 6, _ => simp [tbs]
    | 7, _ => simp [tbs]
  · rw [g2, h2]
    match n, hn with
    | 0, _ => simp [tbs]
    | 1, _ => simp [tbs]
    | 2, _ => simp [tbs]
    | 3, _ => simp [tbs]
    | 4, _ => simp [tbs]
    | 5, _ => simp [tbs]
    | 6, _ => simp [tbs]
    | 7, _ => simp [tbs]
  · rw [g3, h3]
    match n, hn with
    | 0, _ => simp [tbs]
    | 1, _ => simp [tbs]
    | 2, _ => simp [tbs]
    | 3, _ => simp [tbs]
    | 4, _ => simp [tbs]
    | 5, _ => simp [tbs]
    | 6, _ => simp [tbs]
    | 7, _ => simp [tbs]
theorem TB_5 {x : Int32} {f : Bool × Bool × Bool} (h : TB x f) : ((x >>> (nI 5 &&& 31)) &&& nI 1 = nI 1) ↔ f.1 = true := by
  obtain ⟨m, hm, rfl, h1, h2, h3⟩ := h
  rw [(tb_get m hm).1, h1]
theorem TB_6 {x : Int32} {f : Bool × Bool × Bool} (h : TB x f) : ((x >>> (nI 6 &&& 31)) &&& nI 1 = nI 1) ↔ f.2.1 = true := by
  obtain ⟨m, hm, rfl, h1, h2, h3⟩ := h
  rw [(tb_get m hm).2.1, h2]
theorem TB_7 {x : Int32} {f : Bool × Bool × Bool} (h : TB x f) : ((x >>> (nI 7 &&& 31)) &&& nI 1 = nI 1) ↔ f.2.2 = true := by
  obtain ⟨m, hm, rfl, h1, h2, h3⟩ := h
  rw [(tb_get m hm).2.2, h3]
/-- behind a line's body: the token ahead must be the sign -/
def RM (L : Nat) (r : sS × sD) (h h' : jH) : Prop := ∃ v : sS, RT L v h' ∧ sRef (decide (v.2.2.2.1 ≠ 3)) 2 v = r.1 ∧ qf h h' ∧ h' 131 5 = h 131 5 ∧ (r.1.1 = 0 → RG r.2.2.1 h' ∧ h' 131 4 = nI r.2.1 ∧ HI r.2.2.1 (h' 131 6))
def RDa (D : sD) (h : jH) : Prop := RG D.2.1 h ∧ h 131 4 = nI D.1 ∧ HI D.2.1 (h 131 6)
def RD (D : sD) (h : jH) : Prop := RDa D h ∧ TB (h 131 5) D.2.2
theorem skF_f {L m : Nat} {t : Nat → Int32} {s : sS} {D : sD} (h : s.1 ≠ 0) : skF L t m s D = (s, D) := by
  cases m with
  | zero => rfl
  | succ m => rw [skF, if_neg h]
theorem sSem_e {L : Nat} {t : Nat → Int32} {s : sS} : sRef (decide ((nrm (sAdv L t s)).2.2.2.1 ≠ 3)) 2 (nrm (sAdv L t s)) = sSem L t s := by rw [nrm_2]; rfl
theorem sNum_f {L : Nat} {t : Nat → Int32} {lo hi : Int32} {s : sS} (h : s.1 ≠ 0) : sNum L t lo hi s = s := by rw [sNum, sAdv_f h, sNm_f h]
theorem sNum_4 {L : Nat} {t : Nat → Int32} {lo hi : Int32} {s : sS} (h : (nrm (sAdv L t s)).1 ≠ 0) : sNum L t lo hi s = nrm (sAdv L t s) := by rw [sNum, sNm_nf h]
theorem sSem_f {L : Nat} {t : Nat → Int32} {s : sS} (h : s.1 ≠ 0) : sSem L t s = s := by rw [sSem, sAdv_f h, sExp_f h]
/-- a fault of the token ahead, or of the check before it, is the line's -/
theorem lOne_f {L : Nat} {t : Nat → Int32} {k : Int32} {s : sS} {D : sD} (h : (nrm (sAdv L t (one0 s D))).1 ≠ 0) : (lOne L t k s D).1 = nrm (sAdv L t (one0 s D)) := by
  show sSem L t (one2 L t s D) = _
  have e1 : one1 L t s D = nrm (sAdv L t (one0 s D)) := sNum_4 h
  rw [one2, e1, sNum_f h, sSem_f h]
theorem lCov_f {L : Nat} {t : Nat → Int32} {s : sS} {D : sD} (h : (nrm (sAdv L t (cov0 s D))).1 ≠ 0) : (lCov L t s D).1 = nrm (sAdv L t (cov0 s D)) := by
  show sSem L t (cov7 L t s D) = _
  have e1 : cov1 L t s D = nrm (sAdv L t (cov0 s D)) := sNum_4 h
  have e2 : cov2 L t s D = nrm (sAdv L t (cov0 s D)) := by rw [cov2, e1, sNum_f h]
  have e3 : cov3 L t s D = nrm (sAdv L t (cov0 s D)) := by rw [cov3, e2, sRef_f h]
  have e5 : cov5 L t s D = nrm (sAdv L t (cov0 s D)) := by rw [cov5, e3, sAdv_f h, sWea_f h]
  have e6 : cov6 L t s D = nrm (sAdv L t (cov0 s D)) := by rw [cov6, e5, sNum_f h]
  rw [cov7, e6, sNum_f h, sSem_f h]
theorem lOdd_f {L : Nat} {t : Nat → Int32} {s : sS} {D : sD} (h : (nrm (sAdv L t (odd0 s D))).1 ≠ 0) : (lOdd L t s D).1 = nrm (sAdv L t (odd0 s D)) := by
  show sSem L t (odd4 L t s D) = _
  have e1 : odd1 L t s D = nrm (sAdv L t (odd0 s D)) := sNum_4 h
  have e2 : odd2 L t s D = nrm (sAdv L t (odd0 s D)) := by rw [odd2, e1, sNum_f h]
  have e3 : odd3 L t s D = nrm (sAdv L t (odd0 s D)) := by rw [odd3, e2, sNum_f h]
  rw [odd4, e3, sNum_f h, sSem_f h]
theorem lFlo_f {L : Nat} {t : Nat → Int32} {s : sS} {D : sD} (h : (nrm (sAdv L t (sRef D.2.2.2.1 4 s))).1 ≠ 0) : (lFlo L t s D).1 = nrm (sAdv L t (sRef D.2.2.2.1 4 s)) := by
  show sSem L t (flo1 L t s D) = _
  have e1 : flo1 L t s D = nrm (sAdv L t (sRef D.2.2.2.1 4 s)) := sNum_4 h
  rw [e1, sSem_f h]
theorem sky_f {L m : Nat} {t : Nat → Int32} {s : sS} {D : sD} (h0 : s.1 = 0) (h : (nrm (sAdv L t s)).1 ≠ 0) : (skF L t (m + 1) s D).1 = nrm (sAdv L t s) := by
  have h1 : (sAdv L t s).1 = 0 := by rw [sAdv_g h0]
  have k4 : (sAdv L t s).2.2.2.1 = 4 := Classical.byContradiction (fun z => h (by rw [nrm_g z]; exact h1))
  have e3 : sky3 L t s D = nrm (sAdv L t s) := by rw [sky3, sExp_e, sRef_f h, sRef_f h, sWea_f h]
  rw [skF, if_pos h0, if_neg (by omega), e3, skF_f h]
theorem lSky_f {L : Nat} {t : Nat → Int32} {s : sS} {D : sD} (h : (nrm (sAdv L t (sRef D.2.2.2.2 4 s))).1 ≠ 0) : (lSky L t s D).1 = nrm (sAdv L t (sRef D.2.2.2.2 4 s)) := by
  show (skF L t 9 _ _).1 = _
  by_cases z : (sRef D.2.2.2.2 4 s).1 = 0
  · exact sky_f z h
  · rw [skF_f z, sAdv_f z, nrm_f z]
