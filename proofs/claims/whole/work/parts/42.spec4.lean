/-! weeks that are only thought of -/
def e52 (P Q : Nat → Int32) : Prop := ∀ k, k ≠ 52 → Q k = P k
theorem e52.rf {P : Nat → Int32} : e52 P P := fun _ _ => rfl
theorem e52_upd {P Q : Nat → Int32} {x : Int32} (e : e52 P Q) : e52 P (upd Q 52 x) := fun k hk => by rw [upd_ne hk]; exact e k hk
theorem payP_e {p q : Nat} {v : Int32} {P Q : Nat → Int32} (e : e52 P Q) (hp : p < 4) (hq : q < 4) : e52 (payP p q v P) (payP p q v Q) ∧ payK p v Q = payK p v P := by
  have h1 := e (8 + p) (by omega)
  have h2 := e (8 + q) (by omega)
  refine ⟨fun k hk => ?_, by unfold payK; rw [h1]⟩
  have h3 := e k hk
  have h4 : ∀ j, j ≠ 52 → pay2 p q v Q j = pay2 p q v P j := fun j hj => by
    unfold pay2 upd
    rw [h1, h2, e j hj]
  have h5 := h4 (53 + 4 * p + q) (by omega)
  unfold payP
  by_cases z : k = 53 + 4 * p + q
  · subst z; rw [upd_at, upd_at, h5, h1]
  · rw [upd_ne z, upd_ne z]; exact h4 k hk
theorem γP_e {P Q : Nat → Int32} (e : e52 P Q) {w p : Nat} (hp : p < 4) : γP Q w p = γP P w p := by
  unfold γP
  rw [e p (by omega), e (4 + p) (by omega)]
theorem w1_e {γ γ' P Q : Nat → Int32} (e : e52 P Q) : ∀ {n : Nat}, n ≤ 4 → (∀ k, k < n → γ' k = γ k) → e52 (w1 γ P n) (w1 γ' Q n)
  | 0, _, _ => e
  | n + 1, hn, hg => fun k hk => by
    have ih := w1_e e (n := n) (by omega) (fun k hk => hg k (by omega))
    rw [w1, w1]
    by_cases z : k = 8 + n
    · subst z; rw [upd_at, upd_at, ih _ (by omega), hg n (by omega)]
    · rw [upd_ne z, upd_ne z]; exact ih k hk
theorem cvF_e {w : Nat} {P Q : Nat → Int32} (e : e52 P Q) (hc : cvOK P) : ∀ {c : Nat}, c ≤ ix (P 37) → e52 (cvF w P c).1 (cvF w Q c).1 ∧ (cvF w Q c).2 = (cvF w P c).2
  | 0, _ => ⟨e, rfl⟩
  | c + 1, h => by
    have h6 := hc.1.2
    obtain ⟨i1, i2⟩ := cvF_e (w := w) e hc (c := c) (by omega)
    obtain ⟨n1, n2⟩ := hc.2 c (by omega)
    have k0 := cvF_keep (w := w) hc (k := 12 + 5 * c) (by omega) (c := c) (by omega)
    have k1 := cvF_keep (w := w) hc (k := 12 + 5 * c + 1) (by omega) (c := c) (by omega)
    have a0 := cvA_keep (w := w) hc (k := 12 + 5 * c) (by omega) (c := c) (by omega)
    have a1 := cvA_keep (w := w) hc (k := 12 + 5 * c + 1) (by omega) (c := c) (by omega)
    have hA : e52 (cvA w c (cvF w P c)).1 (cvA w c (cvF w Q c)).1 ∧ (cvA w c (cvF w Q c)).2 = (cvA w c (cvF w P c)).2 := by
      unfold cvA
      rw [i1 (12 + 5 * c + 2) (by omega), i1 (12 + 5 * c) (by omega), i1 (12 + 5 * c + 1) (by omega), i1 (12 + 5 * c + 3) (by omega), i2]
      have pe := payP_e (v := (cvF w P c).1 (12 + 5 * c + 3)) i1 (p := ix ((cvF w P c).1 (12 + 5 * c))) (q := ix ((cvF w P c).1 (12 + 5 * c + 1))) (by rw [k0]; exact n1.2) (by rw [k1]; exact n2.2)
      split
      · exact ⟨pe.1, by rw [pe.2]⟩
      · exact ⟨i1, rfl⟩
    obtain ⟨j1, j2⟩ := hA
    rw [cvF, cvF]
    unfold cvB
    rw [j1 (12 + 5 * c + 1) (by omega), j1 (12 + 5 * c) (by omega), j1 (12 + 5 * c + 4) (by omega), j2]
    have pe := payP_e (v := (cvA w c (cvF w P c)).1 (12 + 5 * c + 4)) j1 (p := ix ((cvA w c (cvF w P c)).1 (12 + 5 * c + 1))) (q := ix ((cvA w c (cvF w P c)).1 (12 + 5 * c))) (by rw [a1]; exact n2.2) (by rw [a0]; exact n1.2)
    exact ⟨pe.1, by rw [pe.2]⟩
theorem live_e {n w : Nat} {P Q : Nat → Int32} (hG : gdV n P) (e : e52 P Q) : e52 (liveP n w P).1 (liveP n w Q).1 ∧ (liveP n w Q).2 = (liveP n w P).2 := by
  have hw := w1_e (γ := γP P w) (γ' := γP Q w) e hG.1 (fun k hk => γP_e e (by have := hG.1; omega))
  unfold liveP
  rw [e 37 (by omega)]
  have e37 : w1 (γP P w) P n 37 = P 37 := w1_keep hG.1 (by omega)
  exact cvF_e hw (w1_cvOK hG.1 hG.cv) (Nat.le_of_eq (congrArg ix e37.symm))
theorem gdV_e {n : Nat} {P Q : Nat → Int32} (hG : gdV n P) (e : e52 P Q) : gdV n Q := by
  obtain ⟨g1, g2, g3, g4⟩ := hG
  have h6 := g3.2
  have e37 := e 37 (by omega)
  refine ⟨g1, fun p hp => by rw [e p (by omega)]; exact g2 p hp, by rw [e37]; exact g3, fun c hc => ?_⟩
  rw [e37] at hc
  rw [e _ (by omega), e _ (by omega)]; exact g4 c hc
theorem week_e {n w : Nat} {P Q : Nat → Int32} (hG : gdV n P) (e : e52 P Q) : e52 (liveP n w P).1 (weekP n (γP Q w) w Q).1 ∧ (weekP n (γP Q w) w Q).2 = (liveP n w P).2 := by
  rw [weekP_live]
  exact ⟨e52_upd (live_e hG e).1, (live_e hG e).2⟩
/-- how often somebody fails: a small count -/
theorem cvF_cnt {w : Nat} {P : Nat → Int32} : ∀ c : Nat, ∃ k, k ≤ 2 * c ∧ (cvF w P c).2 = nI k
  | 0 => ⟨0, by omega, rfl⟩
  | c + 1 => by
    obtain ⟨k, hk, e⟩ := cvF_cnt (w := w) (P := P) c
    have hp : ∀ p v Q, payK p v Q = nI 0 ∨ payK p v Q = nI 1 := fun p v Q => by
      unfold payK
      split
      · exact Or.inl rfl
      · exact Or.inr rfl
    have hA : ∃ j, j ≤ k + 1 ∧ (cvA w c (cvF w P c)).2 = nI j := by
      unfold cvA
      split
      · rcases hp (ix ((cvF w P c).1 (12 + 5 * c))) ((cvF w P c).1 (12 + 5 * c + 3)) (cvF w P c).1 with z | z
        · exact ⟨k, by omega, by rw [z, e, add0]⟩
        · exact ⟨k + 1, by omega, by rw [z, e, nI_add]⟩
      · exact ⟨k, by omega, by rw [e, add0]⟩
    obtain ⟨j, hj, e2⟩ := hA
    rw [cvF]
    unfold cvB
    rcases hp (ix ((cvA w c (cvF w P c)).1 (12 + 5 * c + 1))) ((cvA w c (cvF w P c)).1 (12 + 5 * c + 4)) (cvA w c (cvF w P c)).1 with z | z
    · exact ⟨j, by omega, by rw [z, e2, add0]⟩
    · exact ⟨j + 1, by omega, by rw [z, e2, nI_add]⟩
theorem live_cnt {n w : Nat} {P : Nat → Int32} (h6 : ix (P 37) < 6) : ∃ k, k ≤ 10 ∧ (liveP n w P).2 = nI k := by
  obtain ⟨k, hk, e⟩ := cvF_cnt (w := w) (P := w1 (γP P w) P n) (ix (P 37))
  exact ⟨k, by omega, e⟩
/-- the plan -/
def plF (n : Nat) (P : Nat → Int32) : Nat → (Nat → Int32) × Int32 × Int32
  | 0 => (P, nI 0, -4)
  | i + 1 => ((liveP n (ix (P (43 + i))) (plF n P i).1).1, (plF n P i).2.1 + (liveP n (ix (P (43 + i))) (plF n P i).1).2, if 0 < (liveP n (ix (P (43 + i))) (plF n P i).1).2 ∧ (plF n P i).2.2 = -4 then nI i else (plF n P i).2.2)
theorem plF_ok {n : Nat} {P : Nat → Int32} (hG : GD n P) : ∀ k : Nat, GD n (plF n P k).1 ∧ ∀ j, (j < 8 ∨ (12 ≤ j ∧ j < 53)) → (plF n P k).1 j = P j
  | 0 => ⟨hG, fun _ _ => rfl⟩
  | k + 1 => by
    obtain ⟨i1, i2⟩ := plF_ok hG k
    refine ⟨GD_live i1, fun j hj => ?_⟩
    rw [plF]
    exact (liveP_keep i1.1 hj).trans (i2 j hj)
noncomputable def oRuns (a : jH) (x : Int32) : Int32 × jH := (sel x [(plF (ix (a 131 2)) (pg a 0) (ix (pg a 0 51))).2.1, blw (fun p => (plF (ix (a 131 2)) (pg a 0) (ix (pg a 0 51))).1 (8 + p)) (pg a 0 42 + nI 5) (ix (a 131 2)), (plF (ix (a 131 2)) (pg a 0) (ix (pg a 0 51))).2.2,
  sumZ (fun p => (plF (ix (a 131 2)) (pg a 0) (ix (pg a 0 51))).1 (8 + p)) (ix (a 131 2)), sumZ (fun k => (plF (ix (a 131 2)) (pg a 0) (ix (pg a 0 51))).1 (53 + k)) 16] 0 (-1), a)
noncomputable def oAhead (a : jH) (p : Int32) : Int32 × jH := iteR (nb (ix (a 131 2)) p) ((plF (ix (a 131 2)) (pg a 0) (ix (pg a 0 51))).1 (8 + ix p), a) (-1, a)
theorem mset_f {h : jH} {o k : Nat} {P : Nat → Int32} {x : Int32} : j_up (mset h o P) 131 k x = mset (j_up h 131 k x) o P := by
  funext b j
  unfold j_up mset
  by_cases z : b = 131 ∧ j = k
  · obtain ⟨rfl, rfl⟩ := z
    simp
  · simp [z]
theorem up_up {h : jH} {a k : Nat} {x y : Int32} : j_up (j_up h a k x) a k y = j_up h a k y := by
  funext b j
  unfold j_up
  by_cases z : b = a ∧ j = k
  · simp [z]
  · simp [z]
theorem sameP_scr {h : jH} {o : Nat} {T : Nat → Int32} (ho : 207 ≤ o) : sameP h (mset h o T) := ⟨fun k hk => mset_out (by omega), fun k hk => mset_b (by decide) rfl, fun b hb => mset_ne (by omega)⟩
theorem sameP.tr {a b c : jH} (h : sameP a b) (k : sameP b c) : sameP a c := ⟨fun j hj => (k.1 j hj).trans (h.1 j hj), fun j hj => (k.2.1 j hj).trans (h.2.1 j hj), fun j hj => (k.2.2 j hj).trans (h.2.2 j hj)⟩
theorem sameP_18 {h : jH} {x : Int32} : sameP h (j_up h 131 18 x) := ⟨fun k hk => j_up_o (by omega), fun k hk => j_up_o (by omega), fun b hb => j_up_ne b (by omega)⟩
/-- drawn weathers -/
def wthr (P : Nat → Int32) (t : Nat) : Nat := if t < ix (P 38 + fo 0) then 0 else if t < ix (P 38 + fo 0) + ix (P 39 + fo 1) then 1 else if t < ix (P 38 + fo 0) + ix (P 39 + fo 1) + ix (P 40 + fo 2) then 2 else 3
def drw (x : Int32) : Int32 := x * 1103515245 + nI 12345
def tenth (x : Int32) : Nat := x.toBitVec.toNat / 2 ^ 16 % 2 ^ 15 % 10
def dfF (n : Nat) (P : Nat → Int32) (seed : Int32) : Nat → (Nat → Int32) × Int32 × Int32
  | 0 => (P, nI 0, seed)
  | i + 1 => ((liveP n (wthr P (tenth (drw (dfF n P seed i).2.2))) (dfF n P seed i).1).1, (dfF n P seed i).2.1 + (liveP n (wthr P (tenth (drw (dfF n P seed i).2.2))) (dfF n P seed i).1).2, drw (dfF n P seed i).2.2)
theorem wthr_lt {P : Nat → Int32} {t : Nat} : wthr P t < 4 := by unfold wthr; split; omega; split; omega; split <;> omega
theorem dfF_ok {n : Nat} {P : Nat → Int32} {s : Int32} (hG : GD n P) : ∀ k : Nat, GD n (dfF n P s k).1 ∧ ∀ j, (j < 8 ∨ (12 ≤ j ∧ j < 53)) → (dfF n P s k).1 j = P j
  | 0 => ⟨hG, fun _ _ => rfl⟩
  | k + 1 => by
    obtain ⟨i1, i2⟩ := dfF_ok (s := s) hG k
    refine ⟨GD_live i1, fun j hj => ?_⟩
    rw [dfF]
    exact (liveP_keep i1.1 hj).trans (i2 j hj)
noncomputable def oDrift (a : jH) (s n x : Int32) : Int32 × jH := iteR ((nI 1 ≤ n ∧ n ≤ nI 60) ∧ nI 0 ≤ x ∧ x ≤ nI 1) (iteP (x = 0) (dfF (ix (a 131 2)) (pg a 0) s (ix n)).2.1 (sumZ (fun p => (dfF (ix (a 131 2)) (pg a 0) s (ix n)).1 (8 + p)) (ix (a 131 2))), a) (-1, a)
theorem tenth_lt (x : Int32) : tenth x < 10 := Nat.mod_lt _ (by omega)
theorem tenth_u (x : Int32) : (x.toUInt32 >>> ((nI 16).toUInt32 &&& Int32.toUInt32 31)).toInt32 &&& nI 32767 = nI (x.toBitVec.toNat / 2 ^ 16 % 2 ^ 15) := by
  rw [pk_and _ 15 (by decide), pk_ushr x (nI 16) 16 (by decide)]
theorem tenth_s (x : Int32) : (x >>> (nI 16 &&& 31)) &&& nI 32767 = nI (x.toBitVec.toNat / 2 ^ 16 % 2 ^ 15) := by
  rw [pk_and _ 15 (by decide)]
  congr 1
  have e : (nI 16 &&& 31 : Int32) = 16 := by decide
  rw [e, Int32.toBitVec_shiftRight]
  have e2 : ((16 : Int32).toBitVec.smod 32) = 16#32 := by decide
  rw [e2]
  show (BitVec.sshiftRight x.toBitVec 16).toNat % 2 ^ 15 = _
  generalize x.toBitVec = y
  have hy := y.isLt
  cases hm : y.msb with
  | false =>
    rw [BitVec.sshiftRight_eq_of_msb_false hm, BitVec.toNat_ushiftRight, Nat.shiftRight_eq_div_pow]
  | true =>
    rw [BitVec.sshiftRight_eq_of_msb_true hm, BitVec.toNat_not, BitVec.toNat_ushiftRight, BitVec.toNat_not, Nat.shiftRight_eq_div_pow]
    omega
theorem tenth_r (x : Int32) : nI (x.toBitVec.toNat / 2 ^ 16 % 2 ^ 15) - nI (x.toBitVec.toNat / 2 ^ 16 % 2 ^ 15) / nI 10 * nI 10 = nI (tenth x) := by
  have h := Nat.mod_lt (x.toBitVec.toNat / 2 ^ 16) (show 0 < 2 ^ 15 by omega)
  exact pk_rem (by omega) (by omega) (by omega)
