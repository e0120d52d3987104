/-! the lines of a text; data: how many people, the page, what was told -/
abbrev sD := Nat × (Nat → Int32) × Bool × Bool × Bool
def dOne (k f p : Int32) (D : sD) : sD := if D.1 < 4 then (D.1 + 1, upd (upd (upd D.2.1 D.1 k) (4 + D.1) f) (8 + D.1) p, D.2.2) else D
def dCov (a b w x y : Int32) (D : sD) : sD := if ix (D.2.1 37) < 5 then (D.1, addP (ix (D.2.1 37)) a b w x y D.2.1, D.2.2) else D
def dPln (w : Int32) (D : sD) : sD := if ix (D.2.1 51) < 8 then (D.1, planP w D.2.1, D.2.2) else D
def dOdd (w : Nat) (v : Int32) (D : sD) : sD := (D.1, upd D.2.1 (38 + w) (v - fo w), D.2.2)
def dFlo (v : Int32) (D : sD) : sD := (D.1, upd D.2.1 42 (v - nI 5), D.2.2)
def dTo (D : sD) : sD := (D.1, D.2.1, true, D.2.2.2.1, D.2.2.2.2)
def dTf (D : sD) : sD := (D.1, D.2.1, D.2.2.1, true, D.2.2.2.2)
def dTs (D : sD) : sD := (D.1, D.2.1, D.2.2.1, D.2.2.2.1, true)
section LN
variable (L : Nat) (t : Nat → Int32)
noncomputable def one0 (s : sS) (D : sD) : sS := sRef (decide (4 ≤ D.1)) 5 s
noncomputable def one1 (s : sS) (D : sD) : sS := sNum L t (nI 1) (nI 5) (one0 s D)
noncomputable def one2 (s : sS) (D : sD) : sS := sNum L t (nI 0) (nI 99) (one1 L t s D)
noncomputable def lOne (k : Int32) (s : sS) (D : sD) : sS × sD := (sSem L t (one2 L t s D), dOne k (sVal (one1 L t s D)) (sVal (one2 L t s D)) D)
noncomputable def cov0 (s : sS) (D : sD) : sS := sRef (decide (5 ≤ ix (D.2.1 37))) 5 s
noncomputable def cov1 (s : sS) (D : sD) : sS := sNum L t (nI 0) (nI 3) (cov0 s D)
noncomputable def cov2 (s : sS) (D : sD) : sS := sNum L t (nI 0) (nI 3) (cov1 L t s D)
noncomputable def cov3 (s : sS) (D : sD) : sS := sRef (decide (sVal (cov1 L t s D) = sVal (cov2 L t s D))) 3 (cov2 L t s D)
noncomputable def cov5 (s : sS) (D : sD) : sS := sWea t (sAdv L t (cov3 L t s D))
noncomputable def cov6 (s : sS) (D : sD) : sS := sNum L t (nI 0) (nI 20) (cov5 L t s D)
noncomputable def cov7 (s : sS) (D : sD) : sS := sNum L t (nI 0) (nI 9) (cov6 L t s D)
noncomputable def lCov (s : sS) (D : sD) : sS × sD := (sSem L t (cov7 L t s D), dCov (sVal (cov1 L t s D)) (sVal (cov2 L t s D)) (sWv t (cov5 L t s D)) (sVal (cov6 L t s D)) (sVal (cov7 L t s D)) D)
noncomputable def odd0 (s : sS) (D : sD) : sS := sRef D.2.2.1 4 s
noncomputable def odd1 (s : sS) (D : sD) : sS := sNum L t (nI 0) (nI 10) (odd0 s D)
noncomputable def left1 (s : sS) (D : sD) : Int32 := nI 10 - sVal (odd1 L t s D)
noncomputable def odd2 (s : sS) (D : sD) : sS := sNum L t (nI 0) (left1 L t s D) (odd1 L t s D)
noncomputable def left2 (s : sS) (D : sD) : Int32 := left1 L t s D - sVal (odd2 L t s D)
noncomputable def odd3 (s : sS) (D : sD) : sS := sNum L t (nI 0) (left2 L t s D) (odd2 L t s D)
noncomputable def left3 (s : sS) (D : sD) : Int32 := left2 L t s D - sVal (odd3 L t s D)
noncomputable def odd4 (s : sS) (D : sD) : sS := sNum L t (left3 L t s D) (left3 L t s D) (odd3 L t s D)
noncomputable def lOdd (s : sS) (D : sD) : sS × sD := (sSem L t (odd4 L t s D), dOdd 3 (sVal (odd4 L t s D)) (dOdd 2 (sVal (odd3 L t s D)) (dOdd 1 (sVal (odd2 L t s D)) (dOdd 0 (sVal (odd1 L t s D)) (dTo D)))))
noncomputable def flo1 (s : sS) (D : sD) : sS := sNum L t (nI 0) (nI 99) (sRef D.2.2.2.1 4 s)
noncomputable def lFlo (s : sS) (D : sD) : sS × sD := (sSem L t (flo1 L t s D), dFlo (sVal (flo1 L t s D)) (dTf D))
noncomputable def sky3 (s : sS) (D : sD) : sS := sWea t (sRef (decide (8 ≤ ix (D.2.1 51))) 5 (sExp 1 (sAdv L t s)))
noncomputable def skF : Nat → sS → sD → sS × sD
  | 0, s, D => (s, D)
  | m + 1, s, D => if s.1 = 0 then (if (sAdv L t s).2.2.2.1 = 3 then (sAdv L t s, D) else skF m (sky3 L t s D) (dPln (sWv t (sky3 L t s D)) D)) else (s, D)
noncomputable def lSky (s : sS) (D : sD) : sS × sD := skF L t 9 (sRef D.2.2.2.2 4 s) (dTs D)
noncomputable def lWord (w : Nat) (s : sS) (D : sD) : sS × sD := if w < 4 then lOne L t (nI w) s D else if w = 8 then lCov L t s D else if w = 9 then lOdd L t s D else if w = 10 then lFlo L t s D else if w = 11 then lSky L t s D else ((2, s.2), D)
noncomputable def lLine (s : sS) (D : sD) : sS × sD := if (sExp 1 s).1 = 0 then lWord L t (wd t s.2) (sExp 1 s) D else (sExp 1 s, D)
noncomputable def txF : Nat → Nat → sS → sD → sS × sD × Nat
  | 0, k, s, D => (s, D, k)
  | m + 1, k, s, D => if s.2.2.2.1 ≠ 0 ∧ s.1 = 0 then txF m (k + 1) (sAdv L t (lLine L t s D).1) (lLine L t s D).2 else (s, D, k)
noncomputable def tx : sS × sD × Nat := txF L t 160 0 (0, tk L t 0) (0, fun _ => 0, false, false, false)
end LN
def strB (D : sD) : Bool := decide (∃ c, c < ix (D.2.1 37) ∧ (nI D.1 ≤ D.2.1 (12 + 5 * c) ∨ nI D.1 ≤ D.2.1 (12 + 5 * c + 1)))
noncomputable def txE (L : Nat) (t : Nat → Int32) : sS := sRef (strB (tx L t).2.1) 6 (tx L t).1
/-! the class's draft -/
def CD (D : sD) (h : jH) : Prop := XV D.1 D.2.1 h 41 ∧ D.1 ≤ 4 ∧ nb 6 (D.2.1 37) ∧ nb 9 (D.2.1 51) ∧ (h 39 8 = bI D.2.2.1 ∧ h 39 9 = bI D.2.2.2.1 ∧ h 39 10 = bI D.2.2.2.2) ∧ h 41 9 = D.2.1 52
def df (h h' : jH) : Prop := ∀ b k, ¬ (b = 39 ∧ 2 ≤ k) → ¬ (41 ≤ b ∧ b ≤ 58) → h' b k = h b k
theorem df.rf {h : jH} : df h h := fun _ _ _ _ => rfl
theorem df.tr {h h' h2 : jH} (a : df h h') (b : df h' h2) : df h h2 := fun x k z y => (b x k z y).trans (a x k z y)
theorem tf.df {h h' : jH} (f : tf h h') : df h h' := fun b k z _ => f b k (by omega)
theorem fr.df {h h' : jH} (f : fr 41 h h') : df h h' := fun b k z y => by rw [f.1 b (by omega)]
theorem df_up {h : jH} {k : Nat} {x : Int32} (hk : 2 ≤ k) : df h (j_up h 39 k x) := fun b j z y => j_up_o (by omega)
theorem TP.df {L : Nat} {t : Nat → Int32} {h h' : jH} (a : TP L t h) (f : df h h') : TP L t h' := ⟨(f 39 1 (by omega) (by omega)).trans a.1, a.2.1, fun i hi => (f 40 i (by omega) (by omega)).trans (a.2.2 i hi)⟩
theorem CT.of {L : Nat} {s : sS} {h h' : jH} (c : CT L s h) (e : ∀ k, 2 ≤ k → k ≤ 6 → h' 39 k = h 39 k) : CT L s h' :=
  ⟨(e 2 (by omega) (by omega)).trans c.1, (e 3 (by omega) (by omega)).trans c.2.1, (e 4 (by omega) (by omega)).trans c.2.2.1, fun z => (e 5 (by omega) (by omega)).trans (c.2.2.2.1 z), (e 6 (by omega) (by omega)).trans c.2.2.2.2.1, c.2.2.2.2.2⟩
theorem CT.fr {L : Nat} {s : sS} {h h' : jH} (c : CT L s h) (f : fr 41 h h') : CT L s h' := c.of (fun k _ _ => by rw [f.1 39 (by omega)])
theorem CT.up {L k : Nat} {s : sS} {h : jH} {x : Int32} (c : CT L s h) (hk : 8 ≤ k) : CT L s (j_up h 39 k x) := c.of (fun j _ _ => j_up_o (by omega))
theorem CD.tf {D : sD} {h h' : jH} (c : CD D h) (f : tf h h') : CD D h' := by
  obtain ⟨x, n4, c6, c9, ⟨f1, f2, f3⟩, w⟩ := c
  refine ⟨XV_congr x (fun _ _ => rfl) n4 c6.2 c9.2 (fun b h1 h2 => funext fun k => f b k (by omega)), n4, c6, c9, ⟨(f _ _ (by omega)).trans f1, (f _ _ (by omega)).trans f2, (f _ _ (by omega)).trans f3⟩, (f _ _ (by omega)).trans w⟩
theorem CD.fr {D D' : sD} {h h' : jH} (c : CD D h) (f : fr 41 h h') (x : XV D'.1 D'.2.1 h' 41) (n4 : D'.1 ≤ 4) (c6 : nb 6 (D'.2.1 37)) (c9 : nb 9 (D'.2.1 51)) (e : D'.2.2 = D.2.2) (e52 : D'.2.1 52 = D.2.1 52) : CD D' h' := by
  obtain ⟨-, -, -, -, ⟨f1, f2, f3⟩, w⟩ := c
  refine ⟨x, n4, c6, c9, ?_, by rw [f.2, w, e52]⟩
  rw [f.1 39 (by omega), e]
  exact ⟨f1, f2, f3⟩
theorem CD_to {D : sD} {h : jH} (c : CD D h) : CD (dTo D) (j_up h 39 8 (nI 1)) := by
  obtain ⟨x, n4, c6, c9, ⟨f1, f2, f3⟩, w⟩ := c
  exact ⟨XV_congr x (fun _ _ => rfl) n4 c6.2 c9.2 (fun b h1 h2 => j_up_ne b (by omega)), n4, c6, c9, ⟨j_up_s, (j_up_o (by omega)).trans f2, (j_up_o (by omega)).trans f3⟩, (j_up_o (by omega)).trans w⟩
theorem CD_tf {D : sD} {h : jH} (c : CD D h) : CD (dTf D) (j_up h 39 9 (nI 1)) := by
  obtain ⟨x, n4, c6, c9, ⟨f1, f2, f3⟩, w⟩ := c
  exact ⟨XV_congr x (fun _ _ => rfl) n4 c6.2 c9.2 (fun b h1 h2 => j_up_ne b (by omega)), n4, c6, c9, ⟨(j_up_o (by omega)).trans f1, j_up_s, (j_up_o (by omega)).trans f3⟩, (j_up_o (by omega)).trans w⟩
theorem CD_ts {D : sD} {h : jH} (c : CD D h) : CD (dTs D) (j_up h 39 10 (nI 1)) := by
  obtain ⟨x, n4, c6, c9, ⟨f1, f2, f3⟩, w⟩ := c
  exact ⟨XV_congr x (fun _ _ => rfl) n4 c6.2 c9.2 (fun b h1 h2 => j_up_ne b (by omega)), n4, c6, c9, ⟨(j_up_o (by omega)).trans f1, (j_up_o (by omega)).trans f2, j_up_s⟩, (j_up_o (by omega)).trans w⟩
def aoH (h : jH) (v n : Nat) (k f p : Int32) : jH := j_up (j_up (j_up (j_up h (v + 2) n k) (v + 3) n f) (v + 4) n p) v 0 (nI (n + 1))
theorem XV_one {v n : Nat} {k f p : Int32} {P : Nat → Int32} {h : jH} (hX : XV n P h v) (hn : n < 4) (h6 : ix (P 37) < 6) (h9 : ix (P 51) < 9) : XV (n + 1) (upd (upd (upd P n k) (4 + n) f) (8 + n) p) (aoH h v n k f p) v := by
  obtain ⟨xa, xb, xc, xd, xe, xg⟩ := XV_parts.mp hX
  have o : ∀ b j, (b ≠ v ∨ j ≠ 0) → (b < v + 2 ∨ v + 4 < b ∨ j ≠ n) → aoH h v n k f p b j = h b j := fun b j h1 h2 => by rw [aoH, j_up_o (by omega), j_up_o (by omega), j_up_o (by omega), j_up_o (by omega)]
  have u : ∀ j, j ≠ n → j ≠ 4 + n → j ≠ 8 + n → upd (upd (upd P n k) (4 + n) f) (8 + n) p j = P j := fun j h1 h2 h3 => by rw [upd_ne (by omega), upd_ne (by omega), upd_ne (by omega)]
  refine XV_parts.mpr ⟨⟨by rw [aoH, j_up_s], fun q hq => ?_⟩, xB_congr xb h6 (fun k h1 h2 => u k (by omega) (by omega) (by omega)) (o _ _ (by omega) (by omega)) (fun j hj k => o _ _ (by omega) (by omega)), xC_congr xc (fun k h1 h2 => u k (by omega) (by omega) (by omega)) (fun k => o _ _ (by omega) (by omega)), ?_, xE_congr xe h9 (fun k h1 h2 => u k (by omega) (by omega) (by omega)) (o _ _ (by omega) (by omega)) (fun k => o _ _ (by omega) (by omega)), xG_congr xg (fun k h1 h2 => u k (by omega) (by omega) (by omega)) (fun q hq k => o _ _ (by omega) (by omega))⟩
  · by_cases z : q = n
    · subst z
      refine ⟨?_, ?_, ?_⟩
      · rw [aoH, j_up_o (by omega), j_up_o (by omega), j_up_o (by omega), j_up_s, upd_ne (by omega), upd_ne (by omega), upd_at]
      · rw [aoH, j_up_o (by omega), j_up_o (by omega), j_up_s, upd_ne (by omega), upd_at]
      · rw [aoH, j_up_o (by omega), j_up_s, upd_at]
    · have := xa.2 q (by omega)
      rw [o _ _ (by omega) (by omega), o _ _ (by omega) (by omega), o _ _ (by omega) (by omega), u q (by omega) (by omega) (by omega), u (4 + q) (by omega) (by omega) (by omega), u (8 + q) (by omega) (by omega) (by omega)]
      exact this
  · rw [o _ _ (by omega) (by omega), u 42 (by omega) (by omega) (by omega)]; exact xd
theorem XV_floor2 {v n : Nat} {P : Nat → Int32} {h : jH} {x : Int32} (hX : XV n P h v) (hn : n ≤ 4) (h6 : ix (P 37) < 6) (h9 : ix (P 51) < 9) : XV n (upd P 42 (x - nI 5)) (j_up h v 6 x) v := by
  obtain ⟨xa, xb, xc, xd, xe, xg⟩ := XV_parts.mp hX
  refine XV_parts.mpr ⟨xA_congr hn xa (fun k h1 => upd_ne (by omega)) (j_up_o (by omega)) (fun j hj k => j_up_o (by omega)), xB_congr xb h6 (fun k h1 h2 => upd_ne (by omega)) (j_up_o (by omega)) (fun j hj k => j_up_o (by omega)), xC_congr xc (fun k h1 h2 => upd_ne (by omega)) (fun k => j_up_o (by omega)), ?_, xE_congr xe h9 (fun k h1 h2 => upd_ne (by omega)) (j_up_o (by omega)) (fun k => j_up_o (by omega)), xG_congr xg (fun k h1 h2 => upd_ne (by omega)) (fun q hq k => j_up_o (by omega))⟩
  rw [j_up_s, upd_at, Int32.sub_add_cancel]
theorem XV_odd {v n w : Nat} {P : Nat → Int32} {h : jH} {x : Int32} (hX : XV n P h v) (hn : n ≤ 4) (h6 : ix (P 37) < 6) (h9 : ix (P 51) < 9) (hw : w < 4) : XV n (upd P (38 + w) (x - fo w)) (j_up h (v + 11) w x) v := by
  obtain ⟨xa, xb, xc, xd, xe, xg⟩ := XV_parts.mp hX
  refine XV_parts.mpr ⟨xA_congr hn xa (fun k h1 => upd_ne (by omega)) (j_up_o (by omega)) (fun j hj k => j_up_o (by omega)), xB_congr xb h6 (fun k h1 h2 => upd_ne (by omega)) (j_up_o (by omega)) (fun j hj k => j_up_o (by omega)), fun k hk => ?_, ?_, xE_congr xe h9 (fun k h1 h2 => upd_ne (by omega)) (j_up_o (by omega)) (fun k => j_up_o (by omega)), xG_congr xg (fun k h1 h2 => upd_ne (by omega)) (fun q hq k => j_up_o (by omega))⟩
  · by_cases z : k = w
    · subst z
      rw [j_up_s, upd_at, Int32.sub_add_cancel]
    · rw [j_up_o (by omega), upd_ne (by omega)]; exact xc k hk
  · rw [j_up_o (by omega), upd_ne (by omega)]; exact xd
def aoQ (h : jH) (n : Nat) (k f p : Int32) : jH := if n < 4 then aoH h 41 n k f p else h
theorem aoQ_fr {h : jH} {n : Nat} {k f p : Int32} : fr 41 h (aoQ h n k f p) := by
  unfold aoQ
  split
  · exact fr_up (fr_up (fr_up (fr_up fr.rf (by omega) (by omega)) (by omega) (by omega)) (by omega) (by omega)) (by omega) (by omega)
  · exact fr.rf
theorem CD_one {D : sD} {h : jH} {k f p : Int32} (c : CD D h) : CD (dOne k f p D) (aoQ h D.1 k f p) := by
  unfold dOne
  by_cases z : D.1 < 4
  · have fq := aoQ_fr (h := h) (n := D.1) (k := k) (f := f) (p := p)
    rw [if_pos z]
    refine c.fr fq ?_ (by show D.1 + 1 ≤ 4; omega) ?_ ?_ rfl ?_
    · rw [aoQ, if_pos z]; exact XV_one c.1 z c.2.2.1.2 c.2.2.2.1.2
    all_goals
      dsimp only
      rw [upd_ne (by omega), upd_ne (by omega), upd_ne (by omega)]
    · exact c.2.2.1
    · exact c.2.2.2.1
  · rw [if_neg z, aoQ, if_neg z]; exact c
def acQ (h : jH) (n : Nat) (a b w x y : Int32) : jH := if n < 5 then acH h 41 n a b w x y else h
theorem acQ_fr {h : jH} {n : Nat} {a b w x y : Int32} : fr 41 h (acQ h n a b w x y) := by
  unfold acQ
  split
  · exact acH_fr
  · exact fr.rf
theorem CD_cov {D : sD} {h : jH} {a b w x y : Int32} (c : CD D h) : CD (dCov a b w x y D) (acQ h (ix (D.2.1 37)) a b w x y) := by
  unfold dCov
  by_cases z : ix (D.2.1 37) < 5
  · have fq := acQ_fr (h := h) (n := ix (D.2.1 37)) (a := a) (b := b) (w := w) (x := x) (y := y)
    rw [if_pos z]
    refine c.fr fq ?_ c.2.1 ?_ ?_ rfl ?_
    · rw [acQ, if_pos z]; exact XV_add c.1 c.2.1 c.2.2.2.1.2 c.2.2.1.1 z
    · dsimp only
      rw [addP, upd_at]; exact nb_succ (by omega) (by omega)
    · dsimp only
      rw [addP_ne (by omega) (by omega)]; exact c.2.2.2.1
    · dsimp only
      exact addP_ne (by omega) (by omega)
  · rw [if_neg z, acQ, if_neg z]; exact c
def apQ (h : jH) (n : Nat) (w : Int32) : jH := if n < 8 then j_up (j_up h (41 + 12) n w) 41 7 (nI n + nI 1) else h
theorem apQ_fr {h : jH} {n : Nat} {w : Int32} : fr 41 h (apQ h n w) := by
  unfold apQ
  split
  · exact fr_up (fr_up fr.rf (by omega) (by omega)) (by omega) (by omega)
  · exact fr.rf
theorem CD_pln {D : sD} {h : jH} {w : Int32} (c : CD D h) : CD (dPln w D) (apQ h (ix (D.2.1 51)) w) := by
  unfold dPln
  by_cases z : ix (D.2.1 51) < 8
  · have fq := apQ_fr (h := h) (n := ix (D.2.1 51)) (w := w)
    rw [if_pos z]
    refine c.fr fq ?_ c.2.1 ?_ ?_ rfl ?_
    · rw [apQ, if_pos z]; exact XV_plan c.1 c.2.1 c.2.2.1.2 c.2.2.2.1.1 z
    · dsimp only
      rw [planP, upd_ne (by omega), upd_ne (by omega)]; exact c.2.2.1
    · dsimp only
      have q := ix_suc c.2.2.2.1 (by omega)
      rw [planP, upd_at]; exact nb_le q.1 (by rw [q.2]; omega)
    · dsimp only
      rw [planP, upd_ne (by omega), upd_ne (by omega)]
  · rw [if_neg z, apQ, if_neg z]; exact c
theorem CD_odd {D : sD} {h : jH} {w : Nat} {v : Int32} (c : CD D h) (hw : w < 4) : CD (dOdd w v D) (j_up h (41 + 11) w v) := by
  refine c.fr (fr_up fr.rf (by omega) (by omega)) (XV_odd c.1 c.2.1 c.2.2.1.2 c.2.2.2.1.2 hw) c.2.1 ?_ ?_ rfl ?_
  all_goals
    dsimp only [dOdd]
    rw [upd_ne (by omega)]
  · exact c.2.2.1
  · exact c.2.2.2.1
theorem CD_flo {D : sD} {h : jH} {v : Int32} (c : CD D h) : CD (dFlo v D) (j_up h 41 6 v) := by
  refine c.fr (fr_up fr.rf (by omega) (by omega)) (XV_floor2 c.1 c.2.1 c.2.2.1.2 c.2.2.2.1.2) c.2.1 ?_ ?_ rfl ?_
  all_goals
    dsimp only [dFlo]
    rw [upd_ne (by omega)]
  · exact c.2.2.1
  · exact c.2.2.2.1
def LQ (L : Nat) (r : sS × sD) (h h' : jH) : Prop := CT L r.1 h' ∧ CD r.2 h' ∧ df h h'
