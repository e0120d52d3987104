/-! THE TEXT: tokens of a tape t of length L, and what is read of them -/
/-- a value that nothing unfolds -/
noncomputable def sl {α : Type} (x : α) : α := Classical.choose (⟨x, rfl⟩ : ∃ y, y = x)
theorem sl_eq {α : Type} (x : α) : sl x = x := Classical.choose_spec (⟨x, rfl⟩ : ∃ y, y = x)
abbrev sT := Nat × Nat × Nat × Int32
abbrev sS := Nat × sT
def scan (p : Nat → Bool) : Nat → Nat → Nat
  | 0, s => s
  | m + 1, s => if p s = true then scan p m (s + 1) else s
theorem scan_eq {p : Nat → Bool} : ∀ {m s k : Nat}, s ≤ k → k < s + m → (∀ j, s ≤ j → j < k → p j = true) → p k = false → scan p m s = k
  | 0, s, k, h1, h2, _, _ => by omega
  | m + 1, s, k, h1, h2, h3, h4 => by
    rw [scan]
    by_cases e : s = k
    · subst e
      rw [if_neg (by rw [h4]; decide)]
    · rw [if_pos (h3 s (Nat.le_refl _) (by omega))]
      exact scan_eq (by omega) (by omega) (fun j h5 h6 => h3 j (by omega) h6) h4
theorem scan_ex {p : Nat → Bool} {L : Nat} (hp : ∀ j, p j = true → j < L) : ∀ {m s : Nat}, s ≤ L → L < s + m → s ≤ scan p m s ∧ scan p m s ≤ L ∧ (∀ j, s ≤ j → j < scan p m s → p j = true) ∧ p (scan p m s) = false
  | 0, s, h1, h2 => by omega
  | m + 1, s, h1, h2 => by
    rw [scan]
    by_cases e : p s = true
    · rw [if_pos e]
      have hs := hp s e
      obtain ⟨a1, a2, a3, a4⟩ := scan_ex (m := m) (s := s + 1) hp (by omega) (by omega)
      refine ⟨by omega, a2, fun j h3 h4 => ?_, a4⟩
      by_cases z : j = s
      · rw [z]; exact e
      · exact a3 j (by omega) h4
    · rw [if_neg e]
      exact ⟨Nat.le_refl _, h1, fun j h3 h4 => by omega, by simpa using e⟩
def spB (L : Nat) (t : Nat → Int32) (k : Nat) : Bool := decide (k < L ∧ t k = nI 32)
def ltB (L : Nat) (t : Nat → Int32) (k : Nat) : Bool := decide (k < L ∧ nI 97 ≤ t k ∧ t k ≤ nI 122)
def fgB (L : Nat) (t : Nat → Int32) (k : Nat) : Bool := decide (k < L ∧ nI 48 ≤ t k ∧ t k ≤ nI 57)
theorem spB_l {L : Nat} {t : Nat → Int32} {k : Nat} (h : spB L t k = true) : k < L := (of_decide_eq_true h).1
theorem ltB_l {L : Nat} {t : Nat → Int32} {k : Nat} (h : ltB L t k = true) : k < L := (of_decide_eq_true h).1
theorem fgB_l {L : Nat} {t : Nat → Int32} {k : Nat} (h : fgB L t k = true) : k < L := (of_decide_eq_true h).1
def nvF (t : Nat → Int32) (s : Nat) : Nat → Int32
  | 0 => nI 0
  | k + 1 => nvF t s k * nI 10 + t (s + k) - nI 48
/-- the token from s on: its place, what is next, its kind, its value -/
noncomputable def tk (L : Nat) (t : Nat → Int32) (s : Nat) : sT := sl (
  if L ≤ scan (spB L t) 161 s then (scan (spB L t) 161 s, scan (spB L t) 161 s, 0, 0)
  else if ltB L t (scan (spB L t) 161 s) = true then (scan (spB L t) 161 s, scan (ltB L t) 161 (scan (spB L t) 161 s), 1, 0)
  else if fgB L t (scan (spB L t) 161 s) = true then (scan (spB L t) 161 s, scan (fgB L t) 161 (scan (spB L t) 161 s), if scan (fgB L t) 161 (scan (spB L t) 161 s) - scan (spB L t) 161 s ≤ 2 then 2 else 4, nvF t (scan (spB L t) 161 s) (scan (fgB L t) 161 (scan (spB L t) 161 s) - scan (spB L t) 161 s))
  else (scan (spB L t) 161 s, scan (spB L t) 161 s + 1, if t (scan (spB L t) 161 s) = nI 59 then 3 else 4, 0))
theorem tk_end {L s p : Nat} {t : Nat → Int32} (hp : scan (spB L t) 161 s = p) (h : L ≤ p) : tk L t s = (p, p, 0, 0) := by
  unfold tk; rw [sl_eq, hp, if_pos h]
theorem tk_name {L s p q : Nat} {t : Nat → Int32} (hp : scan (spB L t) 161 s = p) (h : ¬ L ≤ p) (h1 : ltB L t p = true) (hq : scan (ltB L t) 161 p = q) : tk L t s = (p, q, 1, 0) := by
  unfold tk; rw [sl_eq, hp, if_neg h, if_pos h1, hq]
theorem tk_num {L s p q : Nat} {t : Nat → Int32} (hp : scan (spB L t) 161 s = p) (h : ¬ L ≤ p) (h1 : ¬ ltB L t p = true) (h2 : fgB L t p = true) (hq : scan (fgB L t) 161 p = q) : tk L t s = (p, q, if q - p ≤ 2 then 2 else 4, nvF t p (q - p)) := by
  unfold tk; rw [sl_eq, hp, if_neg h, if_neg h1, if_pos h2, hq]
theorem tk_sign {L s p : Nat} {t : Nat → Int32} (hp : scan (spB L t) 161 s = p) (h : ¬ L ≤ p) (h1 : ¬ ltB L t p = true) (h2 : ¬ fgB L t p = true) : tk L t s = (p, p + 1, if t p = nI 59 then 3 else 4, 0) := by
  unfold tk; rw [sl_eq, hp, if_neg h, if_neg h1, if_neg h2]
/-- a token's bounds -/
def bT (L : Nat) (c : sT) : Prop := c.1 ≤ c.2.1 ∧ c.2.1 ≤ L ∧ (c.2.2.1 ≠ 0 → c.1 < c.2.1) ∧ c.2.2.1 ≤ 4
theorem tk_b {L s : Nat} {t : Nat → Int32} (hs : s ≤ L) (hL : L ≤ 160) : bT L (tk L t s) ∧ s ≤ (tk L t s).1 := by
  obtain ⟨a1, a2, a3, a4⟩ := scan_ex (m := 161) (s := s) (fun j => spB_l (L := L) (t := t) (k := j)) hs (by omega)
  obtain ⟨p, hp⟩ : ∃ p, scan (spB L t) 161 s = p := ⟨_, rfl⟩
  rw [hp] at a1 a2 a3 a4
  by_cases h : L ≤ p
  · rw [tk_end hp h]; exact ⟨⟨Nat.le_refl _, a2, fun z => absurd rfl z, Nat.zero_le _⟩, a1⟩
  · by_cases h1 : ltB L t p = true
    · obtain ⟨b1, b2, b3, b4⟩ := scan_ex (m := 161) (s := p) (fun j => ltB_l (L := L) (t := t) (k := j)) a2 (by omega)
      obtain ⟨q, hq⟩ : ∃ q, scan (ltB L t) 161 p = q := ⟨_, rfl⟩
      rw [hq] at b1 b2 b3 b4
      rw [tk_name hp h h1 hq]
      have : p ≠ q := fun z => by rw [← z, h1] at b4; cases b4
      exact ⟨⟨b1, b2, fun _ => Nat.lt_of_le_of_ne b1 this, (by show 1 ≤ 4; omega)⟩, a1⟩
    · by_cases h2 : fgB L t p = true
      · obtain ⟨b1, b2, b3, b4⟩ := scan_ex (m := 161) (s := p) (fun j => fgB_l (L := L) (t := t) (k := j)) a2 (by omega)
        obtain ⟨q, hq⟩ : ∃ q, scan (fgB L t) 161 p = q := ⟨_, rfl⟩
        rw [hq] at b1 b2 b3 b4
        rw [tk_num hp h h1 h2 hq]
        have : p ≠ q := fun z => by rw [← z, h2] at b4; cases b4
        refine ⟨⟨b1, b2, fun _ => Nat.lt_of_le_of_ne b1 this, ?_⟩, a1⟩
        show (if q - p ≤ 2 then 2 else 4) ≤ 4
        split <;> omega
      · rw [tk_sign hp h h1 h2]
        refine ⟨⟨by show p ≤ p + 1; omega, by show p + 1 ≤ L; omega, fun _ => by show p < p + 1; omega, ?_⟩, a1⟩
        show (if t p = nI 59 then 3 else 4) ≤ 4
        split <;> omega
theorem tk_k0 {L s : Nat} {t : Nat → Int32} (hs : s ≤ L) (hL : L ≤ 160) (h : (tk L t s).2.2.1 ≠ 0) : (tk L t s).1 < L := by
  have b := (tk_b (t := t) hs hL).1
  have := b.2.2.1 h
  have := b.2.1
  omega
/-! words -/
def wL (w : Nat) : Nat := j_len.getD w 0
def wC (w k : Nat) : Int32 := (j_byt.getD w []).getD k 0
def spl (t : Nat → Int32) (p q w : Nat) : Bool := decide (wL w = q - p ∧ ∀ k, k < wL w → wC w k = t (p + k))
def wfd (t : Nat → Int32) (p q : Nat) : Nat → Nat
  | 0 => 12
  | m + 1 => if spl t p q (11 - m) = true then 11 - m else wfd t p q m
noncomputable def wd (t : Nat → Int32) (c : sT) : Nat := sl (wfd t c.1 c.2.1 12)
theorem w_dist : ∀ a, a < 12 → ∀ b, b < 12 → a ≠ b → wL a = wL b → ∃ k, k < wL a ∧ wC a k ≠ wC b k := by decide +kernel
theorem spl_one {t : Nat → Int32} {p q a b : Nat} (ha : a < 12) (hb : b < 12) (h1 : spl t p q a = true) (h2 : spl t p q b = true) : a = b := by
  by_cases e : a = b
  · exact e
  · obtain ⟨x1, x2⟩ := of_decide_eq_true h1
    obtain ⟨y1, y2⟩ := of_decide_eq_true h2
    obtain ⟨k, hk, hne⟩ := w_dist a ha b hb e (x1.trans y1.symm)
    exact absurd ((x2 k hk).trans (y2 k (by omega)).symm) hne
theorem wfd_yes {t : Nat → Int32} {p q w : Nat} (hw : w < 12) (h : spl t p q w = true) : ∀ m, 11 < w + m → m ≤ 12 → wfd t p q m = w
  | 0, h1, _ => by omega
  | m + 1, h1, h2 => by
    rw [wfd]
    by_cases e : spl t p q (11 - m) = true
    · rw [if_pos e]; exact spl_one (by omega) hw e h
    · rw [if_neg e]
      refine wfd_yes hw h m ?_ (by omega)
      have : 11 - m ≠ w := fun z => e (by rw [z]; exact h)
      omega
theorem wfd_no {t : Nat → Int32} {p q : Nat} : ∀ m, m ≤ 12 → (∀ w, w < 12 → ¬ spl t p q w = true) → wfd t p q m = 12
  | 0, _, _ => rfl
  | m + 1, h1, h2 => by rw [wfd, if_neg (h2 _ (by omega))]; exact wfd_no m (by omega) h2
theorem wd_le {t : Nat → Int32} {c : sT} : wd t c ≤ 12 := by
  by_cases h : ∃ w, w < 12 ∧ spl t c.1 c.2.1 w = true
  · obtain ⟨w, h1, h2⟩ := h
    have : wd t c = w := (sl_eq _).trans (wfd_yes h1 h2 12 (by omega) (by omega))
    omega
  · have : wd t c = 12 := (sl_eq _).trans (wfd_no 12 (by omega) (fun w h1 h2 => h ⟨w, h1, h2⟩))
    omega
theorem wd_yes {t : Nat → Int32} {c : sT} {w : Nat} (h1 : w < 12) (h2 : spl t c.1 c.2.1 w = true) : wd t c = w := (sl_eq _).trans (wfd_yes h1 h2 12 (by omega) (by omega))
theorem wd_no {t : Nat → Int32} {c : sT} (h : ∀ w, w < 12 → ¬ spl t c.1 c.2.1 w = true) : wd t c = 12 := (sl_eq _).trans (wfd_no 12 (by omega) h)
/-! the reader's steps: a state is the fault (0: none) and the token at hand -/
noncomputable def sAdv (L : Nat) (t : Nat → Int32) (s : sS) : sS := sl (if s.1 = 0 then (0, tk L t s.2.2.1) else s)
noncomputable def sRef (b : Bool) (c : Nat) (s : sS) : sS := sl (if b = true ∧ s.1 = 0 then (c, s.2) else s)
noncomputable def sExp (k : Nat) (s : sS) : sS := sRef (decide (s.2.2.2.1 ≠ k)) 2 (sRef (decide (s.2.2.2.1 = 4)) 1 s)
noncomputable def sNm (lo hi : Int32) (s : sS) : sS := sRef (decide (¬ (lo ≤ s.2.2.2.2 ∧ s.2.2.2.2 ≤ hi))) 3 (sExp 2 s)
noncomputable def sVal (s : sS) : Int32 := if s.1 = 0 then s.2.2.2.2 else nI 0
noncomputable def sNum (L : Nat) (t : Nat → Int32) (lo hi : Int32) (s : sS) : sS := sNm lo hi (sAdv L t s)
noncomputable def sSem (L : Nat) (t : Nat → Int32) (s : sS) : sS := sExp 3 (sAdv L t s)
noncomputable def sWea (t : Nat → Int32) (s : sS) : sS := sRef (decide (¬ (4 ≤ wd t s.2 ∧ wd t s.2 < 8))) 2 (sExp 1 s)
noncomputable def sWv (t : Nat → Int32) (s : sS) : Int32 := if s.1 = 0 then nI (wd t s.2 - 4) else nI 0
theorem sRef_2 {b : Bool} {c : Nat} {s : sS} : (sRef b c s).2 = s.2 := by unfold sRef; rw [sl_eq]; split <;> rfl
theorem sRef_f {b : Bool} {c : Nat} {s : sS} (h : s.1 ≠ 0) : sRef b c s = s := (sl_eq _).trans (if_neg (fun z => h z.2))
theorem sRef_n {b : Bool} {c : Nat} {s : sS} (h : ¬ b = true) : sRef b c s = s := (sl_eq _).trans (if_neg (fun z => h z.1))
theorem sRef_y {b : Bool} {c : Nat} {s : sS} (h : b = true) (h0 : s.1 = 0) : sRef b c s = (c, s.2) := (sl_eq _).trans (if_pos ⟨h, h0⟩)
theorem sExp_2 {k : Nat} {s : sS} : (sExp k s).2 = s.2 := by unfold sExp; rw [sRef_2, sRef_2]
theorem sExp_f {k : Nat} {s : sS} (h : s.1 ≠ 0) : sExp k s = s := by unfold sExp; rw [sRef_f h, sRef_f h]
theorem sNm_2 {lo hi : Int32} {s : sS} : (sNm lo hi s).2 = s.2 := by unfold sNm; rw [sRef_2, sExp_2]
theorem sNm_f {lo hi : Int32} {s : sS} (h : s.1 ≠ 0) : sNm lo hi s = s := by unfold sNm; rw [sExp_f h, sRef_f h]
theorem sWea_2 {t : Nat → Int32} {s : sS} : (sWea t s).2 = s.2 := by unfold sWea; rw [sRef_2, sExp_2]
theorem sWea_f {t : Nat → Int32} {s : sS} (h : s.1 ≠ 0) : sWea t s = s := by unfold sWea; rw [sExp_f h, sRef_f h]
theorem sAdv_f {L : Nat} {t : Nat → Int32} {s : sS} (h : s.1 ≠ 0) : sAdv L t s = s := (sl_eq _).trans (if_neg h)
theorem sAdv_g {L : Nat} {t : Nat → Int32} {s : sS} (h : s.1 = 0) : sAdv L t s = (0, tk L t s.2.2.1) := (sl_eq _).trans (if_pos h)
theorem sRef_0 {b : Bool} {c : Nat} {s : sS} (hc : c ≠ 0) (h : (sRef b c s).1 = 0) : s.1 = 0 ∧ ¬ b = true ∧ sRef b c s = s := by
  by_cases z : b = true ∧ s.1 = 0
  · have : sRef b c s = (c, s.2) := (sl_eq _).trans (if_pos z)
    rw [this] at h
    exact absurd h hc
  · have e : sRef b c s = s := (sl_eq _).trans (if_neg z)
    rw [e] at h
    exact ⟨h, fun q => z ⟨q, h⟩, e⟩
theorem sExp_0 {k : Nat} {s : sS} (h : (sExp k s).1 = 0) : s.1 = 0 ∧ s.2.2.2.1 = k ∧ s.2.2.2.1 ≠ 4 ∧ sExp k s = s := by
  obtain ⟨h1, h2, h3⟩ := sRef_0 (by decide) h
  obtain ⟨h4, h5, h6⟩ := sRef_0 (by decide) h1
  exact ⟨h4, by simpa using h2, by simpa using h5, h3.trans h6⟩
theorem sNm_0 {lo hi : Int32} {s : sS} (h : (sNm lo hi s).1 = 0) : s.1 = 0 ∧ s.2.2.2.1 = 2 ∧ (lo ≤ s.2.2.2.2 ∧ s.2.2.2.2 ≤ hi) ∧ sNm lo hi s = s := by
  obtain ⟨h1, h2, h3⟩ := sRef_0 (by decide) h
  obtain ⟨h4, h5, h6, h7⟩ := sExp_0 h1
  exact ⟨h4, h5, by simpa using h2, h3.trans h7⟩
theorem sWea_0 {t : Nat → Int32} {s : sS} (h : (sWea t s).1 = 0) : s.1 = 0 ∧ s.2.2.2.1 = 1 ∧ (4 ≤ wd t s.2 ∧ wd t s.2 < 8) ∧ sWea t s = s := by
  obtain ⟨h1, h2, h3⟩ := sRef_0 (by decide) h
  obtain ⟨h4, h5, h6, h7⟩ := sExp_0 h1
  exact ⟨h4, h5, by simpa using h2, h3.trans h7⟩
theorem sAdv_0 {L : Nat} {t : Nat → Int32} {s : sS} (h : (sAdv L t s).1 = 0) : s.1 = 0 := by
  by_cases z : s.1 = 0
  · exact z
  · rw [sAdv_f z] at h; exact absurd h z
theorem sAdv_b {L : Nat} {t : Nat → Int32} {s : sS} (hL : L ≤ 160) (h : bT L s.2) : bT L (sAdv L t s).2 := by
  by_cases z : s.1 = 0
  · rw [sAdv_g z]; exact (tk_b h.2.1 hL).1
  · rw [sAdv_f z]; exact h
