def FK (h hh : jH) : Prop := ∀ b j, b ≠ 140 → b ≠ 141 → ¬ (b = 132 ∧ 276 ≤ j ∧ j < 345) → hh b j = h b j
theorem FK.same {h hh : jH} (f : FK h hh) : sameP h hh ∧ lo h hh := by
  refine ⟨⟨fun k hk => f 132 k (by omega) (by omega) (by omega), fun k hk => f 131 k (by omega) (by omega) (by omega), fun b hb => funext fun k => f b k (by omega) (by omega) (by omega)⟩, fun b hb => funext fun k => f b k (by omega) (by omega) (by omega)⟩
def bI (b : Bool) : Int32 := if b = true then nI 1 else nI 0
theorem bI_t {b : Bool} (h : b = true) : bI b = nI 1 := if_pos h
theorem bI_f {b : Bool} (h : ¬ b = true) : bI b = nI 0 := if_neg h
def PB (n : Nat) (P : Nat → Int32) (hh : jH) (c t : Nat) : Prop := ∀ u p, u < t → p < 4 → hh 140 (16 * c + 4 * u + p) = pw n P c p (u + 1)
def DN (n : Nat) (P : Nat → Int32) (f : Nat → Bool) (hh : jH) (k : Nat) : Prop := (∀ c, c < k → PB n P hh c 4) ∧ ∀ c, c < k → hh 141 c = bI (f c)
def pgR (hh : jH) (R : Nat → Int32) : Prop := ∀ j, j < 69 → j ≠ 52 → hh 132 (276 + j) = R j
def TX (hh : jH) (R : Nat → Int32) : Nat → Int32 := fun j => if j < 69 then hh 132 (276 + j) else R j
theorem TX_m {hh : jH} {R : Nat → Int32} : mset hh 276 (TX hh R) = hh := by
  have e : mset hh 276 (TX hh R) = mset hh 276 (pg hh 276) := mset_cong (fun k hk => by rw [TX, if_pos hk]; rfl)
  rw [e, mset_pg]
theorem TX_e {hh : jH} {R : Nat → Int32} (h : pgR hh R) : e52 R (TX hh R) := fun j hj => by
  unfold TX
  by_cases z : j < 69
  · rw [if_pos z]; exact h j z hj
  · rw [if_neg z]
theorem pgR_m {hh : jH} {R T : Nat → Int32} (e : e52 R T) : pgR (mset hh 276 T) R := fun j hj h2 => (mset_at j hj rfl).trans (e j h2)
theorem c6_weekT {g : jG} {d : Nat} {h : jH} {n w : Nat} {R : Nat → Int32} (hn : h 131 2 = nI n) (hw : w < 4) (hp0 : ∀ j, j < 8 → R j = h 132 j) (r8 : ∀ i, i < 16 → h 133 i = j_bri.getD i 0) (hG : gdV n R) (hR : pgR h R) :
    Mi g (d + 1) YX6_weekOn h [.ref 131, .int (nI 276), .int (nI w)] (fun x h' => h' = mset h 276 (weekP n (γP (TX h R) w) w (TX h R)).1 ∧ x = (weekP n (γP (TX h R) w) w (TX h R)).2) := by
  have e := TX_e hR
  have hn4 := hG.1
  have tk : ∀ j, j < 8 → TX h R j = h 132 j := fun j hj => (e j (by omega)).trans (hp0 j hj)
  have c := c6_weekOn (g := g) (d := d) (h := h) (o := 276) (n := n) (P := TX h R) (γ := γP (TX h R) w) (w := w) (by omega) (Or.inr (by omega)) hn hn4 hw (fun p hp => by
    rw [mset_out (by omega), ← hp0 p (by omega)]; exact hG.2.1 p hp) (fun p hp => by
    have k4 := (hG.2.1 p hp).2
    rw [hp0 p (by omega)] at k4
    unfold gM γP
    rw [mset_out (by omega), mset_out (by omega), mset_ne (b := 133) (by decide), r8 _ (by omega), tk p (by omega), tk (4 + p) (by omega)]) (gdV_e hG e).cv
  rw [TX_m] at c
  exact c
theorem FK_m {h hh : jH} {T : Nat → Int32} (f : FK h hh) : FK h (mset hh 276 T) := fun b j h1 h2 h3 => by
  by_cases z : b = 132
  · subst z; rw [mset_out (by omega)]; exact f 132 j h1 h2 h3
  · exact mset_b z (f b j h1 h2 h3)
theorem FK_0 {h hh : jH} {x : Int32} {i : Nat} (f : FK h hh) : FK h (j_up hh 140 i x) := fun b j h1 h2 h3 => (j_up_o (by omega)).trans (f b j h1 h2 h3)
theorem FK_1 {h hh : jH} {x : Int32} {i : Nat} (f : FK h hh) : FK h (j_up hh 141 i x) := fun b j h1 h2 h3 => (j_up_o (by omega)).trans (f b j h1 h2 h3)
theorem FK.rf {h : jH} : FK h h := fun _ _ _ _ _ => rfl
theorem PB_c {n c t : Nat} {P : Nat → Int32} {hh h' : jH} (q : PB n P hh c t) (e : ∀ j, 16 * c ≤ j → j < 16 * c + 4 * t → h' 140 j = hh 140 j) : PB n P h' c t := fun u p hu hp => by rw [e _ (by omega) (by omega)]; exact q u p hu hp
theorem DN_c {n k : Nat} {P : Nat → Int32} {f : Nat → Bool} {hh h' : jH} (q : DN n P f hh k) (e : ∀ j, j < 16 * k → h' 140 j = hh 140 j) (e1 : ∀ j, j < k → h' 141 j = hh 141 j) : DN n P f h' k :=
  ⟨fun c hc => PB_c (q.1 c hc) (fun j h1 h2 => e j (by omega)), fun c hc => by rw [e1 c hc]; exact q.2 c hc⟩
