theorem two_of {k : Int32} (h : nI 0 ≤ k ∧ k ≤ nI 1) : k = nI 0 ∨ k = nI 1 := by
  have b := (in_nbc (n := 1) (c := nI 1) rfl (by omega)).mp h
  have h1 := b.1
  have h2 := b.2
  by_cases z : ix k = 0
  · rw [z] at h1; exact Or.inl h1
  · have z2 : ix k = 1 := by omega
    rw [z2] at h1; exact Or.inr h1
theorem RX_keep {a h h1 : jH} {k : Nat} (hR : RX a h) (hk : k < 2) (hc : CP h h1 1 (87 + 18 * k)) : RX (j_up (mset a (69 * (k + 1)) (pg a 0)) 142 k (nI 1)) (j_up h1 38 k (nI 1)) := by
  have hR0 := hR
  have hn := hR.n4
  obtain ⟨⟨v1, v2, v3, v4⟩, rK, -, -, -, -⟩ := hR
  have e2 : j_up (mset a (69 * (k + 1)) (pg a 0)) 142 k (nI 1) 131 2 = a 131 2 := by rw [j_up_o (by omega)]; exact mset_b (by decide) rfl
  refine RX_K hR0 (fun j hj => ?_) (fun b i h1 h2 => ?_) (fun b h1 h2 => ?_)
  · rw [e2]
    by_cases z : j = k
    · subst z
      rw [j_up_s, j_up_s]
      have pp : ∀ i, i < 69 → pg (j_up (mset a (69 * (j + 1)) (pg a 0)) 142 j (nI 1)) (69 * (j + 1)) i = pg a 0 i := fun i hi => (j_up_o (by omega)).trans (mset_at i hi rfl)
      refine ⟨rfl, Or.inr ⟨rfl, XV_congr (XV_CP v2 hn v4.1.2.2.1.2 v4.2.1.2 hc) pp hn v4.1.2.2.1.2 v4.2.1.2 (fun b h1 h2 => j_up_ne b (by omega)), ?_, GD_congr v4 pp⟩⟩
      rw [pp 52 (by omega), j_up_o (by omega), hc.2.1.2.2.2.2, v3]
      exact pg0.symm
    · obtain ⟨k1, k2⟩ := rK j hj
      have pp : ∀ i, i < 69 → pg (j_up (mset a (69 * (k + 1)) (pg a 0)) 142 k (nI 1)) (69 * (j + 1)) i = pg a (69 * (j + 1)) i := fun i hi => (j_up_o (by omega)).trans (mset_out (by omega))
      rw [j_up_o (by omega), j_up_o (by omega), hc.1 38 (by omega), mset_b (b := 142) (x := a 142 j) (by decide) rfl]
      refine ⟨k1, ?_⟩
      rcases k2 with k2 | ⟨k2, k3, k4, k5⟩
      · exact Or.inl k2
      · refine Or.inr ⟨k2, XV_congr k3 pp hn k5.1.2.2.1.2 k5.2.1.2 (fun b h1 h2 => (j_up_ne b (by omega)).trans (hc.1 b (by omega))), ?_, GD_congr k5 pp⟩
        rw [pp 52 (by omega), j_up_o (by omega), hc.1 _ (by omega)]; exact k4
  · rw [j_up_o (by omega)]
    by_cases z : b = 132
    · subst z; exact mset_out (by omega)
    · exact mset_b z rfl
  · rw [j_up_ne b h1]; exact hc.1 b (by omega)
theorem RX_back {a h h1 : jH} {k : Nat} (hR : RX a h) (hk : k < 2) (hz : a 142 k ≠ 0) (hc : CP h h1 (87 + 18 * k) 1) : RX (mset a 0 (pg a (69 * (k + 1)))) h1 ∧ h1 1 9 = pg a (69 * (k + 1)) 52 := by
  have hn := hR.n4
  rcases (hR.2.1 k hk).2 with z | ⟨-, k3, k4, k5⟩
  · exact absurd z hz
  · exact ⟨RX_now hR (XV_CP k3 hn k5.1.2.2.1.2 k5.2.1.2 hc) (hc.2.1.2.2.2.2.trans k4) k5 (fun b hb => hc.1 b (by omega)), hc.2.1.2.2.2.2.trans k4⟩
theorem rxH_set {a h : jH} {k : Nat} {l n : Int32} (r : rxH a h) (hk : k < 4) (hl : nb 3 l) (hn : nb 41 n) {h' : jH} (hl' : h' (123 + 2 * k) 0 = l) (hn' : h' (123 + 2 * k) 1 = n) (hz : ∀ i, i < 40 → h' (124 + 2 * k) i = 0) (h0 : h' 0 9 = h 0 9) (ho : ∀ b, b ≠ 123 + 2 * k → b ≠ 124 + 2 * k → h' b = h b) : rxH (zcH (j_up (j_up a 143 k l) 144 k n) k 40) h' := by
  obtain ⟨q1, q2⟩ := r
  refine ⟨fun j hj => ?_, ?_⟩
  · by_cases z : j = k
    · subst z
      rw [zcH_o (b := 143) (by omega), zcH_o (b := 144) (by omega), j_up_o (b := 143) (by omega), j_up_s, j_up_s, hl', hn']
      exact ⟨Or.inr ⟨rfl, hl⟩, rfl, hn, fun i hi => by rw [hz i hi, zcH_z (by omega) (by omega)]⟩
    · rw [zcH_o (b := 143) (by omega), zcH_o (b := 144) (by omega), j_up_o (b := 143) (by omega), j_up_o (b := 143) (by omega), j_up_o (b := 144) (by omega), j_up_o (b := 144) (by omega), ho (123 + 2 * j) (by omega) (by omega), ho (124 + 2 * j) (by omega) (by omega)]
      have q := q1 j hj
      exact ⟨q.1, q.2.1, q.2.2.1, fun i hi => by rw [zcH_o (by omega), j_up_o (by omega), j_up_o (by omega)]; exact q.2.2.2 i hi⟩
  · rw [h0, zcH_o (by omega), j_up_o (by omega), j_up_o (by omega)]; exact q2
theorem rxH_lay {a h : jH} {k i : Nat} {x : Int32} (r : rxH a h) (hk : k < 4) (hi : i < 40) : rxH (j_up a 145 (40 * k + i) x) (j_up h (124 + 2 * k) i x) := by
  obtain ⟨q1, q2⟩ := r
  refine ⟨fun j hj => ?_, by rw [j_up_o (by omega), j_up_o (by omega)]; exact q2⟩
  have q := q1 j hj
  rw [j_up_o (b := 123 + 2 * j) (by omega), j_up_o (b := 123 + 2 * j) (by omega), j_up_o (b := 143) (by omega), j_up_o (b := 144) (by omega)]
  refine ⟨q.1, q.2.1, q.2.2.1, fun m hm => ?_⟩
  by_cases z : j = k ∧ m = i
  · obtain ⟨rfl, rfl⟩ := z
    rw [j_up_s, j_up_s]
  · rw [j_up_o (by omega), j_up_o (by omega)]; exact q.2.2.2 m hm
def rnI (h : jH) (s m : Nat) : jH := fun b j => if b = 124 + 2 * s ∧ j < m then 0 else h b j
theorem rnI_0 {h : jH} {s : Nat} : rnI h s 0 = h := by
  funext b j
  simp only [rnI, show ¬ (b = 124 + 2 * s ∧ j < 0) by omega, if_false]
theorem rnI_s {h : jH} {s m : Nat} : j_up (rnI h s m) (124 + 2 * s) m (nI 0) = rnI h s (m + 1) := by
  funext b j
  unfold j_up rnI
  by_cases z : b = 124 + 2 * s ∧ j = m
  · obtain ⟨rfl, rfl⟩ := z
    rw [if_pos ⟨rfl, rfl⟩, if_pos (by omega)]; rfl
  · rw [if_neg z]
    have : (b = 124 + 2 * s ∧ j < m) ↔ (b = 124 + 2 * s ∧ j < m + 1) := by omega
    simp only [this]
theorem rnI_o {h : jH} {s m b j : Nat} (hb : b ≠ 124 + 2 * s) : rnI h s m b j = h b j := by rw [rnI, if_neg (by omega)]
theorem rnI_z {h : jH} {s m j : Nat} (hj : j < m) : rnI h s m (124 + 2 * s) j = 0 := by rw [rnI, if_pos (by omega)]
theorem shS {s : Nat} (hs : s < 4) : SH[123 + 2 * s]? = some (.inr (.inr (2, [none, none, some (some (124 + 2 * s))]))) := by
  match s, hs with
  | 0, _ => rfl
  | 1, _ => rfl
  | 2, _ => rfl
  | 3, _ => rfl
theorem shC {s : Nat} (hs : s < 4) : SH[124 + 2 * s]? = some (.inl (0, 40)) := by
  match s, hs with
  | 0, _ => rfl
  | 1, _ => rfl
  | 2, _ => rfl
  | 3, _ => rfl
theorem shR {s : Nat} (hs : s < 4) : ([some 123, some 125, some 127, some 129] : List (Option Nat))[s]? = some (some (123 + 2 * s)) := by
  match s, hs with
  | 0, _ => rfl
  | 1, _ => rfl
  | 2, _ => rfl
  | 3, _ => rfl
noncomputable def fltF (L l : Int32) (m : Nat) (i : Int32) : Int32 := iteP (L = -1) (nI 1) (iteP (¬ L = l) (nI 3) (iteP (nb m i) (nI 0) (nI 2)))
theorem lk_out {L : Int32} (e0 : ¬ L = nI 0) (e1 : ¬ L = nI 1) : Op.lookupswitch.offset [((0 : Int), (28 : Int)), (1, 39)] 50 L.toInt = 50 := by
  have h0 : L.toInt ≠ 0 := fun z => e0 (i_eq.mpr z)
  have h1 : L.toInt ≠ 1 := fun z => e1 (i_eq.mpr z)
  simp [Op.lookupswitch.offset, h0.symm, h1.symm, h0, h1]
theorem lane_n {x y : Int32} (h : (x = -1 ∧ y = -4) ∨ (x = y ∧ nb 3 y)) (c : x = -1) : y = -4 := by
  rcases h with ⟨-, z⟩ | ⟨z, w⟩
  · exact z
  · have := w.toInt (by omega)
    rw [← z, c] at this
    exact absurd this (by have e : (-1 : Int32).toInt = -1 := rfl; omega)
theorem lane_y {x y : Int32} (h : (x = -1 ∧ y = -4) ∨ (x = y ∧ nb 3 y)) (c : ¬ x = -1) : ¬ y = -4 := fun z => by
  rcases h with ⟨w, -⟩ | ⟨w, w2⟩
  · exact c w
  · have := w2.toInt (by omega)
    rw [z] at this
    exact absurd this (by have e : (-4 : Int32).toInt = -4 := rfl; omega)
theorem lane_e {x y : Int32} (h : (x = -1 ∧ y = -4) ∨ (x = y ∧ nb 3 y)) (c : ¬ x = -1) : x = y := by
  rcases h with ⟨w, -⟩ | ⟨w, -⟩
  · exact absurd w c
  · exact w
theorem lay_ok {x y i : Int32} {m : Nat} (h : (x = -1 ∧ y = -4) ∨ (x = y ∧ nb 3 y)) (c : fltF x x m i = 0) : ¬ y = -4 ∧ y = x ∧ nb m i := by
  unfold fltF at c
  by_cases h1 : x = -1
  · rw [iteP_t h1] at c; exact absurd c (by decide)
  · rw [iteP_f h1, iteP_f (fun z => z rfl)] at c
    by_cases h2 : nb m i
    · exact ⟨lane_y h h1, (lane_e h h1).symm, h2⟩
    · rw [iteP_f h2] at c; exact absurd c (by decide)
theorem lay_bad {x y i : Int32} {m : Nat} (h : (x = -1 ∧ y = -4) ∨ (x = y ∧ nb 3 y)) (c : ¬ fltF x x m i = 0) : (y = -4 ∧ -10 - fltF x x m i = -11) ∨ (¬ y = -4 ∧ ¬ nb m i ∧ -10 - fltF x x m i = -12) := by
  by_cases h1 : x = -1
  · exact Or.inl ⟨lane_n h h1, by unfold fltF; rw [iteP_t h1]; decide⟩
  · refine Or.inr ⟨lane_y h h1, fun z => c ?_, ?_⟩
    · unfold fltF; rw [iteP_f h1, iteP_f (fun z => z rfl), iteP_t z]; rfl
    · by_cases h2 : nb m i
      · exact absurd (show fltF x x m i = 0 by unfold fltF; rw [iteP_f h1, iteP_f (fun z => z rfl), iteP_t h2]; rfl) c
      · unfold fltF; rw [iteP_f h1, iteP_f (fun z => z rfl), iteP_f h2]; decide
