/-! the relation's parts under change -/
theorem rxV_c {a a' h h' : jH} (r : rxV a h) (ea : ∀ k, k < 69 → a' 132 k = a 132 k) (e2 : a' 131 2 = a 131 2) (eh : ∀ b, 1 ≤ b → b ≤ 18 → h' b = h b) : rxV a' h' := by
  obtain ⟨v1, v2, v3, v4⟩ := r
  have pp : ∀ k, k < 69 → pg a' 0 k = pg a 0 k := fun k hk => by rw [pg0, pg0]; exact ea k hk
  have hn : ix (a 131 2) ≤ 4 := by have := v1.2; omega
  refine ⟨by rw [e2]; exact v1, ?_, by rw [eh 1 (by omega) (by omega), ea 52 (by omega)]; exact v3, by rw [e2]; exact GD_congr v4 pp⟩
  rw [e2]
  exact XV_congr v2 pp hn v4.1.2.2.1.2 v4.2.1.2 (fun b h1 h2 => eh b (by omega) (by omega))
theorem rxK_c {a a' h h' : jH} (r : rxK a h) (hn : ix (a 131 2) ≤ 4) (ea : ∀ k, 69 ≤ k → k < 207 → a' 132 k = a 132 k) (e2 : a' 131 2 = a 131 2) (e142 : ∀ k, k < 2 → a' 142 k = a 142 k) (eh : ∀ b, b = 38 ∨ (87 ≤ b ∧ b ≤ 122) → h' b = h b) : rxK a' h' := fun k hk => by
  have pp : ∀ j, j < 69 → pg a' (69 * (k + 1)) j = pg a (69 * (k + 1)) j := fun j hj => ea _ (by omega) (by omega)
  obtain ⟨k1, k2⟩ := r k hk
  rw [eh 38 (by omega), e142 k hk, e2]
  refine ⟨k1, ?_⟩
  rcases k2 with k2 | ⟨k2, k3, k4, k5⟩
  · exact Or.inl k2
  · refine Or.inr ⟨k2, XV_congr k3 pp hn k5.1.2.2.1.2 k5.2.1.2 (fun b h1 h2 => eh b (by omega)), ?_, GD_congr k5 pp⟩
    rw [eh _ (by omega), pp 52 (by omega)]; exact k4
theorem rxT_c {a a' h h' : jH} (r : rxT a h) (e8 : a' 131 8 = a 131 8) (e9 : a' 131 9 = a 131 9) (e135 : ∀ k, a' 135 k = a 135 k) (h1 : h' 39 1 = h 39 1) (h6 : h' 39 6 = h 39 6) (h40 : ∀ k, h' 40 k = h 40 k) : rxT a' h' := by
  obtain ⟨t1, t2, t3, t4⟩ := r
  refine ⟨by rw [h1, e8]; exact t1, by rw [e8]; exact t2, fun i hi => ?_, by rw [h6, e9]; exact t4⟩
  rw [e8] at hi
  rw [h40, e135]; exact t3 i hi
theorem rxS_c {a a' h h' : jH} (r : rxS a h) (e21 : a' 131 21 = a 131 21) (e2 : a' 131 2 = a 131 2) (e139 : ∀ k, a' 139 k = a 139 k) (eh : ∀ b, 81 ≤ b → b ≤ 84 → h' b = h b) : rxS a' h' := by
  obtain ⟨s1, s2, s3⟩ := r
  refine ⟨by rw [eh 81 (by omega) (by omega), e21]; exact s1, by rw [e21]; exact s2, fun i hi => ?_⟩
  rw [e21] at hi
  rw [eh 82 (by omega) (by omega), eh 83 (by omega) (by omega), eh 84 (by omega) (by omega), e139, e139, e139, e2]; exact s3 i hi
theorem rxH_c {a a' h h' : jH} (r : rxH a h) (e143 : ∀ k, a' 143 k = a 143 k) (e144 : ∀ k, a' 144 k = a 144 k) (e145 : ∀ k, a' 145 k = a 145 k) (e28 : a' 131 28 = a 131 28) (e0 : h' 0 9 = h 0 9) (eh : ∀ b, 123 ≤ b → b ≤ 130 → h' b = h b) : rxH a' h' := by
  obtain ⟨q1, q2⟩ := r
  refine ⟨fun k hk => ?_, by rw [e0, e28]; exact q2⟩
  rw [eh (123 + 2 * k) (by omega) (by omega), eh (124 + 2 * k) (by omega) (by omega), e143, e144]
  have q := q1 k hk
  exact ⟨q.1, q.2.1, q.2.2.1, fun i hi => by rw [e145]; exact q.2.2.2 i hi⟩
theorem rxC_c {a a' h h' : jH} (r : rxC a h) (e : ∀ b k, b = 133 ∨ b = 136 ∨ b = 137 → a' b k = a b k) (eh : h' 80 = h 80) : rxC a' h' := by
  obtain ⟨c1, c2, c3, c4⟩ := r
  exact ⟨fun i hi => by rw [e _ _ (by omega)]; exact c1 i hi, fun i hi => by rw [eh]; exact c2 i hi, fun i hi => by rw [e _ _ (by omega)]; exact c3 i hi, fun i hi => by rw [e _ _ (by omega)]; exact c4 i hi⟩
theorem RX.n4 {a h : jH} (r : RX a h) : ix (a 131 2) ≤ 4 := by have := r.1.1.2; omega
/-- the tape alone -/
theorem RX_T {a a' h h' : jH} (hR : RX a h) (hT : rxT a' h') (ea : ∀ b k, b ≠ 135 → ¬ (b = 131 ∧ (k = 8 ∨ k = 9)) → a' b k = a b k) (eh : ∀ b, b ≠ 39 → b ≠ 40 → h' b = h b) : RX a' h' := by
  have hn := hR.n4
  obtain ⟨rV, rK, rT, rS, rH, rC⟩ := hR
  exact ⟨rxV_c rV (fun k _ => ea _ _ (by omega) (by omega)) (ea _ _ (by omega) (by omega)) (fun b h1 h2 => eh b (by omega) (by omega)), rxK_c rK hn (fun k _ _ => ea _ _ (by omega) (by omega)) (ea _ _ (by omega) (by omega)) (fun k _ => ea _ _ (by omega) (by omega)) (fun b hb => eh b (by omega) (by omega)), hT,
    rxS_c rS (ea _ _ (by omega) (by omega)) (ea _ _ (by omega) (by omega)) (fun k => ea _ _ (by omega) (by omega)) (fun b h1 h2 => eh b (by omega) (by omega)),
    rxH_c rH (fun k => ea _ _ (by omega) (by omega)) (fun k => ea _ _ (by omega) (by omega)) (fun k => ea _ _ (by omega) (by omega)) (ea _ _ (by omega) (by omega)) (by rw [eh 0 (by omega) (by omega)]) (fun b h1 h2 => eh b (by omega) (by omega)),
    rxC_c rC (fun b k hb => ea _ _ (by omega) (by omega)) (eh 80 (by omega) (by omega))⟩
/-- what was seen alone -/
theorem RX_S {a a' h h' : jH} (hR : RX a h) (hS : rxS a' h') (ea : ∀ b k, b ≠ 139 → ¬ (b = 131 ∧ k = 21) → a' b k = a b k) (eh : ∀ b, (b < 81 ∨ 84 < b) → h' b = h b) : RX a' h' := by
  have hn := hR.n4
  obtain ⟨rV, rK, rT, rS, rH, rC⟩ := hR
  exact ⟨rxV_c rV (fun k _ => ea _ _ (by omega) (by omega)) (ea _ _ (by omega) (by omega)) (fun b h1 h2 => eh b (by omega)), rxK_c rK hn (fun k _ _ => ea _ _ (by omega) (by omega)) (ea _ _ (by omega) (by omega)) (fun k _ => ea _ _ (by omega) (by omega)) (fun b hb => eh b (by omega)),
    rxT_c rT (ea _ _ (by omega) (by omega)) (ea _ _ (by omega) (by omega)) (fun k => ea _ _ (by omega) (by omega)) (by rw [eh 39 (by omega)]) (by rw [eh 39 (by omega)]) (fun k => by rw [eh 40 (by omega)]), hS,
    rxH_c rH (fun k => ea _ _ (by omega) (by omega)) (fun k => ea _ _ (by omega) (by omega)) (fun k => ea _ _ (by omega) (by omega)) (ea _ _ (by omega) (by omega)) (by rw [eh 0 (by omega)]) (fun b h1 h2 => eh b (by omega)),
    rxC_c rC (fun b k hb => ea _ _ (by omega) (by omega)) (eh 80 (by omega))⟩
/-- the sheets alone -/
theorem RX_H {a a' h h' : jH} (hR : RX a h) (hH : rxH a' h') (ea : ∀ b k, b < 143 → ¬ (b = 131 ∧ k = 28) → a' b k = a b k) (eh : ∀ b k, (b < 123 ∨ 130 < b) → ¬ (b = 0 ∧ k = 9) → h' b k = h b k) : RX a' h' := by
  have hn := hR.n4
  have eh' : ∀ b, b ≠ 0 → b < 123 → h' b = h b := fun b h0 hb => funext fun k => eh b k (by omega) (by omega)
  obtain ⟨rV, rK, rT, rS, rH, rC⟩ := hR
  exact ⟨rxV_c rV (fun k _ => ea _ _ (by omega) (by omega)) (ea _ _ (by omega) (by omega)) (fun b h1 h2 => eh' b (by omega) (by omega)), rxK_c rK hn (fun k _ _ => ea _ _ (by omega) (by omega)) (ea _ _ (by omega) (by omega)) (fun k _ => ea _ _ (by omega) (by omega)) (fun b hb => eh' b (by omega) (by omega)),
    rxT_c rT (ea _ _ (by omega) (by omega)) (ea _ _ (by omega) (by omega)) (fun k => ea _ _ (by omega) (by omega)) (by rw [eh' 39 (by omega) (by omega)]) (by rw [eh' 39 (by omega) (by omega)]) (fun k => by rw [eh' 40 (by omega) (by omega)]),
    rxS_c rS (ea _ _ (by omega) (by omega)) (ea _ _ (by omega) (by omega)) (fun k => ea _ _ (by omega) (by omega)) (fun b h1 h2 => eh' b (by omega) (by omega)), hH,
    rxC_c rC (fun b k hb => ea _ _ (by omega) (by omega)) (eh' 80 (by omega) (by omega))⟩
/-- the images alone -/
theorem RX_K {a a' h h' : jH} (hR : RX a h) (hK : rxK a' h') (ea : ∀ b k, b ≠ 142 → ¬ (b = 132 ∧ 69 ≤ k) → a' b k = a b k) (eh : ∀ b, b ≠ 38 → (b < 87 ∨ 122 < b) → h' b = h b) : RX a' h' := by
  obtain ⟨rV, rK, rT, rS, rH, rC⟩ := hR
  exact ⟨rxV_c rV (fun k _ => ea _ _ (by omega) (by omega)) (ea _ _ (by omega) (by omega)) (fun b h1 h2 => eh b (by omega) (by omega)), hK,
    rxT_c rT (ea _ _ (by omega) (by omega)) (ea _ _ (by omega) (by omega)) (fun k => ea _ _ (by omega) (by omega)) (by rw [eh 39 (by omega) (by omega)]) (by rw [eh 39 (by omega) (by omega)]) (fun k => by rw [eh 40 (by omega) (by omega)]),
    rxS_c rS (ea _ _ (by omega) (by omega)) (ea _ _ (by omega) (by omega)) (fun k => ea _ _ (by omega) (by omega)) (fun b h1 h2 => eh b (by omega) (by omega)),
    rxH_c rH (fun k => ea _ _ (by omega) (by omega)) (fun k => ea _ _ (by omega) (by omega)) (fun k => ea _ _ (by omega) (by omega)) (ea _ _ (by omega) (by omega)) (by rw [eh 0 (by omega) (by omega)]) (fun b h1 h2 => eh b (by omega) (by omega)),
    rxC_c rC (fun b k hb => ea _ _ (by omega) (by omega)) (eh 80 (by omega) (by omega))⟩
/-! what the calls answer, and the reference's part behind them -/
def fit1 (t v : Int32) : Prop := (t = nI 0 ∧ nI 0 ≤ v ∧ v ≤ nI 3) ∨ (t = nI 1 ∧ nI 1 ≤ v ∧ v ≤ nI 5) ∨ (t = nI 2 ∧ nI 0 ≤ v ∧ v ≤ nI 999)
def fit2 (t v : Int32) : Prop := (t = nI 2 ∧ nb 4 v) ∨ (t = nI 3 ∧ nI 0 ≤ v ∧ v ≤ nI 20) ∨ (t = nI 4 ∧ nI 0 ≤ v ∧ v ≤ nI 9)
noncomputable def oFeed (a : jH) (c : Int32) : Int32 × jH := iteR (nI 0 ≤ c ∧ c ≤ nI 127) (iteR (a 131 8 = nI 160) (-3, a) (a 131 8 + nI 1, j_up (j_up a 135 (ix (a 131 8)) c) 131 8 (a 131 8 + nI 1))) (-1, a)
noncomputable def oEnd (a : jH) (n : Int32) : Int32 × jH := iteR (nI 0 ≤ n ∧ n ≤ a 131 8) (a 131 8, j_up a 131 8 n) (-1, a)
def oFault (a : jH) : Int32 × jH := (a 131 9, a)
noncomputable def oAlter (a : jH) (p t v : Int32) : Int32 × jH := iteR (nb (ix (a 131 2)) p ∧ fit1 t v) (pg a 0 (4 * ix t + ix p), mset a 0 (upd (pg a 0) (4 * ix t + ix p) v)) (-1, a)
noncomputable def oSign (a : jH) (c t v : Int32) : Int32 × jH := iteR (nb (ix (pg a 0 37)) c ∧ fit2 t v) (pg a 0 (12 + 5 * ix c + ix t), mset a 0 (upd (pg a 0) (12 + 5 * ix c + ix t) v)) (-1, a)
noncomputable def oInsure (a : jH) (p q w x y : Int32) : Int32 × jH := iteR (nb (ix (a 131 2)) p ∧ nb (ix (a 131 2)) q ∧ ¬ p = q ∧ nb 4 w ∧ (nI 0 ≤ x ∧ x ≤ nI 20) ∧ nI 0 ≤ y ∧ y ≤ nI 9)
  (iteR (pg a 0 37 = nI 5) (-3, a) (nI (ix (pg a 0 37)) + nI 1 - nI 1, mset a 0 (addP (ix (pg a 0 37)) p q w x y (pg a 0)))) (-1, a)
noncomputable def oDrop (a : jH) (c : Int32) : Int32 × jH := iteR (nb (ix (pg a 0 37)) c) (pg a 0 37 - nI 1, mset a 0 (dropP (ix c) (pg a 0))) (-1, a)
def shiftP (w u : Nat) (P : Nat → Int32) : Nat → Int32 := upd (upd P (38 + w) (P (38 + w) - nI 1)) (38 + u) (P (38 + u) + nI 1)
noncomputable def oShift (a : jH) (w u : Int32) : Int32 × jH := iteR (nb 4 w ∧ nb 4 u ∧ ¬ w = u) (iteR (pg a 0 (38 + ix w) + fo (ix w) = 0) (-2, a) (pg a 0 (38 + ix u) + nI 1 + fo (ix u), mset a 0 (shiftP (ix w) (ix u) (pg a 0)))) (-1, a)
noncomputable def oFloor (a : jH) (v : Int32) : Int32 × jH := iteR (nI 0 ≤ v ∧ v ≤ nI 99) (pg a 0 42 + nI 5, mset a 0 (upd (pg a 0) 42 (v - nI 5))) (-1, a)
def planP (w : Int32) (P : Nat → Int32) : Nat → Int32 := upd (upd P (43 + ix (P 51)) w) 51 (P 51 + nI 1)
noncomputable def oPlan (a : jH) (w : Int32) : Int32 × jH := iteR (nb 4 w) (iteR (pg a 0 51 = nI 8) (-3, a) (pg a 0 51 + nI 1, mset a 0 (planP w (pg a 0)))) (-1, a)
noncomputable def oCut (a : jH) (n : Int32) : Int32 × jH := iteR (nI 0 ≤ n ∧ n ≤ pg a 0 51) (pg a 0 51, mset a 0 (upd (pg a 0) 51 n)) (-1, a)
noncomputable def oWeek (a : jH) (w : Int32) : Int32 × jH := iteR (nb 4 w) (iteR (pg a 0 52 = nI 999) (-3, a) ((weekP (ix (a 131 2)) (γP (pg a 0) (ix w)) (ix w) (pg a 0)).2, mset a 0 (weekP (ix (a 131 2)) (γP (pg a 0) (ix w)) (ix w) (pg a 0)).1)) (-1, a)
def freeP (P : Nat → Int32) : Nat → Int32 := fun k => if 53 ≤ k then 0 else P k
def oForgive (a : jH) : Int32 × jH := (sumZ (fun k => pg a 0 (53 + k)) 16, mset a 0 (freeP (pg a 0)))
noncomputable def oSee (a : jH) (p n v : Int32) : Int32 × jH := iteR (nb (ix (a 131 2)) p ∧ (nI 1 ≤ n ∧ n ≤ nI 4) ∧ nI 0 ≤ v ∧ v ≤ nI 255)
  (iteR (a 131 21 = nI 6) (-3, a) (a 131 21 + nI 1, j_up (j_up (j_up (j_up a 139 (3 * ix (a 131 21)) p) 139 (3 * ix (a 131 21) + 1) n) 139 (3 * ix (a 131 21) + 2) v) 131 21 (a 131 21 + nI 1))) (-1, a)
noncomputable def oForget (a : jH) (n : Int32) : Int32 × jH := iteR (nI 0 ≤ n ∧ n ≤ a 131 21) (a 131 21, j_up a 131 21 n) (-1, a)
theorem ms1 {h : jH} {i : Nat} {x : Int32} (hi : i < 69) : j_up h 132 i x = mset h 0 (upd (pg h 0) i x) := by
  have e := mset_up (h := h) (o := 0) (P := pg h 0) (i := i) (x := x) i hi (by omega)
  rw [mset_pg] at e
  exact e
theorem nI0 : (nI 0 : Int32) = 0 := rfl
theorem add0 (x : Int32) : x + nI 0 = x := Int32.add_zero x
theorem sub0 (x : Int32) : x - nI 0 = x := Int32.sub_zero x
