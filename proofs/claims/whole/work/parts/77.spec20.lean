/-! the reference's lines -/
def qf (h h' : jH) : Prop := ∀ b k, ¬ (b = 131 ∧ ((4 ≤ k ∧ k ≤ 6) ∨ (10 ≤ k ∧ k ≤ 15))) → b ≠ 134 → h' b k = h b k
theorem qf.rf {h : jH} : qf h h := fun _ _ _ _ => rfl
theorem qf.tr {h h' h2 : jH} (a : qf h h') (b : qf h' h2) : qf h h2 := fun x k z y => (b x k z y).trans (a x k z y)
theorem rfm.qf {h h' : jH} (f : rfm h h') : qf h h' := fun b k z _ => f b k (by omega)
theorem qf_6 {h : jH} {k : Nat} {x : Int32} (h1 : 4 ≤ k) (h2 : k ≤ 6) : qf h (j_up h 131 k x) := fun b j z y => j_up_o (by omega)
theorem qf_p {h : jH} {k : Nat} {x : Int32} : qf h (j_up h 134 k x) := fun b j z y => j_up_o (by omega)
theorem RP.qf {L : Nat} {t : Nat → Int32} {h h' : jH} (a : RP L t h) (f : qf h h') : RP L t h' := ⟨(f 131 8 (by omega) (by omega)).trans a.1, a.2.1, fun i hi => ⟨(f 135 i (by omega) (by omega)).trans (a.2.2 i hi).1, (a.2.2 i hi).2⟩⟩
theorem RW.qf {h h' : jH} (a : RW h) (f : qf h h') : RW h' := ⟨fun i hi => (f 136 i (by omega) (by omega)).trans (a.1 i hi), fun i hi => (f 137 i (by omega) (by omega)).trans (a.2 i hi)⟩
theorem RT.of {L : Nat} {s : sS} {h h' : jH} (c : RT L s h) (e : ∀ k, 10 ≤ k → k ≤ 15 → h' 131 k = h 131 k) : RT L s h' :=
  ⟨(e 12 (by omega) (by omega)).trans c.1, (e 13 (by omega) (by omega)).trans c.2.1, c.2.2.1, c.2.2.2.1, (e 10 (by omega) (by omega)).trans c.2.2.2.2.1, fun z => ⟨(e 14 (by omega) (by omega)).trans (c.2.2.2.2.2.1 z).1, fun q => (e 15 (by omega) (by omega)).trans ((c.2.2.2.2.2.1 z).2.1 q), (c.2.2.2.2.2.1 z).2.2⟩, fun z => (e 11 (by omega) (by omega)).trans (c.2.2.2.2.2.2 z)⟩
theorem RT.p {L k : Nat} {s : sS} {h : jH} {x : Int32} (c : RT L s h) : RT L s (j_up h 134 k x) := c.of (fun j _ _ => j_up_o (by omega))
theorem RT.u {L k : Nat} {s : sS} {h : jH} {x : Int32} (c : RT L s h) (hk : k < 10) : RT L s (j_up h 131 k x) := c.of (fun j _ _ => j_up_o (by omega))
def mxI (r x : Int32) : Int32 := if r ≤ x then x else r
def RG (P : Nat → Int32) (h : jH) : Prop := ∀ k, k < 69 → h 134 k = P k
theorem RG.up {P : Nat → Int32} {h : jH} {k : Nat} {x : Int32} (g : RG P h) : RG (upd P k x) (j_up h 134 k x) := fun j hj => by
  by_cases z : j = k
  · rw [z, j_up_s, upd_at]
  · rw [j_up_o (by omega), upd_ne z]; exact g j hj
theorem RG.rf {P : Nat → Int32} {h h' : jH} (g : RG P h) (f : rfm h h') : RG P h' := fun j hj => (f 134 j (by omega)).trans (g j hj)
theorem RG.u {P : Nat → Int32} {h : jH} {k : Nat} {x : Int32} (g : RG P h) : RG P (j_up h 131 k x) := fun j hj => (j_up_o (by omega)).trans (g j hj)
theorem nmI_w : ∀ w, w < 13 → ((nI 0 ≤ nmI w - nI 8 ∧ nmI w - nI 8 ≤ nI 3) ↔ (4 ≤ w ∧ w < 8)) ∧ (4 ≤ w ∧ w < 8 → nmI w - nI 8 = nI (w - 4)) := by decide +kernel
theorem sExp_e {k : Nat} {u : sS} : sExp k u = sRef (decide (u.2.2.2.1 ≠ k)) 2 (nrm u) := rfl
theorem sNm_0n {lo hi : Int32} {u : sS} (h : (sNm lo hi u).1 = 0) : (nrm u).1 = 0 := by
  obtain ⟨h1, h2, -⟩ := sNm_0 h
  rw [nrm_g (by omega)]; exact h1
theorem sNm_nf {lo hi : Int32} {u : sS} (h : (nrm u).1 ≠ 0) : sNm lo hi u = nrm u := by rw [sNm_e, nm1, sRef_f h, sRef_f h]
theorem sWea_nf {t : Nat → Int32} {u : sS} (h : (nrm u).1 ≠ 0) : sWea t u = nrm u := by rw [sWea, sExp_e, sRef_f h, sRef_f h]
theorem cov3_eq {L : Nat} {t : Nat → Int32} {w : sS} (hb : w.1 = 0 → nb 4 (sVal w)) : sNm (nI 0) (nI 3) (sRef (decide ((sAdv L t w).2.2.2.1 = 2 ∧ (sAdv L t w).2.2.2.2 = sVal w)) 3 (nrm (sAdv L t w))) = sRef (decide (sVal w = sVal (sNm (nI 0) (nI 3) (sAdv L t w)))) 3 (sNm (nI 0) (nI 3) (sAdv L t w)) := by
  by_cases h1 : (nrm (sAdv L t w)).1 = 0
  · obtain ⟨h2, h3, h4⟩ := nrm_0 h1
    have hw := sAdv_0 h2
    rw [h4]
    by_cases k2 : (sAdv L t w).2.2.2.1 = 2
    · by_cases kv : (sAdv L t w).2.2.2.2 = sVal w
      · rw [sRef_y (decide_eq_true ⟨k2, kv⟩) h2, sNm_f (by show (3 : Nat) ≠ 0; decide)]
        have b := hb hw
        rw [← kv] at b
        have hin : nI 0 ≤ (sAdv L t w).2.2.2.2 ∧ (sAdv L t w).2.2.2.2 ≤ nI 3 := (in_nbc (n := 3) rfl (by omega)).mpr b
        have e : sNm (nI 0) (nI 3) (sAdv L t w) = sAdv L t w := by
          rw [sNm_e, nm1, h4, sRef_n (b := decide ((sAdv L t w).2.2.2.1 ≠ 2)) (by simp [k2]), sRef_n (fun z => (of_decide_eq_true z) hin)]
        have ev : sVal (sAdv L t w) = (sAdv L t w).2.2.2.2 := if_pos h2
        rw [e, ev, sRef_y (decide_eq_true kv.symm) h2]
      · rw [sRef_n (fun z => kv (of_decide_eq_true z).2)]
        by_cases z : (sNm (nI 0) (nI 3) (sAdv L t w)).1 = 0
        · rw [sRef_n (fun q => kv ?_)]
          have := of_decide_eq_true q
          have ev : sVal (sNm (nI 0) (nI 3) (sAdv L t w)) = (sAdv L t w).2.2.2.2 := by rw [sVal, if_pos z, sNm_2]
          rw [ev] at this
          exact this.symm
        · rw [sRef_f z]
    · rw [sRef_n (fun z => k2 (of_decide_eq_true z).1), sRef_f (fun z => k2 (sNm_0 z).2.1)]
  · have h0 : nrm (sAdv L t w) = sNm (nI 0) (nI 3) (sAdv L t w) := (sNm_nf h1).symm
    rw [sRef_f h1, sNm_f h1, ← h0, sRef_f h1]
theorem sNm_any {lo hi lo' hi' : Int32} {u : sS} (h : u.1 ≠ 0) : sNm lo hi u = sNm lo' hi' u := by rw [sNm_f h, sNm_f h]
