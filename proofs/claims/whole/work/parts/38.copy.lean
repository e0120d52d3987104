/-! rows copied; valleys copied -/
def crH (h : jH) (a b N L : Nat) : jH := fun q j => if b ≤ q ∧ q < b + N ∧ j < L then h (a + (q - b)) j else h q j
theorem crH_0 {h : jH} {a b L : Nat} : crH h a b 0 L = h := by
  funext q j
  simp only [crH, show ¬ (b ≤ q ∧ q < b + 0 ∧ j < L) by omega, if_false]
theorem crH_s {h : jH} {a b N L k : Nat} (hd : a + N ≤ b ∨ b + N ≤ a) (hk : k < N) : j_row (crH h a b k L) (b + k) (va_cpy (crH h a b k L (a + k)) (crH h a b k L (b + k)) 0 0 L) = crH h a b (k + 1) L := by
  have ea : ∀ j, crH h a b k L (a + k) j = h (a + k) j := fun j => by
    simp only [crH, show ¬ (b ≤ a + k ∧ a + k < b + k ∧ j < L) by omega, if_false]
  funext q j
  unfold j_row
  by_cases z : q = b + k
  · subst z
    rw [if_pos rfl, va_cpy]
    by_cases z2 : j < L
    · rw [if_pos (by omega), show 0 + (j - 0) = j by omega, ea, crH, if_pos (by omega), show b + k - b = k by omega]
    · rw [if_neg (by omega), crH, crH, if_neg (by omega), if_neg (by omega)]
  · rw [if_neg z]
    have : (b ≤ q ∧ q < b + k ∧ j < L) ↔ (b ≤ q ∧ q < b + (k + 1) ∧ j < L) := by omega
    simp only [crH, this]
theorem crH_at {h : jH} {a b N L k j : Nat} (hk : k < N) (hj : j < L) : crH h a b N L (b + k) j = h (a + k) j := by
  rw [crH, if_pos (by omega), show b + k - b = k by omega]
theorem crH_o {h : jH} {a b N L q j : Nat} (hq : q < b ∨ b + N ≤ q) : crH h a b N L q j = h q j := by
  rw [crH, if_neg (by omega)]
def CP (h h' : jH) (o v : Nat) : Prop := (∀ b, (b < v ∨ v + 18 ≤ b) → h' b = h b) ∧ (h' v 0 = h o 0 ∧ h' v 3 = h o 3 ∧ h' v 6 = h o 6 ∧ h' v 7 = h o 7 ∧ h' v 9 = h o 9) ∧ (∀ t j, t < 3 → j < 4 → h' (v + 2 + t) j = h (o + 2 + t) j) ∧ (∀ t j, t < 5 → j < 5 → h' (v + 6 + t) j = h (o + 6 + t) j) ∧
  (∀ j, j < 4 → h' (v + 11) j = h (o + 11) j) ∧ (∀ j, j < 8 → h' (v + 12) j = h (o + 12) j) ∧ (∀ t j, t < 4 → j < 4 → h' (v + 14 + t) j = h (o + 14 + t) j)
theorem XV_CP {n o v : Nat} {P : Nat → Int32} {h h' : jH} (hX : XV n P h o) (hn : n ≤ 4) (h6 : ix (P 37) < 6) (h9 : ix (P 51) < 9) (hc : CP h h' o v) : XV n P h' v := by
  obtain ⟨x1, x2, x3, x4, x5, x6, x7, x8, x9⟩ := hX
  obtain ⟨c1, ⟨c2, c3, c4, c5, c6⟩, c7, c8, c9, ca, cb⟩ := hc
  refine ⟨c2.trans x1, fun p hp => ⟨(c7 0 p (by omega) (by omega)).trans (x2 p hp).1, (c7 1 p (by omega) (by omega)).trans (x2 p hp).2.1, (c7 2 p (by omega) (by omega)).trans (x2 p hp).2.2⟩, c3.trans x3, fun c hc j hj => (c8 j c hj (by omega)).trans (x4 c hc j hj), fun w hw => (c9 w hw).trans (x5 w hw), c4.trans x6, c5.trans x7, fun i hi => (ca i (by omega)).trans (x8 i hi), fun p q hp hq => (cb p q hp hq).trans (x9 p q hp hq)⟩
def vf1 (h : jH) (o v : Nat) : jH := j_up (j_up (j_up (j_up (j_up h v 0 (h o 0)) v 3 (h o 3)) v 6 (h o 6)) v 7 (h o 7)) v 9 (h o 9)
def vf2 (h : jH) (o v : Nat) : jH := crH (crH (crH (vf1 h o v) (o + 2) (v + 2) 3 4) (o + 6) (v + 6) 5 5) (o + 14) (v + 14) 4 4
def vf3 (h : jH) (o v : Nat) : jH := j_row (vf2 h o v) (v + 11) (va_cpy (vf2 h o v (o + 11)) (vf2 h o v (v + 11)) 0 0 4)
def vfH (h : jH) (o v : Nat) : jH := j_row (vf3 h o v) (v + 12) (va_cpy (vf3 h o v (o + 12)) (vf3 h o v (v + 12)) 0 0 8)
theorem isV_far {o v : Nat} (ho : isV o) (hv : isV v) (hne : o ≠ v) : o + 18 ≤ v ∨ v + 18 ≤ o := by
  unfold isV at ho hv
  omega
theorem vf1_o {h : jH} {o v b j : Nat} (hb : b ≠ v) : vf1 h o v b j = h b j := by
  unfold vf1
  rw [j_up_o (by omega), j_up_o (by omega), j_up_o (by omega), j_up_o (by omega), j_up_o (by omega)]
theorem vf2_x {h : jH} {o v b j : Nat} (hb : b < v + 2 ∨ v + 18 ≤ b ∨ b = v + 5 ∨ (v + 11 ≤ b ∧ b < v + 14)) (hv : b ≠ v) : vf2 h o v b j = h b j := by
  unfold vf2
  rw [crH_o (by omega), crH_o (by omega), crH_o (by omega), vf1_o hv]
theorem vfH_CP {h : jH} {o v : Nat} (ho : isV o) (hv : isV v) (hne : o ≠ v) : CP h (vfH h o v) o v := by
  have far := isV_far ho hv hne
  have r : ∀ b j, b ≠ v + 11 → b ≠ v + 12 → vfH h o v b j = vf2 h o v b j := fun b j h1 h2 => by
    rw [vfH, j_row_ne b h2, vf3, j_row_ne b h1]
  have ob : ∀ j, vf2 h o v v j = vf1 h o v v j := fun j => by unfold vf2; rw [crH_o (by omega), crH_o (by omega), crH_o (by omega)]
  refine ⟨fun b hb => funext fun j => ?_, ⟨?_, ?_, ?_, ?_, ?_⟩, fun t j ht hj => ?_, fun t j ht hj => ?_, fun j hj => ?_, fun j hj => ?_, fun t j ht hj => ?_⟩
  · rw [r b j (by omega) (by omega), vf2_x (by omega) (by omega)]
  · rw [r _ _ (by omega) (by omega), ob, vf1, j_up_o (by omega), j_up_o (by omega), j_up_o (by omega), j_up_o (by omega), j_up_s]
  · rw [r _ _ (by omega) (by omega), ob, vf1, j_up_o (by omega), j_up_o (by omega), j_up_o (by omega), j_up_s]
  · rw [r _ _ (by omega) (by omega), ob, vf1, j_up_o (by omega), j_up_o (by omega), j_up_s]
  · rw [r _ _ (by omega) (by omega), ob, vf1, j_up_o (by omega), j_up_s]
  · rw [r _ _ (by omega) (by omega), ob, vf1, j_up_s]
  · rw [r _ _ (by omega) (by omega), vf2, crH_o (by omega), crH_o (by omega), crH_at ht hj, vf1_o (by omega)]
  · rw [r _ _ (by omega) (by omega), vf2, crH_o (by omega), crH_at ht hj, crH_o (by omega), vf1_o (by omega)]
  · rw [vfH, j_row_ne _ (by omega), vf3, j_row_at, va_cpy, if_pos (by omega), show 0 + (j - 0) = j by omega, vf2_x (by omega) (by omega)]
  · rw [vfH, j_row_at, va_cpy, if_pos (by omega), show 0 + (j - 0) = j by omega, vf3, j_row_ne _ (by omega), vf2_x (by omega) (by omega)]
  · rw [r _ _ (by omega) (by omega), vf2, crH_at ht hj, crH_o (by omega), crH_o (by omega), vf1_o (by omega)]
theorem CP.hi {h h' : jH} {o v : Nat} (hv : isV v) (hc : CP h h' o v) : hi h h' := fun b hb => hc.1 b (by rcases hv with z | z | z | z | z | z <;> omega)
theorem CP.q {h h' : jH} {o v : Nat} (hv : v = 19 ∨ v = 60) (hc : CP h h' o v) : xq h h' := fun b hb => hc.1 b (by omega)
theorem ones_r {v : Nat} : ∀ k, k < 3 → ([some (v + 2), some (v + 3), some (v + 4)] : List (Option Nat))[k]? = some (some (v + 2 + k)) := fun _ => onesR
theorem terms_r {v : Nat} : ∀ k, k < 5 → ([some (v + 6), some (v + 7), some (v + 8), some (v + 9), some (v + 10)] : List (Option Nat))[k]? = some (some (v + 6 + k)) := fun _ => termsR
theorem debts_r {v : Nat} : ∀ k, k < 4 → ([some (v + 14), some (v + 15), some (v + 16), some (v + 17)] : List (Option Nat))[k]? = some (some (v + 14 + k)) := fun _ => debtsR
/-! images -/
noncomputable def oKeep (a : jH) (k : Int32) : Int32 × jH := iteR (nI 0 ≤ k ∧ k ≤ nI 1) (a 142 (ix k), j_up (mset a (69 * (ix k + 1)) (pg a 0)) 142 (ix k) (nI 1)) (-1, a)
noncomputable def oBack (a : jH) (k : Int32) : Int32 × jH := iteR (nI 0 ≤ k ∧ k ≤ nI 1) (iteR (a 142 (ix k) = 0) (-2, a) (pg a (69 * (ix k + 1)) 52, mset a 0 (pg a (69 * (ix k + 1))))) (-1, a)
/-! sheets -/
def zcH (h : jH) (k m : Nat) : jH := fun b j => if b = 145 ∧ 40 * k ≤ j ∧ j < 40 * k + m then 0 else h b j
def cutL (l v : Int32) : Int32 := if l = nI 0 then (v <<< (nI 24 &&& 31)) >>> (nI 24 &&& 31) else if l = nI 1 then (v <<< (nI 16 &&& 31)) >>> (nI 16 &&& 31) else v
noncomputable def oSheet (a : jH) (k l n : Int32) : Int32 × jH := iteR (nb 4 k ∧ nb 3 l ∧ n ≤ nI 40) (iteR (0 ≤ n) (nI 1, zcH (j_up (j_up a 143 (ix k) l) 144 (ix k) n) (ix k) 40) (-14, a)) (-1, a)
noncomputable def oLay (a : jH) (k i v : Int32) : Int32 × jH := iteR (nb 4 k) (iteR (a 143 (ix k) = -4) (-11, a) (iteR (nb (ix (a 144 (ix k))) i) (nI 1, j_up a 145 (40 * ix k + ix i) (cutL (a 143 (ix k)) v)) (-12, a))) (-1, a)
def oTorn (a : jH) : Int32 × jH := (a 131 28, a)
noncomputable def oCount (a : jH) (x : Int32) : Int32 × jH := (sel x [a 131 21, a 142 0 + a 142 1, a 131 8, iteP (a 143 0 = -4) (-4) (a 144 0), sumZ (fun p => pg a 0 (8 + p)) (ix (a 131 2)), sumZ (fun k => pg a 0 (53 + k)) 16] 0 (-1), a)
theorem zcH_0 {h : jH} {k : Nat} : zcH h k 0 = h := by
  funext b j
  simp only [zcH, show ¬ (b = 145 ∧ 40 * k ≤ j ∧ j < 40 * k + 0) by omega, if_false]
theorem zcH_s {h : jH} {k m : Nat} : j_up (zcH h k m) 145 (40 * k + m) (nI 0) = zcH h k (m + 1) := by
  funext b j
  unfold j_up zcH
  by_cases z : b = 145 ∧ j = 40 * k + m
  · obtain ⟨rfl, rfl⟩ := z
    rw [if_pos ⟨rfl, rfl⟩, if_pos (by omega)]; rfl
  · rw [if_neg z]
    have : (b = 145 ∧ 40 * k ≤ j ∧ j < 40 * k + m) ↔ (b = 145 ∧ 40 * k ≤ j ∧ j < 40 * k + (m + 1)) := by omega
    simp only [this]
theorem zcH_o {h : jH} {k m b j : Nat} (hb : b ≠ 145 ∨ j < 40 * k ∨ 40 * k + m ≤ j) : zcH h k m b j = h b j := by
  rw [zcH, if_neg (by omega)]
theorem zcH_z {h : jH} {k m j : Nat} (h1 : 40 * k ≤ j) (h2 : j < 40 * k + m) : zcH h k m 145 j = 0 := by
  rw [zcH, if_pos (by omega)]
theorem cut8 (v : Int32) : (v <<< (nI 24 &&& 31)) >>> (nI 24 &&& 31) = v.toInt8.toInt32 := by
  have e : (nI 24 &&& 31 : Int32) = 24 := by decide
  rw [e]
  apply Int32.toBitVec_inj.mp
  rw [Int32.toBitVec_shiftRight, Int32.toBitVec_shiftLeft]
  have e2 : ((24 : Int32).toBitVec.smod 32) = 24#32 := by decide
  rw [e2]
  show BitVec.sshiftRight (v.toBitVec <<< 24) 24 = BitVec.signExtend 32 (v.toBitVec.signExtend 8)
  generalize v.toBitVec = x
  apply BitVec.eq_of_getLsbD_eq
  intro i hi
  rw [BitVec.getLsbD_sshiftRight, BitVec.getLsbD_signExtend]
  have h7 : (BitVec.signExtend 8 x)[7] = x[7] := by simp [BitVec.getElem_signExtend]
  simp only [BitVec.getLsbD_shiftLeft, BitVec.msb_eq_getLsbD_last, BitVec.getLsbD_signExtend]
  by_cases z : i < 8
  · have z1 : 24 + i < 32 := by omega
    have z2 : ¬ 24 + i < 24 := by omega
    have z3 : ¬ 32 ≤ i := by omega
    simp [z, z1, z2, z3, hi]
  · have z1 : ¬ 24 + i < 32 := by omega
    have z3 : ¬ 32 ≤ i := by omega
    simp [z, z1, z3, hi]
    try rw [h7]
theorem cut16 (v : Int32) : (v <<< (nI 16 &&& 31)) >>> (nI 16 &&& 31) = v.toInt16.toInt32 := by
  have e : (nI 16 &&& 31 : Int32) = 16 := by decide
  rw [e]
  apply Int32.toBitVec_inj.mp
  rw [Int32.toBitVec_shiftRight, Int32.toBitVec_shiftLeft]
  have e2 : ((16 : Int32).toBitVec.smod 32) = 16#32 := by decide
  rw [e2]
  show BitVec.sshiftRight (v.toBitVec <<< 16) 16 = BitVec.signExtend 32 (v.toBitVec.signExtend 16)
  generalize v.toBitVec = x
  apply BitVec.eq_of_getLsbD_eq
  intro i hi
  rw [BitVec.getLsbD_sshiftRight, BitVec.getLsbD_signExtend]
  have h7 : (BitVec.signExtend 16 x)[15] = x[15] := by simp [BitVec.getElem_signExtend]
  simp only [BitVec.getLsbD_shiftLeft, BitVec.msb_eq_getLsbD_last, BitVec.getLsbD_signExtend]
  by_cases z : i < 16
  · have z1 : 16 + i < 32 := by omega
    have z2 : ¬ 16 + i < 16 := by omega
    have z3 : ¬ 32 ≤ i := by omega
    simp [z, z1, z2, z3, hi]
  · have z1 : ¬ 16 + i < 32 := by omega
    have z3 : ¬ 32 ≤ i := by omega
    simp [z, z1, z3, hi]
    try rw [h7]
