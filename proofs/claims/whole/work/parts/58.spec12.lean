theorem asF_s {n c i : Nat} {P sn : Nat → Int32} : asF n P sn c (i + 1) = true ↔ (asF n P sn c i = true ∧ pw n P c (ix (sn (3 * i))) (ix (sn (3 * i + 1))) = sn (3 * i + 2)) := by
  rw [asF, Bool.and_eq_true, decide_eq_true_iff]
theorem asF_no {n c k : Nat} {P sn : Nat → Int32} (h : ¬ asF n P sn c k = true) : ∀ {j : Nat}, k ≤ j → ¬ asF n P sn c j = true
  | 0, hj => by rw [show k = 0 by omega] at h; exact h
  | j + 1, hj => by
    by_cases z : k = j + 1
    · rw [← z]; exact h
    · intro w
      exact asF_no h (j := j) (by omega) (asF_s.mp w).1
theorem pw_lt {c m : Nat} (hc : c < 256) (hm : m ≤ 4) : c / 4 ^ (4 - m) < 4 ^ m := lev_lt (m := 4) hm (by omega) (by omega)
def tyH (h : jH) (F : Int32 → Nat) : jH := fun b i => if b = 80 ∧ i < 1000 then nI (F (nI i)) else h b i
theorem tyH_o {h : jH} {F : Int32 → Nat} {b i : Nat} (hb : b ≠ 80) : tyH h F b i = h b i := if_neg (by omega)
theorem tyH_at {h : jH} {F : Int32 → Nat} {i : Nat} (hi : i < 1000) : tyH h F 80 i = nI (F (nI i)) := if_pos ⟨rfl, hi⟩
theorem tyH_up {h : jH} {F : Int32 → Nat} {i : Nat} {x : Nat} (hi : i < 1000) : j_up (tyH h F) 80 i (nI x) = tyH h (fun v => if nI i = v then x else F v) := by
  funext b j
  unfold j_up tyH
  by_cases z : b = 80 ∧ j = i
  · obtain ⟨rfl, rfl⟩ := z
    rw [if_pos ⟨rfl, rfl⟩, if_pos ⟨rfl, hi⟩]
    dsimp only
    rw [if_pos rfl]
  · rw [if_neg z]
    by_cases z2 : b = 80 ∧ j < 1000
    · rw [if_pos z2, if_pos z2]
      dsimp only
      rw [if_neg (fun e => z ⟨z2.1, ((nI_eq (by omega) (by omega)).mp e).symm⟩)]
    · rw [if_neg z2, if_neg z2]
theorem tyH_0 {h : jH} (hz : ∀ i, i < 1000 → h 80 i = 0) : tyH h (fun _ => 0) = h := by
  funext b i
  unfold tyH
  by_cases z : b = 80 ∧ i < 1000
  · rw [if_pos z, z.1, hz i z.2]; rfl
  · rw [if_neg z]
def lkH (h : jH) (S : Int32 × Nat) : jH := j_up (j_up h 59 5 S.1) 59 6 (nI S.2)
theorem lkH_o {h : jH} {S : Int32 × Nat} {b i : Nat} (hb : b ≠ 59 ∨ (i ≠ 5 ∧ i ≠ 6)) : lkH h S b i = h b i := by
  unfold lkH
  rw [j_up_o (by omega), j_up_o (by omega)]
theorem lkH_6 {h : jH} {S : Int32 × Nat} : lkH h S 59 6 = nI S.2 := j_up_s
theorem lkH_5 {h : jH} {S : Int32 × Nat} : lkH h S 59 5 = S.1 := by unfold lkH; rw [j_up_o (by omega), j_up_s]
theorem lkH_up {h : jH} {S : Int32 × Nat} {w : Int32} {v : Nat} : j_up (j_up (lkH h S) 59 5 w) 59 6 (nI v) = lkH h (w, v) := by
  funext b i
  unfold lkH j_up
  by_cases z : b = 59 ∧ i = 6
  · simp [z]
  · by_cases z2 : b = 59 ∧ i = 5
    · simp [z2]
    · simp [z, z2]
