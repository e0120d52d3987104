/-! payments: who settle among themselves -/
def bit (S p : Nat) : Bool := decide (S / 2 ^ p % 2 = 1)
def sumB (f : Nat → Int32) (S : Nat) : Nat → Int32
  | 0 => nI 0
  | p + 1 => sumB f S p + (if S / 2 ^ p % 2 = 1 then f p else nI 0)
def mxC (G : Nat → Nat) (S : Nat) : Nat → Nat
  | 0 => 0
  | p + 1 => if S / 2 ^ p % 2 = 1 then max (mxC G S p) (G (S ^^^ 2 ^ p)) else mxC G S p
def bz (b : Bool) : Nat := if b = true then 1 else 0
def gCl (z : Nat → Bool) (n : Nat) : Nat → Nat → Nat
  | 0, _ => 0
  | k + 1, S => if S = k then (if k = 0 then 0 else mxC (gCl z n k) k n + bz (z k)) else gCl z n k S
def rIn (z : Nat → Bool) (G : Nat → Nat) (all : Nat) : Nat → Nat
  | 0 => 0
  | q + 1 => if (q + 1) &&& (15 ^^^ all) = 0 ∧ z (q + 1) = true ∧ rIn z G all q < G (all &&& (15 ^^^ (q + 1))) + 1 then G (all &&& (15 ^^^ (q + 1))) + 1 else rIn z G all q
def gRf (z : Nat → Bool) : Nat → Nat → Nat
  | 0, _ => 0
  | k + 1, S => if S = k then rIn z (gRf z k) k k else gRf z k S
def smF (z : Nat → Bool) : Nat → Nat
  | 0 => 0
  | p + 1 => if z (2 ^ p) = true then smF z p else smF z p ||| 2 ^ p
def zl (l : List Bool) (S : Nat) : Bool := l.getD S false
def R3 (x y z : Bool) : Bool := (!(x && y) || z) && ((!(x && z) || y) && (!(y && z) || x))
theorem pays4 : ∀ x1 x2 x4 x8 x3 x5 x6 : Bool, (R3 x1 x2 x3 && R3 x4 x8 x3 && R3 x1 x4 x5 && R3 x2 x8 x5 && R3 x2 x4 x6 && R3 x1 x8 x6) = true →
    4 + gRf (zl [true, x1, x2, x3, x4, x5, x6, x8, x8, x6, x5, x4, x3, x2, x1, true]) 16 (smF (zl [true, x1, x2, x3, x4, x5, x6, x8, x8, x6, x5, x4, x3, x2, x1, true]) 4)
     = pop (smF (zl [true, x1, x2, x3, x4, x5, x6, x8, x8, x6, x5, x4, x3, x2, x1, true]) 4) + gCl (zl [true, x1, x2, x3, x4, x5, x6, x8, x8, x6, x5, x4, x3, x2, x1, true]) 4 16 15 := by decide +kernel
theorem pays3 : ∀ x1 x2 x4 : Bool, (R3 x1 x2 x4) = true →
    3 + gRf (zl [true, x1, x2, x4, x4, x2, x1, true]) 8 (smF (zl [true, x1, x2, x4, x4, x2, x1, true]) 3) = pop (smF (zl [true, x1, x2, x4, x4, x2, x1, true]) 3) + gCl (zl [true, x1, x2, x4, x4, x2, x1, true]) 3 8 7 := by decide +kernel
theorem pays2 : ∀ x1 : Bool, 2 + gRf (zl [true, x1, x1, true]) 4 (smF (zl [true, x1, x1, true]) 2) = pop (smF (zl [true, x1, x1, true]) 2) + gCl (zl [true, x1, x1, true]) 2 4 3 := by decide +kernel
theorem pays1 : 1 + gRf (zl [true, true]) 2 (smF (zl [true, true]) 1) = pop (smF (zl [true, true]) 1) + gCl (zl [true, true]) 1 2 1 := by decide +kernel
/-- only what is asked of z counts -/
theorem mxC_cong {G G' : Nat → Nat} {S : Nat} (e : ∀ T, T < 16 → G T = G' T) (hS : S < 16) : ∀ {p : Nat}, p ≤ 4 → mxC G S p = mxC G' S p
  | 0, _ => rfl
  | p + 1, hp => by
    have := mxC_cong e hS (p := p) (by omega)
    have hx : S ^^^ 2 ^ p < 16 := Nat.xor_lt_two_pow (n := 4) hS (Nat.pow_lt_pow_right (by omega) (by omega))
    rw [mxC, mxC, this, e _ hx]
theorem gCl_cong {z z' : Nat → Bool} {n N : Nat} (hn : n ≤ 4) (hN : N ≤ 16) (e : ∀ S, S < N → z S = z' S) : ∀ {k : Nat}, k ≤ N → ∀ S, gCl z n k S = gCl z' n k S
  | 0, _, _ => rfl
  | k + 1, hk, S => by
    have ih := gCl_cong hn hN e (k := k) (by omega)
    rw [gCl, gCl, ih S, e k (by omega), mxC_cong (G := gCl z n k) (G' := gCl z' n k) (fun T _ => ih T) (by omega) hn]
theorem rIn_cong {z z' : Nat → Bool} {G G' : Nat → Nat} {all N : Nat} (e : ∀ S, S < N → z S = z' S) (eg : ∀ T, G T = G' T) : ∀ {q : Nat}, q < N → rIn z G all q = rIn z' G' all q
  | 0, _ => rfl
  | q + 1, hq => by
    rw [rIn, rIn, rIn_cong e eg (q := q) (by omega), e (q + 1) hq, eg]
theorem gRf_cong {z z' : Nat → Bool} {N : Nat} (e : ∀ S, S < N → z S = z' S) : ∀ {k : Nat}, k ≤ N → ∀ S, gRf z k S = gRf z' k S
  | 0, _, _ => rfl
  | k + 1, hk, S => by
    have ih := gRf_cong e (k := k) (by omega)
    rw [gRf, gRf, ih S, rIn_cong (N := N) e ih (by omega)]
theorem smF_cong {z z' : Nat → Bool} : ∀ {p : Nat}, (∀ q, q < p → z (2 ^ q) = z' (2 ^ q)) → smF z p = smF z' p
  | 0, _ => rfl
  | p + 1, h => by rw [smF, smF, smF_cong (p := p) (fun q hq => h q (by omega)), h p (by omega)]
theorem R3_i {x y z : Int32} (h : z = x + y) : R3 (decide (x = 0)) (decide (y = 0)) (decide (z = 0)) = true := by
  subst h
  by_cases hx : x = 0
  · subst hx
    by_cases hy : y = 0
    · subst hy; decide
    · have : ¬ (0 + y = 0) := fun w => hy (by rw [Int32.zero_add] at w; exact w)
      simp [R3, hy, this]
  · by_cases hy : y = 0
    · subst hy
      have : ¬ (x + 0 = 0) := fun w => hx (by rw [Int32.add_zero] at w; exact w)
      simp [R3, hx, this]
    · simp [R3, hx, hy]
theorem dneg {x y : Int32} (h : x + y = 0) : decide (y = 0) = decide (x = 0) := by
  have e : y = -x := by
    have := congrArg (fun t => t - x) h
    grind
  subst e
  by_cases hx : x = 0
  · subst hx; decide
  · have : ¬ (-x = 0) := fun w => hx (by grind)
    simp [hx, this]
def zF (f : Nat → Int32) (n S : Nat) : Bool := decide (sumB f S n = 0)
theorem pays_n {n : Nat} {f : Nat → Int32} (hn : n ≤ 4) (hz : sumZ f n = 0) : n + gRf (zF f n) (2 ^ n) (smF (zF f n) n) = pop (smF (zF f n) n) + gCl (zF f n) n (2 ^ n) (2 ^ n - 1) := by
  match n, hn with
  | 0, _ => simp [gRf, gCl, smF, rIn, pop]
  | 1, _ =>
    have e : ∀ S, S < 2 → zF f 1 S = zl [true, true] S := fun S hS => by
      have h0 : f 0 = 0 := by simpa [sumZ, nI0] using hz
      match S, hS with
      | 0, _ => simp [zF, sumB, zl, nI0]
      | 1, _ => simp [zF, sumB, zl, nI0, h0]
    have q := pays1
    rw [← gRf_cong (k := 2) e (by omega), ← smF_cong (z := zF f 1) (p := 1) (fun q hq => e _ (by match q, hq with | 0, _ => decide)), ← gCl_cong (n := 1) (N := 2) (k := 2) (by omega) (by omega) e (by omega)] at q
    exact q
  | 2, _ =>
    have e : ∀ S, S < 4 → zF f 2 S = zl [true, decide (f 0 = 0), decide (f 0 = 0), true] S := fun S hS => by
      have h0 : f 0 + f 1 = 0 := by simpa [sumZ, nI0] using hz
      match S, hS with
      | 0, _ => simp [zF, sumB, zl, nI0]
      | 1, _ => simp [zF, sumB, zl, nI0]
      | 2, _ => have := dneg h0; simp [zF, sumB, zl, nI0]; simpa using this
      | 3, _ => simp [zF, sumB, zl, nI0, h0]
    have q := pays2 (decide (f 0 = 0))
    rw [← gRf_cong (k := 4) e (by omega), ← smF_cong (z := zF f 2) (p := 2) (fun q hq => e _ (by match q, hq with | 0, _ => decide | 1, _ => decide)), ← gCl_cong (n := 2) (N := 4) (k := 4) (by omega) (by omega) e (by omega)] at q
    exact q
  | 3, _ =>
    have h0 : f 0 + f 1 + f 2 = 0 := by simpa [sumZ, nI0] using hz
    have e : ∀ S, S < 8 → zF f 3 S = zl [true, decide (f 0 = 0), decide (f 1 = 0), decide (f 2 = 0), decide (f 2 = 0), decide (f 1 = 0), decide (f 0 = 0), true] S := fun S hS => by
      match S, hS with
      | 0, _ => simp [zF, sumB, zl, nI0]
      | 1, _ => simp [zF, sumB, zl, nI0]
      | 2, _ => simp [zF, sumB, zl, nI0]
      | 3, _ => have := dneg (x := f 2) (y := f 0 + f 1) (by grind); simp [zF, sumB, zl, nI0]; simpa using this
      | 4, _ => simp [zF, sumB, zl, nI0]
      | 5, _ => have := dneg (x := f 1) (y := f 0 + f 2) (by grind); simp [zF, sumB, zl, nI0]; simpa using this
      | 6, _ => have := dneg (x := f 0) (y := f 1 + f 2) (by grind); simp [zF, sumB, zl, nI0]; simpa using this
      | 7, _ => simp [zF, sumB, zl, nI0, h0]
    have r : R3 (decide (f 0 = 0)) (decide (f 1 = 0)) (decide (f 2 = 0)) = true := by
      have := R3_i (x := f 0) (y := f 1) (z := f 0 + f 1) rfl
      rw [dneg (x := f 2) (y := f 0 + f 1) (by grind)] at this
      exact this
    have q := pays3 _ _ _ r
    rw [← gRf_cong (k := 8) e (by omega), ← smF_cong (z := zF f 3) (p := 3) (fun q hq => e _ (by match q, hq with | 0, _ => decide | 1, _ => decide | 2, _ => decide)), ← gCl_cong (n := 3) (N := 8) (k := 8) (by omega) (by omega) e (by omega)] at q
    exact q
  | 4, _ =>
    have h0 : f 0 + f 1 + f 2 + f 3 = 0 := by simpa [sumZ, nI0] using hz
    have e : ∀ S, S < 16 → zF f 4 S = zl [true, decide (f 0 = 0), decide (f 1 = 0), decide (f 0 + f 1 = 0), decide (f 2 = 0), decide (f 0 + f 2 = 0), decide (f 1 + f 2 = 0), decide (f 3 = 0), decide (f 3 = 0), decide (f 1 + f 2 = 0), decide (f 0 + f 2 = 0), decide (f 2 = 0), decide (f 0 + f 1 = 0), decide (f 1 = 0), decide (f 0 = 0), true] S := fun S hS => by
      match S, hS with
      | 0, _ => simp [zF, sumB, zl, nI0]
      | 1, _ => simp [zF, sumB, zl, nI0]
      | 2, _ => simp [zF, sumB, zl, nI0]
      | 3, _ => simp [zF, sumB, zl, nI0]
      | 4, _ => simp [zF, sumB, zl, nI0]
      | 5, _ => simp [zF, sumB, zl, nI0]
      | 6, _ => simp [zF, sumB, zl, nI0]
      | 7, _ => have := dneg (x := f 3) (y := f 0 + f 1 + f 2) (by grind); simp [zF, sumB, zl, nI0]; simpa using this
      | 8, _ => simp [zF, sumB, zl, nI0]
      | 9, _ => have := dneg (x := f 1 + f 2) (y := f 0 + f 3) (by grind); simp [zF, sumB, zl, nI0]; simpa using this
      | 10, _ => have := dneg (x := f 0 + f 2) (y := f 1 + f 3) (by grind); simp [zF, sumB, zl, nI0]; simpa using this
      | 11, _ => have := dneg (x := f 2) (y := f 0 + f 1 + f 3) (by grind); simp [zF, sumB, zl, nI0]; simpa using this
      | 12, _ => have := dneg (x := f 0 + f 1) (y := f 2 + f 3) (by grind); simp [zF, sumB, zl, nI0]; simpa using this
      | 13, _ => have := dneg (x := f 1) (y := f 0 + f 2 + f 3) (by grind); simp [zF, sumB, zl, nI0]; simpa using this
      | 14, _ => have := dneg (x := f 0) (y := f 1 + f 2 + f 3) (by grind); simp [zF, sumB, zl, nI0]; simpa using this
      | 15, _ => simp [zF, sumB, zl, nI0, h0]
      | S + 16, h => omega
    have r1 := R3_i (x := f 0) (y := f 1) (z := f 0 + f 1) rfl
    have r2 : R3 (decide (f 2 = 0)) (decide (f 3 = 0)) (decide (f 0 + f 1 = 0)) = true := by
      have := R3_i (x := f 2) (y := f 3) (z := f 2 + f 3) rfl
      rw [dneg (x := f 0 + f 1) (y := f 2 + f 3) (by grind)] at this
      exact this
    have r3 := R3_i (x := f 0) (y := f 2) (z := f 0 + f 2) rfl
    have r4 : R3 (decide (f 1 = 0)) (decide (f 3 = 0)) (decide (f 0 + f 2 = 0)) = true := by
      have := R3_i (x := f 1) (y := f 3) (z := f 1 + f 3) rfl
      rw [dneg (x := f 0 + f 2) (y := f 1 + f 3) (by grind)] at this
      exact this
    have r5 := R3_i (x := f 1) (y := f 2) (z := f 1 + f 2) rfl
    have r6 : R3 (decide (f 0 = 0)) (decide (f 3 = 0)) (decide (f 1 + f 2 = 0)) = true := by
      have := R3_i (x := f 0) (y := f 3) (z := f 0 + f 3) rfl
      rw [dneg (x := f 1 + f 2) (y := f 0 + f 3) (by grind)] at this
      exact this
    have q := pays4 (decide (f 0 = 0)) (decide (f 1 = 0)) (decide (f 2 = 0)) (decide (f 3 = 0)) (decide (f 0 + f 1 = 0)) (decide (f 0 + f 2 = 0)) (decide (f 1 + f 2 = 0)) (by rw [r1, r2, r3, r4, r5, r6]; rfl)
    rw [← gRf_cong (k := 16) e (by omega), ← smF_cong (z := zF f 4) (p := 4) (fun q hq => e _ (by match q, hq with | 0, _ => decide | 1, _ => decide | 2, _ => decide | 3, _ => decide)), ← gCl_cong (n := 4) (N := 16) (k := 16) (by omega) (by omega) e (by omega)] at q
    exact q
  | n + 5, h => omega
theorem net_sum {n : Nat} {P : Nat → Int32} (hn : n ≤ 4) : sumZ (fun p => netP n p P) n = 0 := by
  match n, hn with
  | 0, _ => rfl
  | 1, _ => simp only [sumZ, netP, nI0, Nat.reduceMul, Nat.reduceAdd]; grind
  | 2, _ => simp only [sumZ, netP, nI0, Nat.reduceMul, Nat.reduceAdd]; grind
  | 3, _ => simp only [sumZ, netP, nI0, Nat.reduceMul, Nat.reduceAdd]; grind
  | 4, _ => simp only [sumZ, netP, nI0, Nat.reduceMul, Nat.reduceAdd]; grind
  | n + 5, h => omega
theorem bit_sh : ∀ p, p < 4 → ∀ S, S < 16 → (nI S >>> (nI p &&& 31)) &&& nI 1 = nI (S / 2 ^ p % 2) ∧ nI S ^^^ (nI 1 <<< (nI p &&& 31)) = nI (S ^^^ 2 ^ p) ∧ S ^^^ 2 ^ p < 16 ∧ (S / 2 ^ p % 2 = 1 → S ^^^ 2 ^ p < S) := by decide
theorem sub_lt : ∀ a, a < 16 → ∀ q, q < 16 → q ≠ 0 → q &&& (15 ^^^ a) = 0 → a &&& (15 ^^^ q) < a := by decide
theorem shl_n {n : Nat} (hn : n ≤ 4) : nI 1 <<< (nI n &&& 31) = nI (2 ^ n) := by
  match n, hn with
  | 0, _ => decide
  | 1, _ => decide
  | 2, _ => decide
  | 3, _ => decide
  | 4, _ => decide
  | n + 5, h => omega
theorem p2_b {n : Nat} (hn : n ≤ 4) : 2 ^ n ≤ 16 ∧ 1 ≤ 2 ^ n := ⟨Nat.le_trans (Nat.pow_le_pow_right (by omega) hn) (by decide), Nat.pow_pos (by omega)⟩
def npF (n : Nat) (P : Nat → Int32) : Nat → Int32 := fun p => netP n p P
theorem mxC_le {G : Nat → Nat} {S B : Nat} (h : ∀ T, G T ≤ B) : ∀ p : Nat, mxC G S p ≤ B
  | 0 => Nat.zero_le _
  | p + 1 => by
    have := mxC_le (S := S) h p
    have := h (S ^^^ 2 ^ p)
    rw [mxC]
    split <;> omega
theorem gCl_le {z : Nat → Bool} {n : Nat} : ∀ k S : Nat, gCl z n k S ≤ k
  | 0, _ => Nat.le_refl _
  | k + 1, S => by
    have ih := gCl_le (z := z) (n := n) k
    have h1 := mxC_le (S := k) ih n
    have h2 : bz (z k) ≤ 1 := by unfold bz; split <;> omega
    have h3 := ih S
    rw [gCl]
    split
    · split <;> omega
    · omega
theorem rIn_le {z : Nat → Bool} {G : Nat → Nat} {a B : Nat} (h : ∀ T, G T ≤ B) : ∀ q : Nat, rIn z G a q ≤ B + 1
  | 0 => Nat.zero_le _
  | q + 1 => by
    have := rIn_le (z := z) (a := a) h q
    have := h (a &&& (15 ^^^ (q + 1)))
    rw [rIn]
    split <;> omega
theorem gRf_le {z : Nat → Bool} : ∀ k S : Nat, gRf z k S ≤ k
  | 0, _ => Nat.le_refl _
  | k + 1, S => by
    have ih := gRf_le (z := z) k
    have h1 := rIn_le (z := z) (a := k) ih k
    have h3 := ih S
    rw [gRf]
    split <;> omega
theorem smF_lt {z : Nat → Bool} {n : Nat} (hn : n ≤ 4) : smF z n < 2 ^ n := by
  have : ∀ p, smF z p < 2 ^ p := fun p => by
    induction p with
    | zero => show (0 : Nat) < 1; omega
    | succ p ih =>
      rw [smF, Nat.pow_succ]
      split
      · omega
      · exact Nat.or_lt_two_pow (n := p + 1) (by rw [Nat.pow_succ]; omega) (by rw [Nat.pow_succ]; have := Nat.pow_pos (n := p) (show 0 < 2 by omega); omega)
  exact this n
noncomputable def oPays (a : jH) : Int32 × jH := (nI (ix (a 131 2)) - nI (gCl (zF (npF (ix (a 131 2)) (pg a 0)) (ix (a 131 2))) (ix (a 131 2)) (2 ^ ix (a 131 2)) (2 ^ ix (a 131 2) - 1)), a)
/-- a row of small numbers filled so far -/
def rwH (h : jH) (b0 : Nat) (G : Nat → Nat) (k : Nat) : jH := fun b j => if b = b0 ∧ j < k then nI (G j) else h b j
theorem rwH_o {h : jH} {b0 k b j : Nat} {G : Nat → Nat} (hb : b ≠ b0) : rwH h b0 G k b j = h b j := if_neg (by omega)
theorem rwH_at {h : jH} {b0 k j : Nat} {G : Nat → Nat} (hj : j < k) : rwH h b0 G k b0 j = nI (G j) := if_pos ⟨rfl, hj⟩
theorem rwH_up {h : jH} {b0 k x : Nat} {G G' : Nat → Nat} (e : ∀ j, j < k → G' j = G j) (ek : G' k = x) : j_up (rwH h b0 G k) b0 k (nI x) = rwH h b0 G' (k + 1) := by
  funext b j
  unfold j_up rwH
  by_cases z : b = b0 ∧ j = k
  · rw [if_pos z, if_pos (by omega), z.2, ek]
  · rw [if_neg z]
    by_cases z2 : b = b0 ∧ j < k
    · rw [if_pos z2, if_pos (by omega), e j z2.2]
    · rw [if_neg z2, if_neg (by omega)]
