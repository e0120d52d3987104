/-! THE JUDGEMENT J: a method's code over a heap of places. Place k lies at the address ad k; what it is (σ) and its ints (h). -/
abbrev jH : Type := Nat → Nat → Int32
abbrev jD : Type := (Nat × Nat) ⊕ ((Nat × List (Option Nat)) ⊕ (Nat × List (Option (Option Nat))))
abbrev jG : Type := Launch × va_G × (Nat → ClassId) × (Nat → Nat) × Nat
abbrev jY : Type := String × MethodName × ByteArray × Nat × Option FieldType
abbrev jQ : Type := Option Value → List jD → jH → Prop
def j_v (ad : Nat → Nat) : Value → Value
  | .ref k => .ref (ad k)
  | v => v
def j_f (ad : Nat → Nat) (f : Nat → Int32) (j : Nat) (x : Option (Option Nat)) : Value := match x with
  | none => .int (f j)
  | some r => va_rf (r.map ad)
def j_e (g : jG) (d : jD) (f : Nat → Int32) : va_E := match d with
  | .inl a => .inl (g.2.2.1 a.1, a.2, .inl f)
  | .inr (.inl a) => .inl (g.2.2.1 a.1, a.2.length, .inr (.inr (.inr (.inr (fun i => (a.2.getD i none).map g.2.2.2.1)))))
  | .inr (.inr o) => .inr (o.1, o.2.mapIdx (j_f g.2.2.2.1 f))
def j_w (g : jG) (σ : List jD) (h : jH) : va_W := σ.mapIdx (fun k d => (g.2.2.2.1 k, j_e g d (h k)))
def j_A (g : jG) : Nat → Prop := fun q => g.2.2.2.2 ≤ q
def j_P (g : jG) (σ : List jD) (h : jH) (H : Heap) : Prop := σ.length ≤ 100000 ∧ H.size = g.2.2.2.2 + σ.length ∧ va_P g.2.1 vwCl (j_w g σ h) H
def j_t (g : jG) : List (ClassId × FieldType) := [(g.2.2.1 0, .int), (g.2.2.1 1, .boolean), (g.2.2.1 2, .array .int), (g.2.2.1 3, .object "RainCover$Valley"), (g.2.2.1 4, .object "RainCover$Sheet")]
theorem j_w_at {g : jG} {σ : List jD} {h : jH} {k : Nat} {d : jD} (e : σ[k]? = some d) : (j_w g σ h)[k]? = some (g.2.2.2.1 k, j_e g d (h k)) := by
  unfold j_w
  rw [List.getElem?_mapIdx, e]
  rfl
theorem j_w_len {g : jG} {σ : List jD} {h : jH} : (j_w g σ h).length = σ.length := by simp [j_w]
theorem j_D {g : jG} {σ : List jD} {h : jH} (ha : ∀ k, k < 100000 → g.2.2.2.1 k = g.2.2.2.2 + k) (hz : σ.length ≤ 100000) : va_D (j_A g) (j_w g σ h) := by
  have at' : ∀ (k : Nat) (q : Nat × va_E), (j_w g σ h)[k]? = some q → k < σ.length ∧ q.1 = g.2.2.2.2 + k := fun k q hq => by
    have hk : k < (j_w g σ h).length := (List.getElem?_eq_some_iff.mp hq).1
    rw [j_w_len] at hk
    have e : σ[k]? = some σ[k] := List.getElem?_eq_getElem hk
    rw [j_w_at e] at hq
    cases hq
    exact ⟨hk, ha k (by omega)⟩
  refine ⟨fun i j p q hi hj hpq => ?_, fun k q hq => ?_⟩
  · have h1 := (at' i p hi).2
    have h2 := (at' j q hj).2
    omega
  · have h1 := (at' k q hq).2
    show g.2.2.2.2 ≤ q.1
    omega
/-- one int of a place changes -/
def j_up (h : jH) (a i : Nat) (x : Int32) : jH := fun b j => if b = a ∧ j = i then x else h b j
/-- a whole row of a place changes -/
def j_row (h : jH) (a : Nat) (f : Nat → Int32) : jH := fun b j => if b = a then f j else h b j
theorem j_w_set {g : jG} {σ : List jD} {h h' : jH} {a : Nat} {d d' : jD} (e : σ[a]? = some d) (ho : ∀ b, b ≠ a → h' b = h b) : (j_w g σ h).set a (g.2.2.2.1 a, j_e g d' (h' a)) = j_w g (σ.set a d') h' := by
  apply List.ext_getElem?
  intro k
  have hl : a < σ.length := (List.getElem?_eq_some_iff.mp e).1
  by_cases hk : k = a
  · subst hk
    rw [List.getElem?_set_self (by rw [j_w_len]; exact hl), j_w_at (d := d') (List.getElem?_set_self hl)]
  · rw [List.getElem?_set_ne (fun z => hk z.symm)]
    unfold j_w
    rw [List.getElem?_mapIdx, List.getElem?_mapIdx, List.getElem?_set_ne (fun z => hk z.symm), ho k hk]
theorem j_set_same {σ : List jD} {a : Nat} {d : jD} (e : σ[a]? = some d) : σ.set a d = σ := by
  apply List.ext_getElem?
  intro k
  have hl : a < σ.length := (List.getElem?_eq_some_iff.mp e).1
  by_cases hk : k = a
  · subst hk
    rw [List.getElem?_set_self hl, e]
  · rw [List.getElem?_set_ne (fun z => hk z.symm)]
theorem j_w_set0 {g : jG} {σ : List jD} {h h' : jH} {a : Nat} {d : jD} (e : σ[a]? = some d) (ho : ∀ b, b ≠ a → h' b = h b) : (j_w g σ h).set a (g.2.2.2.1 a, j_e g d (h' a)) = j_w g σ h' := by
  rw [j_w_set e ho, j_set_same e]
theorem j_w_app {g : jG} {σ : List jD} {h h' : jH} {d : jD} (ho : ∀ b, b < σ.length → h' b = h b) : j_w g σ h ++ [(g.2.2.2.1 σ.length, j_e g d (h' σ.length))] = j_w g (σ ++ [d]) h' := by
  unfold j_w
  rw [List.mapIdx_append]
  congr 1
  · apply List.ext_getElem?
    intro k
    rw [List.getElem?_mapIdx, List.getElem?_mapIdx]
    cases e : σ[k]? with
    | none => rfl
    | some d =>
      have hl : k < σ.length := (List.getElem?_eq_some_iff.mp e).1
      simp [ho k hl]
  · simp
/-- locals -/
def j_l (ad : Nat → Nat) (ls : List (Nat × Value)) : List (Nat × Value) := ls.map (fun q => (q.1, j_v ad q.2))
def j_lk : List (Nat × Value) → Nat → Option Value
  | [], _ => none
  | q :: t, k => match Nat.beq q.1 k with
    | true => some q.2
    | false => j_lk t k
theorem j_lk_mem : ∀ {ls : List (Nat × Value)} {k : Nat} {v : Value}, j_lk ls k = some v → (k, v) ∈ ls
  | [], k, v, h => by cases h
  | q :: t, k, v, h => by
    unfold j_lk at h
    split at h
    next e =>
      have e2 := Nat.eq_of_beq_eq_true e
      cases h
      rw [← e2]
      exact List.mem_cons_self
    next e => exact List.mem_cons_of_mem _ (j_lk_mem h)
theorem j_at {ls : List (Nat × Value)} {k nL : Nat} {v : Value} {ad : Nat → Nat} {lsA : Array Slot} (hl : lv_has lsA nL (j_l ad ls)) (h : j_lk ls k = some v) : lsA[k]? = some (.val (j_v ad v)) :=
  hl.2.2 (k, j_v ad v) (List.mem_map.mpr ⟨(k, v), j_lk_mem h, rfl⟩)
def j_s1 (ls : List (Nat × Value)) (i : Nat) (v : Value) : List (Nat × Value) := (i, v) :: ls.filter (fun q => !(q.1 == i) && !(q.1 + 1 == i && q.2.category == 2))
def j_s2 (ls : List (Nat × Value)) (i : Nat) (v : Value) : List (Nat × Value) := (i, v) :: ls.filter (fun q => !(q.1 == i) && (!(q.1 == i + 1) && !(q.1 + 1 == i && q.2.category == 2)))
theorem j_v_cat {ad : Nat → Nat} (v : Value) : (j_v ad v).category = v.category := by cases v <;> rfl
theorem j_l_s1 {ad : Nat → Nat} {ls : List (Nat × Value)} {i : Nat} {v : Value} : (i, j_v ad v) :: (j_l ad ls).filter (fun q => !(q.1 == i) && !(q.1 + 1 == i && q.2.category == 2)) = j_l ad (j_s1 ls i v) := by
  unfold j_l j_s1
  rw [List.map_cons, List.filter_map]
  simp only [Function.comp_def, j_v_cat]
theorem j_l_s2 {ad : Nat → Nat} {ls : List (Nat × Value)} {i : Nat} {v : Value} : (i, j_v ad v) :: (j_l ad ls).filter (fun q => !(q.1 == i) && (!(q.1 == i + 1) && !(q.1 + 1 == i && q.2.category == 2))) = j_l ad (j_s2 ls i v) := by
  unfold j_l j_s2
  rw [List.map_cons, List.filter_map]
  simp only [Function.comp_def, j_v_cat]
def j_sub (ls : List (Nat × Value)) : List (Nat × Value) → Prop
  | [] => True
  | q :: t => j_lk ls q.1 = some q.2 ∧ j_sub ls t
theorem j_sub_mem {ls : List (Nat × Value)} : ∀ {l' : List (Nat × Value)}, j_sub ls l' → ∀ q ∈ l', q ∈ ls
  | [], _, q, h => by cases h
  | a :: t, h, q, hq => by
    rcases List.mem_cons.mp hq with rfl | hq
    · exact j_lk_mem h.1
    · exact j_sub_mem h.2 q hq
theorem j_less {ls ls' : List (Nat × Value)} {nL : Nat} {ad : Nat → Nat} {lsA : Array Slot} (hl : lv_has lsA nL (j_l ad ls)) (h : j_sub ls ls') : lv_has lsA nL (j_l ad ls') := by
  refine ⟨hl.1, hl.2.1, fun q hq => ?_⟩
  obtain ⟨x, hx, rfl⟩ := List.mem_map.mp hq
  exact hl.2.2 _ (List.mem_map.mpr ⟨x, j_sub_mem h x hx, rfl⟩)
