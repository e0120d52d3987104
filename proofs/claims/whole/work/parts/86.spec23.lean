/-! MAKING: the judgement over a list that grows behind what is there -/
section RC
variable {g : jG} {d : Nat} {Y Y' : jY} {b : Nat × Nat} {b1 b2 : Nat} {σ T T' S : List jD} {v k i : Nat} {h : jH} {pc : Nat} {ls : List (Nat × Value)} {st : List Value} {Q : jQ}
theorem R_at {a : Nat} {x : jD} (hv : σ.length = v) (ha : a = v + i) (hx : T[i]? = some x) : (σ ++ T)[a]? = some x := by
  subst hv
  subst ha
  rw [List.getElem?_append_right (by omega), show σ.length + i - σ.length = i by omega]
  exact hx
theorem R_set {a : Nat} {x : jD} (hv : σ.length = v) (ha : a = v + i) (hx : T.set i x = T') : (σ ++ T).set a x = σ ++ T' := by
  subst hv
  subst ha
  rw [List.set_append_right _ _ (by omega), show σ.length + i - σ.length = i by omega, hx]
theorem R_len (hv : σ.length = v) (hk : T.length = k) : (σ ++ T).length = v + k := by rw [List.length_append, hv, hk]
theorem R_newa {N κ : Nat} {n : Int32} {at0 : ArrayType} {ty : FieldType} (hd : decode Y.2.2.1 pc = .ok (.newarray at0, 2)) (ht : newarray.typeOf at0 = ty) (hκ : (κ = 0 ∧ ty = .int) ∨ (κ = 1 ∧ ty = .boolean)) (hw : Cond.arrayClass ty ∈ jB) (hn : n = nI N) (hN : N ≤ 100000) (hv : σ.length = v) (hk : T.length = k) (hT : T ++ [.inl (κ, N)] = T') (hz : v + k < 100000)
    (kk : J g d Y (b1, b2) (σ ++ T') (j_row h (v + k) (fun _ => 0)) (pc + 2) ls (.ref (v + k) :: st) Q) : J g d Y (b1 + 1, b2 + N) (σ ++ T) h pc ls (.int n :: st) Q := by
  have e := R_len hv hk
  refine J_newa hd ht hκ hw hn hN (by rw [e]; exact hz) ?_
  rw [e, List.append_assoc, hT]; exact kk
theorem R_anew {N κ idx : Nat} {n : Int32} {Cn : String} (hd : decode Y.2.2.1 pc = .ok (.anewarray idx, 3)) (hκ : (κ = 3 ∧ Cn = "RainCover$Valley") ∨ (κ = 4 ∧ Cn = "RainCover$Sheet")) (hw : Cond.classLink Y.1 idx Cn ∈ jB) (hn : n = nI N) (hN : N ≤ 100000) (hv : σ.length = v) (hk : T.length = k) (hT : T ++ [.inr (.inl (κ, List.replicate N none))] = T') (hz : v + k < 100000)
    (kk : J g d Y (b1, b2) (σ ++ T') h (pc + 3) ls (.ref (v + k) :: st) Q) : J g d Y (b1 + 1, b2 + N) (σ ++ T) h pc ls (.int n :: st) Q := by
  have e := R_len hv hk
  refine J_anew hd hκ hw hn hN (by rw [e]; exact hz) ?_
  rw [e, List.append_assoc, hT]; exact kk
theorem R_new {ci N idx : Nat} {Cn : String} {U : u_T} {ty0 : Nat → FieldType} {fs : List (Option (Option Nat))} (hd : decode Y.2.2.1 pc = .ok (.new idx, 3)) (hcl : vwCl[ci]? = some (Cn, U, N)) (hin : ∀ w ∈ u_ws Cn U N, w ∈ jB) (hty : ∀ k, k < N → parseFieldDescriptor (U k).2.2.1 = some (ty0 k)) (h1 : Cond.classLink Y.1 idx Cn ∈ jB) (h2 : Cond.instantiable Cn N ∈ jB) (h3 : Cond.initialized Cn ∈ jB)
    (hfs : ∀ j, j < N → (fs[j]? = some none ∧ defaultValue (ty0 j) = .int 0) ∨ (fs[j]? = some (some none) ∧ defaultValue (ty0 j) = .null)) (hv : σ.length = v) (hk : T.length = k) (hT : T ++ [.inr (.inr (ci, fs))] = T') (hz : v + k < 100000)
    (kk : J g d Y (b1, b2) (σ ++ T') (j_row h (v + k) (fun _ => 0)) (pc + 3) ls (.ref (v + k) :: st) Q) : J g d Y (b1 + 1, b2 + N) (σ ++ T) h pc ls st Q := by
  have e := R_len hv hk
  refine J_new hd hcl hin hty h1 h2 h3 hfs (by rw [e]; exact hz) ?_
  rw [e, List.append_assoc, hT]; exact kk
theorem R_mna {N M idx : Nat} {n m : Int32} (hd : decode Y.2.2.1 pc = .ok (.multianewarray idx 2, 4)) (hw : Cond.classLink Y.1 idx "[[I" ∈ jB) (hw2 : Cond.arrayClass .int ∈ jB) (hn : n = nI N) (hm : m = nI M) (hN : N ≤ 1000) (hM : M ≤ 1000) (hv : σ.length = v) (hk : T.length = k) (hT : (T ++ [.inr (.inl (2, (List.range N).map (fun i => some (v + k + 1 + i))))]) ++ List.replicate N (.inl (0, M)) = T') (hz : v + k + 1 + N ≤ 100000)
    (kk : J g d Y (b1, b2) (σ ++ T') (j_zr h (v + k + 1) (v + k + 1 + N)) (pc + 4) ls (.ref (v + k) :: st) Q) : J g d Y (b1 + (1 + N), b2 + (N + N * M)) (σ ++ T) h pc ls (.int m :: .int n :: st) Q := by
  have e := R_len hv hk
  refine J_mna hd hw hw2 hn hm hN hM (by rw [e]; exact hz) ?_
  rw [e, List.append_assoc, List.append_assoc, ← List.append_assoc T, hT]; exact kk
theorem R_putF {ci kf a idx r : Nat} {ty : FieldType} {fs : List (Option (Option Nat))} (hd : decode Y.2.2.1 pc = .ok (.putfield idx, 3)) (hF : j_F Y.1 idx ci kf ty true false) (ho : ∃ T N, vwCl[ci]? = some (Y.1, T, N)) (hi : Y.2.1.name = "<init>") (hr : ty.isReference = true) (hv : σ.length = v) (ha : a = v + i) (hs : T[i]? = some (.inr (.inr (ci, fs)))) (hf : kf < fs.length) (hT : T.set i (.inr (.inr (ci, fs.set kf (some (some r))))) = T')
    (kk : J g d Y b (σ ++ T') h (pc + 3) ls st Q) : J g d Y b (σ ++ T) h pc ls (.ref r :: .ref a :: st) Q := by
  refine J_putF hd hF ho hi hr (R_at hv ha hs) hf ?_
  rw [R_set hv ha hT]; exact kk
theorem R_aast {a j κ r ci ir : Nat} {rs : List (Option Nat)} {fs : List (Option (Option Nat))} {n : Int32} {q : vw_C} (hd : decode Y.2.2.1 pc = .ok (.aastore, 1)) (hv : σ.length = v) (ha : a = v + i) (hs : T[i]? = some (.inr (.inl (κ, rs)))) (hr : r = v + ir) (hx : T[ir]? = some (.inr (.inr (ci, fs)))) (hc : vwCl[ci]? = some q) (hκ : (j_t g)[κ]? = some (g.2.2.1 κ, .object q.1)) (hi : n = nI j) (hj : j < rs.length) (hn : rs.length < 100000) (hT : T.set i (.inr (.inl (κ, rs.set j (some r)))) = T')
    (kk : J g d Y b (σ ++ T') h (pc + 1) ls st Q) : J g d Y b (σ ++ T) h pc ls (.ref r :: .int n :: .ref a :: st) Q := by
  refine J_aast hd (R_at hv ha hs) (R_at hv hr hx) hc hκ hi hj hn ?_
  rw [R_set hv ha hT]; exact kk
theorem J_abs (P : jH → Prop) (hp : P h) (kk : ∀ h', P h' → J g d Y b σ h' pc ls st Q) : J g d Y b σ h pc ls st Q := kk h hp
/-- a valley in a list -/
def hV (S : List jD) (v : Nat) : Prop := S[v]? = some (.inr (.inr (4, [none, some (some (v + 1)), some (some (v + 4)), none, some (some (v + 5)), some (some (v + 11)), none, none, some (some (v + 12)), none, some (some (v + 13))]))) ∧ S[v + 11]? = some (.inl (0, 4)) ∧ S[v + 13]? = some (.inr (.inl (2, [some (v + 14), some (v + 15), some (v + 16), some (v + 17)]))) ∧ ∀ p, p < 4 → S[v + 14 + p]? = some (.inl (0, 4))
theorem gv0 (hv : hV S v) : S[v]? = some (.inr (.inr (4, [none, some (some (v + 1)), some (some (v + 4)), none, some (some (v + 5)), some (some (v + 11)), none, none, some (some (v + 12)), none, some (some (v + 13))]))) := hv.1
theorem gv11 (hv : hV S v) : S[v + 11]? = some (.inl (0, 4)) := hv.2.1
theorem gv13 (hv : hV S v) : S[v + 13]? = some (.inr (.inl (2, [some (v + 14), some (v + 15), some (v + 16), some (v + 17)]))) := hv.2.2.1
theorem gdR {p : Nat} (hv : hV S v) (hp : p < 4) : S[v + 14 + p]? = some (.inl (0, 4)) := hv.2.2.2 p hp
theorem hV_of (hv : σ.length = v) : hV (σ ++ vD v) v := by
  refine ⟨R_at (i := 0) hv rfl rfl, R_at (i := 11) hv rfl rfl, R_at (i := 13) hv rfl rfl, fun p hp => ?_⟩
  match p, hp with
  | 0, _ => exact R_at (i := 14) hv rfl rfl
  | 1, _ => exact R_at (i := 15) hv rfl rfl
  | 2, _ => exact R_at (i := 16) hv rfl rfl
  | 3, _ => exact R_at (i := 17) hv rfl rfl
def j_qG (S : List jD) (Q : kQ) : jQ := fun r σ h => σ = S ∧ Q r h
abbrev KG (S : List jD) (g : jG) (d : Nat) (Y : jY) (h : jH) (pc : Nat) (ls : List (Nat × Value)) (st : List Value) (Q : kQ) : Prop := J g d Y (0, 0) S h pc ls st (j_qG S Q)
def MvG (S : List jD) (g : jG) (d : Nat) (Y : jY) (h : jH) (av : List Value) (P : jH → Prop) : Prop := M g d Y (0, 0) S h av (j_qG S fun r h' => r = none ∧ P h')
theorem KG_ret {P : jH → Prop} (hd : decode Y.2.2.1 pc = .ok (.return_, 1)) (hr : Y.2.2.2.2 = none) (hq : P h) : KG S g d Y h pc ls [] (fun r h' => r = none ∧ P h') := J_ret hd hr ⟨rfl, rfl, hq⟩
theorem KG_Vv0 {nst : Bool} {ci a idx : Nat} {fs : List (Option (Option Nat))} {P : jH → Prop} {Q : kQ} (hd : decode Y.2.2.1 pc = .ok (.invokevirtual idx, 3)) (hL : j_L Y.1 idx Y'.2.1 nst) (hM : j_My Y' 0) (hI : Cond.instanceMethod Y'.2.1 ∈ jB ∧ Cond.selects Y'.1 Y'.2.1 Y'.2.1 ∈ jB) (hcl : ∃ T N, vwCl[ci]? = some (Y'.1, T, N)) (hs : S[a]? = some (.inr (.inr (ci, fs)))) (hw : (st.map fun v => v.category).sum ≤ 8) (hc : MvG S g d Y' h [.ref a] P) (kk : ∀ (h' : jH), P h' → KG S g (d + 1) Y h' (pc + 3) ls st Q) : KG S g (d + 1) Y h pc ls (.ref a :: st) Q :=
  J_callV (b' := (0, 0)) (b2 := (0, 0)) (As := []) hd hL hM hI hcl hs rfl rfl hw ⟨Nat.le_refl _, Nat.le_refl _⟩ hc (fun r σ' h' z => by
    obtain ⟨rfl, rfl, z⟩ := z
    exact kk h' z)
end RC
def low (v : Nat) (h h' : jH) : Prop := ∀ b, b < v → h' b = h b
theorem low.rf {v : Nat} {h : jH} : low v h h := fun _ _ => rfl
theorem low.tr {v : Nat} {h h' h2 : jH} (a : low v h h') (b : low v h' h2) : low v h h2 := fun c hc => (b c hc).trans (a c hc)
theorem low.mono {v w : Nat} {h h' : jH} (a : low v h h') (hw : w ≤ v) : low w h h' := fun c hc => a c (by omega)
theorem low_row {v a : Nat} {h : jH} {f : Nat → Int32} (ha : v ≤ a) : low v h (j_row h a f) := fun c hc => j_row_ne c (by omega)
theorem low_up {v a i : Nat} {h : jH} {x : Int32} (ha : v ≤ a) : low v h (j_up h a i x) := fun c hc => j_up_ne c (by omega)
theorem low_zr {v a b : Nat} {h : jH} (ha : v ≤ a) : low v h (j_zr h a b) := fun c hc => funext fun j => if_neg (by omega)
