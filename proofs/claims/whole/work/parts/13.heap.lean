/-! RULES: fields and arrays -/
def j_F (own : String) (idx ci k : Nat) (ty : FieldType) (fin nst : Bool) : Prop := ∃ (C : String) (T : u_T) (N : Nat), vwCl[ci]? = some (C, T, N) ∧ k < N ∧ (T k).1 = C ∧ (T k).2.2.2 = fin ∧ parseFieldDescriptor (T k).2.2.1 = some ty ∧ (∀ w ∈ u_ws C T N, w ∈ jB) ∧
  (∃ ty0 : Nat → FieldType, (∀ k, k < N → parseFieldDescriptor (T k).2.2.1 = some (ty0 k)) ∧ ∀ a, a < N → ∀ b, b < N → a ≠ b → (T a).2.1 ≠ (T b).2.1) ∧
  ((nst = false ∧ Cond.fieldLink own idx C (T k).2.1 (T k).2.2.1 ∈ jB) ∨ (nst = true ∧ Cond.fieldLinkNest own idx C (T k).2.1 (T k).2.2.1 "RainCover" ∈ jN))
theorem j_up_ne {h : jH} {a i : Nat} {x : Int32} : ∀ b, b ≠ a → j_up h a i x b = h b := fun b hb => by
  funext j
  simp [j_up, hb]
theorem j_up_at {h : jH} {a i : Nat} {x : Int32} : j_up h a i x a = upd (h a) i x := by
  funext j
  simp [j_up, upd]
theorem j_row_ne {h : jH} {a : Nat} {f : Nat → Int32} : ∀ b, b ≠ a → j_row h a f b = h b := fun b hb => by
  funext j
  simp [j_row, hb]
theorem j_row_at {h : jH} {a : Nat} {f : Nat → Int32} : j_row h a f a = f := by
  funext j
  simp [j_row]
theorem j_fs_at {ad : Nat → Nat} {f : Nat → Int32} {fs : List (Option (Option Nat))} {k : Nat} {x : Option (Option Nat)} (hf : fs[k]? = some x) : (fs.mapIdx (j_f ad f))[k]? = some (j_f ad f k x) := by
  rw [List.getElem?_mapIdx, hf]
  rfl
theorem j_fs_set {ad : Nat → Nat} {h : jH} {a : Nat} {fs : List (Option (Option Nat))} {k : Nat} {x : Int32} (hf : fs[k]? = some none) : (fs.mapIdx (j_f ad (h a))).set k (.int x) = fs.mapIdx (j_f ad (j_up h a k x a)) := by
  apply List.ext_getElem?
  intro j
  have hl : k < fs.length := (List.getElem?_eq_some_iff.mp hf).1
  by_cases hj : j = k
  · subst hj
    rw [List.getElem?_set_self (by simpa using hl), List.getElem?_mapIdx, hf]
    simp [j_f, j_up]
  · rw [List.getElem?_set_ne (fun z => hj z.symm), List.getElem?_mapIdx, List.getElem?_mapIdx]
    cases e : fs[j]? with
    | none => rfl
    | some y => cases y <;> simp [j_f, j_up, hj]
theorem j_fs_setR {ad : Nat → Nat} {f : Nat → Int32} {fs : List (Option (Option Nat))} {k r : Nat} (hl : k < fs.length) : (fs.mapIdx (j_f ad f)).set k (.ref (ad r)) = (fs.set k (some (some r))).mapIdx (j_f ad f) := by
  apply List.ext_getElem?
  intro j
  by_cases hj : j = k
  · subst hj
    rw [List.getElem?_set_self (by simpa using hl), List.getElem?_mapIdx, List.getElem?_set_self hl]
    rfl
  · rw [List.getElem?_set_ne (fun z => hj z.symm), List.getElem?_mapIdx, List.getElem?_mapIdx, List.getElem?_set_ne (fun z => hj z.symm)]
section JH
variable {g : jG} {d : Nat} {Y : jY} {b : Nat × Nat} {σ : List jD} {h : jH} {pc : Nat} {ls : List (Nat × Value)} {st : List Value} {Q : jQ}
theorem J_getV {ci k a idx : Nat} {ty : FieldType} {fin nst : Bool} {fs : List (Option (Option Nat))} {x : Option (Option Nat)} {v : Value} (hd : decode Y.2.2.1 pc = .ok (.getfield idx, 3)) (hF : j_F Y.1 idx ci k ty fin nst) (hs : σ[a]? = some (.inr (.inr (ci, fs)))) (hf : fs[k]? = some x) (hv : j_f g.2.2.2.1 (h a) k x = j_v g.2.2.2.1 v) (kk : J g d Y b σ h (pc + 3) ls (v :: st) Q) : J g d Y b σ h pc ls (.ref a :: st) Q := by
  intro p e R s m args below meth c Qw C H locs cells slots lsA hc hs' hP hS hl
  obtain ⟨Cn, T, N, h1, h2, h3, -, -, h5, -, h6⟩ := hF
  have he := j_w_at (g := g) (h := h) hs
  have hv2 : (fs.mapIdx (j_f g.2.2.2.1 (h a)))[k]? = some (j_v g.2.2.2.1 v) := (j_fs_at hf).trans (congrArg some hv)
  have kk' := kk p e R s m args below meth c Qw C H locs cells slots lsA hc hs' hP hS hl
  rcases h6 with ⟨-, h6⟩ | ⟨-, h6⟩
  · exact va_get (D := g.2.1) (Ts := jB) C.1 C.2.1 C.2.2.2.2.1 h5 C.2.2.2.1 C.2.2.2.2.2.1.1 hP.2.2 a he h1 k h2 (C.2.2.2.2.1 _ h6) (fun y hy => by rw [h3] at hy; exact hy) hv2 hd kk'
  · exact va_getN (D := g.2.1) (Ts := jB) C.1 C.2.1 C.2.2.2.2.1 h5 C.2.2.2.1 C.2.2.2.2.2.1.1 hP.2.2 a he h1 k h2 (va_Nw.use rfl (C.2.2.2.2.2.1.2.2.1 _ h6)) (fun y hy => by rw [h3] at hy; exact hy) hv2 hd kk'
theorem J_getI {ci k a idx : Nat} {ty : FieldType} {fin nst : Bool} {fs : List (Option (Option Nat))} {x : Int32} (hd : decode Y.2.2.1 pc = .ok (.getfield idx, 3)) (hF : j_F Y.1 idx ci k ty fin nst) (hs : σ[a]? = some (.inr (.inr (ci, fs)))) (hf : fs[k]? = some none) (hx : h a k = x) (kk : J g d Y b σ h (pc + 3) ls (.int x :: st) Q) : J g d Y b σ h pc ls (.ref a :: st) Q :=
  J_getV (v := .int x) hd hF hs hf (by rw [← hx]; rfl) kk
theorem J_getR {ci k a idx r : Nat} {ty : FieldType} {fin nst : Bool} {fs : List (Option (Option Nat))} (hd : decode Y.2.2.1 pc = .ok (.getfield idx, 3)) (hF : j_F Y.1 idx ci k ty fin nst) (hs : σ[a]? = some (.inr (.inr (ci, fs)))) (hf : fs[k]? = some (some (some r))) (kk : J g d Y b σ h (pc + 3) ls (.ref r :: st) Q) : J g d Y b σ h pc ls (.ref a :: st) Q :=
  J_getV (v := .ref r) hd hF hs hf rfl kk
theorem j_put_cell {d' : jD} {h' : jH} {a : Nat} {dd : jD} {H H1 : Heap} (ha : ∀ k, k < 100000 → g.2.2.2.1 k = g.2.2.2.2 + k) (hP : j_P g σ h H) (e : σ[a]? = some dd) (ho : ∀ b, b ≠ a → h' b = h b) (hz : H1.size = H.size) (hat : va_at g.2.1 vwCl (g.2.2.2.1 a, j_e g d' (h' a)) H1) (oq : ∀ q : Nat, q ≠ g.2.2.2.1 a → H1[q]? = H[q]?) : j_P g (σ.set a d') h' H1 := by
  refine ⟨by rw [List.length_set]; exact hP.1, by rw [List.length_set, hz]; exact hP.2.1, ?_⟩
  rw [← j_w_set e ho]
  exact hP.2.2.set (j_D (h := h) ha hP.1) (j_w_at e) hat oq
theorem j_put_S {H H1 : Heap} {s : State} {locs : List Loc} {a k : Nat} {dd : jD} (ha : ∀ k, k < 100000 → g.2.2.2.1 k = g.2.2.2.2 + k) (hP : j_P g σ h H) (e : σ[a]? = some dd) (hS : va_S (j_A g) s.heap H locs) (hz : H1.size = H.size) (oq : ∀ q : Nat, q ≠ g.2.2.2.1 a → H1[q]? = H[q]?) : va_S (j_A g) s.heap H1 (locs ++ [⟨g.2.2.2.1 a, k⟩]) :=
  hS.put hz oq ((j_D (g := g) (σ := σ) (h := h) ha hP.1).2 a _ (j_w_at e))
theorem J_putV {nst : Bool} {ci k a idx : Nat} {ty : FieldType} {fs : List (Option (Option Nat))} {x : Int32} (hd : decode Y.2.2.1 pc = .ok (.putfield idx, 3)) (hF : j_F Y.1 idx ci k ty false nst) (hs : σ[a]? = some (.inr (.inr (ci, fs)))) (hf : fs[k]? = some none) (hn : narrow ty (.int x) = .int x) (hfit : fits ty (.int x) = true) (kk : J g d Y b σ (j_up h a k x) (pc + 3) ls st Q) : J g d Y b σ h pc ls (.int x :: .ref a :: st) Q := by
  intro p e R s m args below meth c Qw C H locs cells slots lsA hc hs' hP hS hl
  obtain ⟨Cn, T, N, h1, h2, h3, h4, hty, h5, ⟨ty0, t1, t2⟩, h6⟩ := hF
  have hE := C.2.2.2.2.2.1
  have hts := C.2.2.2.2.1
  obtain ⟨r, r1, cell, q1, q2, q3, q4⟩ := hP.2.2 a _ (j_w_at (g := g) (h := h) hs)
  have hr : r = (Cn, T, N) := Option.some.inj (r1.symm.trans h1)
  subst hr
  have hap := va_apart (own := Y.1) hts h5 ty0 t1 t2 hE.1 h1
  obtain ⟨hSl, hfc, kC, hkC, hkind⟩ := hE.1.1 ci _ h1
  obtain ⟨cf, kf, fi, f, hi, hsl⟩ := hSl k h2
  have hlay := hts _ (h5 _ (u_in_lay h2))
  unfold u_lay at hlay
  rw [if_neg (by rw [h4]; decide)] at hlay
  have hst := (u_facts hfc hkC (u_lays hts h5 h2) hi).1
  have hsd := u_store hfc hkC hkind hlay hi hty hn hfit
  have hkl : k < (fs.mapIdx (j_f g.2.2.2.1 (h a))).length := by
    have := (List.getElem?_eq_some_iff.mp hf).1
    simpa using this
  have hsame : s.fieldFound? Cn (T k).2.1 (T k).2.2.1 = some (cf, kf, fi, f) := by rw [h3] at hi; exact hi
  have go : ∀ H' : Heap, H'[g.2.2.2.1 a]? = some (cell.setSlot f.slot (.int x)) → H'.size = H.size → (∀ q, q ≠ g.2.2.2.1 a → H'[q]? = H[q]?) → W p g.1 e R s m args below meth c H' (locs ++ [⟨g.2.2.2.1 a, f.slot⟩]) cells slots Qw (F0 m (pc + 3) lsA (st.map (j_v g.2.2.2.1))) := fun H' e1 e2 e3 => by
    have hP1 : j_P g (σ.set a (.inr (.inr (ci, fs)))) (j_up h a k x) H' := by
      refine j_put_cell hE.2.1 hP hs j_up_ne e2 ?_ e3
      show va_at _ _ (_, .inr (ci, fs.mapIdx (j_f g.2.2.2.1 (j_up h a k x a)))) _
      rw [← j_fs_set hf]
      rw [hsl] at e1
      exact ⟨_, h1, t_OB.to (V := updV (vp_V (fs.mapIdx (j_f g.2.2.2.1 (h a)))) k (.int x)) ⟨_, e1, q2, q3, t_set q4 hap h2 _⟩ (fun j _ => vp_updV_set hkl _ j)⟩
    rw [j_set_same hs] at hP1
    exact kk p e R s m args below meth c Qw C H' _ cells slots lsA hc hs' hP1 (j_put_S hE.2.1 hP hs hS e2 e3) hl
  rcases h6 with ⟨-, h6⟩ | ⟨-, h6⟩
  · exact W.putK C.1 C.2.1 (f := f) ⟨C.2.2.2.1, hts _ h6, ⟨_, _, _, hsame⟩, hst⟩ (by rw [q2]; exact hsd) q1 q3 (by rw [hsl]; exact k2_hasslot (q4 k h2)) rfl rfl hd go
  · exact va_WputK C.1 C.2.1 (f := f) C.2.2.2.1 (va_Nw.use rfl (hE.2.2.1 _ h6)) hsame hst (by rw [q2]; exact hsd) q1 q3 (by rw [hsl]; exact k2_hasslot (q4 k h2)) rfl rfl hd go
theorem J_putI {nst : Bool} {ci k a idx : Nat} {fs : List (Option (Option Nat))} {x : Int32} (hd : decode Y.2.2.1 pc = .ok (.putfield idx, 3)) (hF : j_F Y.1 idx ci k .int false nst) (hs : σ[a]? = some (.inr (.inr (ci, fs)))) (hf : fs[k]? = some none) (kk : J g d Y b σ (j_up h a k x) (pc + 3) ls st Q) : J g d Y b σ h pc ls (.int x :: .ref a :: st) Q := J_putV hd hF hs hf rfl rfl kk
theorem J_putZ {nst : Bool} {ci k a idx : Nat} {fs : List (Option (Option Nat))} {x : Int32} (hd : decode Y.2.2.1 pc = .ok (.putfield idx, 3)) (hF : j_F Y.1 idx ci k .boolean false nst) (hs : σ[a]? = some (.inr (.inr (ci, fs)))) (hf : fs[k]? = some none) (hx : x = 0 ∨ x = 1) (kk : J g d Y b σ (j_up h a k x) (pc + 3) ls st Q) : J g d Y b σ h pc ls (.int x :: .ref a :: st) Q := J_putV hd hF hs hf (by rcases hx with rfl | rfl <;> decide) (by rcases hx with rfl | rfl <;> decide) kk
theorem J_putF {ci k a idx r : Nat} {ty : FieldType} {fs : List (Option (Option Nat))} (hd : decode Y.2.2.1 pc = .ok (.putfield idx, 3)) (hF : j_F Y.1 idx ci k ty true false) (ho : ∃ T N, vwCl[ci]? = some (Y.1, T, N)) (hi : Y.2.1.name = "<init>") (hr : ty.isReference = true) (hs : σ[a]? = some (.inr (.inr (ci, fs)))) (hf : k < fs.length) (kk : J g d Y b (σ.set a (.inr (.inr (ci, fs.set k (some (some r)))))) h (pc + 3) ls st Q) : J g d Y b σ h pc ls (.ref r :: .ref a :: st) Q := by
  intro p e R s m args below meth c Qw C H locs cells slots lsA hc hs' hP hS hl
  obtain ⟨Cn, T, N, h1, h2, h3, h4, hty, h5, ⟨ty0, t1, t2⟩, h6⟩ := hF
  obtain ⟨T', N', ho⟩ := ho
  have hoc : Cn = Y.1 := by
    have := Option.some.inj (h1.symm.trans ho)
    exact congrArg Prod.fst this
  have hE := C.2.2.2.2.2.1
  have hts := C.2.2.2.2.1
  obtain ⟨rr, r1, cell, q1, q2, q3, q4⟩ := hP.2.2 a _ (j_w_at (g := g) (h := h) hs)
  have hrr : rr = (Cn, T, N) := Option.some.inj (r1.symm.trans h1)
  subst hrr
  have hap := va_apart (own := Y.1) hts h5 ty0 t1 t2 hE.1 h1
  obtain ⟨hSl, hfc, kC, hkC, hkind⟩ := hE.1.1 ci _ h1
  obtain ⟨cf, kf, fi, f, hi', hsl⟩ := hSl k h2
  have hlay := hts _ (h5 _ (u_in_lay h2))
  unfold u_lay at hlay
  rw [if_pos h4] at hlay
  have hst := (u_facts hfc hkC (u_lays hts h5 h2) hi').1
  have hcf : m.cls = cf := by
    obtain ⟨_, _, c', _, _, _, -, -, hf', -, -, -, hown2, -⟩ := Cond.laysFinal_spec hlay
    have e1 : c' = cf := by have := hi'.symm.trans hf'; simp at this; exact this.1.symm
    rw [h3, hoc] at hown2
    rw [← e1]; exact Option.some.inj (C.2.2.2.1.symm.trans hown2)
  have hnf : narrow ty (.ref (g.2.2.2.1 r)) = .ref (g.2.2.2.1 r) ∧ fits ty (.ref (g.2.2.2.1 r)) = true := by
    cases ty <;> first | exact ⟨rfl, rfl⟩ | cases hr
  have hsd := u_fits hfc hkC hkind (Or.inr hlay) hi' hty hnf.1 hnf.2
  have hkl : k < (fs.mapIdx (j_f g.2.2.2.1 (h a))).length := by simpa using hf
  have hsame : s.fieldFound? Cn (T k).2.1 (T k).2.2.1 = some (cf, kf, fi, f) := by rw [h3] at hi'; exact hi'
  have hl6 : Cond.fieldLink Y.1 idx Cn (T k).2.1 (T k).2.2.1 ∈ jB ∨ False := by
    rcases h6 with ⟨-, h6⟩ | ⟨z, -⟩
    · exact Or.inl h6
    · cases z
  rcases hl6 with h6 | h6
  · refine W.putFinK C.1 C.2.1 C.2.2.2.1 (hts _ h6) hsame hst hcf (C.2.2.2.2.2.2.2.2.2.1.trans hi) (by rw [q2]; exact hsd) q1 q3 (by rw [hsl]; exact k2_hasslot (q4 k h2)) rfl rfl hd fun H' e1 e2 e3 => ?_
    have hP1 : j_P g (σ.set a (.inr (.inr (ci, fs.set k (some (some r)))))) h H' := by
      refine j_put_cell hE.2.1 hP hs (fun _ _ => rfl) e2 ?_ e3
      show va_at _ _ (_, .inr (ci, (fs.set k (some (some r))).mapIdx (j_f g.2.2.2.1 (h a)))) _
      rw [← j_fs_setR hf]
      rw [hsl] at e1
      exact ⟨_, h1, t_OB.to (V := updV (vp_V (fs.mapIdx (j_f g.2.2.2.1 (h a)))) k (.ref (g.2.2.2.1 r))) ⟨_, e1, q2, q3, t_set q4 hap h2 _⟩ (fun j _ => vp_updV_set hkl _ j)⟩
    exact kk p e R s m args below meth c Qw C H' _ cells slots lsA hc hs' hP1 (j_put_S hE.2.1 hP hs hS e2 e3) hl
  · exact h6.elim
/-- arrays -/
theorem j_in {k n : Nat} (hk : k < n) (hn : n < 2147483648) : ¬ (nI k < 0 ∨ n ≤ (nI k).toNatClampNeg) := vp_in_nI hk hn
theorem J_iald {a k n : Nat} {i x : Int32} (hd : decode Y.2.2.1 pc = .ok (.iaload, 1)) (hs : σ[a]? = some (.inl (0, n))) (hi : i = nI k) (hk : k < n) (hx : h a k = x) (hn : n < 2147483648) (kk : J g d Y b σ h (pc + 1) ls (.int x :: st) Q) : J g d Y b σ h pc ls (.int i :: .ref a :: st) Q := by
  intro p e R s m args below meth c Qw C H locs cells slots lsA hc hs' hP hS hl
  subst hi
  subst hx
  have hcl : (nI k).toNatClampNeg = k := nI_clamp (by omega)
  refine va_iald (D := g.2.1) C.1 C.2.1 C.2.2.2.2.2.1.1 hP.2.2 a 0 (j_w_at (g := g) (h := h) hs) rfl (j_in hk hn) hd ?_
  rw [hcl]
  exact kk p e R s m args below meth c Qw C H locs cells slots lsA hc hs' hP hS hl
theorem J_zald {a k n : Nat} {i x : Int32} (hd : decode Y.2.2.1 pc = .ok (.baload, 1)) (hs : σ[a]? = some (.inl (1, n))) (hi : i = nI k) (hk : k < n) (hx : h a k = x) (hn : n < 2147483648) (kk : J g d Y b σ h (pc + 1) ls (.int x :: st) Q) : J g d Y b σ h pc ls (.int i :: .ref a :: st) Q := by
  intro p e R s m args below meth c Qw C H locs cells slots lsA hc hs' hP hS hl
  subst hi
  subst hx
  have hcl : (nI k).toNatClampNeg = k := nI_clamp (by omega)
  refine va_zald (D := g.2.1) C.1 C.2.1 C.2.2.2.2.2.1.1 hP.2.2 a 1 (j_w_at (g := g) (h := h) hs) rfl (j_in hk hn) hd ?_
  rw [hcl]
  exact kk p e R s m args below meth c Qw C H locs cells slots lsA hc hs' hP hS hl
theorem j_arr_up {cA : ClassId} {n k : Nat} {f : Nat → Int32} {x : Int32} : (vp_cell cA (n, .inl f)).setSlot k (.int x) = vp_cell cA (n, .inl (upd f k x)) := by
  rw [vp_cell_i, vp_cell_i, arrV_store]
  congr 1
  funext q
  by_cases hq : q = k
  · subst hq
    simp [updV, upd]
  · simp [updV, upd, hq]
theorem J_iast {a k n : Nat} {i x : Int32} (hd : decode Y.2.2.1 pc = .ok (.iastore, 1)) (hs : σ[a]? = some (.inl (0, n))) (hi : i = nI k) (hk : k < n) (hn : n < 2147483648) (kk : J g d Y b σ (j_up h a k x) (pc + 1) ls st Q) : J g d Y b σ h pc ls (.int x :: .int i :: .ref a :: st) Q := by
  intro p e R s m args below meth c Qw C H locs cells slots lsA hc hs' hP hS hl
  subst hi
  have hE := C.2.2.2.2.2.1
  have hcl : (nI k).toNatClampNeg = k := nI_clamp (by omega)
  have hcell : H[g.2.2.2.1 a]? = some (vp_cell (g.2.2.1 0) (n, .inl (h a))) := hP.2.2 a _ (j_w_at (g := g) (h := h) hs)
  refine W.iast C.1 C.2.1 hcell ((hE.1.2 0 _ rfl).1 n (fun j => .int (h a j))) (fun q => by cases q) (by show ¬ (nI k < 0 ∨ (arrV _ _ _).slots.size ≤ _); rw [arrV_size]; exact j_in hk hn) rfl rfl hd fun H1 e1 z oq => ?_
  rw [hcl, j_arr_up] at e1
  have hP1 : j_P g (σ.set a (.inl (0, n))) (j_up h a k x) H1 := by
    refine j_put_cell hE.2.1 hP hs j_up_ne z ?_ oq
    rw [j_up_at]
    exact e1
  rw [j_set_same hs] at hP1
  exact kk p e R s m args below meth c Qw C H1 _ cells slots lsA hc hs' hP1 (j_put_S hE.2.1 hP hs hS z oq) hl
theorem J_zast {a k n : Nat} {i x : Int32} (hd : decode Y.2.2.1 pc = .ok (.bastore, 1)) (hs : σ[a]? = some (.inl (1, n))) (hi : i = nI k) (hk : k < n) (hx : x = 0 ∨ x = 1) (hn : n < 2147483648) (kk : J g d Y b σ (j_up h a k x) (pc + 1) ls st Q) : J g d Y b σ h pc ls (.int x :: .int i :: .ref a :: st) Q := by
  intro p e R s m args below meth c Qw C H locs cells slots lsA hc hs' hP hS hl
  subst hi
  have hE := C.2.2.2.2.2.1
  have hcl : (nI k).toNatClampNeg = k := nI_clamp (by omega)
  have hcell : H[g.2.2.2.1 a]? = some (vp_cell (g.2.2.1 1) (n, .inl (h a))) := hP.2.2 a _ (j_w_at (g := g) (h := h) hs)
  refine W.zast C.1 C.2.1 hcell ((hE.1.2 1 _ rfl).1 n (fun j => .int (h a j))) (fun q => by cases q) (by show ¬ (nI k < 0 ∨ (arrV _ _ _).slots.size ≤ _); rw [arrV_size]; exact j_in hk hn) rfl rfl hd fun H1 e1 z oq => ?_
  have hnar : narrow .boolean (.int x) = .int x := by rcases hx with rfl | rfl <;> decide
  rw [hcl] at e1
  have e2 : H1[g.2.2.2.1 a]? = some ((vp_cell (g.2.2.1 1) (n, .inl (h a))).setSlot k (.int x)) := by
    rw [e1]
    first | rw [hnar] | (congr 2; rcases hx with rfl | rfl <;> decide)
  rw [j_arr_up] at e2
  have hP1 : j_P g (σ.set a (.inl (1, n))) (j_up h a k x) H1 := by
    refine j_put_cell hE.2.1 hP hs j_up_ne z ?_ oq
    rw [j_up_at]
    exact e2
  rw [j_set_same hs] at hP1
  exact kk p e R s m args below meth c Qw C H1 _ cells slots lsA hc hs' hP1 (j_put_S hE.2.1 hP hs hS z oq) hl
theorem J_aald {a k κ r : Nat} {rs : List (Option Nat)} {i : Int32} (hd : decode Y.2.2.1 pc = .ok (.aaload, 1)) (hs : σ[a]? = some (.inr (.inl (κ, rs)))) (hκ : ∃ ty, (j_t g)[κ]? = some (g.2.2.1 κ, ty) ∧ ty.isReference = true) (hi : i = nI k) (hr : rs[k]? = some (some r)) (hn : rs.length < 2147483648) (kk : J g d Y b σ h (pc + 1) ls (.ref r :: st) Q) : J g d Y b σ h pc ls (.int i :: .ref a :: st) Q := by
  intro p e R s m args below meth c Qw C H locs cells slots lsA hc hs' hP hS hl
  subst hi
  obtain ⟨ty, hty, href⟩ := hκ
  have hE := C.2.2.2.2.2.1
  have hk : k < rs.length := (List.getElem?_eq_some_iff.mp hr).1
  have hcl : (nI k).toNatClampNeg = k := nI_clamp (by omega)
  have hcell : H[g.2.2.2.1 a]? = some (vp_cell (g.2.2.1 κ) (rs.length, .inr (.inr (.inr (.inr (fun i => (rs.getD i none).map g.2.2.2.1)))))) := hP.2.2 a _ (j_w_at (g := g) (h := h) hs)
  have hv : va_rf ((rs.getD k none).map g.2.2.2.1) = .ref (g.2.2.2.1 r) := by
    rw [List.getD_eq_getElem?_getD, hr]
    rfl
  refine W.aald (v := .ref (g.2.2.2.1 r)) (ty := ty) C.1 C.2.1 hcell ((hE.1.2 κ _ hty).1 rs.length (fun j => va_rf ((rs.getD j none).map g.2.2.2.1))) href (fun q => by cases q) (by show ¬ (nI k < 0 ∨ (arrV _ _ _).slots.size ≤ _); rw [arrV_size]; exact j_in hk hn) (by show (arrV _ _ _).slots[_]? = _; rw [arrV_read _ _ (by rw [hcl]; exact hk), hcl, hv]) rfl rfl hd ?_
  exact kk p e R s m args below meth c Qw C H locs cells slots lsA hc hs' hP hS hl
theorem J_alen {a κ n : Nat} {v : Int32} (hd : decode Y.2.2.1 pc = .ok (.arraylength, 1)) (hs : σ[a]? = some (.inl (κ, n))) (hκ : ∃ ty, (j_t g)[κ]? = some (g.2.2.1 κ, ty)) (hv : nI n = v) (kk : J g d Y b σ h (pc + 1) ls (.int v :: st) Q) : J g d Y b σ h pc ls (.ref a :: st) Q := by
  intro p e R s m args below meth c Qw C H locs cells slots lsA hc hs' hP hS hl
  obtain ⟨ty, hty⟩ := hκ
  exact va_alen (D := g.2.1) C.1 C.2.1 C.2.2.2.2.2.1.1 hP.2.2 a κ (j_w_at (g := g) (h := h) hs) hty hv hd (kk p e R s m args below meth c Qw C H locs cells slots lsA hc hs' hP hS hl)
theorem J_alenR {a κ : Nat} {rs : List (Option Nat)} {v : Int32} (hd : decode Y.2.2.1 pc = .ok (.arraylength, 1)) (hs : σ[a]? = some (.inr (.inl (κ, rs)))) (hκ : ∃ ty, (j_t g)[κ]? = some (g.2.2.1 κ, ty)) (hv : nI rs.length = v) (kk : J g d Y b σ h (pc + 1) ls (.int v :: st) Q) : J g d Y b σ h pc ls (.ref a :: st) Q := by
  intro p e R s m args below meth c Qw C H locs cells slots lsA hc hs' hP hS hl
  obtain ⟨ty, hty⟩ := hκ
  exact va_alen (D := g.2.1) C.1 C.2.1 C.2.2.2.2.2.1.1 hP.2.2 a κ (j_w_at (g := g) (h := h) hs) hty hv hd (kk p e R s m args below meth c Qw C H locs cells slots lsA hc hs' hP hS hl)
end JH
