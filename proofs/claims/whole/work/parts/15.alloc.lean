/-! RULES: what is made -/
section JA
variable {g : jG} {d : Nat} {Y : jY} {b1 b2 : Nat} {σ : List jD} {h : jH} {pc : Nat} {ls : List (Nat × Value)} {st : List Value} {Q : jQ}
theorem j_grow {H H1 : Heap} {dd : jD} {h' : jH} (ha : ∀ k, k < 100000 → g.2.2.2.1 k = g.2.2.2.2 + k) (hσ : σ.length < 100000) (hP : j_P g σ h H) (ho : ∀ b, b < σ.length → h' b = h b) (hz : H1.size = H.size + 1) (hq : ∀ q, q < H.size → H1[q]? = H[q]?) (hat : va_at g.2.1 vwCl (H.size, j_e g dd (h' σ.length)) H1) : j_P g (σ ++ [dd]) h' H1 := by
  have hads : g.2.2.2.1 σ.length = H.size := (ha _ hσ).trans hP.2.1.symm
  refine ⟨by rw [List.length_append]; exact hσ, by rw [hz, List.length_append, hP.2.1]; rfl, ?_⟩
  rw [← j_w_app ho, hads]
  refine (hP.2.2.kept (fun k q hk => hq q.1 ((hP.2.2 k q hk).lt))).app (fun k q hk => ?_)
  have h0 : k < 1 := (List.getElem?_eq_some_iff.mp hk).1
  rw [show k = 0 by omega] at hk
  cases hk
  exact hat
theorem j_grow_S {H H1 : Heap} {s : State} {locs : List Loc} (hS : va_S (j_A g) s.heap H locs) (hz : H1.size = H.size + 1) (hq : ∀ q, q < H.size → H1[q]? = H[q]?) : va_S (j_A g) s.heap H1 locs :=
  ⟨Nat.le_trans hS.1 (by omega), fun q h1 h2 => (hq q (Nat.lt_of_lt_of_le h1 hS.1)).trans (hS.2.1 q h1 h2), hS.2.2⟩
theorem J_newa {N κ : Nat} {n : Int32} {at0 : ArrayType} {ty : FieldType} (hd : decode Y.2.2.1 pc = .ok (.newarray at0, 2)) (ht : newarray.typeOf at0 = ty) (hκ : (κ = 0 ∧ ty = .int) ∨ (κ = 1 ∧ ty = .boolean)) (hw : Cond.arrayClass ty ∈ jB) (hn : n = nI N) (hN : N ≤ 100000) (hσ : σ.length < 100000)
    (kk : J g d Y (b1, b2) (σ ++ [.inl (κ, N)]) (j_row h σ.length (fun _ => 0)) (pc + 2) ls (.ref σ.length :: st) Q) : J g d Y (b1 + 1, b2 + N) σ h pc ls (.int n :: st) Q := by
  intro p e R s m args below meth c Qw C H locs cells slots lsA hc hs hP hS hl
  obtain ⟨hx, hbb, hml, hown, hts, hE, -⟩ := id C
  subst hn
  subst ht
  have hc' : cells + (b1 + 1) ≤ R.cells := hc
  have hs' : slots + (b2 + N) ≤ R.slots := hs
  have hads : g.2.2.2.1 σ.length = H.size := (hE.2.1 _ hσ).trans hP.2.1.symm
  have hby : N * componentBytes (newarray.typeOf at0) ≤ 536870912 := by
    have : componentBytes (newarray.typeOf at0) ≤ 8 := by cases newarray.typeOf at0 <;> simp [componentBytes]
    exact Nat.le_trans (Nat.mul_le_mul_left N this) (by omega)
  refine va_newaK (R := R) (cells := cells) (slots := slots) hx hbb (hts _ hw) (g := F0 m pc lsA ((.int (nI N) :: st).map (j_v g.2.2.2.1))) rfl hd rfl (nI_pos (by omega)) (nI_clamp (by omega)) hby (by omega) (by omega) rfl fun H1 cA e1 z1 o1 hAr hNm => ?_
  have hcA : cA = g.2.2.1 κ := by
    rcases hκ with ⟨rfl, e⟩ | ⟨rfl, e⟩
    · have h2 : s.vm.findClass ("[" ++ (FieldType.int).toString) = some (g.2.2.1 0) := (hE.1.2 0 _ rfl).2
      rw [e] at hNm
      exact Option.some.inj (hNm.symm.trans h2)
    · have h2 : s.vm.findClass ("[" ++ (FieldType.boolean).toString) = some (g.2.2.1 1) := (hE.1.2 1 _ rfl).2
      rw [e] at hNm
      exact Option.some.inj (hNm.symm.trans h2)
  have hdv : defaultValue (newarray.typeOf at0) = .int 0 := by rcases hκ with ⟨-, e⟩ | ⟨-, e⟩ <;> rw [e] <;> rfl
  have hP1 : j_P g (σ ++ [.inl (κ, N)]) (j_row h σ.length (fun _ => 0)) H1 := by
    refine j_grow hE.2.1 hσ hP (fun b hb => j_row_ne b (by omega)) z1 o1 ?_
    rw [j_row_at]
    show H1[H.size]? = some (vp_cell (g.2.2.1 κ) (N, .inl (fun _ => 0)))
    rw [e1, hcA, hdv]
    rfl
  rw [← hads]
  exact kk p e R s m args below meth c Qw C H1 locs (cells + 1) (slots + N) lsA (by show cells + 1 + b1 ≤ _; omega) (by show slots + N + b2 ≤ _; omega) hP1 (j_grow_S hS z1 o1) hl
theorem J_anew {N κ idx : Nat} {n : Int32} {Cn : String} (hd : decode Y.2.2.1 pc = .ok (.anewarray idx, 3)) (hκ : (κ = 3 ∧ Cn = "RainCover$Valley") ∨ (κ = 4 ∧ Cn = "RainCover$Sheet")) (hw : Cond.classLink Y.1 idx Cn ∈ jB) (hn : n = nI N) (hN : N ≤ 100000) (hσ : σ.length < 100000)
    (kk : J g d Y (b1, b2) (σ ++ [.inr (.inl (κ, List.replicate N none))]) h (pc + 3) ls (.ref σ.length :: st) Q) : J g d Y (b1 + 1, b2 + N) σ h pc ls (.int n :: st) Q := by
  intro p e R s m args below meth c Qw C H locs cells slots lsA hc hs hP hS hl
  obtain ⟨hx, hbb, hml, hown, hts, hE, -⟩ := id C
  subst hn
  have hc' : cells + (b1 + 1) ≤ R.cells := hc
  have hs' : slots + (b2 + N) ≤ R.slots := hs
  have hads : g.2.2.2.1 σ.length = H.size := (hE.2.1 _ hσ).trans hP.2.1.symm
  have hcl : (nI N).toNatClampNeg = N := nI_clamp (by omega)
  have hov : (Cond.arrayOver (.object Cn)).before args s = true := by
    rcases hκ with ⟨-, rfl⟩ | ⟨-, rfl⟩
    · exact va_AO.use hE.2.2.2.2.2.2.2.2.2.2.2.1
    · exact va_AO.use hE.2.2.2.2.2.2.2.2.2.2.2.2.1
  refine W.anew (R := R) (cells := cells) (slots := slots) hx hbb hown (hts _ hw) hov (g := F0 m pc lsA ((.int (nI N) :: st).map (j_v g.2.2.2.1))) rfl hd rfl (nI_pos (by omega)) (by rw [hcl]; omega) (by omega) (by rw [hcl]; omega) fun cA kA comp f1 f2 f3 f4 => ?_
  rw [hcl]
  have hcA : cA = g.2.2.1 κ := by
    rcases hκ with ⟨rfl, rfl⟩ | ⟨rfl, rfl⟩
    · obtain ⟨kA', comp', -, -, -, h2⟩ := (hE.1.2 3 _ rfl).2
      exact Option.some.inj (f1.symm.trans h2)
    · obtain ⟨kA', comp', -, -, -, h2⟩ := (hE.1.2 4 _ rfl).2
      exact Option.some.inj (f1.symm.trans h2)
  generalize hH1 : H.push ({ cls := cA, slots := Array.replicate N .null, vm := .none } : Cell) = H1
  have z1 : H1.size = H.size + 1 := by rw [← hH1, Array.size_push]
  have e1 : H1[H.size]? = some (arrV cA N (fun _ => .null)) := by rw [← hH1, Array.getElem?_push_size, ← arrV_new]
  have o1 : ∀ q : Nat, q < H.size → H1[q]? = H[q]? := fun q hq => by rw [← hH1, Array.getElem?_push, if_neg (Nat.ne_of_lt hq)]
  have hP1 : j_P g (σ ++ [.inr (.inl (κ, List.replicate N none))]) h H1 := by
    refine j_grow hE.2.1 hσ hP (fun b hb => rfl) z1 o1 ?_
    show H1[H.size]? = some (vp_cell (g.2.2.1 κ) ((List.replicate N none).length, .inr (.inr (.inr (.inr (fun i => ((List.replicate N (none : Option Nat)).getD i none).map g.2.2.2.1))))))
    rw [e1, hcA, vp_cell_q, List.length_replicate]
    congr 2
    funext j
    have : (List.replicate N (none : Option Nat)).getD j none = none := by
      rw [List.getD_eq_getElem?_getD]
      by_cases hj : j < N <;> simp [hj]
    rw [this]
    rfl
  rw [← hads]
  exact kk p e R s m args below meth c Qw C H1 locs (cells + 1) (slots + N) lsA (by show cells + 1 + b1 ≤ _; omega) (by show slots + N + b2 ≤ _; omega) hP1 (j_grow_S hS z1 o1) hl
theorem J_new {ci N idx : Nat} {Cn : String} {T : u_T} {ty0 : Nat → FieldType} {fs : List (Option (Option Nat))} (hd : decode Y.2.2.1 pc = .ok (.new idx, 3)) (hcl : vwCl[ci]? = some (Cn, T, N)) (hin : ∀ w ∈ u_ws Cn T N, w ∈ jB) (hty : ∀ k, k < N → parseFieldDescriptor (T k).2.2.1 = some (ty0 k)) (h1 : Cond.classLink Y.1 idx Cn ∈ jB) (h2 : Cond.instantiable Cn N ∈ jB) (h3 : Cond.initialized Cn ∈ jB)
    (hfs : ∀ j, j < N → (fs[j]? = some none ∧ defaultValue (ty0 j) = .int 0) ∨ (fs[j]? = some (some none) ∧ defaultValue (ty0 j) = .null)) (hσ : σ.length < 100000)
    (kk : J g d Y (b1, b2) (σ ++ [.inr (.inr (ci, fs))]) (j_row h σ.length (fun _ => 0)) (pc + 3) ls (.ref σ.length :: st) Q) : J g d Y (b1 + 1, b2 + N) σ h pc ls st Q := by
  intro p e R s m args below meth c Qw C H locs cells slots lsA hc hs hP hS hl
  obtain ⟨hx, hbb, hml, hown, hts, hE, -⟩ := id C
  have hc' : cells + (b1 + 1) ≤ R.cells := hc
  have hs' : slots + (b2 + N) ≤ R.slots := hs
  have hads : g.2.2.2.1 σ.length = H.size := (hE.2.1 _ hσ).trans hP.2.1.symm
  have hKn := hE.1.1 ci _ hcl
  refine W.newcK hx hbb hown (hts _ h1) (hts _ h2) (hts _ h3) (g := F0 m pc lsA (st.map (j_v g.2.2.2.1))) rfl hd (by omega) (by omega) hKn.2.1 rfl fun H1 kC hkC e1 z1 o1 => ?_
  have hP1 : j_P g (σ ++ [.inr (.inr (ci, fs))]) (j_row h σ.length (fun _ => 0)) H1 := by
    refine j_grow hE.2.1 hσ hP (fun b hb => j_row_ne b (by omega)) z1 o1 ?_
    rw [j_row_at]
    refine ⟨_, hcl, (u_born ty0 hts hin hKn hkC e1 hty).to (fun j hj => ?_)⟩
    show defaultValue (ty0 j) = (fs.mapIdx (j_f g.2.2.2.1 (fun _ => 0))).getD j .null
    rw [List.getD_eq_getElem?_getD, List.getElem?_mapIdx]
    rcases hfs j hj with ⟨q1, q2⟩ | ⟨q1, q2⟩ <;> rw [q1, q2] <;> rfl
  have hg : W p g.1 e R s m args below meth c H1 locs (cells + 1) (slots + N) Qw (F0 m (pc + 3) lsA ((.ref σ.length :: st).map (j_v g.2.2.2.1))) := kk p e R s m args below meth c Qw C H1 locs (cells + 1) (slots + N) lsA (by show cells + 1 + b1 ≤ _; omega) (by show slots + N + b2 ≤ _; omega) hP1 (j_grow_S hS z1 o1) hl
  rw [List.map_cons, show j_v g.2.2.2.1 (.ref σ.length) = .ref H.size from congrArg Value.ref hads] at hg
  exact hg
theorem J_aast {b : Nat × Nat} {a k κ r ci : Nat} {rs : List (Option Nat)} {fs : List (Option (Option Nat))} {i : Int32} {q : vw_C} (hd : decode Y.2.2.1 pc = .ok (.aastore, 1)) (hs : σ[a]? = some (.inr (.inl (κ, rs)))) (hv : σ[r]? = some (.inr (.inr (ci, fs)))) (hc : vwCl[ci]? = some q) (hκ : (j_t g)[κ]? = some (g.2.2.1 κ, .object q.1)) (hi : i = nI k) (hk : k < rs.length) (hn : rs.length < 100000)
    (kk : J g d Y b (σ.set a (.inr (.inl (κ, rs.set k (some r))))) h (pc + 1) ls st Q) : J g d Y b σ h pc ls (.ref r :: .int i :: .ref a :: st) Q := by
  intro p e R s m args below meth c Qw C H locs cells slots lsA hcc hss hP hS hl
  obtain ⟨hx, hbb, hml, hown, hts, hE, -⟩ := id C
  subst hi
  have hcl : (nI k).toNatClampNeg = k := nI_clamp (by omega)
  have hcell : H[g.2.2.2.1 a]? = some (vp_cell (g.2.2.1 κ) (rs.length, .inr (.inr (.inr (.inr (fun i => (rs.getD i none).map g.2.2.2.1)))))) := hP.2.2 a _ (j_w_at (g := g) (h := h) hs)
  obtain ⟨r', hr', cellV, g1, g2, g3, -⟩ := hP.2.2 r _ (j_w_at (g := g) (h := h) hv)
  have hcls := (hE.1.1 ci q hc).2
  obtain ⟨kA, comp, k1, k2, k3, -⟩ := (hE.1.2 κ _ hκ).2
  have hcomp : comp = g.2.1.1 ci := Option.some.inj (k3.symm.trans hcls.1)
  subst hcomp
  obtain ⟨kC, hkC, hkd⟩ := hcls.2
  refine W.aast hx hbb hcell (fun q h => by cases h) (fun h => by cases h) k1 k2 rfl hkC ⟨nI_pos (by omega), by show _ < (arrV _ _ _).slots.size; rw [arrV_size, hcl]; exact hk⟩ g1 (fun q h => by rw [g3] at h; cases h) (by rw [g2]; exact hkC) (by rw [g2]; exact va_assign hcls) (g := F0 m pc lsA ((.ref r :: .int (nI k) :: .ref a :: st).map (j_v g.2.2.2.1))) rfl rfl hd fun H1 e1 z oq => ?_
  rw [hcl] at e1
  have hP1 : j_P g (σ.set a (.inr (.inl (κ, rs.set k (some r))))) h H1 := by
    refine j_put_cell hE.2.1 hP hs (fun _ _ => rfl) z ?_ oq
    show H1[g.2.2.2.1 a]? = some (vp_cell (g.2.2.1 κ) ((rs.set k (some r)).length, .inr (.inr (.inr (.inr (fun i => ((rs.set k (some r)).getD i none).map g.2.2.2.1))))))
    rw [e1, vp_cell_q, vp_cell_q, arrV_store, List.length_set]
    congr 2
    funext j
    by_cases hj : j = k
    · subst hj
      rw [List.getD_eq_getElem?_getD, List.getElem?_set_self hk]
      simp [updV, va_rf]
    · rw [List.getD_eq_getElem?_getD, List.getElem?_set_ne (fun z => hj z.symm), ← List.getD_eq_getElem?_getD]
      simp [updV, hj]
  exact kk p e R s m args below meth c Qw C H1 _ cells slots lsA hcc hss hP1 (j_put_S hE.2.1 hP hs hS z oq) hl
def j_zr (h : jH) (a b : Nat) : jH := fun q k => if a ≤ q ∧ q < b then 0 else h q k
theorem J_mna {N M idx : Nat} {n k : Int32} (hd : decode Y.2.2.1 pc = .ok (.multianewarray idx 2, 4)) (hw : Cond.classLink Y.1 idx "[[I" ∈ jB) (hw2 : Cond.arrayClass .int ∈ jB) (hn : n = nI N) (hk : k = nI M) (hN : N ≤ 1000) (hM : M ≤ 1000) (hσ : σ.length + 1 + N ≤ 100000)
    (kk : J g d Y (b1, b2) ((σ ++ [.inr (.inl (2, (List.range N).map (fun i => some (σ.length + 1 + i))))]) ++ List.replicate N (.inl (0, M))) (j_zr h (σ.length + 1) (σ.length + 1 + N)) (pc + 4) ls (.ref σ.length :: st) Q) : J g d Y (b1 + (1 + N), b2 + (N + N * M)) σ h pc ls (.int k :: .int n :: st) Q := by
  intro p e R s m args below meth c Qw C H locs cells slots lsA hc hs hP hS hl
  obtain ⟨hx, hbb, hml, hown, hts, hE, -⟩ := id C
  subst hn
  subst hk
  have hc' : cells + (b1 + (1 + N)) ≤ R.cells := hc
  have hs' : slots + (b2 + (N + N * M)) ≤ R.slots := hs
  have ha := hE.2.1
  have c1 : (nI N).toNatClampNeg = N := nI_clamp (by omega)
  have c2 : (nI M).toNatClampNeg = M := nI_clamp (by omega)
  intro T hT X
  obtain ⟨vm₁, cA, comp, -, fA, fC, hO, hI, X', step⟩ := X.multianewarray2F hx hown (own := Y.1) (index := idx) (ty := .int) (hts _ hw) hE.2.2.2.2.2.2.2.2.2.2.2.2.2.1 (hts _ hw2) (g := F0 m pc lsA ((.int (nI M) :: .int (nI N) :: st).map (j_v g.2.2.2.1))) rfl (by rw [hbb]; exact hd) (n := nI N) (k := nI M) (rest := st.map (j_v g.2.2.2.1)) rfl (nI_pos (by omega)) (nI_pos (by omega)) (by rw [c1]; omega) (by rw [c2]; show M * 4 ≤ _; omega) (by rw [c2]; omega) rfl rfl (by rw [c1]; omega) (by rw [c1, c2]; omega)
  rw [c1, c2] at X' step
  have hcA : cA = g.2.2.1 2 := by
    have h2 : s.vm.findClass ("[" ++ (FieldType.array .int).toString) = some (g.2.2.1 2) := (hE.1.2 2 _ rfl).2
    exact Option.some.inj (fA.symm.trans h2)
  have hco : comp = g.2.2.1 0 := by
    have h2 : s.vm.findClass ("[" ++ (FieldType.int).toString) = some (g.2.2.1 0) := (hE.1.2 0 _ rfl).2
    exact Option.some.inj (fC.symm.trans h2)
  subst hcA
  subst hco
  generalize hF : Jvm.Free.Multi.fill (T.setVm vm₁) (g.2.2.1 2) (g.2.2.1 0) N M (defaultValue .int) N = F at X' step
  have hTh : (T.setVm vm₁).heap = H := hT
  obtain ⟨f1, f2, -, -⟩ := Jvm.Free.Multi.fill_facts (T.setVm vm₁) (g.2.2.1 2) (g.2.2.1 0) N M (defaultValue .int) N
  rw [hF, hTh] at f1 f2
  have hold : ∀ x : Nat, x < H.size → F.heap[x]? = H[x]? := fun x hx => by
    have := Jvm.Free.Multi.fill_old (T.setVm vm₁) (g.2.2.1 2) (g.2.2.1 0) N M (defaultValue .int) (a := x) (by rw [hTh]; exact hx) N
    rw [hF, hTh] at this
    exact this
  have hrow : ∀ j : Nat, j < N → F.heap[H.size + 1 + j]? = some (vp_cell (g.2.2.1 0) (M, .inl (fun _ => 0))) := fun j hj => by
    have := Jvm.Free.Multi.fill_inner (T.setVm vm₁) (g.2.2.1 2) (g.2.2.1 0) N M (defaultValue .int) N j hj
    rw [hF, hTh] at this
    rw [this, vp_cell_i]
    show some ({ cls := g.2.2.1 0, slots := Array.replicate M (.int 0), vm := .none } : Cell) = _
    rw [arrV_new]
  have hout : ∀ i : Nat, Jvm.Free.Multi.outerC (g.2.2.1 2) N H.size i = arrV (g.2.2.1 2) N (fun j => va_rf (if j < i then some (H.size + 1 + j) else none)) := by
    intro i
    induction i with
    | zero =>
      show ({ cls := g.2.2.1 2, slots := Array.replicate N .null, vm := .none } : Cell) = _
      rw [arrV_new]
      refine congrArg (arrV (g.2.2.1 2) N) (funext fun j => ?_)
      simp [va_rf]
    | succ i ih =>
      show (Jvm.Free.Multi.outerC (g.2.2.1 2) N H.size i).setSlot i (.ref (H.size + 1 + i)) = _
      rw [ih, arrV_store]
      refine congrArg (arrV (g.2.2.1 2) N) (funext fun j => ?_)
      by_cases e : j = i
      · subst e
        simp [updV, va_rf]
      · by_cases h9 : j < i
        · simp [updV, e, h9, Nat.lt_succ_of_lt h9]
        · simp [updV, e, h9, show ¬ j < i + 1 by omega]
  have hads : ∀ j, j ≤ N → g.2.2.2.1 (σ.length + j) = H.size + j := fun j hj => by
    rw [ha _ (by omega), hP.2.1]
    omega
  have hP1 : j_P g ((σ ++ [.inr (.inl (2, (List.range N).map (fun i => some (σ.length + 1 + i))))]) ++ List.replicate N (.inl (0, M))) (j_zr h (σ.length + 1) (σ.length + 1 + N)) F.heap := by
    refine ⟨by simp; omega, by rw [f1, hP.2.1]; simp; omega, fun q y hy => ?_⟩
    have hq : q < (((σ ++ [.inr (.inl (2, (List.range N).map (fun i => some (σ.length + 1 + i))))]) ++ List.replicate N (.inl (0, M))) : List jD).length := by
      have := (List.getElem?_eq_some_iff.mp hy).1
      rw [j_w_len] at this
      exact this
    have hq' : q < σ.length + 1 + N := by simp at hq; omega
    by_cases h1 : q < σ.length
    · have e0 : (((σ ++ [.inr (.inl (2, (List.range N).map (fun i => some (σ.length + 1 + i))))]) ++ List.replicate N (.inl (0, M))) : List jD)[q]? = some σ[q] := by
        rw [List.getElem?_append_left (by simp; omega), List.getElem?_append_left h1]
        exact List.getElem?_eq_getElem h1
      rw [j_w_at e0] at hy
      cases hy
      have ez : j_zr h (σ.length + 1) (σ.length + 1 + N) q = h q := by
        funext z
        simp [j_zr, show ¬ σ.length + 1 ≤ q by omega]
      rw [ez]
      have hat := hP.2.2 q _ (j_w_at (g := g) (h := h) (List.getElem?_eq_getElem h1))
      exact hat.kept (hold _ hat.lt)
    · by_cases h2 : q = σ.length
      · subst h2
        have e0 : (((σ ++ [.inr (.inl (2, (List.range N).map (fun i => some (σ.length + 1 + i))))]) ++ List.replicate N (.inl (0, M))) : List jD)[σ.length]? = some (.inr (.inl (2, (List.range N).map (fun i => some (σ.length + 1 + i))))) := by
          rw [List.getElem?_append_left (by simp), List.getElem?_append_right (Nat.le_refl _), Nat.sub_self]
          rfl
        rw [j_w_at e0] at hy
        cases hy
        show F.heap[g.2.2.2.1 σ.length]? = some (vp_cell (g.2.2.1 2) (((List.range N).map (fun i => some (σ.length + 1 + i))).length, .inr (.inr (.inr (.inr (fun i => (((List.range N).map (fun i => some (σ.length + 1 + i))).getD i none).map g.2.2.2.1))))))
        have e9 := hads 0 (by omega)
        rw [Nat.add_zero, Nat.add_zero] at e9
        rw [e9, f2, hout N, vp_cell_q, List.length_map, List.length_range]
        refine congrArg (fun z => some (arrV (g.2.2.1 2) N z)) (funext fun j => ?_)
        rw [List.getD_eq_getElem?_getD, List.getElem?_map]
        by_cases hj : j < N
        · rw [List.getElem?_range hj, if_pos hj]
          show va_rf _ = va_rf (some (g.2.2.2.1 (σ.length + 1 + j)))
          rw [show σ.length + 1 + j = σ.length + (1 + j) by omega, hads (1 + j) (by omega), show H.size + (1 + j) = H.size + 1 + j by omega]
        · rw [List.getElem?_eq_none (by simp; omega), if_neg hj]
          rfl
      · have e0 : (((σ ++ [.inr (.inl (2, (List.range N).map (fun i => some (σ.length + 1 + i))))]) ++ List.replicate N (.inl (0, M))) : List jD)[q]? = some (.inl (0, M)) := by
          rw [List.getElem?_append_right (by simp; omega), List.getElem?_replicate_of_lt (by simp; omega)]
        rw [j_w_at e0] at hy
        cases hy
        have ez : j_zr h (σ.length + 1) (σ.length + 1 + N) q = fun _ => 0 := by
          funext z
          simp [j_zr, show σ.length + 1 ≤ q ∧ q < σ.length + 1 + N by omega]
        rw [ez]
        show F.heap[g.2.2.2.1 q]? = some (vp_cell (g.2.2.1 0) (M, .inl (fun _ => 0)))
        have e9 := hads (q - σ.length) (by omega)
        rw [show σ.length + (q - σ.length) = q by omega] at e9
        rw [e9, show H.size + (q - σ.length) = H.size + 1 + (q - σ.length - 1) by omega]
        exact hrow _ (by omega)
  have e9 := hads 0 (by omega)
  rw [Nat.add_zero, Nat.add_zero] at e9
  have hS1 : va_S (j_A g) s.heap F.heap locs := ⟨Nat.le_trans hS.1 (by rw [f1]; omega), fun q h1 h2 => (hold q (Nat.lt_of_lt_of_le h1 hS.1)).trans (hS.2.1 q h1 h2), hS.2.2⟩
  obtain ⟨t, a1, b9⟩ := kk p e R s m args below meth c Qw C F.heap locs (cells + 1 + N) (slots + N + N * M) lsA (by show cells + 1 + N + b1 ≤ _; omega) (by show slots + N + N * M + b2 ≤ _; omega) hP1 hS1 hl F rfl X'
  refine ⟨t, step t ?_, b9⟩
  have hst : ((.ref σ.length :: st).map (j_v g.2.2.2.1) : List Value) = .ref T.heap.size :: st.map (j_v g.2.2.2.1) := by
    show Value.ref (g.2.2.2.1 σ.length) :: _ = _
    rw [e9, hT]
  rw [hst] at a1
  exact a1
end JA
