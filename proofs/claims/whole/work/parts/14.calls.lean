/-! RULES: calls -/
def j_My (Y : jY) (n : Nat) : Prop := Y.2.1.cls = Y.1 ∧ Cond.code Y.2.1 Y.2.2.1 Y.2.2.2.1 Y.2.2.2.2 ∈ jB ∧ Cond.initialized Y.1 ∈ jB ∧ Y.1 ≠ "java/lang/invoke/MethodHandle" ∧ Y.1 ≠ "java/lang/invoke/VarHandle" ∧ (parseMethodDescriptor Y.2.1.desc).map (fun d => d.parameters.length) = some n ∧ Y.2.2.2.1 ≤ 18
def j_L (own : String) (idx : Nat) (y : MethodName) (nst : Bool) : Prop := (nst = false ∧ Cond.methodLink own idx y ∈ jB) ∨ (nst = true ∧ Cond.methodLinkNest own idx y "RainCover" ∈ jN)
theorem j_good {w : Cond} (h : w ∈ jB) : GoodIn jB (w :: jB) := fun x hx => by
  rcases List.mem_cons.mp hx with rfl | hx
  · exact ⟨h, jB_good h⟩
  · exact ⟨hx, jB_good hx⟩
section JC
variable {p : Program} {e : Env} {R : Room} {s : State} {m : MethodId} {args : Array Value} {below : List Frame} {meth : Method} {c : Code} {Qw : State → Prop}
variable {g : jG} {d : Nat} {Y Y' : jY} {b b' b2 : Nat × Nat} {σ : List jD} {h : jH} {pc : Nat} {ls : List (Nat × Value)} {st st0 : List Value} {P Q : jQ}
theorem j_run {H : Heap} {locs : List Loc} {cells slots : Nat} {lsA : Array Slot} {rest sv : List Value} {av : Array Value} (hr : va_Run p g.1 e R s m args below meth c H locs cells slots b'.1 b'.2 (F0 m pc lsA sv) rest (j_Qc g P av) (j_A g)) (hS : va_S (j_A g) s.heap H locs)
    (kk : ∀ (r : Option Value) (σ' : List jD) (h' : jH) (H1 : Heap) (locs1 : List Loc), P r σ' h' → j_P g σ' h' H1 → va_S (j_A g) s.heap H1 locs1 → W p g.1 e R s m args below meth c H1 locs1 (cells + b'.1) (slots + b'.2) Qw (F0 m (pc + 3) lsA ((r.map (j_v g.2.2.2.1)).toList ++ rest))) : W p g.1 e R s m args below meth c H locs cells slots Qw (F0 m pc lsA sv) := by
  intro T hT X
  obtain ⟨v, st₀, t, T', L, h0, X', hL, e1, e2, ⟨⟨r, σ', h', hv, hp, hPt⟩, hz, hk⟩, stp⟩ := hr T hT X
  cases hv
  rw [h0] at hz hk
  have hS' : va_S (j_A g) s.heap T'.heap (locs ++ L) := ⟨Nat.le_trans hS.1 (by rw [e1]; exact hz), fun q h1 h2 => by rw [e1, hk q (Nat.lt_of_lt_of_le h1 hS.1) h2]; exact hS.2.1 q h1 h2, fun q hq => by
      rcases List.mem_append.mp hq with h | h
      · exact hS.2.2 q h
      · exact hL q h⟩
  obtain ⟨t2, a1, b1⟩ := kk r σ' h' T'.heap (locs ++ L) hp (by rw [e1]; exact hPt) hS' T' rfl X'
  exact ⟨t2, stp t2 a1, b1⟩
theorem j_tl {ad : Nat → Nat} {r : Option Value} {rest : List Value} : (r.map (j_v ad)).toList ++ rest.map (j_v ad) = (r.toList ++ rest).map (j_v ad) := by
  cases r <;> simp
theorem j_cat {ad : Nat → Nat} {st : List Value} (h : (st.map fun v => v.category).sum ≤ 8) : ((st.map (j_v ad)).map fun v => v.category).sum ≤ 8 := by
  rw [List.map_map]
  have e : ((fun v : Value => v.category) ∘ j_v ad) = fun v => v.category := by
    funext v
    exact j_v_cat v
  rw [e]
  exact h
theorem J_callV {nst : Bool} {n ci a idx : Nat} {fs : List (Option (Option Nat))} {As : List Value} (hd : decode Y.2.2.1 pc = .ok (.invokevirtual idx, 3)) (hL : j_L Y.1 idx Y'.2.1 nst) (hM : j_My Y' n) (hI : Cond.instanceMethod Y'.2.1 ∈ jB ∧ Cond.selects Y'.1 Y'.2.1 Y'.2.1 ∈ jB) (hcl : ∃ T N, vwCl[ci]? = some (Y'.1, T, N)) (hs : σ[a]? = some (.inr (.inr (ci, fs)))) (hn : As.length = n) (hst : st0 = As.reverse ++ .ref a :: st) (hw : (st.map fun v => v.category).sum ≤ 8) (hb : b'.1 + b2.1 ≤ b.1 ∧ b'.2 + b2.2 ≤ b.2)
    (hc : M g d Y' b' σ h (.ref a :: As) P) (kk : ∀ (r : Option Value) (σ' : List jD) (h' : jH), P r σ' h' → J g (d + 1) Y b2 σ' h' (pc + 3) ls (r.toList ++ st) Q) : J g (d + 1) Y b σ h pc ls st0 Q := by
  intro p e R s m args below meth c Qw C H locs cells slots lsA hcl' hsl hP hS hl
  obtain ⟨hx, hbb, hml, hown, hts, hE, hba, hfr, hlo, hnm, hret⟩ := id C
  obtain ⟨m1, m2, m3, m4, m5, m6, m7⟩ := hM
  obtain ⟨T, N, hcl⟩ := hcl
  have hpre : PreV s H Y'.1 (g.2.2.2.1 a) (j_Pc g σ h (.ref a :: As)) (As.map (j_v g.2.2.2.1)) := ⟨j_blind _ _ _ _, va_recv hE.1 hP.2.2 hcl (j_w_at (g := g) (h := h) hs), fun U hU hW => ⟨rfl, by rw [hU]; exact Nat.le_trans hba hS.1, by rw [hU]; exact hP, hE.moved (by rw [hU]; exact hS) hW⟩⟩
  have hfit : cells + b'.1 ≤ R.cells ∧ slots + b'.2 ≤ R.slots := ⟨by omega, by omega⟩
  have hroom : (j_rm d b').frames + 1 ≤ R.frames ∧ 8 + (Y'.2.2.2.1 + 11) + (j_rm d b').locals ≤ R.locals := ⟨hfr, by show 8 + (Y'.2.2.2.1 + 11) + 37 * d ≤ _; omega⟩
  have hstk : (F0 m pc lsA (st0.map (j_v g.2.2.2.1))).stack = (As.map (j_v g.2.2.2.1)).reverse ++ .ref (g.2.2.2.1 a) :: st.map (j_v g.2.2.2.1) := by
    show st0.map (j_v g.2.2.2.1) = _
    rw [hst, List.map_append, List.map_reverse]
    rfl
  have go : ∀ (r : Option Value) (σ' : List jD) (h' : jH) (H1 : Heap) (locs1 : List Loc), P r σ' h' → j_P g σ' h' H1 → va_S (j_A g) s.heap H1 locs1 → W p g.1 e R s m args below meth c H1 locs1 (cells + b'.1) (slots + b'.2) Qw (F0 m (pc + 3) lsA ((r.map (j_v g.2.2.2.1)).toList ++ st.map (j_v g.2.2.2.1))) := fun r σ' h' H1 locs1 hp hP1 hS1 => by
    rw [j_tl]
    exact kk r σ' h' hp p e R s m args below meth c Qw C H1 locs1 _ _ lsA (by omega) (by omega) hP1 hS1 hl
  have hini : (Cond.initialized Y'.2.1.cls).before args s = true := by rw [m1]; exact hts _ m3
  have hdd : Y'.2.1.cls ≠ "java/lang/invoke/MethodHandle" ∧ Y'.2.1.cls ≠ "java/lang/invoke/VarHandle" ∧ (parseMethodDescriptor Y'.2.1.desc).map (fun d => d.parameters.length) = some n := ⟨by rw [m1]; exact m4, by rw [m1]; exact m5, m6⟩
  rcases hL with ⟨-, hL⟩ | ⟨-, hL⟩
  · exact j_run (va_runV (Ts := jB) (As := As.map (j_v g.2.2.2.1)) (rest := st.map (j_v g.2.2.2.1)) ⟨hx, hbb, hml, hown, hts⟩ hc ⟨callB_of n hts (j_good m2) rfl rfl rfl hini (hts _ hL) hdd hroom, hts _ hI.1, hts _ hI.2⟩ hpre rfl (by rw [List.length_map]; exact hn) hl.1 hstk (lv_room (j_cat hw)) hd hfit) hS go
  · exact j_run (va_runVN (Ts := jB) (As := As.map (j_v g.2.2.2.1)) (rest := st.map (j_v g.2.2.2.1)) ⟨hx, hbb, hml, hown, hts⟩ hc ⟨va_cnB n hts (j_good m2) rfl rfl rfl (hE.2.2.1 _ hL) hini hdd hroom, hts _ hI.1, hts _ hI.2⟩ hpre rfl (by rw [List.length_map]; exact hn) hl.1 hstk (lv_room (j_cat hw)) hd hfit) hS go
theorem J_callS {nst : Bool} {n idx : Nat} {As : List Value} (hd : decode Y.2.2.1 pc = .ok (.invokestatic idx, 3)) (hL : j_L Y.1 idx Y'.2.1 nst) (hM : j_My Y' n) (hI : Cond.static Y'.2.1 ∈ jB) (hn : As.length = n) (hst : st0 = As.reverse ++ st) (hw : (st.map fun v => v.category).sum ≤ 8) (hb : b'.1 + b2.1 ≤ b.1 ∧ b'.2 + b2.2 ≤ b.2)
    (hc : M g d Y' b' σ h As P) (kk : ∀ (r : Option Value) (σ' : List jD) (h' : jH), P r σ' h' → J g (d + 1) Y b2 σ' h' (pc + 3) ls (r.toList ++ st) Q) : J g (d + 1) Y b σ h pc ls st0 Q := by
  intro p e R s m args below meth c Qw C H locs cells slots lsA hcl' hsl hP hS hl
  obtain ⟨hx, hbb, hml, hown, hts, hE, hba, hfr, hlo, hnm, hret⟩ := id C
  obtain ⟨m1, m2, m3, m4, m5, m6, m7⟩ := hM
  have hpre : PreS s H (j_Pc g σ h As) (As.map (j_v g.2.2.2.1)) := ⟨j_blind _ _ _ _, fun U hU hW => ⟨rfl, by rw [hU]; exact Nat.le_trans hba hS.1, by rw [hU]; exact hP, hE.moved (by rw [hU]; exact hS) hW⟩⟩
  have hfit : cells + b'.1 ≤ R.cells ∧ slots + b'.2 ≤ R.slots := ⟨by omega, by omega⟩
  have hroom : (j_rm d b').frames + 1 ≤ R.frames ∧ 8 + (Y'.2.2.2.1 + 11) + (j_rm d b').locals ≤ R.locals := ⟨hfr, by show 8 + (Y'.2.2.2.1 + 11) + 37 * d ≤ _; omega⟩
  have hstk : (F0 m pc lsA (st0.map (j_v g.2.2.2.1))).stack = (As.map (j_v g.2.2.2.1)).reverse ++ st.map (j_v g.2.2.2.1) := by
    show st0.map (j_v g.2.2.2.1) = _
    rw [hst, List.map_append, List.map_reverse]
  have go : ∀ (r : Option Value) (σ' : List jD) (h' : jH) (H1 : Heap) (locs1 : List Loc), P r σ' h' → j_P g σ' h' H1 → va_S (j_A g) s.heap H1 locs1 → W p g.1 e R s m args below meth c H1 locs1 (cells + b'.1) (slots + b'.2) Qw (F0 m (pc + 3) lsA ((r.map (j_v g.2.2.2.1)).toList ++ st.map (j_v g.2.2.2.1))) := fun r σ' h' H1 locs1 hp hP1 hS1 => by
    rw [j_tl]
    exact kk r σ' h' hp p e R s m args below meth c Qw C H1 locs1 _ _ lsA (by omega) (by omega) hP1 hS1 hl
  have hini : (Cond.initialized Y'.2.1.cls).before args s = true := by rw [m1]; exact hts _ m3
  have hdd : Y'.2.1.cls ≠ "java/lang/invoke/MethodHandle" ∧ Y'.2.1.cls ≠ "java/lang/invoke/VarHandle" ∧ (parseMethodDescriptor Y'.2.1.desc).map (fun d => d.parameters.length) = some n := ⟨by rw [m1]; exact m4, by rw [m1]; exact m5, m6⟩
  rcases hL with ⟨-, hL⟩ | ⟨-, hL⟩
  · exact j_run (va_runS (Ts := jB) (As := As.map (j_v g.2.2.2.1)) (rest := st.map (j_v g.2.2.2.1)) ⟨hx, hbb, hml, hown, hts⟩ hc ⟨callB_of n hts (j_good m2) rfl rfl rfl hini (hts _ hL) hdd hroom, hts _ hI⟩ hpre rfl (by rw [List.length_map]; exact hn) hl.1 hstk (lv_room (j_cat hw)) hd hfit) hS go
  · exact j_run (va_runSN (Ts := jB) (As := As.map (j_v g.2.2.2.1)) (rest := st.map (j_v g.2.2.2.1)) ⟨hx, hbb, hml, hown, hts⟩ hc ⟨va_cnB n hts (j_good m2) rfl rfl rfl (hE.2.2.1 _ hL) hini hdd hroom, hts _ hI, trivial⟩ hpre rfl (by rw [List.length_map]; exact hn) hl.1 hstk (lv_room (j_cat hw)) hd hfit) hS go
theorem J_callI {nst : Bool} {n a idx : Nat} {As : List Value} (hd : decode Y.2.2.1 pc = .ok (.invokespecial idx, 3)) (hL : j_L Y.1 idx Y'.2.1 nst) (hM : j_My Y' n) (hv : Y'.2.2.2.2 = none) (hI : Cond.instanceMethod Y'.2.1 ∈ jB ∧ Y'.2.1.name = "<init>") (hn : As.length = n) (hst : st0 = As.reverse ++ .ref a :: st) (hw : (st.map fun v => v.category).sum ≤ 8) (hb : b'.1 + b2.1 ≤ b.1 ∧ b'.2 + b2.2 ≤ b.2)
    (hc : M g d Y' b' σ h (.ref a :: As) P) (kk : ∀ (r : Option Value) (σ' : List jD) (h' : jH), P r σ' h' → J g (d + 1) Y b2 σ' h' (pc + 3) ls (r.toList ++ st) Q) : J g (d + 1) Y b σ h pc ls st0 Q := by
  intro p e R s m args below meth c Qw C H locs cells slots lsA hcl' hsl hP hS hl
  obtain ⟨hx, hbb, hml, hown, hts, hE, hba, hfr, hlo, hnm, hret⟩ := id C
  obtain ⟨own', y', cc', maxL', ret'⟩ := Y'
  subst hv
  obtain ⟨m1, m2, m3, m4, m5, m6, m7⟩ := hM
  have hpre : PreS s H (j_Pc g σ h (.ref a :: As)) (.ref (g.2.2.2.1 a) :: As.map (j_v g.2.2.2.1)) := ⟨j_blind _ _ _ _, fun U hU hW => ⟨rfl, by rw [hU]; exact Nat.le_trans hba hS.1, by rw [hU]; exact hP, hE.moved (by rw [hU]; exact hS) hW⟩⟩
  have hfit : cells + b'.1 ≤ R.cells ∧ slots + b'.2 ≤ R.slots := ⟨by omega, by omega⟩
  have hroom : (j_rm d b').frames + 1 ≤ R.frames ∧ 8 + (maxL' + 11) + (j_rm d b').locals ≤ R.locals := ⟨hfr, by show 8 + (maxL' + 11) + 37 * d ≤ _; have : maxL' ≤ 18 := m7; omega⟩
  have hstk : (F0 m pc lsA (st0.map (j_v g.2.2.2.1))).stack = (As.map (j_v g.2.2.2.1)).reverse ++ .ref (g.2.2.2.1 a) :: st.map (j_v g.2.2.2.1) := by
    show st0.map (j_v g.2.2.2.1) = _
    rw [hst, List.map_append, List.map_reverse]
    rfl
  have go : ∀ (r : Option Value) (σ' : List jD) (h' : jH) (H1 : Heap) (locs1 : List Loc), P r σ' h' → j_P g σ' h' H1 → va_S (j_A g) s.heap H1 locs1 → W p g.1 e R s m args below meth c H1 locs1 (cells + b'.1) (slots + b'.2) Qw (F0 m (pc + 3) lsA ((r.map (j_v g.2.2.2.1)).toList ++ st.map (j_v g.2.2.2.1))) := fun r σ' h' H1 locs1 hp hP1 hS1 => by
    rw [j_tl]
    exact kk r σ' h' hp p e R s m args below meth c Qw C H1 locs1 _ _ lsA (by omega) (by omega) hP1 hS1 hl
  have m1' : y'.cls = own' := m1
  have hini : (Cond.initialized y'.cls).before args s = true := by rw [m1']; exact hts _ m3
  have hdd : y'.cls ≠ "java/lang/invoke/MethodHandle" ∧ y'.cls ≠ "java/lang/invoke/VarHandle" ∧ (parseMethodDescriptor y'.desc).map (fun d => d.parameters.length) = some n := ⟨by rw [m1']; exact m4, by rw [m1']; exact m5, m6⟩
  rcases hL with ⟨-, hL⟩ | ⟨-, hL⟩
  · exact j_run (va_runI (Ts := jB) (As := As.map (j_v g.2.2.2.1)) (rest := st.map (j_v g.2.2.2.1)) ⟨hx, hbb, hml, hown, hts⟩ hc ⟨callB_of n hts (j_good m2) rfl rfl rfl hini (hts _ hL) hdd hroom, hI.2, hts _ hI.1⟩ hpre rfl (by rw [List.length_map]; exact hn) hl.1 hstk (lv_room (j_cat hw)) hd hfit) hS go
  · exact j_run (va_runIN (Ts := jB) (As := As.map (j_v g.2.2.2.1)) (rest := st.map (j_v g.2.2.2.1)) ⟨hx, hbb, hml, hown, hts⟩ hc ⟨va_cnB n hts (j_good m2) rfl rfl rfl (hE.2.2.1 _ hL) hini hdd hroom, hI.2, hts _ hI.1⟩ hpre rfl (by rw [List.length_map]; exact hn) hl.1 hstk (lv_room (j_cat hw)) hd hfit) hS go
theorem J_objInit {a idx : Nat} (hd : decode Y.2.2.1 pc = .ok (.invokespecial idx, 3)) (h1 : Cond.methodLink Y.1 idx Lib.objectInit ∈ jB) (h2 : Cond.instanceMethod Lib.objectInit ∈ jB) (h3 : Cond.code Lib.objectInit ⟨#[0xb1]⟩ 1 none ∈ jB) (hw : (st.map fun v => v.category).sum ≤ 8) (kk : J g (d + 1) Y b σ h (pc + 3) ls st Q) : J g (d + 1) Y b σ h pc ls (.ref a :: st) Q := by
  intro p e R s m args below meth c Qw C H locs cells slots lsA hc hs hP hS hl
  obtain ⟨hx, hbb, hml, hown, hts, hE, hba, hfr, hlo, hnm, hret⟩ := id C
  have hl' := lv_room (m := m) (pc := pc) (ls := lsA) (rest := (.ref a :: st).map (j_v g.2.2.2.1)) (j_cat (ad := g.2.2.2.1) hw)
  have hf1 : 1 ≤ R.frames := by omega
  have hl20 : 20 ≤ R.locals := by omega
  refine W.objInit (g := F0 m pc lsA ((.ref a :: st).map (j_v g.2.2.2.1))) (rest := st.map (j_v g.2.2.2.1)) hx hbb hown (hts _ h1) (hts _ h2) (hts _ h3) rfl (by rw [hml]; exact hl.1) rfl hd hf1 (Nat.le_trans (Nat.add_le_add_right hl' 12) hl20) ?_
  exact kk p e R s m args below meth c Qw C H locs cells slots lsA hc hs hP hS hl
theorem J_min {x y v : Int32} {idx : Nat} (hd : decode Y.2.2.1 pc = .ok (.invokestatic idx, 3)) (h1 : Cond.methodLink Y.1 idx Lib.Math.min.name ∈ jB) (h2 : Cond.static Lib.Math.min.name ∈ jB) (h3 : Cond.initialized "java/lang/Math" ∈ jB) (h4 : Cond.code Lib.Math.min.name Lib.Math.min.code 2 (some .int) ∈ jB) (hw : (st.map fun v => v.category).sum ≤ 8) (hv : (if y < x then y else x) = v) (kk : J g (d + 1) Y b σ h (pc + 3) ls (.int v :: st) Q) : J g (d + 1) Y b σ h pc ls (.int y :: .int x :: st) Q := by
  intro p e R s m args below meth c Qw C H locs cells slots lsA hc hs hP hS hl
  obtain ⟨hx, hbb, hml, hown, hts, hE, hba, hfr, hlo, hnm, hret⟩ := id C
  subst hv
  have hw' := j_cat (ad := g.2.2.2.1) hw
  exact va_mmin hx hbb (by rw [hml]; exact hl.1.symm) hown (hts _ h1) (hts _ h2) (hts _ h3) (hts _ h4) (by omega) (by omega) (by omega) (by omega) hd (kk p e R s m args below meth c Qw C H locs cells slots lsA hc hs hP hS hl)
theorem J_max {x y v : Int32} {idx : Nat} (hd : decode Y.2.2.1 pc = .ok (.invokestatic idx, 3)) (h1 : Cond.methodLink Y.1 idx Lib.Math.max.name ∈ jB) (h2 : Cond.static Lib.Math.max.name ∈ jB) (h3 : Cond.initialized "java/lang/Math" ∈ jB) (h4 : Cond.code Lib.Math.max.name Lib.Math.max.code 2 (some .int) ∈ jB) (hw : (st.map fun v => v.category).sum ≤ 8) (hv : (if x < y then y else x) = v) (kk : J g (d + 1) Y b σ h (pc + 3) ls (.int v :: st) Q) : J g (d + 1) Y b σ h pc ls (.int y :: .int x :: st) Q := by
  intro p e R s m args below meth c Qw C H locs cells slots lsA hc hs hP hS hl
  obtain ⟨hx, hbb, hml, hown, hts, hE, hba, hfr, hlo, hnm, hret⟩ := id C
  subst hv
  have hw' := j_cat (ad := g.2.2.2.1) hw
  exact va_mmax hx hbb (by rw [hml]; exact hl.1.symm) hown (hts _ h1) (hts _ h2) (hts _ h3) (hts _ h4) (by omega) (by omega) (by omega) (by omega) hd (kk p e R s m args below meth c Qw C H locs cells slots lsA hc hs hP hS hl)
theorem J_maxL {x y v : Int64} {idx : Nat} (hd : decode Y.2.2.1 pc = .ok (.invokestatic idx, 3)) (h1 : Cond.methodLink Y.1 idx Lib.MathLoose.max_long.x ∈ jB) (h2 : Cond.static Lib.MathLoose.max_long.x ∈ jB) (h3 : Cond.initialized "java/lang/Math" ∈ jB) (h4 : Cond.code Lib.MathLoose.max_long.x Lib.MathLoose.max_long.code 4 (some .long) ∈ jB) (hw : (st.map fun v => v.category).sum ≤ 8) (hv : (if y < x then x else y) = v) (kk : J g (d + 1) Y b σ h (pc + 3) ls (.long v :: st) Q) : J g (d + 1) Y b σ h pc ls (.long y :: .long x :: st) Q := by
  intro p e R s m args below meth c Qw C H locs cells slots lsA hc hs hP hS hl
  obtain ⟨hx, hbb, hml, hown, hts, hE, hba, hfr, hlo, hnm, hret⟩ := id C
  subst hv
  have hw' := j_cat (ad := g.2.2.2.1) hw
  exact va_mmax_long hx hbb (by rw [hml]; exact hl.1.symm) hown (hts _ h1) (hts _ h2) (hts _ h3) (hts _ h4) (by omega) (by omega) (by omega) (by omega) hd (kk p e R s m args below meth c Qw C H locs cells slots lsA hc hs hP hS hl)
/-- System.arraycopy between two int rows -/
theorem J_copy {a0 a n0 n1 p0 p1 n idx : Nat} {sp dp ln : Int32} (hd : decode Y.2.2.1 pc = .ok (.invokestatic idx, 3)) (h1 : Cond.methodLink Y.1 idx arraycopyName ∈ jB) (h2 : Cond.native arraycopyName ∈ jB) (h3 : Cond.static arraycopyName ∈ jB) (h4 : Cond.initialized "java/lang/System" ∈ jB) (hs0 : σ[a0]? = some (.inl (0, n0))) (hs1 : σ[a]? = some (.inl (0, n1))) (e0 : sp = nI p0) (e1 : dp = nI p1) (e2 : ln = nI n) (hn0 : p0 + n ≤ n0) (hn1 : p1 + n ≤ n1) (hz0 : n0 < 1000000) (hz1 : n1 < 1000000) (hw : (st.map fun v => v.category).sum ≤ 8)
    (kk : J g (d + 1) Y b σ (j_row h a (va_cpy (h a0) (h a) p0 p1 n)) (pc + 3) ls st Q) : J g (d + 1) Y b σ h pc ls (.int ln :: .int dp :: .ref a :: .int sp :: .ref a0 :: st) Q := by
  intro p e R s m args below meth c Qw C H locs cells slots lsA hc hs hP hS hl
  obtain ⟨hx, hbb, hml, hown, hts, hE, hba, hfr, hlo, hnm, hret⟩ := id C
  subst e0; subst e1; subst e2
  have hw' := j_cat (ad := g.2.2.2.1) hw
  have c0 : H[g.2.2.2.1 a0]? = some (vp_cell (g.2.2.1 0) (n0, .inl (h a0))) := hP.2.2 a0 _ (j_w_at (g := g) (h := h) hs0)
  have c1 : H[g.2.2.2.1 a]? = some (vp_cell (g.2.2.1 0) (n1, .inl (h a))) := hP.2.2 a _ (j_w_at (g := g) (h := h) hs1)
  have t0 := (hE.1.2 0 _ rfl).1
  have k0 : (nI p0).toNatClampNeg = p0 := nI_clamp (by omega)
  have k1 : (nI p1).toNatClampNeg = p1 := nI_clamp (by omega)
  have k2 : (nI n).toNatClampNeg = n := nI_clamp (by omega)
  have hf1 : 1 ≤ R.frames := by omega
  have hnw : nativeFrameWords "java/lang/System" "arraycopy" 5 ≤ 17 := by decide
  intro T hT X
  obtain ⟨-, kA, hkA, cm, hkk⟩ := t0 n0 (fun j => .int (h a0 j))
  obtain ⟨vm', X', step⟩ := X.arraycopy hx hown (hts _ h1) (hts _ h2) (hts _ h3) (hts _ h4) (src := g.2.2.2.1 a0) (dst := g.2.2.2.1 a) (cs := vp_cell (g.2.2.1 0) (n0, .inl (h a0))) (cd := vp_cell (g.2.2.1 0) (n1, .inl (h a))) (srcPos := nI p0) (destPos := nI p1) (n := nI n) (by rw [hT]; exact c0) (by rw [hT]; exact c1)
    (fun _ h => by cases h) (fun _ h => by cases h) (fun h => by cases h) (fun h => by cases h) hkA hkA hkk hkk rfl (nI_pos (by omega)) (nI_pos (by omega)) (nI_pos (by omega))
    (by rw [nI_toInt (by omega), nI_toInt (by omega)]; show ¬ _ > ((arrV _ n0 (fun j => .int (h a0 j))).slots.size : Int); rw [arrV_size]; omega)
    (by rw [nI_toInt (by omega), nI_toInt (by omega)]; show ¬ _ > ((arrV _ n1 (fun j => .int (h a j))).slots.size : Int); rw [arrV_size]; omega)
    (fun vm₁ _ i hi => by
      have e : (vp_cell (g.2.2.1 0) (n0, .inl (h a0))).slots.getD ((nI p0).toNatClampNeg + i) .null = .int (h a0 ((nI p0).toNatClampNeg + i)) := by
        show (arrV _ n0 (fun j => .int (h a0 j))).slots.getD _ _ = _
        rw [Array.getD_eq_getD_getElem?, arrV_read _ _ (by omega)]
        rfl
      exact ⟨by rw [e]; rfl, by rw [e]; exact trivial⟩)
    (g := F0 m pc lsA ((.int (nI n) :: .int (nI p1) :: .ref a :: .int (nI p0) :: .ref a0 :: st).map (j_v g.2.2.2.1))) rfl (by rw [hml]; exact hl.1) (rest := st.map (j_v g.2.2.2.1)) rfl (by rw [hbb]; exact hd) hf1 (by show 2 * 0 + _ + (nativeFrameWords "java/lang/System" "arraycopy" 5 + 11) ≤ _; omega)
  have e1 : copied (vp_cell (g.2.2.1 0) (n0, .inl (h a0))) (vp_cell (g.2.2.1 0) (n1, .inl (h a))) (nI p0) (nI p1) (nI n) = vp_cell (g.2.2.1 0) (n1, .inl (va_cpy (h a0) (h a) p0 p1 n)) := by
    have := va_copied (fun z : Int32 => Value.int z) (g.2.2.1 0) (g.2.2.1 0) (n0 := n0) (n1 := n1) (sp := (nI p0).toNatClampNeg) (dp := (nI p1).toNatClampNeg) (n := (nI n).toNatClampNeg) (h a0) (h a) (by omega)
    rw [k0, k1, k2] at this
    show (vp_cell _ _).storeRun _ _ = _
    rw [k0, k1, k2]
    exact this
  rw [e1] at X' step
  have hla : g.2.2.2.1 a < H.size := (Array.getElem?_eq_some_iff.mp c1).1
  have hheap : ((T.setVm vm').setCell (g.2.2.2.1 a) (vp_cell (g.2.2.1 0) (n1, .inl (va_cpy (h a0) (h a) p0 p1 n)))).heap = H.setIfInBounds (g.2.2.2.1 a) (vp_cell (g.2.2.1 0) (n1, .inl (va_cpy (h a0) (h a) p0 p1 n))) := by rw [← hT]; rfl
  have oq : ∀ q : Nat, q ≠ g.2.2.2.1 a → (H.setIfInBounds (g.2.2.2.1 a) (vp_cell (g.2.2.1 0) (n1, .inl (va_cpy (h a0) (h a) p0 p1 n))))[q]? = H[q]? := fun q hq => by simp [Array.getElem?_setIfInBounds, Ne.symm hq]
  have hP1 : j_P g (σ.set a (.inl (0, n1))) (j_row h a (va_cpy (h a0) (h a) p0 p1 n)) (H.setIfInBounds (g.2.2.2.1 a) (vp_cell (g.2.2.1 0) (n1, .inl (va_cpy (h a0) (h a) p0 p1 n)))) := by
    refine j_put_cell hE.2.1 hP hs1 j_row_ne (by simp) ?_ oq
    rw [j_row_at]
    show (H.setIfInBounds _ _)[_]? = some _
    simp [Array.getElem?_setIfInBounds, hla]
  rw [j_set_same hs1] at hP1
  have hA : j_A g (g.2.2.2.1 a) := (j_D (g := g) (σ := σ) (h := h) hE.2.1 hP.1).2 a _ (j_w_at hs1)
  obtain ⟨t, a1, b1⟩ := kk p e R s m args below meth c Qw C _ _ cells slots lsA hc hs hP1 ⟨by simp; exact hS.1, fun q g1 g2 => by
      rw [oq q (fun e => g2 (by rw [e]; exact hA))]
      exact hS.2.1 q g1 g2, fun q hq => by
      rcases List.mem_append.mp hq with h | h
      · exact hS.2.2 q h
      · obtain ⟨z, -, hz⟩ := List.mem_map.mp h
        rw [← hz]
        exact hA⟩ hl _ hheap X'
  exact ⟨t, step t a1, b1⟩
/-- the class's two constant rows -/
theorem J_gsB {idx : Nat} (hd : decode Y.2.2.1 pc = .ok (.getstatic idx, 3)) (hL : Cond.fieldLinkNest Y.1 idx "RainCover" "BRINGS" "[I" "RainCover" ∈ jN) (kk : J g d Y b σ h (pc + 3) ls (.ref 200000 :: st) Q) : J g d Y b σ h pc ls st Q := by
  intro p e R s m args below meth c Qw C H locs cells slots lsA hc hs hP hS hl
  obtain ⟨hx, hbb, hml, hown, hts, hE, -⟩ := id C
  exact va_getsN hx hbb hE.2.2.2.1 hS hown (va_Nw.use rfl (hE.2.2.1 _ hL)) (fun _ h => h) hd (kk p e R s m args below meth c Qw C H locs cells slots lsA hc hs hP hS hl)
theorem J_gsF {idx : Nat} (hd : decode Y.2.2.1 pc = .ok (.getstatic idx, 3)) (hL : Cond.fieldLink Y.1 idx "RainCover$Outlook" "FIRST" "[I" ∈ jB) (kk : J g d Y b σ h (pc + 3) ls (.ref 200001 :: st) Q) : J g d Y b σ h pc ls st Q := by
  intro p e R s m args below meth c Qw C H locs cells slots lsA hc hs hP hS hl
  obtain ⟨hx, hbb, hml, hown, hts, hE, -⟩ := id C
  exact va_gets hx hbb hE.2.2.2.2.2.1 hS hown (hts _ hL) (fun _ h => h) hd (kk p e R s m args below meth c Qw C H locs cells slots lsA hc hs hP hS hl)
theorem J_ialdB {k : Nat} {i : Int32} {x : Int32} (hd : decode Y.2.2.1 pc = .ok (.iaload, 1)) (hi : i = nI k) (hk : k < 16) (hx : j_bri.getD k 0 = x) (kk : J g d Y b σ h (pc + 1) ls (.int x :: st) Q) : J g d Y b σ h pc ls (.int i :: .ref 200000 :: st) Q := by
  intro p e R s m args below meth c Qw C H locs cells slots lsA hc hs hP hS hl
  obtain ⟨hxx, hbb, hml, hown, hts, hE, -⟩ := id C
  subst hi
  subst hx
  exact va_ti hxx hbb hE.2.2.2.2.1 hS (j_in hk (by omega)) (v := .int (j_bri.getD k 0)) (by rw [nI_clamp (by omega)]) hd (kk p e R s m args below meth c Qw C H locs cells slots lsA hc hs hP hS hl)
theorem J_ialdF {k : Nat} {i : Int32} {x : Int32} (hd : decode Y.2.2.1 pc = .ok (.iaload, 1)) (hi : i = nI k) (hk : k < 5) (hx : j_fst.getD k 0 = x) (kk : J g d Y b σ h (pc + 1) ls (.int x :: st) Q) : J g d Y b σ h pc ls (.int i :: .ref 200001 :: st) Q := by
  intro p e R s m args below meth c Qw C H locs cells slots lsA hc hs hP hS hl
  obtain ⟨hxx, hbb, hml, hown, hts, hE, -⟩ := id C
  subst hi
  subst hx
  exact va_ti hxx hbb hE.2.2.2.2.2.2.1 hS (j_in hk (by omega)) (v := .int (j_fst.getD k 0)) (by rw [nI_clamp (by omega)]) hd (kk p e R s m args below meth c Qw C H locs cells slots lsA hc hs hP hS hl)
end JC
