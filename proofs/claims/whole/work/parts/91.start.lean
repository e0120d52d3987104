def R_law : String := "RainCoverLaw"
def lw_P (b : Addr) (xs : List Int32) (args : Array Value) (s : State) : Prop := args = #[.ref b] ∧ s.IntsAt b xs ∧ xs.length ≤ 384 ∧ (Jvm.Cond.and given_1 narrow_1).before args s = true
def lw_Q (_ : Array Value) (s : State) (o : Outcome) (t : State) : Prop := o = .returned (some (.int 1)) ∧ Framed s o t [] 600000 7302250
def lw_Z (below : List Frame) (a : Array Value) (s : State) : State → Prop := fun t => ∃ o, t.status = .running ∧ Ended t below o ∧ lw_Q a s o t
/-- the law's own end, with 1 on the stack, nothing written that was there before, its room as the claim has it -/
theorem lw_ret {p : Program} {l : Launch} {e : Env} {s : State} {m : MethodId} {below : List Frame} {meth : Method} {c : Code} {b : Nat} (hx : p.tables.exec = Jvm.exec) (hb : c.code = code) (hr : meth.sig.returnType = ret) (hlocks : meth.locks = false) {pc : Nat} {H : Heap} {ls : Array Slot} (hdg : decode code pc = .ok (.ireturn, 1)) : W p l e room_1 s m #[Value.ref b] below meth c H [] 600000 7302250 (lw_Z below #[Value.ref b] s) (F0 m pc ls [.int 1]) := by
  intro T hT X
  obtain ⟨fs, hret, hrun, hended, hW, hframe⟩ := X.leave (v := some (.int 1)) (hlocks := hlocks) (fun h => by rw [hr] at h; cases h)
  have hmeth' : T.vm.method? m = some meth := X.method'
  refine ⟨T.setFrames fs, ?_, .returned (some (.int 1)), hrun, hended, rfl, ⟨_, rfl⟩, hW, hframe⟩
  jvm_step X.here [X.here.top, hx, hb, hdg, hmeth', hr, ret, narrow_b1]
  (try refine ⟨rfl, ?_⟩); (try refine ⟨rfl, ?_⟩)
  first | (intro acts; rw [hret _ acts rfl rfl rfl]) | rw [hret _ _ rfl rfl rfl]
  exact Steps.refl _
/-- what holds at the law's entry: the machine, the code, the tables' words (any of lw_tbl by 'hts w (by decide +kernel)'), the script of L ints xs at the cell b, what the Statement gives of the start (any of its parts by flat_of_before) -/
def lw_At (p : Program) (s : State) (m : MethodId) (meth : Method) (c : Code) (b L : Nat) (xs : Nat → Int32) : Prop :=
  p.tables.exec = Jvm.exec ∧ c.code = code ∧ meth.sig.returnType = ret ∧ c.maxLocals = 4 ∧ s.vm.findClass R_law = some m.cls ∧ (∀ w ∈ lw_tbl, w.before #[Value.ref b] s = true) ∧ va_X b L xs s s.heap ∧ b < s.heap.size ∧ meth.locks = false ∧ (Jvm.Cond.and given_1 narrow_1).before #[Value.ref b] s = true
set_option maxRecDepth 20000 in
set_option maxHeartbeats 4000000 in
theorem whole_start {p : Program} {e : Env} {s : State} {m : MethodId} {below : List Frame} {meth : Method} {c : Code} (l : Launch) {b L : Nat} {xs : Nat → Int32} (hL : L ≤ 384) (C0 : lw_At p s m meth c b L xs) : W p l e room_1 s m #[Value.ref b] below meth c s.heap [] 0 0 (lw_Z below #[Value.ref b] s) (entryFrame m ([Value.ref b] : List Value).toArray 4) := by
  obtain ⟨hx, hb, hr, hml, hown, hts, hX, hbl, hlocks, hgv⟩ := id C0
  have hfl : ∀ w ∈ flN, w.before #[Value.ref b] s = true := flat_of_before _ hgv
  have hjB : ∀ w ∈ jB, w.before #[Value.ref b] s = true := fun w hw => hts w (jB_in hw)
  obtain ⟨c0, i0, hn0⟩ := u_known (C := RX0) (T := TX0) (N := 7) (n := 7) hjB cf0 (hts _ (j_m1 145 rfl))
  obtain ⟨c1, i1, hn1⟩ := u_known (C := RX1) (T := TX1) (N := 11) (n := 11) hjB cf1 (hts _ (j_m1 99 rfl))
  obtain ⟨c2, i2, hn2⟩ := u_known (C := RX2) (T := TX2) (N := 3) (n := 3) hjB cf2 (hts _ (j_m1 202 rfl))
  obtain ⟨c3, i3, hn3⟩ := u_known (C := RX3) (T := TX3) (N := 4) (n := 4) hjB cf3 (hts _ (j_m1 177 rfl))
  obtain ⟨c4, i4, hn4⟩ := u_known (C := RX4) (T := TX4) (N := 11) (n := 11) hjB cf4 (hts _ (j_m1 24 rfl))
  obtain ⟨c5, i5, hn5⟩ := u_known (C := RX5) (T := TX5) (N := 10) (n := 10) hjB cf5 (hts _ (j_m1 16 rfl))
  obtain ⟨c6, i6, hn6⟩ := u_known (C := RX6) (T := TX6) (N := 29) (n := 29) hjB cf6 (hts _ (j_m4 135 rfl))
  obtain ⟨dC, dI, hKc⟩ : ∃ (dC : Nat → ClassId) (dI : Nat → Nat → Nat), ∀ (k : Nat) (q : vw_C), vwCl[k]? = some q → u_Kn s q.1 q.2.1 q.2.2 (dC k) (dI k) := by
    refine ⟨fun k => match k with | 0 => c0 | 1 => c1 | 2 => c2 | 3 => c3 | 4 => c4 | 5 => c5 | _ => c6, fun k => match k with | 0 => i0 | 1 => i1 | 2 => i2 | 3 => i3 | 4 => i4 | 5 => i5 | _ => i6, ?_⟩
    intro k q hq
    match k, hq with
    | 0, hq => cases hq; exact hn0
    | 1, hq => cases hq; exact hn1
    | 2, hq => cases hq; exact hn2
    | 3, hq => cases hq; exact hn3
    | 4, hq => cases hq; exact hn4
    | 5, hq => cases hq; exact hn5
    | 6, hq => cases hq; exact hn6
    | k + 7, hq => simp at hq
  obtain ⟨a0, ka0, co0, r0, s0, t0⟩ := Cond.arrayClass_spec (hts _ (j_m1 96 rfl))
  obtain ⟨a1, ka1, co1, r1, s1, t1⟩ := Cond.arrayClass_spec (hts _ (j_m1 143 rfl))
  have hAA : (Cond.arrayOver (.array .int)).before #[Value.ref b] s = true := hts _ (j_m1 30 rfl)
  have hA3 : (Cond.arrayOver (.object "RainCover$Valley")).before #[Value.ref b] s = true := hts _ (j_m1 97 rfl)
  have hA4 : (Cond.arrayOver (.object "RainCover$Sheet")).before #[Value.ref b] s = true := hts _ (j_m1 201 rfl)
  obtain ⟨co2, a2, ka2, q2, -, s2, t2, r2⟩ := Jvm.Stand.arrayOver_specB hAA
  obtain ⟨co3, a3, ka3, q3, -, s3, t3, r3⟩ := Cond.arrayOver_spec hA3
  obtain ⟨co4, a4, ka4, q4, -, s4, t4, r4⟩ := Cond.arrayOver_spec hA4
  have hA : ∀ a : Nat, a < s.heap.size → ¬ (fun q : Nat => s.heap.size ≤ q) a := fun a ha z => Nat.lt_irrefl _ (Nat.lt_of_lt_of_le ha z)
  obtain ⟨tB, eB, hB⟩ := va_Tof (f := fun i => .int (j_bri.getD i 0)) (A := fun q : Nat => s.heap.size ≤ q) (by decide) (hfl _ fl_br.1) (va_eqt (hfl _ fl_br.2)) (fun j hj => va_eqt (hfl _ (br_el j hj))) hA
  obtain ⟨tF, eF, hF⟩ := va_Tof (f := fun i => .int (j_fst.getD i 0)) (A := fun q : Nat => s.heap.size ≤ q) (by decide) (hfl _ fl_fi.1) (va_eqt (hfl _ fl_fi.2)) (fun j hj => va_eqt (hfl _ (fi_el j hj))) hA
  obtain ⟨aK, aV, hS, hK12⟩ := vk_Sof (args := #[Value.ref b]) (s := s) (N := 12) (tm := stm) (len := j_len) (byt := j_byt) (A := fun q : Nat => s.heap.size ≤ q) (fun i hi => Nat.lt_of_lt_of_le (j_st12 i hi).2.1 (by decide)) (fun i hi => hfl _ (st_ex i hi)) (fun i hi => hfl _ (st_co i hi)) (fun i hi => hfl _ (st_ar i hi)) (fun i hi => hfl _ (st_le i hi)) (fun i hi j hj => hfl _ (st_el i hi j hj)) (fun i j hi hj hij => (st_ne i hi j hj hij).imp (fun z => hfl _ z) (fun z => hfl _ z)) hA
  have hZq := va_Zqof (args := #[Value.ref b]) (hts _ (j_m2 117 rfl)) (hts _ (j_m1 10 rfl)) (hfl _ fl_cs.2) hA
  obtain ⟨tZ, hZ⟩ : ∃ tZ : Nat, va_Z "jdk/internal/util/Preconditions" "SIOOBE_FORMATTER" "Ljava/util/function/BiFunction;" .null (fun q : Nat => s.heap.size ≤ q) s s.heap ∨ va_Z "jdk/internal/util/Preconditions" "SIOOBE_FORMATTER" "Ljava/util/function/BiFunction;" (.ref tZ) (fun q : Nat => s.heap.size ≤ q) s s.heap := by
    rcases hZq with z | ⟨t, z⟩
    · exact ⟨0, Or.inl z⟩
    · exact ⟨t, Or.inr z⟩
  obtain ⟨g, hg⟩ : ∃ g : jG, g = (l, (dC, dI), (fun k => match k with | 0 => a0 | 1 => a1 | 2 => a2 | 3 => a3 | _ => a4), adW s.heap.size tB tF b L tZ aK aV xs, s.heap.size) := ⟨_, rfl⟩
  have g1 : g.1 = l := by rw [hg]
  have gb : g.2.2.2.2 = s.heap.size := by rw [hg]
  have gA : j_A g = fun q : Nat => s.heap.size ≤ q := by unfold j_A; rw [gb]
  have gad : g.2.2.2.1 = adW s.heap.size tB tF b L tZ aK aV xs := by rw [hg]
  have d0 : ∀ k, k < 100000 → g.2.2.2.1 k = s.heap.size + k := fun k hk => by rw [gad]; exact if_pos hk
  have dB : g.2.2.2.1 200000 = tB := by rw [gad]; rfl
  have dF : g.2.2.2.1 200001 = tF := by rw [gad]; rfl
  have d5 : g.2.2.2.1 500000 = b := by rw [gad]; rfl
  have d6 : g.2.2.2.1 600000 = L := by rw [gad]; rfl
  have d8 : g.2.2.2.1 800000 = tZ := by rw [gad]; rfl
  have d3 : ∀ i, i < 12 → g.2.2.2.1 (300000 + i) = aK i := fun i hi => by
    rw [gad, adW, if_neg (by omega), if_neg (by omega), if_neg (by omega), if_neg (by omega), if_neg (by omega), if_neg (by omega), if_pos (by omega), show 300000 + i - 300000 = i by omega]
  have d4 : ∀ i, i < 12 → g.2.2.2.1 (400000 + i) = aV i := fun i hi => by
    rw [gad, adW, if_neg (by omega), if_neg (by omega), if_neg (by omega), if_neg (by omega), if_neg (by omega), if_neg (by omega), if_neg (by omega), if_pos (by omega), show 400000 + i - 400000 = i by omega]
  have d7 : ∀ i, i < L → Int32.ofNat (g.2.2.2.1 (700000 + i)) = xs i := fun i hi => by
    rw [gad, adW, if_neg (by omega), if_neg (by omega), if_neg (by omega), if_neg (by omega), if_neg (by omega), if_neg (by omega), if_neg (by omega), if_neg (by omega), show 700000 + i - 700000 = i by omega, i32_ofNat]
  have hKK : va_K g.2.1 vwCl (j_t g) s := by
    refine ⟨fun k q hq => by rw [hg]; exact hKc k q hq, fun k q hq => ?_⟩
    rw [hg] at hq
    match k, hq with
    | 0, hq => cases hq; exact ⟨fun n z => ⟨fun k h => (by cases h), ka0, s0, co0, t0⟩, r0⟩
    | 1, hq => cases hq; exact ⟨fun n z => ⟨fun k h => (by cases h), ka1, s1, co1, t1⟩, r1⟩
    | 2, hq => cases hq; exact ⟨fun n z => ⟨fun k h => (by cases h), ka2, s2, co2, t2⟩, r2⟩
    | 3, hq => cases hq; exact ⟨fun n z => ⟨fun k h => (by cases h), ka3, s3, co3, t3⟩, ka3, co3, s3, t3, q3, r3⟩
    | 4, hq => cases hq; exact ⟨fun n z => ⟨fun k h => (by cases h), ka4, s4, co4, t4⟩, ka4, co4, s4, t4, q4, r4⟩
    | k + 5, hq => simp [j_t] at hq
  obtain ⟨scr, x1, x2, x3, x4, x5⟩ := hX
  have hEE : j_E g s := by
    refine ⟨hKK, fun k hk => by rw [gb]; exact d0 k hk, fun w hw => va_Nw.of (by have := (List.mem_filter.mp hw).2; cases w <;> first | rfl | cases this) (hts w (List.mem_filter.mp hw).1), ?_⟩
    refine ⟨?_, ?_, ?_, ?_, fun i hi => ?_, ?_, ?_, ?_, va_AO.of hA3, va_AO.of hA4, hAA, ?_⟩
    · rw [gA, dB]; exact va_Zref (hts _ (j_m3 0 rfl)) (hts _ (j_m1 1 rfl)) eB hA
    · rw [gA, dB]; exact hB
    · rw [gA, dF]; exact va_Zref (hts _ (j_m3 125 rfl)) (hts _ (j_m1 4 rfl)) eF hA
    · rw [gA, dF]; exact hF
    · rw [d3 i hi]; exact vk_R.of (hts _ (st_tb i hi)) (hK12 i hi)
    · rw [gA]
      refine ⟨fun i hi => ?_, fun i j hi hj e => ?_⟩
      · dsimp only
        rw [d3 i hi, d4 i hi]; exact hS.1 i hi
      · dsimp only at e
        rw [d3 i hi, d3 j hj] at e; exact hS.2 i j hi hj e
    · rw [gA]; exact va_Zof (hts _ (j_m2 101 rfl)) (hts _ (j_m1 8 rfl)) (va_eqt (hfl _ fl_cs.1)) hA
    · rw [gA, d5, d6]
      exact ⟨scr, x1, x2, x3, Nat.le_of_eq x4.symm, by rw [x4], fun j hj => by rw [x5 j hj]; dsimp only; rw [d7 j hj], hA b hbl⟩
    · show _ ∨ _
      rw [gA, d8]; exact hZ
  have hl := lv_entry ([.ref b]) (n := 4) (Nat.le_of_ble_eq_true rfl)
  rw [lg_entry_eq]
  generalize (lg_sl ([.ref b]) ++ List.replicate (4 - (lg_sl ([.ref b])).length) Slot.unset).toArray = lsA at hl ⊢
  have hl2 : lv_has lsA 4 (j_l g.2.2.2.1 [(0, .ref 500000)]) := by
    show lv_has lsA 4 [(0, .ref (g.2.2.2.1 500000))]
    rw [d5]; exact hl
  have hsL : sL g ≤ 384 := by show g.2.2.2.1 600000 ≤ 384; rw [d6]; exact hL
  have go := law_start (g := g) (nm := meth.name) (h := fun _ _ => 0) hsL p e room_1 s m #[Value.ref b] below meth c (lw_Z below #[Value.ref b] s) ⟨hx, hb, hml, hown, hjB, hEE, by rw [gb]; exact Nat.le_refl _, Nat.le_refl _, by decide, rfl, ?_⟩ s.heap [] 0 0 lsA (by decide) (by decide) ⟨by decide, by rw [gb]; rfl, fun k q h => by simp [j_w] at h⟩ ?_ hl2
  · rw [g1] at go
    exact go
  · intro pc lsB r σ h H locs cells slots hrt hQ hP hSS hc hs
    obtain ⟨rfl, x, rfl, rfl⟩ := hQ
    rw [g1]
    refine va_forget (fun q hq => by have := hSS.2.2 q hq; rw [gA] at this; exact this) ?_
    refine W.widen (k := 600000) (n := 7302250) hc hs ?_
    exact lw_ret hx hb hr hlocks hrt.1
  · rw [gA]; exact va_S.rf
set_option maxHeartbeats 4000000 in
theorem lw_walk (l : Launch) (b : Addr) (xs : List Int32) : MetFree l x (headSpec (Jvm.Cond.code x code maxLocals ret :: tables_1) room_1) (lw_P b xs) (fun _ _ _ _ _ => True) lw_Q := by
  refine MetFree.of_bodyS (code := code) (maxLocals := maxLocals) (ret := ret) (by decide) ?_ ?_
  · intro args s m h hn
    obtain ⟨meth, c, h1, h2, h3, h4, h5, h6, -, -⟩ := Cond.code_spec hn (atoms_spec (ws := Jvm.Cond.code x code maxLocals ret :: tables_1) h _ List.mem_cons_self)
    exact ⟨meth, c, h1, h2, h3, h4, h5, h6⟩
  · intro p e s m args below meth c s₁ B hml0 hP _
    obtain ⟨rfl, hx, hbd, hgv⟩ := hP
    obtain ⟨scr, harrAt, hlist, hof, hsmall⟩ := hx
    obtain ⟨hcb, hkn, -, -⟩ := State.arrayAt?_spec harrAt
    have hown : s.vm.findClass R_law = some m.cls := findClass_of_methodNamed B.named
    have hts0 : ∀ c ∈ (Jvm.Cond.code x code maxLocals ret :: tables_1), c.before #[Value.ref b] s = true := atoms_spec (ws := Jvm.Cond.code x code maxLocals ret :: tables_1) B.pre
    have hts : ∀ w ∈ lw_tbl, w.before #[Value.ref b] s = true := k2_hts_sels lw_privs (fun w hw => hts0 w (List.mem_cons_of_mem _ hw)) lw_privs_ok
    have hml : c.maxLocals = 4 := B.maxLocals_eq (hts0 _ List.mem_cons_self)
    have X₀ : Stand p l e room_1 s m #[Value.ref b] below meth c s₁ [] 0 0 := Stand.of_body B
    have hh0 : s₁.heap = s.heap := by rw [B.state]; rfl
    have hsz : scr.slots.size = xs.length := by rw [← Array.length_toList, hlist, List.length_map]
    have hval : ∀ j : Nat, j < xs.length → scr.slots[j]? = some (.int (xs.getD j 0)) := fun j hj => by
      rw [← Array.getElem?_toList, hlist]
      simp [hj]
    have hbl : b < s.heap.size := (Array.getElem?_eq_some_iff.mp hcb).1
    have hX : va_X b xs.length (fun j => xs.getD j 0) s s.heap := ⟨scr, hcb, hof, hkn, hsz, hval⟩
    have K : W p l e room_1 s m #[Value.ref b] below meth c s₁.heap [] 0 0 (lw_Z below #[Value.ref b] s) (entryFrame m ([Value.ref b] : List Value).toArray 4) := by
      rw [hh0]
      exact whole_start l hbd ⟨B.exec, B.bytes, B.returns, hml, hown, hts, hX, hbl, B.notSynchronized, hgv⟩
    obtain ⟨t, a1, o, b1, b2, b3⟩ := K s₁ rfl X₀
    exact ⟨t, o, a1, b1, b2, b3⟩
theorem lw_pre_spec {args : Array Value} {s : State} (h : (Jvm.Cond.and given_1 narrow_1).before args s = true) (hr : rest_1_c.before args s = true) : ∃ (b : Addr) (xs : List Int32), lw_P b xs args s := by
  have hs := flat_of_before _ h
  have hq := flat_of_before _ hr
  have hc : (Cond.count 1).before args s = true := hs _ (by decide +kernel)
  have harr : (Cond.arrayOf (.arg 0) .int).before args s = true := hs _ (by decide +kernel)
  have hle : (Cond.le (.length (.arg 0)) (.int 384)).before args s = true := hs _ (by decide +kernel)
  have hlen : (Cond.isInt (.length (.arg 0))).before args s = true := hq _ (by decide +kernel)
  have hall : (Cond.all (.arg 0) (.isInt (.elem (.arg 0) (.index 0)))).before args s = true := hq _ (by decide +kernel)
  obtain ⟨b, xs, hb, hx⟩ := State.ints_of_pre rfl harr hlen hall
  have hsm : xs.length < 2 ^ 31 := hx.choose_spec.2.2.2
  have hev : (Term.length (.arg 0)).eval args s none [] s = some (.int xs.length.toInt32) := hx.length_eval hb
  have hv := Cond.le_ints hev (show (Term.int 384).eval args s none [] s = some (.int 384) from rfl)
  have hd : xs.length.toInt32 ≤ 384 := by
    simpa [Cond.before, Cond.holds, hv] using hle
  have hN : xs.length ≤ 384 := (Int32.ofNat_le_ofNat hsm (by decide)).mp (show Int32.ofNat xs.length ≤ Int32.ofNat 384 from hd)
  exact ⟨b, xs, Cond.one_arg hc (show args[0]? = some (.ref b) from hb), hx, hN, h⟩
theorem lw_comes (l : Launch) : Comes l x (Jvm.Cond.code x code maxLocals ret :: tables_1) room_1 (fun tb e args s => Calls_1 tb e args s ∧ rest_1 tb e args s ∧ Pre_1 tb e args s)
    (fun _ _ args s o t => lw_Q args s o t) := by
  intro p e ha hc hk s m args below hf hfit hheap happ hpre
  obtain ⟨b, xs, hP⟩ := lw_pre_spec hpre.2.2 hpre.2.1
  obtain ⟨k, o, h1, h2, h3, hQ⟩ := lw_walk l b xs p e ha hc hk s m args below hf ((Spec.applies_iff_loose hf).mp happ).1 hP trivial
  exact ⟨k, o, h1, h2, h3, hQ⟩
theorem lw_frame {s t : State} {o : Outcome} {args : Array Value} (h : Framed s o t [] 600000 7302250) :
    Framed s o t (fieldLocs frame_1_writes args s ++ arrayLocs frame_1_arrays args s ++ staticLocs frame_1_statics s) 600000 7302250 := h
theorem lw_limb (L : Cond) (hL : ∀ (args : Array Value) (s t : State), L.after args s (.returned (some (.int 1))) t = true) :
    ArmFor flags0 classFile x code maxLocals ret World_1 tables_1 room_1 Calls_1 rest_1 Pre_1
      (fun tb e a s o t => postC L tb e a s o t ∧ Framed s o t (fieldLocs frame_1_writes a s ++ arrayLocs frame_1_arrays a s ++ staticLocs frame_1_statics s) 600000 7302250) := by
  intro l _ _ _ p e ha hc hk s m args below hf hfit hheap happ hpre
  obtain ⟨k, o, h1, h2, h3, rfl, hF⟩ := lw_comes l p e ha hc hk s m args below hf hfit hheap happ hpre
  exact ⟨k, _, h1, h2, h3, hL args s _, lw_frame hF⟩
theorem i_vc : Claimed_1_1 ∧ Claimed_1_2 := ⟨lw_limb limb_1_1 (fun args s t => by simp [limb_1_1, Cond.after, Cond.holds, Cond.value]), lw_limb limb_1_2 (fun args s t => Cond.after_iff.mpr (by
  first | (rw [show limb_1_2 = Cond.eq .result (.int 1) from rfl, Cond.eq_ints (x := 1) (y := 1) rfl rfl]; simp; done) | (simp [limb_1_2, Cond.value, Term.eval]; done)))⟩
