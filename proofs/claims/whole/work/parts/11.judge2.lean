/-! words: the tables' own, as far as they last through a call; the nest mates' links -/
def jB : List Cond := lw_tbl.filter goodWord
def j_isN : Cond → Bool
  | .fieldLinkNest .. => true
  | .methodLinkNest .. => true
  | _ => false
def jN : List Cond := lw_tbl.filter j_isN
theorem j_b {w : Cond} (i : Nat) (h : lw_tbl[i]? = some w) (hg : goodWord w = true) : w ∈ jB := List.mem_filter.mpr ⟨List.mem_of_getElem? h, hg⟩
theorem j_n {w : Cond} (i : Nat) (h : lw_tbl[i]? = some w) (hg : j_isN w = true) : w ∈ jN := List.mem_filter.mpr ⟨List.mem_of_getElem? h, hg⟩
theorem jB_good {w : Cond} (h : w ∈ jB) : (w.onTables && w.keeps) = true ∨ ∃ ty, w = .arrayClass ty := good_of_word (List.mem_filter.mp h).2
theorem jB_in {w : Cond} (h : w ∈ jB) : w ∈ lw_tbl := (List.mem_filter.mp h).1
def j_bri : List Int32 := [3, 1, -2, -3, -2, 1, 3, -3, -1, 3, -1, -1, -3, 0, 4, -4]
def j_fst : List Int32 := [0, 1, 5, 21, 85]
def j_stx : List (Nat × String × Nat × List Int32) := [
  (170, "farmer", 6, [102, 97, 114, 109, 101, 114]), (172, "boatman", 7, [98, 111, 97, 116, 109, 97, 110]), (174, "miller", 6, [109, 105, 108, 108, 101, 114]), (176, "eeler", 5, [101, 101, 108, 101, 114]),
  (178, "sun", 3, [115, 117, 110]), (180, "grey", 4, [103, 114, 101, 121]), (182, "wet", 3, [119, 101, 116]), (184, "frost", 5, [102, 114, 111, 115, 116]),
  (186, "cover", 5, [99, 111, 118, 101, 114]), (188, "odds", 4, [111, 100, 100, 115]), (190, "floor", 5, [102, 108, 111, 111, 114]), (192, "sky", 3, [115, 107, 121])]
def j_len : List Nat := j_stx.map (fun q => q.2.2.1)
def j_byt : List (List Int32) := j_stx.map (fun q => q.2.2.2)
/-- arrays of int rows may be made -/
def j_AA (U : State) : Prop := (Cond.arrayOver (.array .int)).before #[] U = true
theorem j_AA.moved {u U : State} (hvm : u.vm.Alike U.vm) (h : j_AA u) : j_AA U := Jvm.Stand.arrayOver_alikeB hvm h
/-- a static that is only carried: null, or at place 800000 -/
def j_Zf (g : jG) (U : State) : Prop := va_Z "jdk/internal/util/Preconditions" "SIOOBE_FORMATTER" "Ljava/util/function/BiFunction;" .null (j_A g) U U.heap ∨ va_Z "jdk/internal/util/Preconditions" "SIOOBE_FORMATTER" "Ljava/util/function/BiFunction;" (.ref (g.2.2.2.1 800000)) (j_A g) U U.heap
/-- statics and String constants: at places from 200000 on -/
def j_X (g : jG) (U : State) : Prop :=
  va_Z "RainCover" "BRINGS" "[I" (.ref (g.2.2.2.1 200000)) (j_A g) U U.heap ∧ va_T .int (g.2.2.2.1 200000) 16 (fun i => .int (j_bri.getD i 0)) (j_A g) U U.heap ∧
  va_Z "RainCover$Outlook" "FIRST" "[I" (.ref (g.2.2.2.1 200001)) (j_A g) U U.heap ∧ va_T .int (g.2.2.2.1 200001) 5 (fun i => .int (j_fst.getD i 0)) (j_A g) U U.heap ∧
  (∀ i : Nat, i < 12 → vk_R "RainCover$Reader" ((j_stx.getD i (0, "", 0, [])).1) ((j_stx.getD i (0, "", 0, [])).2.1) (g.2.2.2.1 (300000 + i)) U) ∧
  vk_S 12 j_len j_byt (fun i => g.2.2.2.1 (300000 + i)) (fun i => g.2.2.2.1 (400000 + i)) (j_A g) U U.heap ∧
  va_Z "java/lang/String" "COMPACT_STRINGS" "Z" (.int 1) (j_A g) U U.heap ∧
  va_T .int (g.2.2.2.1 500000) (g.2.2.2.1 600000) (fun i => .int (Int32.ofNat (g.2.2.2.1 (700000 + i)))) (j_A g) U U.heap ∧ va_AO "RainCover$Valley" U ∧ va_AO "RainCover$Sheet" U ∧ j_AA U ∧ j_Zf g U
def j_E (g : jG) (U : State) : Prop := va_K g.2.1 vwCl (j_t g) U ∧ (∀ k, k < 100000 → g.2.2.2.1 k = g.2.2.2.2 + k) ∧ (∀ w ∈ jN, va_Nw w U) ∧ j_X g U
theorem j_Nw_warm {w : Cond} {s U : State} (hW : s.WarmedH U.vm) (hn : j_isN w = true) (h : va_Nw w s) : va_Nw w U := by
  cases w <;> first | exact va_Nw.warmF hW h | exact va_Nw.warmM hW h | cases hn
theorem j_E.moved {g : jG} {s U : State} {locs : List Loc} (hE : j_E g s) (hS : va_S (j_A g) s.heap U.heap locs) (hW : s.WarmedH U.vm) : j_E g U := by
  obtain ⟨h1, h2, h3, x1, x2, x3, x4, x5, x6, x7, x8, x9, xa, xb, xc⟩ := hE
  have hq : ∀ a : Nat, a < s.heap.size → ¬ j_A g a → U.heap[a]? = s.heap[a]? := fun a h z => hS.2.1 a h z
  exact ⟨va_K.moved hW.alike h1, h2, fun w hw => j_Nw_warm hW (List.mem_filter.mp hw).2 (h3 w hw), (x1.moved hW.alike).kept hq, (x2.moved hW.alike).kept hq, (x3.moved hW.alike).kept hq, (x4.moved hW.alike).kept hq,
    fun i hi => (x5 i hi).warm hW, (x6.moved hW.alike).kept hq, (x7.moved hW.alike).kept hq, (x8.moved hW.alike).kept hq, x9.moved hW.alike, xa.moved hW.alike, xb.moved hW.alike, xc.imp (fun z => (z.moved hW.alike).kept hq) (fun z => (z.moved hW.alike).kept hq)⟩
theorem j_E.same {g : jG} {s U : State} (hh : U.heap = s.heap) (hv : U.vm = s.vm) (hE : j_E g s) : j_E g U := by
  obtain ⟨h1, h2, h3, x1, x2, x3, x4, x5, x6, x7, x8, x9, xa, xb, xc⟩ := hE
  have ha : s.vm.Alike U.vm := by rw [hv]; exact Vm.Alike.refl _
  have hq : ∀ a : Nat, a < s.heap.size → ¬ j_A g a → U.heap[a]? = s.heap[a]? := fun a _ _ => by rw [hh]
  exact ⟨va_K.moved ha h1, h2, fun w hw => va_Nw.same (by have := (List.mem_filter.mp hw).2; cases w <;> first | rfl | cases this) hv.symm (h3 w hw), (x1.moved ha).kept hq, (x2.moved ha).kept hq, (x3.moved ha).kept hq, (x4.moved ha).kept hq,
    fun i hi => (x5 i hi).same hv, (x6.moved ha).kept hq, (x7.moved ha).kept hq, (x8.moved ha).kept hq, x9.moved ha, xa.moved ha, xb.moved ha, xc.imp (fun z => (z.moved ha).kept hq) (fun z => (z.moved ha).kept hq)⟩
/-- a return's instruction -/
def j_rt (Y : jY) (pc : Nat) (r : Option Value) : Prop := match r with
  | none => decode Y.2.2.1 pc = .ok (.return_, 1) ∧ Y.2.2.2.2 = none
  | some (.int x) => decode Y.2.2.1 pc = .ok (.ireturn, 1) ∧ ∃ ty, Y.2.2.2.2 = some ty ∧ narrow ty (.int x) = .int x
  | some (.long _) => decode Y.2.2.1 pc = .ok (.lreturn, 1) ∧ Y.2.2.2.2 = some .long
  | some (.ref _) => decode Y.2.2.1 pc = .ok (.areturn, 1) ∧ ∃ n, Y.2.2.2.2 = some (.object n)
  | _ => False
/-- where a method's body runs -/
def j_Cx (g : jG) (d : Nat) (Y : jY) (p : Program) (e : Env) (R : Room) (s : State) (m : MethodId) (args : Array Value) (below : List Frame) (meth : Method) (c : Code) (Qw : State → Prop) (Q : jQ) : Prop :=
  p.tables.exec = Jvm.exec ∧ c.code = Y.2.2.1 ∧ c.maxLocals = Y.2.2.2.1 ∧ s.vm.findClass Y.1 = some m.cls ∧ (∀ w ∈ jB, w.before args s = true) ∧ j_E g s ∧ g.2.2.2.2 ≤ s.heap.size ∧ d ≤ R.frames ∧ 37 * d ≤ R.locals ∧ meth.name = Y.2.1.name ∧
  ∀ (pc : Nat) (lsA : Array Slot) (r : Option Value) (σ : List jD) (h : jH) (H : Heap) (locs : List Loc) (cells slots : Nat), j_rt Y pc r → Q r σ h → j_P g σ h H → va_S (j_A g) s.heap H locs → cells ≤ R.cells → slots ≤ R.slots →
    W p g.1 e R s m args below meth c H locs cells slots Qw (F0 m pc lsA ((r.toList).map (j_v g.2.2.2.1)))
def J (g : jG) (d : Nat) (Y : jY) (b : Nat × Nat) (σ : List jD) (h : jH) (pc : Nat) (ls : List (Nat × Value)) (st : List Value) (Q : jQ) : Prop :=
  ∀ (p : Program) (e : Env) (R : Room) (s : State) (m : MethodId) (args : Array Value) (below : List Frame) (meth : Method) (c : Code) (Qw : State → Prop), j_Cx g d Y p e R s m args below meth c Qw Q →
  ∀ (H : Heap) (locs : List Loc) (cells slots : Nat) (lsA : Array Slot), cells + b.1 ≤ R.cells → slots + b.2 ≤ R.slots → j_P g σ h H → va_S (j_A g) s.heap H locs → lv_has lsA Y.2.2.2.1 (j_l g.2.2.2.1 ls) →
    W p g.1 e R s m args below meth c H locs cells slots Qw (F0 m pc lsA (st.map (j_v g.2.2.2.1)))
def j_rm (d : Nat) (b : Nat × Nat) : Room := { frames := d, cells := b.1, slots := b.2, locals := 37 * d }
def j_Pc (g : jG) (σ : List jD) (h : jH) (av : List Value) : Array Value → State → Prop := fun a U => a = (av.map (j_v g.2.2.2.1)).toArray ∧ g.2.2.2.2 ≤ U.heap.size ∧ j_P g σ h U.heap ∧ j_E g U
def j_Qc (g : jG) (Q : jQ) : Array Value → State → Outcome → State → Prop := fun _ st o t => (∃ (r : Option Value) (σ : List jD) (h : jH), o = .returned (r.map (j_v g.2.2.2.1)) ∧ Q r σ h ∧ j_P g σ h t.heap) ∧ va_F (j_A g) st t
def M (g : jG) (d : Nat) (Y : jY) (b : Nat × Nat) (σ : List jD) (h : jH) (av : List Value) (Q : jQ) : Prop :=
  Met g.1 Y.2.1 (.code Y.2.1 Y.2.2.1 Y.2.2.2.1 Y.2.2.2.2 :: jB) (j_rm d b) (j_Pc g σ h av) (j_Qc g Q) b.1 b.2 (j_A g)
theorem j_blind (g : jG) (σ : List jD) (h : jH) (av : List Value) : FrameBlind (j_Pc g σ h av) := fun a U f mk q => by
  obtain ⟨h1, h2, h3, h4⟩ := q
  exact ⟨h1, h2, h3, j_E.same (s := U) (U := U.calling f mk a) rfl rfl h4⟩
set_option maxHeartbeats 1000000 in
theorem M.of {g : jG} {d : Nat} {Y : jY} {b : Nat × Nat} {σ : List jD} {h : jH} {av : List Value} {Q : jQ} (hp : plainName Y.2.1.cls = true) (ho : Y.2.1.cls = Y.1) (hlen : (lg_sl (av.map (j_v g.2.2.2.1))).length ≤ Y.2.2.2.1)
    (k : J g d Y b σ h 0 (lv_args 0 av) [] Q) : M g d Y b σ h av Q := by
  obtain ⟨own, y, cc, maxL, ret⟩ := Y
  refine Met.ofW (cc := cc) (maxL := maxL) (ret := ret) hp rfl ?_
  intro p e s m args below meth c s₁ B hml hv
  obtain ⟨rfl, hsz, hP, hE⟩ := hv
  have hx := B.exec
  have hb := B.bytes
  have hr : meth.sig.returnType = ret := B.returns
  have hts := atoms_spec (ws := .code y cc maxL ret :: jB) B.pre
  have hown : s.vm.findClass y.cls = some m.cls := findClass_of_methodNamed B.named
  have hlocks := B.notSynchronized
  have hin : meth.name = y.name := (name_of_methodNamed B.named B.method).1
  have hS : va_S (j_A g) s.heap s.heap [] := va_S.rf
  have hl := lv_entry (av.map (j_v g.2.2.2.1)) (n := maxL) hlen
  rw [lg_entry_eq]
  have hla : lv_args 0 (av.map (j_v g.2.2.2.1)) = j_l g.2.2.2.1 (lv_args 0 av) := by
    have gen : ∀ (l : List Value) (i : Nat), lv_args i (l.map (j_v g.2.2.2.1)) = j_l g.2.2.2.1 (lv_args i l) := by
      intro l
      induction l with
      | nil => intro i; rfl
      | cons v t ih =>
        intro i
        show (i, j_v _ v) :: lv_args (if (j_v _ v).category = 2 then i + 2 else i + 1) (t.map _) = _
        rw [j_v_cat, ih]
        rfl
    exact gen av 0
  rw [hla] at hl
  refine k p e _ s m _ below meth c _ ⟨hx, hb, hml, by rw [← ho]; exact hown, fun w hw => hts w (List.mem_cons_of_mem _ hw), hE, hsz, Nat.le_refl _, Nat.le_refl _, hin, ?_⟩ s.heap [] 0 0 _ (by show 0 + b.1 ≤ b.1; omega) (by show 0 + b.2 ≤ b.2; omega) hP hS hl
  intro pc lsA r σ' h' H locs cells slots hrt hQ hP' hS' hc' hs'
  have hc' : cells ≤ b.1 := hc'
  have hs' : slots ≤ b.2 := hs'
  refine W.widen (k := b.1) (n := b.2) hc' hs' ?_
  match r, hrt, hQ with
  | none, hrt, hQ => exact W.vret hx hb (hr.trans hrt.2) (fun t ht hW => ⟨⟨none, σ', h', rfl, hQ, by rw [ht]; exact hP'⟩, hS'.F ht⟩) hS'.2.2 hrt.1
  | some (.int x), hrt, hQ =>
    obtain ⟨h1, ty, h2, h3⟩ := hrt
    exact W.zret hx hb (hr.trans h2) h3 (fun t ht hW => ⟨⟨some (.int x), σ', h', rfl, hQ, by rw [ht]; exact hP'⟩, hS'.F ht⟩) hS'.2.2 h1
  | some (.long x), hrt, hQ => exact W.lret hx hb (hr.trans hrt.2) (fun t ht hW => ⟨⟨some (.long x), σ', h', rfl, hQ, by rw [ht]; exact hP'⟩, hS'.F ht⟩) hS'.2.2 hrt.1
  | some (.ref x), hrt, hQ =>
    obtain ⟨h1, n, h2⟩ := hrt
    exact W.aret hx hb (hr.trans h2) (Or.inl ⟨n, rfl⟩) (Or.inr ⟨_, rfl⟩) (fun t ht hW => ⟨⟨some (.ref x), σ', h', rfl, hQ, by rw [ht]; exact hP'⟩, hS'.F ht⟩) hS'.2.2 h1
