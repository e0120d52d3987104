theorem lg_cmp_self (x : Int64) : lg_cmp x x = 0 := by
  unfold lg_cmp
  simp
set_option maxHeartbeats 400000 in
theorem e_feed {h h1 : jH} {c : Int32} (hh : hi h h1) : eqR (oFeed h c) (oFeed h1 c) := by
  rw [hi_glue hh]
  exact eqR_ite Iff.rfl (eqR_ite Iff.rfl (⟨rfl, fun _ _ => rfl, fun _ _ => rfl, fun b hb => by rcases hb with rfl | rfl | rfl | rfl | rfl | rfl | rfl | rfl | rfl <;> rfl⟩) (⟨rfl, fun _ _ => rfl, fun _ _ => rfl, fun b hb => by rcases hb with rfl | rfl | rfl | rfl | rfl | rfl | rfl | rfl | rfl <;> rfl⟩)) (⟨rfl, fun _ _ => rfl, fun _ _ => rfl, fun b hb => by rcases hb with rfl | rfl | rfl | rfl | rfl | rfl | rfl | rfl | rfl <;> rfl⟩)
theorem lo_feed {h : jH} {c : Int32} : lo h (oFeed h c).2 := lo_iteR (lo_iteR (lo.rf) ((lo_up (by omega)).tr (lo_up (by omega)))) (lo.rf)
set_option maxHeartbeats 400000 in
theorem e_end {h h1 : jH} {n : Int32} (hh : hi h h1) : eqR (oEnd h n) (oEnd h1 n) := by
  rw [hi_glue hh]
  exact eqR_ite Iff.rfl (⟨rfl, fun _ _ => rfl, fun _ _ => rfl, fun b hb => by rcases hb with rfl | rfl | rfl | rfl | rfl | rfl | rfl | rfl | rfl <;> rfl⟩) (⟨rfl, fun _ _ => rfl, fun _ _ => rfl, fun b hb => by rcases hb with rfl | rfl | rfl | rfl | rfl | rfl | rfl | rfl | rfl <;> rfl⟩)
theorem lo_end {h : jH} {n : Int32} : lo h (oEnd h n).2 := lo_iteR (lo_up (by omega)) (lo.rf)
set_option maxHeartbeats 400000 in
theorem e_fault {h h1 : jH} (hh : hi h h1) : eqR (oFault h ) (oFault h1 ) := by
  rw [hi_glue hh]
  exact ⟨rfl, fun _ _ => rfl, fun _ _ => rfl, fun b hb => by rcases hb with rfl | rfl | rfl | rfl | rfl | rfl | rfl | rfl | rfl <;> rfl⟩
theorem lo_fault {h : jH} : lo h (oFault h ).2 := lo.rf
set_option maxHeartbeats 400000 in
theorem e_alter {h h1 : jH} {p t v : Int32} (hh : hi h h1) : eqR (oAlter h p t v) (oAlter h1 p t v) := by
  rw [hi_glue hh]
  exact eqR_ite Iff.rfl (⟨rfl, fun _ _ => rfl, fun _ _ => rfl, fun b hb => by rcases hb with rfl | rfl | rfl | rfl | rfl | rfl | rfl | rfl | rfl <;> rfl⟩) (⟨rfl, fun _ _ => rfl, fun _ _ => rfl, fun b hb => by rcases hb with rfl | rfl | rfl | rfl | rfl | rfl | rfl | rfl | rfl <;> rfl⟩)
theorem lo_alter {h : jH} {p t v : Int32} : lo h (oAlter h p t v).2 := lo_iteR (lo_mset) (lo.rf)
set_option maxHeartbeats 400000 in
theorem e_sign {h h1 : jH} {c t v : Int32} (hh : hi h h1) : eqR (oSign h c t v) (oSign h1 c t v) := by
  rw [hi_glue hh]
  exact eqR_ite Iff.rfl (⟨rfl, fun _ _ => rfl, fun _ _ => rfl, fun b hb => by rcases hb with rfl | rfl | rfl | rfl | rfl | rfl | rfl | rfl | rfl <;> rfl⟩) (⟨rfl, fun _ _ => rfl, fun _ _ => rfl, fun b hb => by rcases hb with rfl | rfl | rfl | rfl | rfl | rfl | rfl | rfl | rfl <;> rfl⟩)
theorem lo_sign {h : jH} {c t v : Int32} : lo h (oSign h c t v).2 := lo_iteR (lo_mset) (lo.rf)
set_option maxHeartbeats 400000 in
theorem e_insure {h h1 : jH} {p q w x y : Int32} (hh : hi h h1) : eqR (oInsure h p q w x y) (oInsure h1 p q w x y) := by
  rw [hi_glue hh]
  exact eqR_ite Iff.rfl (eqR_ite Iff.rfl (⟨rfl, fun _ _ => rfl, fun _ _ => rfl, fun b hb => by rcases hb with rfl | rfl | rfl | rfl | rfl | rfl | rfl | rfl | rfl <;> rfl⟩) (⟨rfl, fun _ _ => rfl, fun _ _ => rfl, fun b hb => by rcases hb with rfl | rfl | rfl | rfl | rfl | rfl | rfl | rfl | rfl <;> rfl⟩)) (⟨rfl, fun _ _ => rfl, fun _ _ => rfl, fun b hb => by rcases hb with rfl | rfl | rfl | rfl | rfl | rfl | rfl | rfl | rfl <;> rfl⟩)
theorem lo_insure {h : jH} {p q w x y : Int32} : lo h (oInsure h p q w x y).2 := lo_iteR (lo_iteR (lo.rf) (lo_mset)) (lo.rf)
set_option maxHeartbeats 400000 in
theorem e_drop {h h1 : jH} {c : Int32} (hh : hi h h1) : eqR (oDrop h c) (oDrop h1 c) := by
  rw [hi_glue hh]
  exact eqR_ite Iff.rfl (⟨rfl, fun _ _ => rfl, fun _ _ => rfl, fun b hb => by rcases hb with rfl | rfl | rfl | rfl | rfl | rfl | rfl | rfl | rfl <;> rfl⟩) (⟨rfl, fun _ _ => rfl, fun _ _ => rfl, fun b hb => by rcases hb with rfl | rfl | rfl | rfl | rfl | rfl | rfl | rfl | rfl <;> rfl⟩)
theorem lo_drop {h : jH} {c : Int32} : lo h (oDrop h c).2 := lo_iteR (lo_mset) (lo.rf)
set_option maxHeartbeats 400000 in
theorem e_shift {h h1 : jH} {w u : Int32} (hh : hi h h1) : eqR (oShift h w u) (oShift h1 w u) := by
  rw [hi_glue hh]
  exact eqR_ite Iff.rfl (eqR_ite Iff.rfl (⟨rfl, fun _ _ => rfl, fun _ _ => rfl, fun b hb => by rcases hb with rfl | rfl | rfl | rfl | rfl | rfl | rfl | rfl | rfl <;> rfl⟩) (⟨rfl, fun _ _ => rfl, fun _ _ => rfl, fun b hb => by rcases hb with rfl | rfl | rfl | rfl | rfl | rfl | rfl | rfl | rfl <;> rfl⟩)) (⟨rfl, fun _ _ => rfl, fun _ _ => rfl, fun b hb => by rcases hb with rfl | rfl | rfl | rfl | rfl | rfl | rfl | rfl | rfl <;> rfl⟩)
theorem lo_shift {h : jH} {w u : Int32} : lo h (oShift h w u).2 := lo_iteR (lo_iteR (lo.rf) (lo_mset)) (lo.rf)
set_option maxHeartbeats 400000 in
theorem e_floor {h h1 : jH} {v : Int32} (hh : hi h h1) : eqR (oFloor h v) (oFloor h1 v) := by
  rw [hi_glue hh]
  exact eqR_ite Iff.rfl (⟨rfl, fun _ _ => rfl, fun _ _ => rfl, fun b hb => by rcases hb with rfl | rfl | rfl | rfl | rfl | rfl | rfl | rfl | rfl <;> rfl⟩) (⟨rfl, fun _ _ => rfl, fun _ _ => rfl, fun b hb => by rcases hb with rfl | rfl | rfl | rfl | rfl | rfl | rfl | rfl | rfl <;> rfl⟩)
theorem lo_floor {h : jH} {v : Int32} : lo h (oFloor h v).2 := lo_iteR (lo_mset) (lo.rf)
set_option maxHeartbeats 400000 in
theorem e_plan {h h1 : jH} {w : Int32} (hh : hi h h1) : eqR (oPlan h w) (oPlan h1 w) := by
  rw [hi_glue hh]
  exact eqR_ite Iff.rfl (eqR_ite Iff.rfl (⟨rfl, fun _ _ => rfl, fun _ _ => rfl, fun b hb => by rcases hb with rfl | rfl | rfl | rfl | rfl | rfl | rfl | rfl | rfl <;> rfl⟩) (⟨rfl, fun _ _ => rfl, fun _ _ => rfl, fun b hb => by rcases hb with rfl | rfl | rfl | rfl | rfl | rfl | rfl | rfl | rfl <;> rfl⟩)) (⟨rfl, fun _ _ => rfl, fun _ _ => rfl, fun b hb => by rcases hb with rfl | rfl | rfl | rfl | rfl | rfl | rfl | rfl | rfl <;> rfl⟩)
theorem lo_plan {h : jH} {w : Int32} : lo h (oPlan h w).2 := lo_iteR (lo_iteR (lo.rf) (lo_mset)) (lo.rf)
set_option maxHeartbeats 400000 in
theorem e_cut {h h1 : jH} {n : Int32} (hh : hi h h1) : eqR (oCut h n) (oCut h1 n) := by
  rw [hi_glue hh]
  exact eqR_ite Iff.rfl (⟨rfl, fun _ _ => rfl, fun _ _ => rfl, fun b hb => by rcases hb with rfl | rfl | rfl | rfl | rfl | rfl | rfl | rfl | rfl <;> rfl⟩) (⟨rfl, fun _ _ => rfl, fun _ _ => rfl, fun b hb => by rcases hb with rfl | rfl | rfl | rfl | rfl | rfl | rfl | rfl | rfl <;> rfl⟩)
theorem lo_cut {h : jH} {n : Int32} : lo h (oCut h n).2 := lo_iteR (lo_mset) (lo.rf)
set_option maxHeartbeats 400000 in
theorem e_week {h h1 : jH} {w : Int32} (hh : hi h h1) : eqR (oWeek h w) (oWeek h1 w) := by
  rw [hi_glue hh]
  exact eqR_ite Iff.rfl (eqR_ite Iff.rfl (⟨rfl, fun _ _ => rfl, fun _ _ => rfl, fun b hb => by rcases hb with rfl | rfl | rfl | rfl | rfl | rfl | rfl | rfl | rfl <;> rfl⟩) (⟨rfl, fun _ _ => rfl, fun _ _ => rfl, fun b hb => by rcases hb with rfl | rfl | rfl | rfl | rfl | rfl | rfl | rfl | rfl <;> rfl⟩)) (⟨rfl, fun _ _ => rfl, fun _ _ => rfl, fun b hb => by rcases hb with rfl | rfl | rfl | rfl | rfl | rfl | rfl | rfl | rfl <;> rfl⟩)
theorem lo_week {h : jH} {w : Int32} : lo h (oWeek h w).2 := lo_iteR (lo_iteR (lo.rf) (lo_mset)) (lo.rf)
set_option maxHeartbeats 400000 in
theorem e_runs {h h1 : jH} {x : Int32} (hh : hi h h1) : eqR (oRuns h x) (oRuns h1 x) := by
  rw [hi_glue hh]
  exact ⟨rfl, fun _ _ => rfl, fun _ _ => rfl, fun b hb => by rcases hb with rfl | rfl | rfl | rfl | rfl | rfl | rfl | rfl | rfl <;> rfl⟩
set_option maxHeartbeats 400000 in
theorem e_ahead {h h1 : jH} {p : Int32} (hh : hi h h1) : eqR (oAhead h p) (oAhead h1 p) := by
  rw [hi_glue hh]
  exact eqR_ite Iff.rfl (⟨rfl, fun _ _ => rfl, fun _ _ => rfl, fun b hb => by rcases hb with rfl | rfl | rfl | rfl | rfl | rfl | rfl | rfl | rfl <;> rfl⟩) (⟨rfl, fun _ _ => rfl, fun _ _ => rfl, fun b hb => by rcases hb with rfl | rfl | rfl | rfl | rfl | rfl | rfl | rfl | rfl <;> rfl⟩)
set_option maxHeartbeats 400000 in
theorem e_least {h h1 : jH} {p n x : Int32} (hh : hi h h1) : eqR (oLeast h p n x) (oLeast h1 p n x) := by
  rw [hi_glue hh]
  exact eqR_ite Iff.rfl (⟨rfl, fun _ _ => rfl, fun _ _ => rfl, fun b hb => by rcases hb with rfl | rfl | rfl | rfl | rfl | rfl | rfl | rfl | rfl <;> rfl⟩) (⟨rfl, fun _ _ => rfl, fun _ _ => rfl, fun b hb => by rcases hb with rfl | rfl | rfl | rfl | rfl | rfl | rfl | rfl | rfl <;> rfl⟩)
set_option maxHeartbeats 400000 in
theorem e_safe {h h1 : jH} {n : Int32} (hh : hi h h1) : eqR (oSafe h n) (oSafe h1 n) := by
  rw [hi_glue hh]
  exact eqR_ite Iff.rfl (⟨rfl, fun _ _ => rfl, fun _ _ => rfl, fun b hb => by rcases hb with rfl | rfl | rfl | rfl | rfl | rfl | rfl | rfl | rfl <;> rfl⟩) (⟨rfl, fun _ _ => rfl, fun _ _ => rfl, fun b hb => by rcases hb with rfl | rfl | rfl | rfl | rfl | rfl | rfl | rfl | rfl <;> rfl⟩)
set_option maxHeartbeats 400000 in
theorem e_help {h h1 : jH} {p x : Int32} (hh : hi h h1) : eqR (oHelp h p x) (oHelp h1 p x) := by
  rw [hi_glue hh]
  exact eqR_ite Iff.rfl (eqR_ite Iff.rfl (⟨rfl, fun _ _ => rfl, fun _ _ => rfl, fun b hb => by rcases hb with rfl | rfl | rfl | rfl | rfl | rfl | rfl | rfl | rfl <;> rfl⟩) (⟨rfl, fun _ _ => rfl, fun _ _ => rfl, fun b hb => by rcases hb with rfl | rfl | rfl | rfl | rfl | rfl | rfl | rfl | rfl <;> rfl⟩)) (⟨rfl, fun _ _ => rfl, fun _ _ => rfl, fun b hb => by rcases hb with rfl | rfl | rfl | rfl | rfl | rfl | rfl | rfl | rfl <;> rfl⟩)
set_option maxHeartbeats 400000 in
theorem e_spare {h h1 : jH} {x : Int32} (hh : hi h h1) : eqR (oSpare h x) (oSpare h1 x) := by
  rw [hi_glue hh]
  exact eqR_ite Iff.rfl (⟨rfl, fun _ _ => rfl, fun _ _ => rfl, fun b hb => by rcases hb with rfl | rfl | rfl | rfl | rfl | rfl | rfl | rfl | rfl <;> rfl⟩) (⟨rfl, fun _ _ => rfl, fun _ _ => rfl, fun b hb => by rcases hb with rfl | rfl | rfl | rfl | rfl | rfl | rfl | rfl | rfl <;> rfl⟩)
set_option maxHeartbeats 400000 in
theorem e_dear {h h1 : jH} {x : Int32} (hh : hi h h1) : eqR (oDear h x) (oDear h1 x) := by
  rw [hi_glue hh]
  exact eqR_ite Iff.rfl (⟨rfl, fun _ _ => rfl, fun _ _ => rfl, fun b hb => by rcases hb with rfl | rfl | rfl | rfl | rfl | rfl | rfl | rfl | rfl <;> rfl⟩) (⟨rfl, fun _ _ => rfl, fun _ _ => rfl, fun b hb => by rcases hb with rfl | rfl | rfl | rfl | rfl | rfl | rfl | rfl | rfl <;> rfl⟩)
set_option maxHeartbeats 400000 in
theorem e_pays {h h1 : jH} (hh : hi h h1) : eqR (oPays h ) (oPays h1 ) := by
  rw [hi_glue hh]
  exact ⟨rfl, fun _ _ => rfl, fun _ _ => rfl, fun b hb => by rcases hb with rfl | rfl | rfl | rfl | rfl | rfl | rfl | rfl | rfl <;> rfl⟩
set_option maxHeartbeats 400000 in
theorem e_forgive {h h1 : jH} (hh : hi h h1) : eqR (oForgive h ) (oForgive h1 ) := by
  rw [hi_glue hh]
  exact ⟨rfl, fun _ _ => rfl, fun _ _ => rfl, fun b hb => by rcases hb with rfl | rfl | rfl | rfl | rfl | rfl | rfl | rfl | rfl <;> rfl⟩
theorem lo_forgive {h : jH} : lo h (oForgive h ).2 := lo_mset
set_option maxHeartbeats 400000 in
theorem e_see {h h1 : jH} {p n v : Int32} (hh : hi h h1) : eqR (oSee h p n v) (oSee h1 p n v) := by
  rw [hi_glue hh]
  exact eqR_ite Iff.rfl (eqR_ite Iff.rfl (⟨rfl, fun _ _ => rfl, fun _ _ => rfl, fun b hb => by rcases hb with rfl | rfl | rfl | rfl | rfl | rfl | rfl | rfl | rfl <;> rfl⟩) (⟨rfl, fun _ _ => rfl, fun _ _ => rfl, fun b hb => by rcases hb with rfl | rfl | rfl | rfl | rfl | rfl | rfl | rfl | rfl <;> rfl⟩)) (⟨rfl, fun _ _ => rfl, fun _ _ => rfl, fun b hb => by rcases hb with rfl | rfl | rfl | rfl | rfl | rfl | rfl | rfl | rfl <;> rfl⟩)
theorem lo_see {h : jH} {p n v : Int32} : lo h (oSee h p n v).2 := lo_iteR (lo_iteR (lo.rf) (((((lo_up (by omega)).tr (lo_up (by omega))).tr (lo_up (by omega))).tr (lo_up (by omega))))) (lo.rf)
set_option maxHeartbeats 400000 in
theorem e_forget {h h1 : jH} {n : Int32} (hh : hi h h1) : eqR (oForget h n) (oForget h1 n) := by
  rw [hi_glue hh]
  exact eqR_ite Iff.rfl (⟨rfl, fun _ _ => rfl, fun _ _ => rfl, fun b hb => by rcases hb with rfl | rfl | rfl | rfl | rfl | rfl | rfl | rfl | rfl <;> rfl⟩) (⟨rfl, fun _ _ => rfl, fun _ _ => rfl, fun b hb => by rcases hb with rfl | rfl | rfl | rfl | rfl | rfl | rfl | rfl | rfl <;> rfl⟩)
theorem lo_forget {h : jH} {n : Int32} : lo h (oForget h n).2 := lo_iteR (lo_up (by omega)) (lo.rf)
set_option maxHeartbeats 400000 in
theorem e_fits {h h1 : jH} {x : Int32} (hh : hi h h1) : eqR (oFits h x) (oFits h1 x) := by
  rw [hi_glue hh]
  exact eqR_ite Iff.rfl (⟨rfl, fun _ _ => rfl, fun _ _ => rfl, fun b hb => by rcases hb with rfl | rfl | rfl | rfl | rfl | rfl | rfl | rfl | rfl <;> rfl⟩) (⟨rfl, fun _ _ => rfl, fun _ _ => rfl, fun b hb => by rcases hb with rfl | rfl | rfl | rfl | rfl | rfl | rfl | rfl | rfl <;> rfl⟩)
set_option maxHeartbeats 400000 in
theorem e_look {h h1 : jH} {x : Int32} (hh : hi h h1) : eqR (oLook h x) (oLook h1 x) := by
  rw [hi_glue hh]
  exact eqR_ite Iff.rfl (⟨rfl, fun _ _ => rfl, fun _ _ => rfl, fun b hb => by rcases hb with rfl | rfl | rfl | rfl | rfl | rfl | rfl | rfl | rfl <;> rfl⟩) (⟨rfl, fun _ _ => rfl, fun _ _ => rfl, fun b hb => by rcases hb with rfl | rfl | rfl | rfl | rfl | rfl | rfl | rfl | rfl <;> rfl⟩)
set_option maxHeartbeats 400000 in
theorem e_drift {h h1 : jH} {s n x : Int32} (hh : hi h h1) : eqR (oDrift h s n x) (oDrift h1 s n x) := by
  rw [hi_glue hh]
  exact eqR_ite Iff.rfl (⟨rfl, fun _ _ => rfl, fun _ _ => rfl, fun b hb => by rcases hb with rfl | rfl | rfl | rfl | rfl | rfl | rfl | rfl | rfl <;> rfl⟩) (⟨rfl, fun _ _ => rfl, fun _ _ => rfl, fun b hb => by rcases hb with rfl | rfl | rfl | rfl | rfl | rfl | rfl | rfl | rfl <;> rfl⟩)
set_option maxHeartbeats 400000 in
theorem e_keep {h h1 : jH} {k : Int32} (hh : hi h h1) : eqR (oKeep h k) (oKeep h1 k) := by
  rw [hi_glue hh]
  exact eqR_ite Iff.rfl (⟨rfl, fun _ _ => rfl, fun _ _ => rfl, fun b hb => by rcases hb with rfl | rfl | rfl | rfl | rfl | rfl | rfl | rfl | rfl <;> rfl⟩) (⟨rfl, fun _ _ => rfl, fun _ _ => rfl, fun b hb => by rcases hb with rfl | rfl | rfl | rfl | rfl | rfl | rfl | rfl | rfl <;> rfl⟩)
theorem lo_keep {h : jH} {k : Int32} : lo h (oKeep h k).2 := lo_iteR (lo_mset.tr (lo_up (by omega))) (lo.rf)
set_option maxHeartbeats 400000 in
theorem e_back {h h1 : jH} {k : Int32} (hh : hi h h1) : eqR (oBack h k) (oBack h1 k) := by
  rw [hi_glue hh]
  exact eqR_ite Iff.rfl (eqR_ite Iff.rfl (⟨rfl, fun _ _ => rfl, fun _ _ => rfl, fun b hb => by rcases hb with rfl | rfl | rfl | rfl | rfl | rfl | rfl | rfl | rfl <;> rfl⟩) (⟨rfl, fun _ _ => rfl, fun _ _ => rfl, fun b hb => by rcases hb with rfl | rfl | rfl | rfl | rfl | rfl | rfl | rfl | rfl <;> rfl⟩)) (⟨rfl, fun _ _ => rfl, fun _ _ => rfl, fun b hb => by rcases hb with rfl | rfl | rfl | rfl | rfl | rfl | rfl | rfl | rfl <;> rfl⟩)
theorem lo_back {h : jH} {k : Int32} : lo h (oBack h k).2 := lo_iteR (lo_iteR (lo.rf) (lo_mset)) (lo.rf)
set_option maxHeartbeats 400000 in
theorem e_sheet {h h1 : jH} {k l n : Int32} (hh : hi h h1) : eqR (oSheet h k l n) (oSheet h1 k l n) := by
  rw [hi_glue hh]
  exact eqR_ite Iff.rfl (eqR_ite Iff.rfl (⟨rfl, fun _ _ => rfl, fun _ _ => rfl, fun b hb => by rcases hb with rfl | rfl | rfl | rfl | rfl | rfl | rfl | rfl | rfl <;> rfl⟩) (⟨rfl, fun _ _ => rfl, fun _ _ => rfl, fun b hb => by rcases hb with rfl | rfl | rfl | rfl | rfl | rfl | rfl | rfl | rfl <;> rfl⟩)) (⟨rfl, fun _ _ => rfl, fun _ _ => rfl, fun b hb => by rcases hb with rfl | rfl | rfl | rfl | rfl | rfl | rfl | rfl | rfl <;> rfl⟩)
theorem lo_sheet {h : jH} {k l n : Int32} : lo h (oSheet h k l n).2 := lo_iteR (lo_iteR (((lo_up (by omega)).tr (lo_up (by omega))).tr lo_zcH) (lo.rf)) (lo.rf)
set_option maxHeartbeats 400000 in
theorem e_lay {h h1 : jH} {k i v : Int32} (hh : hi h h1) : eqR (oLay h k i v) (oLay h1 k i v) := by
  rw [hi_glue hh]
  exact eqR_ite Iff.rfl (eqR_ite Iff.rfl (⟨rfl, fun _ _ => rfl, fun _ _ => rfl, fun b hb => by rcases hb with rfl | rfl | rfl | rfl | rfl | rfl | rfl | rfl | rfl <;> rfl⟩) (eqR_ite Iff.rfl (⟨rfl, fun _ _ => rfl, fun _ _ => rfl, fun b hb => by rcases hb with rfl | rfl | rfl | rfl | rfl | rfl | rfl | rfl | rfl <;> rfl⟩) (⟨rfl, fun _ _ => rfl, fun _ _ => rfl, fun b hb => by rcases hb with rfl | rfl | rfl | rfl | rfl | rfl | rfl | rfl | rfl <;> rfl⟩))) (⟨rfl, fun _ _ => rfl, fun _ _ => rfl, fun b hb => by rcases hb with rfl | rfl | rfl | rfl | rfl | rfl | rfl | rfl | rfl <;> rfl⟩)
theorem lo_lay {h : jH} {k i v : Int32} : lo h (oLay h k i v).2 := lo_iteR (lo_iteR (lo.rf) (lo_iteR (lo_up (by omega)) (lo.rf))) (lo.rf)
set_option maxHeartbeats 400000 in
theorem e_torn {h h1 : jH} (hh : hi h h1) : eqR (oTorn h ) (oTorn h1 ) := by
  rw [hi_glue hh]
  exact ⟨rfl, fun _ _ => rfl, fun _ _ => rfl, fun b hb => by rcases hb with rfl | rfl | rfl | rfl | rfl | rfl | rfl | rfl | rfl <;> rfl⟩
theorem lo_torn {h : jH} : lo h (oTorn h ).2 := lo.rf
set_option maxHeartbeats 400000 in
theorem e_count {h h1 : jH} {x : Int32} (hh : hi h h1) : eqR (oCount h x) (oCount h1 x) := by
  rw [hi_glue hh]
  exact ⟨rfl, fun _ _ => rfl, fun _ _ => rfl, fun b hb => by rcases hb with rfl | rfl | rfl | rfl | rfl | rfl | rfl | rfl | rfl <;> rfl⟩
theorem lo_count {h : jH} {x : Int32} : lo h (oCount h x).2 := lo.rf
set_option maxHeartbeats 400000 in
theorem e_text {h h1 : jH} (hh : hi h h1) : eqR (oText h ) (oText h1 ) := by
  rw [hi_glue hh]
  exact eqR_ite Iff.rfl (⟨rfl, fun _ _ => rfl, fun _ _ => rfl, fun b hb => by rcases hb with rfl | rfl | rfl | rfl | rfl | rfl | rfl | rfl | rfl <;> rfl⟩) (⟨rfl, fun _ _ => rfl, fun _ _ => rfl, fun b hb => by rcases hb with rfl | rfl | rfl | rfl | rfl | rfl | rfl | rfl | rfl <;> rfl⟩)
set_option maxHeartbeats 400000 in
theorem e_read {h h1 : jH} {k l f n : Int32} (hh : hi h h1) : eqR (oRead h k l f n) (oRead h1 k l f n) := by
  have e : oRead h1 k l f n = iteR (nb 4 k ∧ nb 3 l ∧ nI 0 ≤ n ∧ n ≤ nI 20) (rdO h1 (rdF (ix (h 131 2)) (fun i => h 145 (40 * ix k + ix (f + nI i))) (fun i => fltM (h 143 (ix k)) l (ix (h 144 (ix k))) (f + nI i)) (ix n) 0 (pg h 0))) (-1, h1) := by
    rw [oRead, hh 131 (by omega), hh 145 (by omega), hh 143 (by omega), hh 144 (by omega), show pg h1 0 = pg h 0 from funext fun k => by rw [pg0, pg0, hh 132 (by omega)]]
  rw [e]
  refine eqR_ite Iff.rfl (eqR_rd hh) ?_
  rw [hi_glue hh]
  exact ⟨rfl, fun _ _ => rfl, fun _ _ => rfl, fun b hb => by rcases hb with rfl | rfl | rfl | rfl | rfl | rfl | rfl | rfl | rfl <;> rfl⟩
set_option maxHeartbeats 400000 in
theorem e_mean {h h1 : jH} {p n x : Int32} (hh : hi h h1) : qMean h p n x = qMean h1 p n x := by
  rw [hi_glue hh]
  rfl
set_option maxHeartbeats 400000 in
theorem e_luck {h h1 : jH} {p n x : Int32} (hh : hi h h1) : qLuck h p n x = qLuck h1 p n x := by
  rw [hi_glue hh]
  rfl
set_option maxHeartbeats 400000 in
theorem e_forecast {h h1 : jH} {p x : Int32} (hh : hi h h1) : qForecast h p x = qForecast h1 p x := by
  rw [hi_glue hh]
  rfl
set_option maxHeartbeats 400000 in
theorem law_0 {g : jG} {nm : String} {h : jH} {i : Nat} {Q : kQ} (hR : RX h h) (hL : sL g ≤ 384) (hi6 : i + 6 ≤ sL g) (kx : ∀ h2, RX h2 h2 → K g 14 (YL nm) h2 1536 [(0, .ref 500000), (1, .ref 0), (2, .ref 131), (3, .int (nI i))] [] Q) : K g 14 (YL nm) h 228 [(0, .ref 500000), (1, .ref 0), (2, .ref 131), (3, .int (nI i))] [] Q := by
  refine J_aload_n (pc := 228) dL_law_228 rfl ?_
  refine J_aload_n (pc := 229) dL_law_229 rfl ?_
  refine J_iload_n (pc := 230) dL_law_230 rfl ?_
  refine J_iconst (pc := 231) (v := nI 1) dL_law_231 (by decide) ?_
  refine J_iadd (pc := 232) dL_law_232 (nI_add _ _) ?_
  refine J_sald (pc := 233) dL_law_233 (rfl) (by omega) hL ?_
  refine K_Vi1 (pc := 234) (Y' := YX5_feed) dL_law_234 lL_13 mX5_feed vX5_feed ⟨_, _, rfl⟩ sh0 (Nat.le_of_ble_eq_true rfl) (c5_feed (a := h) hR) ?_
  rintro r1 h1 ⟨a1, eo, R1, hh⟩
  have M1 := MR_same hR.mr hh.same
  refine J_aload_n (pc := 237) dL_law_237 rfl ?_
  refine J_aload_n (pc := 238) dL_law_238 rfl ?_
  refine J_iload_n (pc := 239) dL_law_239 rfl ?_
  refine J_iconst (pc := 240) (v := nI 1) dL_law_240 (by decide) ?_
  refine J_iadd (pc := 241) dL_law_241 (nI_add _ _) ?_
  refine J_sald (pc := 242) dL_law_242 (rfl) (by omega) hL ?_
  refine K_Vi1 (pc := 243) (Y' := YX6_feed) dL_law_243 lL_17 mX6_feed vX6_feed ⟨_, _, rfl⟩ sh131 (Nat.le_of_ble_eq_true rfl) (c6_feed M1) ?_
  rintro r2 h2 e6
  obtain ⟨ee, R2⟩ := fin_e eo (e_feed hh) e6 lo_feed R1
  refine J_icmp_eq (pc := 246) (tgt := 1536) dL_law_246 (by decide) (fun c246 => ?_) (fun c246 => ?_)
  · skip
    refine J_ls (ls' := [(0, .ref 500000), (1, .ref 0), (2, .ref 131), (3, .int (nI i))]) ⟨rfl, rfl, rfl, rfl, trivial⟩ ?_
    exact kx h2 R2
  · skip
    exact absurd ee c246
set_option maxHeartbeats 400000 in
theorem law_1 {g : jG} {nm : String} {h : jH} {i : Nat} {Q : kQ} (hR : RX h h) (hL : sL g ≤ 384) (hi6 : i + 6 ≤ sL g) (kx : ∀ h2, RX h2 h2 → K g 14 (YL nm) h2 1536 [(0, .ref 500000), (1, .ref 0), (2, .ref 131), (3, .int (nI i))] [] Q) : K g 14 (YL nm) h 251 [(0, .ref 500000), (1, .ref 0), (2, .ref 131), (3, .int (nI i))] [] Q := by
  refine J_aload_n (pc := 251) dL_law_251 rfl ?_
  refine J_aload_n (pc := 252) dL_law_252 rfl ?_
  refine J_iload_n (pc := 253) dL_law_253 rfl ?_
  refine J_iconst (pc := 254) (v := nI 1) dL_law_254 (by decide) ?_
  refine J_iadd (pc := 255) dL_law_255 (nI_add _ _) ?_
  refine J_sald (pc := 256) dL_law_256 (rfl) (by omega) hL ?_
  refine K_Vi1 (pc := 257) (Y' := YX5_end) dL_law_257 lL_18 mX5_end vX5_end ⟨_, _, rfl⟩ sh0 (Nat.le_of_ble_eq_true rfl) (c5_end (a := h) hR) ?_
  rintro r1 h1 ⟨a1, eo, R1, hh⟩
  have M1 := MR_same hR.mr hh.same
  refine J_aload_n (pc := 260) dL_law_260 rfl ?_
  refine J_aload_n (pc := 261) dL_law_261 rfl ?_
  refine J_iload_n (pc := 262) dL_law_262 rfl ?_
  refine J_iconst (pc := 263) (v := nI 1) dL_law_263 (by decide) ?_
  refine J_iadd (pc := 264) dL_law_264 (nI_add _ _) ?_
  refine J_sald (pc := 265) dL_law_265 (rfl) (by omega) hL ?_
  refine K_Vi1 (pc := 266) (Y' := YX6_end) dL_law_266 lL_21 mX6_end vX6_end ⟨_, _, rfl⟩ sh131 (Nat.le_of_ble_eq_true rfl) (c6_end M1) ?_
  rintro r2 h2 e6
  obtain ⟨ee, R2⟩ := fin_e eo (e_end hh) e6 lo_end R1
  refine J_icmp_eq (pc := 269) (tgt := 1536) dL_law_269 (by decide) (fun c269 => ?_) (fun c269 => ?_)
  · skip
    refine J_ls (ls' := [(0, .ref 500000), (1, .ref 0), (2, .ref 131), (3, .int (nI i))]) ⟨rfl, rfl, rfl, rfl, trivial⟩ ?_
    exact kx h2 R2
  · skip
    exact absurd ee c269
set_option maxHeartbeats 400000 in
theorem law_2 {g : jG} {nm : String} {h : jH} {i : Nat} {Q : kQ} (hR : RX h h) (hL : sL g ≤ 384) (hi6 : i + 6 ≤ sL g) (kx : ∀ h2, RX h2 h2 → K g 14 (YL nm) h2 1536 [(0, .ref 500000), (1, .ref 0), (2, .ref 131), (3, .int (nI i))] [] Q) : K g 14 (YL nm) h 274 [(0, .ref 500000), (1, .ref 0), (2, .ref 131), (3, .int (nI i))] [] Q := by
  refine J_aload_n (pc := 274) dL_law_274 rfl ?_
  refine K_Vi0 (pc := 275) (Y' := YX5_text) dL_law_275 lL_22 mX5_text vX5_text ⟨_, _, rfl⟩ sh0 (Nat.le_of_ble_eq_true rfl) (c5_text (a := h) hR) ?_
  rintro r1 h1 ⟨a1, eo, R1, hh⟩
  have M1 := MR_same hR.mr hh.same
  refine J_aload_n (pc := 278) dL_law_278 rfl ?_
  refine K_Vi0 (pc := 279) (Y' := YX6_text) dL_law_279 lL_26 mX6_text vX6_text ⟨_, _, rfl⟩ sh131 (Nat.le_of_ble_eq_true rfl) (c6_text M1 (fun i hi => by rw [hh 131 (by omega)] at hi; rw [hh 135 (by omega)]; exact (hR.2.2.1.2.2.1 i hi).2)) ?_
  rintro r2 h2 e6
  obtain ⟨ee, R2⟩ := fin_s eo (e_text hh) e6 R1
  refine J_icmp_eq (pc := 282) (tgt := 1536) dL_law_282 (by decide) (fun c282 => ?_) (fun c282 => ?_)
  · skip
    refine J_ls (ls' := [(0, .ref 500000), (1, .ref 0), (2, .ref 131), (3, .int (nI i))]) ⟨rfl, rfl, rfl, rfl, trivial⟩ ?_
    exact kx h2 R2
  · skip
    exact absurd ee c282
set_option maxHeartbeats 400000 in
theorem law_3 {g : jG} {nm : String} {h : jH} {i : Nat} {Q : kQ} (hR : RX h h) (hL : sL g ≤ 384) (hi6 : i + 6 ≤ sL g) (kx : ∀ h2, RX h2 h2 → K g 14 (YL nm) h2 1536 [(0, .ref 500000), (1, .ref 0), (2, .ref 131), (3, .int (nI i))] [] Q) : K g 14 (YL nm) h 287 [(0, .ref 500000), (1, .ref 0), (2, .ref 131), (3, .int (nI i))] [] Q := by
  refine J_aload_n (pc := 287) dL_law_287 rfl ?_
  refine K_Vi0 (pc := 288) (Y' := YX5_fault) dL_law_288 lL_27 mX5_fault vX5_fault ⟨_, _, rfl⟩ sh0 (Nat.le_of_ble_eq_true rfl) (c5_fault (a := h) hR) ?_
  rintro r1 h1 ⟨a1, eo, R1, hh⟩
  have M1 := MR_same hR.mr hh.same
  refine J_aload_n (pc := 291) dL_law_291 rfl ?_
  refine K_Vi0 (pc := 292) (Y' := YX6_fault) dL_law_292 lL_30 mX6_fault vX6_fault ⟨_, _, rfl⟩ sh131 (Nat.le_of_ble_eq_true rfl) (c6_fault M1) ?_
  rintro r2 h2 e6
  obtain ⟨ee, R2⟩ := fin_e eo (e_fault hh) e6 lo_fault R1
  refine J_icmp_eq (pc := 295) (tgt := 1536) dL_law_295 (by decide) (fun c295 => ?_) (fun c295 => ?_)
  · skip
    refine J_ls (ls' := [(0, .ref 500000), (1, .ref 0), (2, .ref 131), (3, .int (nI i))]) ⟨rfl, rfl, rfl, rfl, trivial⟩ ?_
    exact kx h2 R2
  · skip
    exact absurd ee c295
set_option maxHeartbeats 400000 in
theorem law_4 {g : jG} {nm : String} {h : jH} {i : Nat} {Q : kQ} (hR : RX h h) (hL : sL g ≤ 384) (hi6 : i + 6 ≤ sL g) (kx : ∀ h2, RX h2 h2 → K g 14 (YL nm) h2 1536 [(0, .ref 500000), (1, .ref 0), (2, .ref 131), (3, .int (nI i))] [] Q) : K g 14 (YL nm) h 300 [(0, .ref 500000), (1, .ref 0), (2, .ref 131), (3, .int (nI i))] [] Q := by
  refine J_aload_n (pc := 300) dL_law_300 rfl ?_
  refine J_aload_n (pc := 301) dL_law_301 rfl ?_
  refine J_iload_n (pc := 302) dL_law_302 rfl ?_
  refine J_iconst (pc := 303) (v := nI 1) dL_law_303 (by decide) ?_
  refine J_iadd (pc := 304) dL_law_304 (nI_add _ _) ?_
  refine J_sald (pc := 305) dL_law_305 (rfl) (by omega) hL ?_
  refine K_Vi1 (pc := 306) (Y' := YX5_rule) dL_law_306 lL_31 mX5_rule vX5_rule ⟨_, _, rfl⟩ sh0 (Nat.le_of_ble_eq_true rfl) (c5_rule (a := h) hR) ?_
  rintro r1 h1 ⟨rfl, e1⟩
  refine J_aload_n (pc := 309) dL_law_309 rfl ?_
  refine J_aload_n (pc := 310) dL_law_310 rfl ?_
  refine J_iload_n (pc := 311) dL_law_311 rfl ?_
  refine J_iconst (pc := 312) (v := nI 1) dL_law_312 (by decide) ?_
  refine J_iadd (pc := 313) dL_law_313 (nI_add _ _) ?_
  refine J_sald (pc := 314) dL_law_314 (rfl) (by omega) hL ?_
  refine K_Vi1 (pc := 315) (Y' := YX6_rule) dL_law_315 lL_34 mX6_rule vX6_rule ⟨_, _, rfl⟩ sh131 (Nat.le_of_ble_eq_true rfl) (c6_rule hR.mr) ?_
  rintro r2 h2 ⟨rfl, e2⟩
  have ee : r1 = r2 := e1.trans e2.symm
  have R2 := hR
  refine J_icmp_eq (pc := 318) (tgt := 1536) dL_law_318 (by decide) (fun c318 => ?_) (fun c318 => ?_)
  · skip
    refine J_ls (ls' := [(0, .ref 500000), (1, .ref 0), (2, .ref 131), (3, .int (nI i))]) ⟨rfl, rfl, rfl, rfl, trivial⟩ ?_
    exact kx _ R2
  · skip
    exact absurd ee c318
set_option maxHeartbeats 400000 in
theorem law_5 {g : jG} {nm : String} {h : jH} {i : Nat} {Q : kQ} (hR : RX h h) (hL : sL g ≤ 384) (hi6 : i + 6 ≤ sL g) (kx : ∀ h2, RX h2 h2 → K g 14 (YL nm) h2 1536 [(0, .ref 500000), (1, .ref 0), (2, .ref 131), (3, .int (nI i))] [] Q) : K g 14 (YL nm) h 323 [(0, .ref 500000), (1, .ref 0), (2, .ref 131), (3, .int (nI i))] [] Q := by
  refine J_aload_n (pc := 323) dL_law_323 rfl ?_
  refine J_aload_n (pc := 324) dL_law_324 rfl ?_
  refine J_iload_n (pc := 325) dL_law_325 rfl ?_
  refine J_iconst (pc := 326) (v := nI 1) dL_law_326 (by decide) ?_
  refine J_iadd (pc := 327) dL_law_327 (nI_add _ _) ?_
  refine J_sald (pc := 328) dL_law_328 (rfl) (by omega) hL ?_
  refine J_aload_n (pc := 329) dL_law_329 rfl ?_
  refine J_iload_n (pc := 330) dL_law_330 rfl ?_
  refine J_iconst (pc := 331) (v := nI 2) dL_law_331 (by decide) ?_
  refine J_iadd (pc := 332) dL_law_332 (nI_add _ _) ?_
  refine J_sald (pc := 333) dL_law_333 (rfl) (by omega) hL ?_
  refine K_Vi2 (pc := 334) (Y' := YX5_one) dL_law_334 lL_35 mX5_one vX5_one ⟨_, _, rfl⟩ sh0 (Nat.le_of_ble_eq_true rfl) (c5_one (a := h) hR) ?_
  rintro r1 h1 ⟨rfl, e1⟩
  refine J_aload_n (pc := 337) dL_law_337 rfl ?_
  refine J_aload_n (pc := 338) dL_law_338 rfl ?_
  refine J_iload_n (pc := 339) dL_law_339 rfl ?_
  refine J_iconst (pc := 340) (v := nI 1) dL_law_340 (by decide) ?_
  refine J_iadd (pc := 341) dL_law_341 (nI_add _ _) ?_
  refine J_sald (pc := 342) dL_law_342 (rfl) (by omega) hL ?_
  refine J_aload_n (pc := 343) dL_law_343 rfl ?_
  refine J_iload_n (pc := 344) dL_law_344 rfl ?_
  refine J_iconst (pc := 345) (v := nI 2) dL_law_345 (by decide) ?_
  refine J_iadd (pc := 346) dL_law_346 (nI_add _ _) ?_
  refine J_sald (pc := 347) dL_law_347 (rfl) (by omega) hL ?_
  refine K_Vi2 (pc := 348) (Y' := YX6_one) dL_law_348 lL_39 mX6_one vX6_one ⟨_, _, rfl⟩ sh131 (Nat.le_of_ble_eq_true rfl) (c6_one hR.mr) ?_
  rintro r2 h2 ⟨rfl, e2⟩
  have ee : r1 = r2 := e1.trans e2.symm
  have R2 := hR
  refine J_icmp_eq (pc := 351) (tgt := 1536) dL_law_351 (by decide) (fun c351 => ?_) (fun c351 => ?_)
  · skip
    refine J_ls (ls' := [(0, .ref 500000), (1, .ref 0), (2, .ref 131), (3, .int (nI i))]) ⟨rfl, rfl, rfl, rfl, trivial⟩ ?_
    exact kx _ R2
  · skip
    exact absurd ee c351
set_option maxHeartbeats 400000 in
theorem law_6 {g : jG} {nm : String} {h : jH} {i : Nat} {Q : kQ} (hR : RX h h) (hL : sL g ≤ 384) (hi6 : i + 6 ≤ sL g) (kx : ∀ h2, RX h2 h2 → K g 14 (YL nm) h2 1536 [(0, .ref 500000), (1, .ref 0), (2, .ref 131), (3, .int (nI i))] [] Q) : K g 14 (YL nm) h 356 [(0, .ref 500000), (1, .ref 0), (2, .ref 131), (3, .int (nI i))] [] Q := by
  refine J_aload_n (pc := 356) dL_law_356 rfl ?_
  refine J_aload_n (pc := 357) dL_law_357 rfl ?_
  refine J_iload_n (pc := 358) dL_law_358 rfl ?_
  refine J_iconst (pc := 359) (v := nI 1) dL_law_359 (by decide) ?_
  refine J_iadd (pc := 360) dL_law_360 (nI_add _ _) ?_
  refine J_sald (pc := 361) dL_law_361 (rfl) (by omega) hL ?_
  refine J_aload_n (pc := 362) dL_law_362 rfl ?_
  refine J_iload_n (pc := 363) dL_law_363 rfl ?_
  refine J_iconst (pc := 364) (v := nI 2) dL_law_364 (by decide) ?_
  refine J_iadd (pc := 365) dL_law_365 (nI_add _ _) ?_
  refine J_sald (pc := 366) dL_law_366 (rfl) (by omega) hL ?_
  refine K_Vi2 (pc := 367) (Y' := YX5_gain) dL_law_367 lL_40 mX5_gain vX5_gain ⟨_, _, rfl⟩ sh0 (Nat.le_of_ble_eq_true rfl) (c5_gain (a := h) hR) ?_
  rintro r1 h1 ⟨rfl, e1⟩
  refine J_aload_n (pc := 370) dL_law_370 rfl ?_
  refine J_aload_n (pc := 371) dL_law_371 rfl ?_
  refine J_iload_n (pc := 372) dL_law_372 rfl ?_
  refine J_iconst (pc := 373) (v := nI 1) dL_law_373 (by decide) ?_
  refine J_iadd (pc := 374) dL_law_374 (nI_add _ _) ?_
  refine J_sald (pc := 375) dL_law_375 (rfl) (by omega) hL ?_
  refine J_aload_n (pc := 376) dL_law_376 rfl ?_
  refine J_iload_n (pc := 377) dL_law_377 rfl ?_
  refine J_iconst (pc := 378) (v := nI 2) dL_law_378 (by decide) ?_
  refine J_iadd (pc := 379) dL_law_379 (nI_add _ _) ?_
  refine J_sald (pc := 380) dL_law_380 (rfl) (by omega) hL ?_
  refine K_Vi2 (pc := 381) (Y' := YX6_gain) dL_law_381 lL_43 mX6_gain vX6_gain ⟨_, _, rfl⟩ sh131 (Nat.le_of_ble_eq_true rfl) (c6_gain hR.mr) ?_
  rintro r2 h2 ⟨rfl, e2⟩
  have ee : r1 = r2 := e1.trans e2.symm
  have R2 := hR
  refine J_icmp_eq (pc := 384) (tgt := 1536) dL_law_384 (by decide) (fun c384 => ?_) (fun c384 => ?_)
  · skip
    refine J_ls (ls' := [(0, .ref 500000), (1, .ref 0), (2, .ref 131), (3, .int (nI i))]) ⟨rfl, rfl, rfl, rfl, trivial⟩ ?_
    exact kx _ R2
  · skip
    exact absurd ee c384
set_option maxHeartbeats 400000 in
theorem law_7 {g : jG} {nm : String} {h : jH} {i : Nat} {Q : kQ} (hR : RX h h) (hL : sL g ≤ 384) (hi6 : i + 6 ≤ sL g) (kx : ∀ h2, RX h2 h2 → K g 14 (YL nm) h2 1536 [(0, .ref 500000), (1, .ref 0), (2, .ref 131), (3, .int (nI i))] [] Q) : K g 14 (YL nm) h 389 [(0, .ref 500000), (1, .ref 0), (2, .ref 131), (3, .int (nI i))] [] Q := by
  refine J_aload_n (pc := 389) dL_law_389 rfl ?_
  refine J_aload_n (pc := 390) dL_law_390 rfl ?_
  refine J_iload_n (pc := 391) dL_law_391 rfl ?_
  refine J_iconst (pc := 392) (v := nI 1) dL_law_392 (by decide) ?_
  refine J_iadd (pc := 393) dL_law_393 (nI_add _ _) ?_
  refine J_sald (pc := 394) dL_law_394 (rfl) (by omega) hL ?_
  refine J_aload_n (pc := 395) dL_law_395 rfl ?_
  refine J_iload_n (pc := 396) dL_law_396 rfl ?_
  refine J_iconst (pc := 397) (v := nI 2) dL_law_397 (by decide) ?_
  refine J_iadd (pc := 398) dL_law_398 (nI_add _ _) ?_
  refine J_sald (pc := 399) dL_law_399 (rfl) (by omega) hL ?_
  refine K_Vi2 (pc := 400) (Y' := YX5_cover) dL_law_400 lL_44 mX5_cover vX5_cover ⟨_, _, rfl⟩ sh0 (Nat.le_of_ble_eq_true rfl) (c5_cover (a := h) hR) ?_
  rintro r1 h1 ⟨rfl, e1⟩
  refine J_aload_n (pc := 403) dL_law_403 rfl ?_
  refine J_aload_n (pc := 404) dL_law_404 rfl ?_
  refine J_iload_n (pc := 405) dL_law_405 rfl ?_
  refine J_iconst (pc := 406) (v := nI 1) dL_law_406 (by decide) ?_
  refine J_iadd (pc := 407) dL_law_407 (nI_add _ _) ?_
  refine J_sald (pc := 408) dL_law_408 (rfl) (by omega) hL ?_
  refine J_aload_n (pc := 409) dL_law_409 rfl ?_
  refine J_iload_n (pc := 410) dL_law_410 rfl ?_
  refine J_iconst (pc := 411) (v := nI 2) dL_law_411 (by decide) ?_
  refine J_iadd (pc := 412) dL_law_412 (nI_add _ _) ?_
  refine J_sald (pc := 413) dL_law_413 (rfl) (by omega) hL ?_
  refine K_Vi2 (pc := 414) (Y' := YX6_cover) dL_law_414 lL_47 mX6_cover vX6_cover ⟨_, _, rfl⟩ sh131 (Nat.le_of_ble_eq_true rfl) (c6_cover hR.mr) ?_
  rintro r2 h2 ⟨rfl, e2⟩
  have ee : r1 = r2 := e1.trans e2.symm
  have R2 := hR
  refine J_icmp_eq (pc := 417) (tgt := 1536) dL_law_417 (by decide) (fun c417 => ?_) (fun c417 => ?_)
  · skip
    refine J_ls (ls' := [(0, .ref 500000), (1, .ref 0), (2, .ref 131), (3, .int (nI i))]) ⟨rfl, rfl, rfl, rfl, trivial⟩ ?_
    exact kx _ R2
  · skip
    exact absurd ee c417
set_option maxHeartbeats 400000 in
theorem law_8 {g : jG} {nm : String} {h : jH} {i : Nat} {Q : kQ} (hR : RX h h) (hL : sL g ≤ 384) (hi6 : i + 6 ≤ sL g) (kx : ∀ h2, RX h2 h2 → K g 14 (YL nm) h2 1536 [(0, .ref 500000), (1, .ref 0), (2, .ref 131), (3, .int (nI i))] [] Q) : K g 14 (YL nm) h 422 [(0, .ref 500000), (1, .ref 0), (2, .ref 131), (3, .int (nI i))] [] Q := by
  refine J_aload_n (pc := 422) dL_law_422 rfl ?_
  refine J_aload_n (pc := 423) dL_law_423 rfl ?_
  refine J_iload_n (pc := 424) dL_law_424 rfl ?_
  refine J_iconst (pc := 425) (v := nI 1) dL_law_425 (by decide) ?_
  refine J_iadd (pc := 426) dL_law_426 (nI_add _ _) ?_
  refine J_sald (pc := 427) dL_law_427 (rfl) (by omega) hL ?_
  refine K_Vi1 (pc := 428) (Y' := YX5_odds) dL_law_428 lL_48 mX5_odds vX5_odds ⟨_, _, rfl⟩ sh0 (Nat.le_of_ble_eq_true rfl) (c5_odds (a := h) hR) ?_
  rintro r1 h1 ⟨rfl, e1⟩
  refine J_aload_n (pc := 431) dL_law_431 rfl ?_
  refine J_aload_n (pc := 432) dL_law_432 rfl ?_
  refine J_iload_n (pc := 433) dL_law_433 rfl ?_
  refine J_iconst (pc := 434) (v := nI 1) dL_law_434 (by decide) ?_
  refine J_iadd (pc := 435) dL_law_435 (nI_add _ _) ?_
  refine J_sald (pc := 436) dL_law_436 (rfl) (by omega) hL ?_
  refine K_Vi1 (pc := 437) (Y' := YX6_odds) dL_law_437 lL_51 mX6_odds vX6_odds ⟨_, _, rfl⟩ sh131 (Nat.le_of_ble_eq_true rfl) (c6_odds) ?_
  rintro r2 h2 ⟨rfl, e2⟩
  have ee : r1 = r2 := e1.trans e2.symm
  have R2 := hR
  refine J_icmp_eq (pc := 440) (tgt := 1536) dL_law_440 (by decide) (fun c440 => ?_) (fun c440 => ?_)
  · skip
    refine J_ls (ls' := [(0, .ref 500000), (1, .ref 0), (2, .ref 131), (3, .int (nI i))]) ⟨rfl, rfl, rfl, rfl, trivial⟩ ?_
    exact kx _ R2
  · skip
    exact absurd ee c440
set_option maxHeartbeats 400000 in
theorem law_9 {g : jG} {nm : String} {h : jH} {i : Nat} {Q : kQ} (hR : RX h h) (hL : sL g ≤ 384) (hi6 : i + 6 ≤ sL g) (kx : ∀ h2, RX h2 h2 → K g 14 (YL nm) h2 1536 [(0, .ref 500000), (1, .ref 0), (2, .ref 131), (3, .int (nI i))] [] Q) : K g 14 (YL nm) h 445 [(0, .ref 500000), (1, .ref 0), (2, .ref 131), (3, .int (nI i))] [] Q := by
  refine J_aload_n (pc := 445) dL_law_445 rfl ?_
  refine J_aload_n (pc := 446) dL_law_446 rfl ?_
  refine J_iload_n (pc := 447) dL_law_447 rfl ?_
  refine J_iconst (pc := 448) (v := nI 1) dL_law_448 (by decide) ?_
  refine J_iadd (pc := 449) dL_law_449 (nI_add _ _) ?_
  refine J_sald (pc := 450) dL_law_450 (rfl) (by omega) hL ?_
  refine K_Vi1 (pc := 451) (Y' := YX5_sky) dL_law_451 lL_52 mX5_sky vX5_sky ⟨_, _, rfl⟩ sh0 (Nat.le_of_ble_eq_true rfl) (c5_sky (a := h) hR) ?_
  rintro r1 h1 ⟨rfl, e1⟩
  refine J_aload_n (pc := 454) dL_law_454 rfl ?_
  refine J_aload_n (pc := 455) dL_law_455 rfl ?_
  refine J_iload_n (pc := 456) dL_law_456 rfl ?_
  refine J_iconst (pc := 457) (v := nI 1) dL_law_457 (by decide) ?_
  refine J_iadd (pc := 458) dL_law_458 (nI_add _ _) ?_
  refine J_sald (pc := 459) dL_law_459 (rfl) (by omega) hL ?_
  refine K_Vi1 (pc := 460) (Y' := YX6_sky) dL_law_460 lL_55 mX6_sky vX6_sky ⟨_, _, rfl⟩ sh131 (Nat.le_of_ble_eq_true rfl) (c6_sky hR.mr) ?_
  rintro r2 h2 ⟨rfl, e2⟩
  have ee : r1 = r2 := e1.trans e2.symm
  have R2 := hR
  refine J_icmp_eq (pc := 463) (tgt := 1536) dL_law_463 (by decide) (fun c463 => ?_) (fun c463 => ?_)
  · skip
    refine J_ls (ls' := [(0, .ref 500000), (1, .ref 0), (2, .ref 131), (3, .int (nI i))]) ⟨rfl, rfl, rfl, rfl, trivial⟩ ?_
    exact kx _ R2
  · skip
    exact absurd ee c463
set_option maxHeartbeats 400000 in
theorem law_10 {g : jG} {nm : String} {h : jH} {i : Nat} {Q : kQ} (hR : RX h h) (hL : sL g ≤ 384) (hi6 : i + 6 ≤ sL g) (kx : ∀ h2, RX h2 h2 → K g 14 (YL nm) h2 1536 [(0, .ref 500000), (1, .ref 0), (2, .ref 131), (3, .int (nI i))] [] Q) : K g 14 (YL nm) h 468 [(0, .ref 500000), (1, .ref 0), (2, .ref 131), (3, .int (nI i))] [] Q := by
  refine J_aload_n (pc := 468) dL_law_468 rfl ?_
  refine J_aload_n (pc := 469) dL_law_469 rfl ?_
  refine J_iload_n (pc := 470) dL_law_470 rfl ?_
  refine J_iconst (pc := 471) (v := nI 1) dL_law_471 (by decide) ?_
  refine J_iadd (pc := 472) dL_law_472 (nI_add _ _) ?_
  refine J_sald (pc := 473) dL_law_473 (rfl) (by omega) hL ?_
  refine J_aload_n (pc := 474) dL_law_474 rfl ?_
  refine J_iload_n (pc := 475) dL_law_475 rfl ?_
  refine J_iconst (pc := 476) (v := nI 2) dL_law_476 (by decide) ?_
  refine J_iadd (pc := 477) dL_law_477 (nI_add _ _) ?_
  refine J_sald (pc := 478) dL_law_478 (rfl) (by omega) hL ?_
  refine K_Vi2 (pc := 479) (Y' := YX5_owed) dL_law_479 lL_56 mX5_owed vX5_owed ⟨_, _, rfl⟩ sh0 (Nat.le_of_ble_eq_true rfl) (c5_owed (a := h) hR) ?_
  rintro r1 h1 ⟨rfl, e1⟩
  refine J_aload_n (pc := 482) dL_law_482 rfl ?_
  refine J_aload_n (pc := 483) dL_law_483 rfl ?_
  refine J_iload_n (pc := 484) dL_law_484 rfl ?_
  refine J_iconst (pc := 485) (v := nI 1) dL_law_485 (by decide) ?_
  refine J_iadd (pc := 486) dL_law_486 (nI_add _ _) ?_
  refine J_sald (pc := 487) dL_law_487 (rfl) (by omega) hL ?_
  refine J_aload_n (pc := 488) dL_law_488 rfl ?_
  refine J_iload_n (pc := 489) dL_law_489 rfl ?_
  refine J_iconst (pc := 490) (v := nI 2) dL_law_490 (by decide) ?_
  refine J_iadd (pc := 491) dL_law_491 (nI_add _ _) ?_
  refine J_sald (pc := 492) dL_law_492 (rfl) (by omega) hL ?_
  refine K_Vi2 (pc := 493) (Y' := YX6_owed) dL_law_493 lL_59 mX6_owed vX6_owed ⟨_, _, rfl⟩ sh131 (Nat.le_of_ble_eq_true rfl) (c6_owed hR.mr) ?_
  rintro r2 h2 ⟨rfl, e2⟩
  have ee : r1 = r2 := e1.trans e2.symm
  have R2 := hR
  refine J_icmp_eq (pc := 496) (tgt := 1536) dL_law_496 (by decide) (fun c496 => ?_) (fun c496 => ?_)
  · skip
    refine J_ls (ls' := [(0, .ref 500000), (1, .ref 0), (2, .ref 131), (3, .int (nI i))]) ⟨rfl, rfl, rfl, rfl, trivial⟩ ?_
    exact kx _ R2
  · skip
    exact absurd ee c496
set_option maxHeartbeats 400000 in
theorem law_11 {g : jG} {nm : String} {h : jH} {i : Nat} {Q : kQ} (hR : RX h h) (hL : sL g ≤ 384) (hi6 : i + 6 ≤ sL g) (kx : ∀ h2, RX h2 h2 → K g 14 (YL nm) h2 1536 [(0, .ref 500000), (1, .ref 0), (2, .ref 131), (3, .int (nI i))] [] Q) : K g 14 (YL nm) h 501 [(0, .ref 500000), (1, .ref 0), (2, .ref 131), (3, .int (nI i))] [] Q := by
  refine J_aload_n (pc := 501) dL_law_501 rfl ?_
  refine J_aload_n (pc := 502) dL_law_502 rfl ?_
  refine J_iload_n (pc := 503) dL_law_503 rfl ?_
  refine J_iconst (pc := 504) (v := nI 1) dL_law_504 (by decide) ?_
  refine J_iadd (pc := 505) dL_law_505 (nI_add _ _) ?_
  refine J_sald (pc := 506) dL_law_506 (rfl) (by omega) hL ?_
  refine J_aload_n (pc := 507) dL_law_507 rfl ?_
  refine J_iload_n (pc := 508) dL_law_508 rfl ?_
  refine J_iconst (pc := 509) (v := nI 2) dL_law_509 (by decide) ?_
  refine J_iadd (pc := 510) dL_law_510 (nI_add _ _) ?_
  refine J_sald (pc := 511) dL_law_511 (rfl) (by omega) hL ?_
  refine J_aload_n (pc := 512) dL_law_512 rfl ?_
  refine J_iload_n (pc := 513) dL_law_513 rfl ?_
  refine J_iconst (pc := 514) (v := nI 3) dL_law_514 (by decide) ?_
  refine J_iadd (pc := 515) dL_law_515 (nI_add _ _) ?_
  refine J_sald (pc := 516) dL_law_516 (rfl) (by omega) hL ?_
  refine K_Vi3 (pc := 517) (Y' := YX5_alter) dL_law_517 lL_60 mX5_alter vX5_alter ⟨_, _, rfl⟩ sh0 (Nat.le_of_ble_eq_true rfl) (c5_alter (a := h) hR) ?_
  rintro r1 h1 ⟨a1, eo, R1, hh⟩
  have M1 := MR_same hR.mr hh.same
  refine J_aload_n (pc := 520) dL_law_520 rfl ?_
  refine J_aload_n (pc := 521) dL_law_521 rfl ?_
  refine J_iload_n (pc := 522) dL_law_522 rfl ?_
  refine J_iconst (pc := 523) (v := nI 1) dL_law_523 (by decide) ?_
  refine J_iadd (pc := 524) dL_law_524 (nI_add _ _) ?_
  refine J_sald (pc := 525) dL_law_525 (rfl) (by omega) hL ?_
  refine J_aload_n (pc := 526) dL_law_526 rfl ?_
  refine J_iload_n (pc := 527) dL_law_527 rfl ?_
  refine J_iconst (pc := 528) (v := nI 2) dL_law_528 (by decide) ?_
  refine J_iadd (pc := 529) dL_law_529 (nI_add _ _) ?_
  refine J_sald (pc := 530) dL_law_530 (rfl) (by omega) hL ?_
  refine J_aload_n (pc := 531) dL_law_531 rfl ?_
  refine J_iload_n (pc := 532) dL_law_532 rfl ?_
  refine J_iconst (pc := 533) (v := nI 3) dL_law_533 (by decide) ?_
  refine J_iadd (pc := 534) dL_law_534 (nI_add _ _) ?_
  refine J_sald (pc := 535) dL_law_535 (rfl) (by omega) hL ?_
  refine K_Vi3 (pc := 536) (Y' := YX6_alter) dL_law_536 lL_64 mX6_alter vX6_alter ⟨_, _, rfl⟩ sh131 (Nat.le_of_ble_eq_true rfl) (c6_alter M1) ?_
  rintro r2 h2 e6
  obtain ⟨ee, R2⟩ := fin_e eo (e_alter hh) e6 lo_alter R1
  refine J_icmp_eq (pc := 539) (tgt := 1536) dL_law_539 (by decide) (fun c539 => ?_) (fun c539 => ?_)
  · skip
    refine J_ls (ls' := [(0, .ref 500000), (1, .ref 0), (2, .ref 131), (3, .int (nI i))]) ⟨rfl, rfl, rfl, rfl, trivial⟩ ?_
    exact kx h2 R2
  · skip
    exact absurd ee c539
set_option maxHeartbeats 400000 in
theorem law_12 {g : jG} {nm : String} {h : jH} {i : Nat} {Q : kQ} (hR : RX h h) (hL : sL g ≤ 384) (hi6 : i + 6 ≤ sL g) (kx : ∀ h2, RX h2 h2 → K g 14 (YL nm) h2 1536 [(0, .ref 500000), (1, .ref 0), (2, .ref 131), (3, .int (nI i))] [] Q) : K g 14 (YL nm) h 544 [(0, .ref 500000), (1, .ref 0), (2, .ref 131), (3, .int (nI i))] [] Q := by
  refine J_aload_n (pc := 544) dL_law_544 rfl ?_
  refine J_aload_n (pc := 545) dL_law_545 rfl ?_
  refine J_iload_n (pc := 546) dL_law_546 rfl ?_
  refine J_iconst (pc := 547) (v := nI 1) dL_law_547 (by decide) ?_
  refine J_iadd (pc := 548) dL_law_548 (nI_add _ _) ?_
  refine J_sald (pc := 549) dL_law_549 (rfl) (by omega) hL ?_
  refine J_aload_n (pc := 550) dL_law_550 rfl ?_
  refine J_iload_n (pc := 551) dL_law_551 rfl ?_
  refine J_iconst (pc := 552) (v := nI 2) dL_law_552 (by decide) ?_
  refine J_iadd (pc := 553) dL_law_553 (nI_add _ _) ?_
  refine J_sald (pc := 554) dL_law_554 (rfl) (by omega) hL ?_
  refine J_aload_n (pc := 555) dL_law_555 rfl ?_
  refine J_iload_n (pc := 556) dL_law_556 rfl ?_
  refine J_iconst (pc := 557) (v := nI 3) dL_law_557 (by decide) ?_
  refine J_iadd (pc := 558) dL_law_558 (nI_add _ _) ?_
  refine J_sald (pc := 559) dL_law_559 (rfl) (by omega) hL ?_
  refine K_Vi3 (pc := 560) (Y' := YX5_sign) dL_law_560 lL_65 mX5_sign vX5_sign ⟨_, _, rfl⟩ sh0 (Nat.le_of_ble_eq_true rfl) (c5_sign (a := h) hR) ?_
  rintro r1 h1 ⟨a1, eo, R1, hh⟩
  have M1 := MR_same hR.mr hh.same
  refine J_aload_n (pc := 563) dL_law_563 rfl ?_
  refine J_aload_n (pc := 564) dL_law_564 rfl ?_
  refine J_iload_n (pc := 565) dL_law_565 rfl ?_
  refine J_iconst (pc := 566) (v := nI 1) dL_law_566 (by decide) ?_
  refine J_iadd (pc := 567) dL_law_567 (nI_add _ _) ?_
  refine J_sald (pc := 568) dL_law_568 (rfl) (by omega) hL ?_
  refine J_aload_n (pc := 569) dL_law_569 rfl ?_
  refine J_iload_n (pc := 570) dL_law_570 rfl ?_
  refine J_iconst (pc := 571) (v := nI 2) dL_law_571 (by decide) ?_
  refine J_iadd (pc := 572) dL_law_572 (nI_add _ _) ?_
  refine J_sald (pc := 573) dL_law_573 (rfl) (by omega) hL ?_
  refine J_aload_n (pc := 574) dL_law_574 rfl ?_
  refine J_iload_n (pc := 575) dL_law_575 rfl ?_
  refine J_iconst (pc := 576) (v := nI 3) dL_law_576 (by decide) ?_
  refine J_iadd (pc := 577) dL_law_577 (nI_add _ _) ?_
  refine J_sald (pc := 578) dL_law_578 (rfl) (by omega) hL ?_
  refine K_Vi3 (pc := 579) (Y' := YX6_sign) dL_law_579 lL_68 mX6_sign vX6_sign ⟨_, _, rfl⟩ sh131 (Nat.le_of_ble_eq_true rfl) (c6_sign M1) ?_
  rintro r2 h2 e6
  obtain ⟨ee, R2⟩ := fin_e eo (e_sign hh) e6 lo_sign R1
  refine J_icmp_eq (pc := 582) (tgt := 1536) dL_law_582 (by decide) (fun c582 => ?_) (fun c582 => ?_)
  · skip
    refine J_ls (ls' := [(0, .ref 500000), (1, .ref 0), (2, .ref 131), (3, .int (nI i))]) ⟨rfl, rfl, rfl, rfl, trivial⟩ ?_
    exact kx h2 R2
  · skip
    exact absurd ee c582
set_option maxHeartbeats 400000 in
theorem law_13 {g : jG} {nm : String} {h : jH} {i : Nat} {Q : kQ} (hR : RX h h) (hL : sL g ≤ 384) (hi6 : i + 6 ≤ sL g) (kx : ∀ h2, RX h2 h2 → K g 14 (YL nm) h2 1536 [(0, .ref 500000), (1, .ref 0), (2, .ref 131), (3, .int (nI i))] [] Q) : K g 14 (YL nm) h 587 [(0, .ref 500000), (1, .ref 0), (2, .ref 131), (3, .int (nI i))] [] Q := by
  refine J_aload_n (pc := 587) dL_law_587 rfl ?_
  refine J_aload_n (pc := 588) dL_law_588 rfl ?_
  refine J_iload_n (pc := 589) dL_law_589 rfl ?_
  refine J_iconst (pc := 590) (v := nI 1) dL_law_590 (by decide) ?_
  refine J_iadd (pc := 591) dL_law_591 (nI_add _ _) ?_
  refine J_sald (pc := 592) dL_law_592 (rfl) (by omega) hL ?_
  refine J_aload_n (pc := 593) dL_law_593 rfl ?_
  refine J_iload_n (pc := 594) dL_law_594 rfl ?_
  refine J_iconst (pc := 595) (v := nI 2) dL_law_595 (by decide) ?_
  refine J_iadd (pc := 596) dL_law_596 (nI_add _ _) ?_
  refine J_sald (pc := 597) dL_law_597 (rfl) (by omega) hL ?_
  refine J_aload_n (pc := 598) dL_law_598 rfl ?_
  refine J_iload_n (pc := 599) dL_law_599 rfl ?_
  refine J_iconst (pc := 600) (v := nI 3) dL_law_600 (by decide) ?_
  refine J_iadd (pc := 601) dL_law_601 (nI_add _ _) ?_
  refine J_sald (pc := 602) dL_law_602 (rfl) (by omega) hL ?_
  refine J_aload_n (pc := 603) dL_law_603 rfl ?_
  refine J_iload_n (pc := 604) dL_law_604 rfl ?_
  refine J_iconst (pc := 605) (v := nI 4) dL_law_605 (by decide) ?_
  refine J_iadd (pc := 606) dL_law_606 (nI_add _ _) ?_
  refine J_sald (pc := 607) dL_law_607 (rfl) (by omega) hL ?_
  refine J_aload_n (pc := 608) dL_law_608 rfl ?_
  refine J_iload_n (pc := 609) dL_law_609 rfl ?_
  refine J_iconst (pc := 610) (v := nI 5) dL_law_610 (by decide) ?_
  refine J_iadd (pc := 611) dL_law_611 (nI_add _ _) ?_
  refine J_sald (pc := 612) dL_law_612 (rfl) (by omega) hL ?_
  refine K_Vi5 (pc := 613) (Y' := YX5_insure) dL_law_613 lL_69 mX5_insure vX5_insure ⟨_, _, rfl⟩ sh0 (Nat.le_of_ble_eq_true rfl) (c5_insure (a := h) hR) ?_
  rintro r1 h1 ⟨a1, eo, R1, hh⟩
  have M1 := MR_same hR.mr hh.same
  refine J_aload_n (pc := 616) dL_law_616 rfl ?_
  refine J_aload_n (pc := 617) dL_law_617 rfl ?_
  refine J_iload_n (pc := 618) dL_law_618 rfl ?_
  refine J_iconst (pc := 619) (v := nI 1) dL_law_619 (by decide) ?_
  refine J_iadd (pc := 620) dL_law_620 (nI_add _ _) ?_
  refine J_sald (pc := 621) dL_law_621 (rfl) (by omega) hL ?_
  refine J_aload_n (pc := 622) dL_law_622 rfl ?_
  refine J_iload_n (pc := 623) dL_law_623 rfl ?_
  refine J_iconst (pc := 624) (v := nI 2) dL_law_624 (by decide) ?_
  refine J_iadd (pc := 625) dL_law_625 (nI_add _ _) ?_
  refine J_sald (pc := 626) dL_law_626 (rfl) (by omega) hL ?_
  refine J_aload_n (pc := 627) dL_law_627 rfl ?_
  refine J_iload_n (pc := 628) dL_law_628 rfl ?_
  refine J_iconst (pc := 629) (v := nI 3) dL_law_629 (by decide) ?_
  refine J_iadd (pc := 630) dL_law_630 (nI_add _ _) ?_
  refine J_sald (pc := 631) dL_law_631 (rfl) (by omega) hL ?_
  refine J_aload_n (pc := 632) dL_law_632 rfl ?_
  refine J_iload_n (pc := 633) dL_law_633 rfl ?_
  refine J_iconst (pc := 634) (v := nI 4) dL_law_634 (by decide) ?_
  refine J_iadd (pc := 635) dL_law_635 (nI_add _ _) ?_
  refine J_sald (pc := 636) dL_law_636 (rfl) (by omega) hL ?_
  refine J_aload_n (pc := 637) dL_law_637 rfl ?_
  refine J_iload_n (pc := 638) dL_law_638 rfl ?_
  refine J_iconst (pc := 639) (v := nI 5) dL_law_639 (by decide) ?_
  refine J_iadd (pc := 640) dL_law_640 (nI_add _ _) ?_
  refine J_sald (pc := 641) dL_law_641 (rfl) (by omega) hL ?_
  refine K_Vi5 (pc := 642) (Y' := YX6_insure) dL_law_642 lL_73 mX6_insure vX6_insure ⟨_, _, rfl⟩ sh131 (Nat.le_of_ble_eq_true rfl) (c6_insure M1) ?_
  rintro r2 h2 e6
  obtain ⟨ee, R2⟩ := fin_e eo (e_insure hh) e6 lo_insure R1
  refine J_icmp_eq (pc := 645) (tgt := 1536) dL_law_645 (by decide) (fun c645 => ?_) (fun c645 => ?_)
  · skip
    refine J_ls (ls' := [(0, .ref 500000), (1, .ref 0), (2, .ref 131), (3, .int (nI i))]) ⟨rfl, rfl, rfl, rfl, trivial⟩ ?_
    exact kx h2 R2
  · skip
    exact absurd ee c645
set_option maxHeartbeats 400000 in
theorem law_14 {g : jG} {nm : String} {h : jH} {i : Nat} {Q : kQ} (hR : RX h h) (hL : sL g ≤ 384) (hi6 : i + 6 ≤ sL g) (kx : ∀ h2, RX h2 h2 → K g 14 (YL nm) h2 1536 [(0, .ref 500000), (1, .ref 0), (2, .ref 131), (3, .int (nI i))] [] Q) : K g 14 (YL nm) h 650 [(0, .ref 500000), (1, .ref 0), (2, .ref 131), (3, .int (nI i))] [] Q := by
  refine J_aload_n (pc := 650) dL_law_650 rfl ?_
  refine J_aload_n (pc := 651) dL_law_651 rfl ?_
  refine J_iload_n (pc := 652) dL_law_652 rfl ?_
  refine J_iconst (pc := 653) (v := nI 1) dL_law_653 (by decide) ?_
  refine J_iadd (pc := 654) dL_law_654 (nI_add _ _) ?_
  refine J_sald (pc := 655) dL_law_655 (rfl) (by omega) hL ?_
  refine K_Vi1 (pc := 656) (Y' := YX5_drop) dL_law_656 lL_74 mX5_drop vX5_drop ⟨_, _, rfl⟩ sh0 (Nat.le_of_ble_eq_true rfl) (c5_drop (a := h) hR) ?_
  rintro r1 h1 ⟨a1, eo, R1, hh⟩
  have M1 := MR_same hR.mr hh.same
  refine J_aload_n (pc := 659) dL_law_659 rfl ?_
  refine J_aload_n (pc := 660) dL_law_660 rfl ?_
  refine J_iload_n (pc := 661) dL_law_661 rfl ?_
  refine J_iconst (pc := 662) (v := nI 1) dL_law_662 (by decide) ?_
  refine J_iadd (pc := 663) dL_law_663 (nI_add _ _) ?_
  refine J_sald (pc := 664) dL_law_664 (rfl) (by omega) hL ?_
  refine K_Vi1 (pc := 665) (Y' := YX6_drop) dL_law_665 lL_77 mX6_drop vX6_drop ⟨_, _, rfl⟩ sh131 (Nat.le_of_ble_eq_true rfl) (c6_drop M1) ?_
  rintro r2 h2 e6
  obtain ⟨ee, R2⟩ := fin_e eo (e_drop hh) e6 lo_drop R1
  refine J_icmp_eq (pc := 668) (tgt := 1536) dL_law_668 (by decide) (fun c668 => ?_) (fun c668 => ?_)
  · skip
    refine J_ls (ls' := [(0, .ref 500000), (1, .ref 0), (2, .ref 131), (3, .int (nI i))]) ⟨rfl, rfl, rfl, rfl, trivial⟩ ?_
    exact kx h2 R2
  · skip
    exact absurd ee c668
set_option maxHeartbeats 400000 in
theorem law_15 {g : jG} {nm : String} {h : jH} {i : Nat} {Q : kQ} (hR : RX h h) (hL : sL g ≤ 384) (hi6 : i + 6 ≤ sL g) (kx : ∀ h2, RX h2 h2 → K g 14 (YL nm) h2 1536 [(0, .ref 500000), (1, .ref 0), (2, .ref 131), (3, .int (nI i))] [] Q) : K g 14 (YL nm) h 673 [(0, .ref 500000), (1, .ref 0), (2, .ref 131), (3, .int (nI i))] [] Q := by
  refine J_aload_n (pc := 673) dL_law_673 rfl ?_
  refine J_aload_n (pc := 674) dL_law_674 rfl ?_
  refine J_iload_n (pc := 675) dL_law_675 rfl ?_
  refine J_iconst (pc := 676) (v := nI 1) dL_law_676 (by decide) ?_
  refine J_iadd (pc := 677) dL_law_677 (nI_add _ _) ?_
  refine J_sald (pc := 678) dL_law_678 (rfl) (by omega) hL ?_
  refine J_aload_n (pc := 679) dL_law_679 rfl ?_
  refine J_iload_n (pc := 680) dL_law_680 rfl ?_
  refine J_iconst (pc := 681) (v := nI 2) dL_law_681 (by decide) ?_
  refine J_iadd (pc := 682) dL_law_682 (nI_add _ _) ?_
  refine J_sald (pc := 683) dL_law_683 (rfl) (by omega) hL ?_
  refine K_Vi2 (pc := 684) (Y' := YX5_shift) dL_law_684 lL_78 mX5_shift vX5_shift ⟨_, _, rfl⟩ sh0 (Nat.le_of_ble_eq_true rfl) (c5_shift (a := h) hR) ?_
  rintro r1 h1 ⟨a1, eo, R1, hh⟩
  have M1 := MR_same hR.mr hh.same
  refine J_aload_n (pc := 687) dL_law_687 rfl ?_
  refine J_aload_n (pc := 688) dL_law_688 rfl ?_
  refine J_iload_n (pc := 689) dL_law_689 rfl ?_
  refine J_iconst (pc := 690) (v := nI 1) dL_law_690 (by decide) ?_
  refine J_iadd (pc := 691) dL_law_691 (nI_add _ _) ?_
  refine J_sald (pc := 692) dL_law_692 (rfl) (by omega) hL ?_
  refine J_aload_n (pc := 693) dL_law_693 rfl ?_
  refine J_iload_n (pc := 694) dL_law_694 rfl ?_
  refine J_iconst (pc := 695) (v := nI 2) dL_law_695 (by decide) ?_
  refine J_iadd (pc := 696) dL_law_696 (nI_add _ _) ?_
  refine J_sald (pc := 697) dL_law_697 (rfl) (by omega) hL ?_
  refine K_Vi2 (pc := 698) (Y' := YX6_shift) dL_law_698 lL_81 mX6_shift vX6_shift ⟨_, _, rfl⟩ sh131 (Nat.le_of_ble_eq_true rfl) (c6_shift M1) ?_
  rintro r2 h2 e6
  obtain ⟨ee, R2⟩ := fin_e eo (e_shift hh) e6 lo_shift R1
  refine J_icmp_eq (pc := 701) (tgt := 1536) dL_law_701 (by decide) (fun c701 => ?_) (fun c701 => ?_)
  · skip
    refine J_ls (ls' := [(0, .ref 500000), (1, .ref 0), (2, .ref 131), (3, .int (nI i))]) ⟨rfl, rfl, rfl, rfl, trivial⟩ ?_
    exact kx h2 R2
  · skip
    exact absurd ee c701
set_option maxHeartbeats 400000 in
theorem law_16 {g : jG} {nm : String} {h : jH} {i : Nat} {Q : kQ} (hR : RX h h) (hL : sL g ≤ 384) (hi6 : i + 6 ≤ sL g) (kx : ∀ h2, RX h2 h2 → K g 14 (YL nm) h2 1536 [(0, .ref 500000), (1, .ref 0), (2, .ref 131), (3, .int (nI i))] [] Q) : K g 14 (YL nm) h 706 [(0, .ref 500000), (1, .ref 0), (2, .ref 131), (3, .int (nI i))] [] Q := by
  refine J_aload_n (pc := 706) dL_law_706 rfl ?_
  refine J_aload_n (pc := 707) dL_law_707 rfl ?_
  refine J_iload_n (pc := 708) dL_law_708 rfl ?_
  refine J_iconst (pc := 709) (v := nI 1) dL_law_709 (by decide) ?_
  refine J_iadd (pc := 710) dL_law_710 (nI_add _ _) ?_
  refine J_sald (pc := 711) dL_law_711 (rfl) (by omega) hL ?_
  refine K_Vi1 (pc := 712) (Y' := YX5_floor) dL_law_712 lL_82 mX5_floor vX5_floor ⟨_, _, rfl⟩ sh0 (Nat.le_of_ble_eq_true rfl) (c5_floor (a := h) hR) ?_
  rintro r1 h1 ⟨a1, eo, R1, hh⟩
  have M1 := MR_same hR.mr hh.same
  refine J_aload_n (pc := 715) dL_law_715 rfl ?_
  refine J_aload_n (pc := 716) dL_law_716 rfl ?_
  refine J_iload_n (pc := 717) dL_law_717 rfl ?_
  refine J_iconst (pc := 718) (v := nI 1) dL_law_718 (by decide) ?_
  refine J_iadd (pc := 719) dL_law_719 (nI_add _ _) ?_
  refine J_sald (pc := 720) dL_law_720 (rfl) (by omega) hL ?_
  refine K_Vi1 (pc := 721) (Y' := YX6_floor) dL_law_721 lL_85 mX6_floor vX6_floor ⟨_, _, rfl⟩ sh131 (Nat.le_of_ble_eq_true rfl) (c6_floor M1) ?_
  rintro r2 h2 e6
  obtain ⟨ee, R2⟩ := fin_e eo (e_floor hh) e6 lo_floor R1
  refine J_icmp_eq (pc := 724) (tgt := 1536) dL_law_724 (by decide) (fun c724 => ?_) (fun c724 => ?_)
  · skip
    refine J_ls (ls' := [(0, .ref 500000), (1, .ref 0), (2, .ref 131), (3, .int (nI i))]) ⟨rfl, rfl, rfl, rfl, trivial⟩ ?_
    exact kx h2 R2
  · skip
    exact absurd ee c724
set_option maxHeartbeats 400000 in
theorem law_17 {g : jG} {nm : String} {h : jH} {i : Nat} {Q : kQ} (hR : RX h h) (hL : sL g ≤ 384) (hi6 : i + 6 ≤ sL g) (kx : ∀ h2, RX h2 h2 → K g 14 (YL nm) h2 1536 [(0, .ref 500000), (1, .ref 0), (2, .ref 131), (3, .int (nI i))] [] Q) : K g 14 (YL nm) h 729 [(0, .ref 500000), (1, .ref 0), (2, .ref 131), (3, .int (nI i))] [] Q := by
  refine J_aload_n (pc := 729) dL_law_729 rfl ?_
  refine J_aload_n (pc := 730) dL_law_730 rfl ?_
  refine J_iload_n (pc := 731) dL_law_731 rfl ?_
  refine J_iconst (pc := 732) (v := nI 1) dL_law_732 (by decide) ?_
  refine J_iadd (pc := 733) dL_law_733 (nI_add _ _) ?_
  refine J_sald (pc := 734) dL_law_734 (rfl) (by omega) hL ?_
  refine K_Vi1 (pc := 735) (Y' := YX5_plan) dL_law_735 lL_86 mX5_plan vX5_plan ⟨_, _, rfl⟩ sh0 (Nat.le_of_ble_eq_true rfl) (c5_plan (a := h) hR) ?_
  rintro r1 h1 ⟨a1, eo, R1, hh⟩
  have M1 := MR_same hR.mr hh.same
  refine J_aload_n (pc := 738) dL_law_738 rfl ?_
  refine J_aload_n (pc := 739) dL_law_739 rfl ?_
  refine J_iload_n (pc := 740) dL_law_740 rfl ?_
  refine J_iconst (pc := 741) (v := nI 1) dL_law_741 (by decide) ?_
  refine J_iadd (pc := 742) dL_law_742 (nI_add _ _) ?_
  refine J_sald (pc := 743) dL_law_743 (rfl) (by omega) hL ?_
  refine K_Vi1 (pc := 744) (Y' := YX6_plan) dL_law_744 lL_89 mX6_plan vX6_plan ⟨_, _, rfl⟩ sh131 (Nat.le_of_ble_eq_true rfl) (c6_plan M1) ?_
  rintro r2 h2 e6
  obtain ⟨ee, R2⟩ := fin_e eo (e_plan hh) e6 lo_plan R1
  refine J_icmp_eq (pc := 747) (tgt := 1536) dL_law_747 (by decide) (fun c747 => ?_) (fun c747 => ?_)
  · skip
    refine J_ls (ls' := [(0, .ref 500000), (1, .ref 0), (2, .ref 131), (3, .int (nI i))]) ⟨rfl, rfl, rfl, rfl, trivial⟩ ?_
    exact kx h2 R2
  · skip
    exact absurd ee c747
set_option maxHeartbeats 400000 in
theorem law_18 {g : jG} {nm : String} {h : jH} {i : Nat} {Q : kQ} (hR : RX h h) (hL : sL g ≤ 384) (hi6 : i + 6 ≤ sL g) (kx : ∀ h2, RX h2 h2 → K g 14 (YL nm) h2 1536 [(0, .ref 500000), (1, .ref 0), (2, .ref 131), (3, .int (nI i))] [] Q) : K g 14 (YL nm) h 752 [(0, .ref 500000), (1, .ref 0), (2, .ref 131), (3, .int (nI i))] [] Q := by
  refine J_aload_n (pc := 752) dL_law_752 rfl ?_
  refine J_aload_n (pc := 753) dL_law_753 rfl ?_
  refine J_iload_n (pc := 754) dL_law_754 rfl ?_
  refine J_iconst (pc := 755) (v := nI 1) dL_law_755 (by decide) ?_
  refine J_iadd (pc := 756) dL_law_756 (nI_add _ _) ?_
  refine J_sald (pc := 757) dL_law_757 (rfl) (by omega) hL ?_
  refine K_Vi1 (pc := 758) (Y' := YX5_cut) dL_law_758 lL_90 mX5_cut vX5_cut ⟨_, _, rfl⟩ sh0 (Nat.le_of_ble_eq_true rfl) (c5_cut (a := h) hR) ?_
  rintro r1 h1 ⟨a1, eo, R1, hh⟩
  have M1 := MR_same hR.mr hh.same
  refine J_aload_n (pc := 761) dL_law_761 rfl ?_
  refine J_aload_n (pc := 762) dL_law_762 rfl ?_
  refine J_iload_n (pc := 763) dL_law_763 rfl ?_
  refine J_iconst (pc := 764) (v := nI 1) dL_law_764 (by decide) ?_
  refine J_iadd (pc := 765) dL_law_765 (nI_add _ _) ?_
  refine J_sald (pc := 766) dL_law_766 (rfl) (by omega) hL ?_
  refine K_Vi1 (pc := 767) (Y' := YX6_cut) dL_law_767 lL_93 mX6_cut vX6_cut ⟨_, _, rfl⟩ sh131 (Nat.le_of_ble_eq_true rfl) (c6_cut M1) ?_
  rintro r2 h2 e6
  obtain ⟨ee, R2⟩ := fin_e eo (e_cut hh) e6 lo_cut R1
  refine J_icmp_eq (pc := 770) (tgt := 1536) dL_law_770 (by decide) (fun c770 => ?_) (fun c770 => ?_)
  · skip
    refine J_ls (ls' := [(0, .ref 500000), (1, .ref 0), (2, .ref 131), (3, .int (nI i))]) ⟨rfl, rfl, rfl, rfl, trivial⟩ ?_
    exact kx h2 R2
  · skip
    exact absurd ee c770
set_option maxHeartbeats 400000 in
theorem law_19 {g : jG} {nm : String} {h : jH} {i : Nat} {Q : kQ} (hR : RX h h) (hL : sL g ≤ 384) (hi6 : i + 6 ≤ sL g) (kx : ∀ h2, RX h2 h2 → K g 14 (YL nm) h2 1536 [(0, .ref 500000), (1, .ref 0), (2, .ref 131), (3, .int (nI i))] [] Q) : K g 14 (YL nm) h 775 [(0, .ref 500000), (1, .ref 0), (2, .ref 131), (3, .int (nI i))] [] Q := by
  refine J_aload_n (pc := 775) dL_law_775 rfl ?_
  refine J_aload_n (pc := 776) dL_law_776 rfl ?_
  refine J_iload_n (pc := 777) dL_law_777 rfl ?_
  refine J_iconst (pc := 778) (v := nI 1) dL_law_778 (by decide) ?_
  refine J_iadd (pc := 779) dL_law_779 (nI_add _ _) ?_
  refine J_sald (pc := 780) dL_law_780 (rfl) (by omega) hL ?_
  refine K_Vi1 (pc := 781) (Y' := YX5_week) dL_law_781 lL_94 mX5_week vX5_week ⟨_, _, rfl⟩ sh0 (Nat.le_of_ble_eq_true rfl) (c5_week (a := h) hR) ?_
  rintro r1 h1 ⟨a1, eo, R1, hh⟩
  have M1 := MR_same hR.mr hh.same
  refine J_aload_n (pc := 784) dL_law_784 rfl ?_
  refine J_aload_n (pc := 785) dL_law_785 rfl ?_
  refine J_iload_n (pc := 786) dL_law_786 rfl ?_
  refine J_iconst (pc := 787) (v := nI 1) dL_law_787 (by decide) ?_
  refine J_iadd (pc := 788) dL_law_788 (nI_add _ _) ?_
  refine J_sald (pc := 789) dL_law_789 (rfl) (by omega) hL ?_
  refine K_Vi1 (pc := 790) (Y' := YX6_week) dL_law_790 lL_97 mX6_week vX6_week ⟨_, _, rfl⟩ sh131 (Nat.le_of_ble_eq_true rfl) (c6_week M1) ?_
  rintro r2 h2 e6
  obtain ⟨ee, R2⟩ := fin_e eo (e_week hh) e6 lo_week R1
  refine J_icmp_eq (pc := 793) (tgt := 1536) dL_law_793 (by decide) (fun c793 => ?_) (fun c793 => ?_)
  · skip
    refine J_ls (ls' := [(0, .ref 500000), (1, .ref 0), (2, .ref 131), (3, .int (nI i))]) ⟨rfl, rfl, rfl, rfl, trivial⟩ ?_
    exact kx h2 R2
  · skip
    exact absurd ee c793
set_option maxHeartbeats 400000 in
theorem law_20 {g : jG} {nm : String} {h : jH} {i : Nat} {Q : kQ} (hR : RX h h) (hL : sL g ≤ 384) (hi6 : i + 6 ≤ sL g) (kx : ∀ h2, RX h2 h2 → K g 14 (YL nm) h2 1536 [(0, .ref 500000), (1, .ref 0), (2, .ref 131), (3, .int (nI i))] [] Q) : K g 14 (YL nm) h 798 [(0, .ref 500000), (1, .ref 0), (2, .ref 131), (3, .int (nI i))] [] Q := by
  refine J_aload_n (pc := 798) dL_law_798 rfl ?_
  refine J_aload_n (pc := 799) dL_law_799 rfl ?_
  refine J_iload_n (pc := 800) dL_law_800 rfl ?_
  refine J_iconst (pc := 801) (v := nI 1) dL_law_801 (by decide) ?_
  refine J_iadd (pc := 802) dL_law_802 (nI_add _ _) ?_
  refine J_sald (pc := 803) dL_law_803 (rfl) (by omega) hL ?_
  refine K_Vi1 (pc := 804) (Y' := YX5_runs) dL_law_804 lL_98 mX5_runs vX5_runs ⟨_, _, rfl⟩ sh0 (Nat.le_of_ble_eq_true rfl) (c5_runs (a := h) hR) ?_
  rintro r1 h1 ⟨a1, eo, R1, hh⟩
  have M1 := MR_same hR.mr hh.same
  refine J_aload_n (pc := 807) dL_law_807 rfl ?_
  refine J_aload_n (pc := 808) dL_law_808 rfl ?_
  refine J_iload_n (pc := 809) dL_law_809 rfl ?_
  refine J_iconst (pc := 810) (v := nI 1) dL_law_810 (by decide) ?_
  refine J_iadd (pc := 811) dL_law_811 (nI_add _ _) ?_
  refine J_sald (pc := 812) dL_law_812 (rfl) (by omega) hL ?_
  refine K_Vi1 (pc := 813) (Y' := YX6_runs) dL_law_813 lL_101 mX6_runs vX6_runs ⟨_, _, rfl⟩ sh131 (Nat.le_of_ble_eq_true rfl) (c6_runs M1) ?_
  rintro r2 h2 e6
  obtain ⟨ee, R2⟩ := fin_s eo (e_runs hh) e6 R1
  refine J_icmp_eq (pc := 816) (tgt := 1536) dL_law_816 (by decide) (fun c816 => ?_) (fun c816 => ?_)
  · skip
    refine J_ls (ls' := [(0, .ref 500000), (1, .ref 0), (2, .ref 131), (3, .int (nI i))]) ⟨rfl, rfl, rfl, rfl, trivial⟩ ?_
    exact kx h2 R2
  · skip
    exact absurd ee c816
set_option maxHeartbeats 400000 in
theorem law_21 {g : jG} {nm : String} {h : jH} {i : Nat} {Q : kQ} (hR : RX h h) (hL : sL g ≤ 384) (hi6 : i + 6 ≤ sL g) (kx : ∀ h2, RX h2 h2 → K g 14 (YL nm) h2 1536 [(0, .ref 500000), (1, .ref 0), (2, .ref 131), (3, .int (nI i))] [] Q) : K g 14 (YL nm) h 821 [(0, .ref 500000), (1, .ref 0), (2, .ref 131), (3, .int (nI i))] [] Q := by
  refine J_aload_n (pc := 821) dL_law_821 rfl ?_
  refine J_aload_n (pc := 822) dL_law_822 rfl ?_
  refine J_iload_n (pc := 823) dL_law_823 rfl ?_
  refine J_iconst (pc := 824) (v := nI 1) dL_law_824 (by decide) ?_
  refine J_iadd (pc := 825) dL_law_825 (nI_add _ _) ?_
  refine J_sald (pc := 826) dL_law_826 (rfl) (by omega) hL ?_
  refine K_Vi1 (pc := 827) (Y' := YX5_ahead) dL_law_827 lL_102 mX5_ahead vX5_ahead ⟨_, _, rfl⟩ sh0 (Nat.le_of_ble_eq_true rfl) (c5_ahead (a := h) hR) ?_
  rintro r1 h1 ⟨a1, eo, R1, hh⟩
  have M1 := MR_same hR.mr hh.same
  refine J_aload_n (pc := 830) dL_law_830 rfl ?_
  refine J_aload_n (pc := 831) dL_law_831 rfl ?_
  refine J_iload_n (pc := 832) dL_law_832 rfl ?_
  refine J_iconst (pc := 833) (v := nI 1) dL_law_833 (by decide) ?_
  refine J_iadd (pc := 834) dL_law_834 (nI_add _ _) ?_
  refine J_sald (pc := 835) dL_law_835 (rfl) (by omega) hL ?_
  refine K_Vi1 (pc := 836) (Y' := YX6_ahead) dL_law_836 lL_105 mX6_ahead vX6_ahead ⟨_, _, rfl⟩ sh131 (Nat.le_of_ble_eq_true rfl) (c6_ahead M1) ?_
  rintro r2 h2 e6
  obtain ⟨ee, R2⟩ := fin_s eo (e_ahead hh) e6 R1
  refine J_icmp_eq (pc := 839) (tgt := 1536) dL_law_839 (by decide) (fun c839 => ?_) (fun c839 => ?_)
  · skip
    refine J_ls (ls' := [(0, .ref 500000), (1, .ref 0), (2, .ref 131), (3, .int (nI i))]) ⟨rfl, rfl, rfl, rfl, trivial⟩ ?_
    exact kx h2 R2
  · skip
    exact absurd ee c839
set_option maxHeartbeats 400000 in
theorem law_22 {g : jG} {nm : String} {h : jH} {i : Nat} {Q : kQ} (hR : RX h h) (hL : sL g ≤ 384) (hi6 : i + 6 ≤ sL g) (kx : ∀ h2, RX h2 h2 → K g 14 (YL nm) h2 1536 [(0, .ref 500000), (1, .ref 0), (2, .ref 131), (3, .int (nI i))] [] Q) : K g 14 (YL nm) h 844 [(0, .ref 500000), (1, .ref 0), (2, .ref 131), (3, .int (nI i))] [] Q := by
  refine J_aload_n (pc := 844) dL_law_844 rfl ?_
  refine J_aload_n (pc := 845) dL_law_845 rfl ?_
  refine J_iload_n (pc := 846) dL_law_846 rfl ?_
  refine J_iconst (pc := 847) (v := nI 1) dL_law_847 (by decide) ?_
  refine J_iadd (pc := 848) dL_law_848 (nI_add _ _) ?_
  refine J_sald (pc := 849) dL_law_849 (rfl) (by omega) hL ?_
  refine J_aload_n (pc := 850) dL_law_850 rfl ?_
  refine J_iload_n (pc := 851) dL_law_851 rfl ?_
  refine J_iconst (pc := 852) (v := nI 2) dL_law_852 (by decide) ?_
  refine J_iadd (pc := 853) dL_law_853 (nI_add _ _) ?_
  refine J_sald (pc := 854) dL_law_854 (rfl) (by omega) hL ?_
  refine J_aload_n (pc := 855) dL_law_855 rfl ?_
  refine J_iload_n (pc := 856) dL_law_856 rfl ?_
  refine J_iconst (pc := 857) (v := nI 3) dL_law_857 (by decide) ?_
  refine J_iadd (pc := 858) dL_law_858 (nI_add _ _) ?_
  refine J_sald (pc := 859) dL_law_859 (rfl) (by omega) hL ?_
  refine K_Vi3 (pc := 860) (Y' := YX5_least) dL_law_860 lL_106 mX5_least vX5_least ⟨_, _, rfl⟩ sh0 (Nat.le_of_ble_eq_true rfl) (c5_least (a := h) hR) ?_
  rintro r1 h1 ⟨a1, eo, R1, hh⟩
  have M1 := MR_same hR.mr hh.same
  refine J_aload_n (pc := 863) dL_law_863 rfl ?_
  refine J_aload_n (pc := 864) dL_law_864 rfl ?_
  refine J_iload_n (pc := 865) dL_law_865 rfl ?_
  refine J_iconst (pc := 866) (v := nI 1) dL_law_866 (by decide) ?_
  refine J_iadd (pc := 867) dL_law_867 (nI_add _ _) ?_
  refine J_sald (pc := 868) dL_law_868 (rfl) (by omega) hL ?_
  refine J_aload_n (pc := 869) dL_law_869 rfl ?_
  refine J_iload_n (pc := 870) dL_law_870 rfl ?_
  refine J_iconst (pc := 871) (v := nI 2) dL_law_871 (by decide) ?_
  refine J_iadd (pc := 872) dL_law_872 (nI_add _ _) ?_
  refine J_sald (pc := 873) dL_law_873 (rfl) (by omega) hL ?_
  refine J_aload_n (pc := 874) dL_law_874 rfl ?_
  refine J_iload_n (pc := 875) dL_law_875 rfl ?_
  refine J_iconst (pc := 876) (v := nI 3) dL_law_876 (by decide) ?_
  refine J_iadd (pc := 877) dL_law_877 (nI_add _ _) ?_
  refine J_sald (pc := 878) dL_law_878 (rfl) (by omega) hL ?_
  refine K_Vi3 (pc := 879) (Y' := YX6_least) dL_law_879 lL_109 mX6_least vX6_least ⟨_, _, rfl⟩ sh131 (Nat.le_of_ble_eq_true rfl) (c6_least M1) ?_
  rintro r2 h2 e6
  obtain ⟨ee, R2⟩ := fin_s eo (e_least hh) e6 R1
  refine J_icmp_eq (pc := 882) (tgt := 1536) dL_law_882 (by decide) (fun c882 => ?_) (fun c882 => ?_)
  · skip
    refine J_ls (ls' := [(0, .ref 500000), (1, .ref 0), (2, .ref 131), (3, .int (nI i))]) ⟨rfl, rfl, rfl, rfl, trivial⟩ ?_
    exact kx h2 R2
  · skip
    exact absurd ee c882
set_option maxHeartbeats 400000 in
theorem law_23 {g : jG} {nm : String} {h : jH} {i : Nat} {Q : kQ} (hR : RX h h) (hL : sL g ≤ 384) (hi6 : i + 6 ≤ sL g) (kx : ∀ h2, RX h2 h2 → K g 14 (YL nm) h2 1536 [(0, .ref 500000), (1, .ref 0), (2, .ref 131), (3, .int (nI i))] [] Q) : K g 14 (YL nm) h 887 [(0, .ref 500000), (1, .ref 0), (2, .ref 131), (3, .int (nI i))] [] Q := by
  refine J_aload_n (pc := 887) dL_law_887 rfl ?_
  refine J_aload_n (pc := 888) dL_law_888 rfl ?_
  refine J_iload_n (pc := 889) dL_law_889 rfl ?_
  refine J_iconst (pc := 890) (v := nI 1) dL_law_890 (by decide) ?_
  refine J_iadd (pc := 891) dL_law_891 (nI_add _ _) ?_
  refine J_sald (pc := 892) dL_law_892 (rfl) (by omega) hL ?_
  refine K_Vi1 (pc := 893) (Y' := YX5_safe) dL_law_893 lL_110 mX5_safe vX5_safe ⟨_, _, rfl⟩ sh0 (Nat.le_of_ble_eq_true rfl) (c5_safe (a := h) hR) ?_
  rintro r1 h1 ⟨a1, eo, R1, hh⟩
  have M1 := MR_same hR.mr hh.same
  refine J_aload_n (pc := 896) dL_law_896 rfl ?_
  refine J_aload_n (pc := 897) dL_law_897 rfl ?_
  refine J_iload_n (pc := 898) dL_law_898 rfl ?_
  refine J_iconst (pc := 899) (v := nI 1) dL_law_899 (by decide) ?_
  refine J_iadd (pc := 900) dL_law_900 (nI_add _ _) ?_
  refine J_sald (pc := 901) dL_law_901 (rfl) (by omega) hL ?_
  refine K_Vi1 (pc := 902) (Y' := YX6_safe) dL_law_902 lL_113 mX6_safe vX6_safe ⟨_, _, rfl⟩ sh131 (Nat.le_of_ble_eq_true rfl) (c6_safe M1) ?_
  rintro r2 h2 e6
  obtain ⟨ee, R2⟩ := fin_s eo (e_safe hh) e6 R1
  refine J_icmp_eq (pc := 905) (tgt := 1536) dL_law_905 (by decide) (fun c905 => ?_) (fun c905 => ?_)
  · skip
    refine J_ls (ls' := [(0, .ref 500000), (1, .ref 0), (2, .ref 131), (3, .int (nI i))]) ⟨rfl, rfl, rfl, rfl, trivial⟩ ?_
    exact kx h2 R2
  · skip
    exact absurd ee c905
set_option maxHeartbeats 400000 in
theorem law_24 {g : jG} {nm : String} {h : jH} {i : Nat} {Q : kQ} (hR : RX h h) (hL : sL g ≤ 384) (hi6 : i + 6 ≤ sL g) (kx : ∀ h2, RX h2 h2 → K g 14 (YL nm) h2 1536 [(0, .ref 500000), (1, .ref 0), (2, .ref 131), (3, .int (nI i))] [] Q) : K g 14 (YL nm) h 910 [(0, .ref 500000), (1, .ref 0), (2, .ref 131), (3, .int (nI i))] [] Q := by
  refine J_aload_n (pc := 910) dL_law_910 rfl ?_
  refine J_aload_n (pc := 911) dL_law_911 rfl ?_
  refine J_iload_n (pc := 912) dL_law_912 rfl ?_
  refine J_iconst (pc := 913) (v := nI 1) dL_law_913 (by decide) ?_
  refine J_iadd (pc := 914) dL_law_914 (nI_add _ _) ?_
  refine J_sald (pc := 915) dL_law_915 (rfl) (by omega) hL ?_
  refine K_Vi1 (pc := 916) (Y' := YX5_fair) dL_law_916 lL_114 mX5_fair vX5_fair ⟨_, _, rfl⟩ sh0 (Nat.le_of_ble_eq_true rfl) (c5_fair (a := h) hR) ?_
  rintro r1 h1 ⟨rfl, e1⟩
  refine J_aload_n (pc := 919) dL_law_919 rfl ?_
  refine J_aload_n (pc := 920) dL_law_920 rfl ?_
  refine J_iload_n (pc := 921) dL_law_921 rfl ?_
  refine J_iconst (pc := 922) (v := nI 1) dL_law_922 (by decide) ?_
  refine J_iadd (pc := 923) dL_law_923 (nI_add _ _) ?_
  refine J_sald (pc := 924) dL_law_924 (rfl) (by omega) hL ?_
  refine K_Vi1 (pc := 925) (Y' := YX6_fair) dL_law_925 lL_117 mX6_fair vX6_fair ⟨_, _, rfl⟩ sh131 (Nat.le_of_ble_eq_true rfl) (c6_fair hR.mr) ?_
  rintro r2 h2 ⟨rfl, e2⟩
  have ee : r1 = r2 := e1.trans e2.symm
  have R2 := hR
  refine J_icmp_eq (pc := 928) (tgt := 1536) dL_law_928 (by decide) (fun c928 => ?_) (fun c928 => ?_)
  · skip
    refine J_ls (ls' := [(0, .ref 500000), (1, .ref 0), (2, .ref 131), (3, .int (nI i))]) ⟨rfl, rfl, rfl, rfl, trivial⟩ ?_
    exact kx _ R2
  · skip
    exact absurd ee c928
set_option maxHeartbeats 400000 in
theorem law_25 {g : jG} {nm : String} {h : jH} {i : Nat} {Q : kQ} (hR : RX h h) (hL : sL g ≤ 384) (hi6 : i + 6 ≤ sL g) (kx : ∀ h2, RX h2 h2 → K g 14 (YL nm) h2 1536 [(0, .ref 500000), (1, .ref 0), (2, .ref 131), (3, .int (nI i))] [] Q) : K g 14 (YL nm) h 933 [(0, .ref 500000), (1, .ref 0), (2, .ref 131), (3, .int (nI i))] [] Q := by
  refine J_aload_n (pc := 933) dL_law_933 rfl ?_
  refine J_aload_n (pc := 934) dL_law_934 rfl ?_
  refine J_iload_n (pc := 935) dL_law_935 rfl ?_
  refine J_iconst (pc := 936) (v := nI 1) dL_law_936 (by decide) ?_
  refine J_iadd (pc := 937) dL_law_937 (nI_add _ _) ?_
  refine J_sald (pc := 938) dL_law_938 (rfl) (by omega) hL ?_
  refine J_aload_n (pc := 939) dL_law_939 rfl ?_
  refine J_iload_n (pc := 940) dL_law_940 rfl ?_
  refine J_iconst (pc := 941) (v := nI 2) dL_law_941 (by decide) ?_
  refine J_iadd (pc := 942) dL_law_942 (nI_add _ _) ?_
  refine J_sald (pc := 943) dL_law_943 (rfl) (by omega) hL ?_
  refine K_Vi2 (pc := 944) (Y' := YX5_help) dL_law_944 lL_118 mX5_help vX5_help ⟨_, _, rfl⟩ sh0 (Nat.le_of_ble_eq_true rfl) (c5_help (a := h) hR) ?_
  rintro r1 h1 ⟨a1, eo, R1, hh⟩
  have M1 := MR_same hR.mr hh.same
  refine J_aload_n (pc := 947) dL_law_947 rfl ?_
  refine J_aload_n (pc := 948) dL_law_948 rfl ?_
  refine J_iload_n (pc := 949) dL_law_949 rfl ?_
  refine J_iconst (pc := 950) (v := nI 1) dL_law_950 (by decide) ?_
  refine J_iadd (pc := 951) dL_law_951 (nI_add _ _) ?_
  refine J_sald (pc := 952) dL_law_952 (rfl) (by omega) hL ?_
  refine J_aload_n (pc := 953) dL_law_953 rfl ?_
  refine J_iload_n (pc := 954) dL_law_954 rfl ?_
  refine J_iconst (pc := 955) (v := nI 2) dL_law_955 (by decide) ?_
  refine J_iadd (pc := 956) dL_law_956 (nI_add _ _) ?_
  refine J_sald (pc := 957) dL_law_957 (rfl) (by omega) hL ?_
  refine K_Vi2 (pc := 958) (Y' := YX6_help) dL_law_958 lL_121 mX6_help vX6_help ⟨_, _, rfl⟩ sh131 (Nat.le_of_ble_eq_true rfl) (c6_help M1) ?_
  rintro r2 h2 e6
  obtain ⟨ee, R2⟩ := fin_s eo (e_help hh) e6 R1
  refine J_icmp_eq (pc := 961) (tgt := 1536) dL_law_961 (by decide) (fun c961 => ?_) (fun c961 => ?_)
  · skip
    refine J_ls (ls' := [(0, .ref 500000), (1, .ref 0), (2, .ref 131), (3, .int (nI i))]) ⟨rfl, rfl, rfl, rfl, trivial⟩ ?_
    exact kx h2 R2
  · skip
    exact absurd ee c961
set_option maxHeartbeats 400000 in
theorem law_26 {g : jG} {nm : String} {h : jH} {i : Nat} {Q : kQ} (hR : RX h h) (hL : sL g ≤ 384) (hi6 : i + 6 ≤ sL g) (kx : ∀ h2, RX h2 h2 → K g 14 (YL nm) h2 1536 [(0, .ref 500000), (1, .ref 0), (2, .ref 131), (3, .int (nI i))] [] Q) : K g 14 (YL nm) h 966 [(0, .ref 500000), (1, .ref 0), (2, .ref 131), (3, .int (nI i))] [] Q := by
  refine J_aload_n (pc := 966) dL_law_966 rfl ?_
  refine J_aload_n (pc := 967) dL_law_967 rfl ?_
  refine J_iload_n (pc := 968) dL_law_968 rfl ?_
  refine J_iconst (pc := 969) (v := nI 1) dL_law_969 (by decide) ?_
  refine J_iadd (pc := 970) dL_law_970 (nI_add _ _) ?_
  refine J_sald (pc := 971) dL_law_971 (rfl) (by omega) hL ?_
  refine K_Vi1 (pc := 972) (Y' := YX5_spare) dL_law_972 lL_122 mX5_spare vX5_spare ⟨_, _, rfl⟩ sh0 (Nat.le_of_ble_eq_true rfl) (c5_spare (a := h) hR) ?_
  rintro r1 h1 ⟨a1, eo, R1, hh⟩
  have M1 := MR_same hR.mr hh.same
  refine J_aload_n (pc := 975) dL_law_975 rfl ?_
  refine J_aload_n (pc := 976) dL_law_976 rfl ?_
  refine J_iload_n (pc := 977) dL_law_977 rfl ?_
  refine J_iconst (pc := 978) (v := nI 1) dL_law_978 (by decide) ?_
  refine J_iadd (pc := 979) dL_law_979 (nI_add _ _) ?_
  refine J_sald (pc := 980) dL_law_980 (rfl) (by omega) hL ?_
  refine K_Vi1 (pc := 981) (Y' := YX6_spare) dL_law_981 lL_125 mX6_spare vX6_spare ⟨_, _, rfl⟩ sh131 (Nat.le_of_ble_eq_true rfl) (c6_spare M1) ?_
  rintro r2 h2 e6
  obtain ⟨ee, R2⟩ := fin_s eo (e_spare hh) e6 R1
  refine J_icmp_eq (pc := 984) (tgt := 1536) dL_law_984 (by decide) (fun c984 => ?_) (fun c984 => ?_)
  · skip
    refine J_ls (ls' := [(0, .ref 500000), (1, .ref 0), (2, .ref 131), (3, .int (nI i))]) ⟨rfl, rfl, rfl, rfl, trivial⟩ ?_
    exact kx h2 R2
  · skip
    exact absurd ee c984
set_option maxHeartbeats 400000 in
theorem law_27 {g : jG} {nm : String} {h : jH} {i : Nat} {Q : kQ} (hR : RX h h) (hL : sL g ≤ 384) (hi6 : i + 6 ≤ sL g) (kx : ∀ h2, RX h2 h2 → K g 14 (YL nm) h2 1536 [(0, .ref 500000), (1, .ref 0), (2, .ref 131), (3, .int (nI i))] [] Q) : K g 14 (YL nm) h 989 [(0, .ref 500000), (1, .ref 0), (2, .ref 131), (3, .int (nI i))] [] Q := by
  refine J_aload_n (pc := 989) dL_law_989 rfl ?_
  refine J_aload_n (pc := 990) dL_law_990 rfl ?_
  refine J_iload_n (pc := 991) dL_law_991 rfl ?_
  refine J_iconst (pc := 992) (v := nI 1) dL_law_992 (by decide) ?_
  refine J_iadd (pc := 993) dL_law_993 (nI_add _ _) ?_
  refine J_sald (pc := 994) dL_law_994 (rfl) (by omega) hL ?_
  refine K_Vi1 (pc := 995) (Y' := YX5_dear) dL_law_995 lL_126 mX5_dear vX5_dear ⟨_, _, rfl⟩ sh0 (Nat.le_of_ble_eq_true rfl) (c5_dear (a := h) hR) ?_
  rintro r1 h1 ⟨a1, eo, R1, hh⟩
  have M1 := MR_same hR.mr hh.same
  refine J_aload_n (pc := 998) dL_law_998 rfl ?_
  refine J_aload_n (pc := 999) dL_law_999 rfl ?_
  refine J_iload_n (pc := 1000) dL_law_1000 rfl ?_
  refine J_iconst (pc := 1001) (v := nI 1) dL_law_1001 (by decide) ?_
  refine J_iadd (pc := 1002) dL_law_1002 (nI_add _ _) ?_
  refine J_sald (pc := 1003) dL_law_1003 (rfl) (by omega) hL ?_
  refine K_Vi1 (pc := 1004) (Y' := YX6_dear) dL_law_1004 lL_129 mX6_dear vX6_dear ⟨_, _, rfl⟩ sh131 (Nat.le_of_ble_eq_true rfl) (c6_dear M1) ?_
  rintro r2 h2 e6
  obtain ⟨ee, R2⟩ := fin_s eo (e_dear hh) e6 R1
  refine J_icmp_eq (pc := 1007) (tgt := 1536) dL_law_1007 (by decide) (fun c1007 => ?_) (fun c1007 => ?_)
  · skip
    refine J_ls (ls' := [(0, .ref 500000), (1, .ref 0), (2, .ref 131), (3, .int (nI i))]) ⟨rfl, rfl, rfl, rfl, trivial⟩ ?_
    exact kx h2 R2
  · skip
    exact absurd ee c1007
set_option maxHeartbeats 400000 in
theorem law_28 {g : jG} {nm : String} {h : jH} {i : Nat} {Q : kQ} (hR : RX h h) (hL : sL g ≤ 384) (hi6 : i + 6 ≤ sL g) (kx : ∀ h2, RX h2 h2 → K g 14 (YL nm) h2 1536 [(0, .ref 500000), (1, .ref 0), (2, .ref 131), (3, .int (nI i))] [] Q) : K g 14 (YL nm) h 1012 [(0, .ref 500000), (1, .ref 0), (2, .ref 131), (3, .int (nI i))] [] Q := by
  refine J_aload_n (pc := 1012) dL_law_1012 rfl ?_
  refine J_aload_n (pc := 1013) dL_law_1013 rfl ?_
  refine J_iload_n (pc := 1014) dL_law_1014 rfl ?_
  refine J_iconst (pc := 1015) (v := nI 1) dL_law_1015 (by decide) ?_
  refine J_iadd (pc := 1016) dL_law_1016 (nI_add _ _) ?_
  refine J_sald (pc := 1017) dL_law_1017 (rfl) (by omega) hL ?_
  refine J_aload_n (pc := 1018) dL_law_1018 rfl ?_
  refine J_iload_n (pc := 1019) dL_law_1019 rfl ?_
  refine J_iconst (pc := 1020) (v := nI 2) dL_law_1020 (by decide) ?_
  refine J_iadd (pc := 1021) dL_law_1021 (nI_add _ _) ?_
  refine J_sald (pc := 1022) dL_law_1022 (rfl) (by omega) hL ?_
  refine J_aload_n (pc := 1023) dL_law_1023 rfl ?_
  refine J_iload_n (pc := 1024) dL_law_1024 rfl ?_
  refine J_iconst (pc := 1025) (v := nI 3) dL_law_1025 (by decide) ?_
  refine J_iadd (pc := 1026) dL_law_1026 (nI_add _ _) ?_
  refine J_sald (pc := 1027) dL_law_1027 (rfl) (by omega) hL ?_
  refine K_Vl3 (pc := 1028) (Y' := YX5_mean) dL_law_1028 lL_130 mX5_mean vX5_mean ⟨_, _, rfl⟩ sh0 (Nat.le_of_ble_eq_true rfl) (c5_mean (a := h) hR) ?_
  rintro r1 h1 ⟨e1, R1, hh⟩
  have M1 := MR_same hR.mr hh.same
  refine J_aload_n (pc := 1031) dL_law_1031 rfl ?_
  refine J_aload_n (pc := 1032) dL_law_1032 rfl ?_
  refine J_iload_n (pc := 1033) dL_law_1033 rfl ?_
  refine J_iconst (pc := 1034) (v := nI 1) dL_law_1034 (by decide) ?_
  refine J_iadd (pc := 1035) dL_law_1035 (nI_add _ _) ?_
  refine J_sald (pc := 1036) dL_law_1036 (rfl) (by omega) hL ?_
  refine J_aload_n (pc := 1037) dL_law_1037 rfl ?_
  refine J_iload_n (pc := 1038) dL_law_1038 rfl ?_
  refine J_iconst (pc := 1039) (v := nI 2) dL_law_1039 (by decide) ?_
  refine J_iadd (pc := 1040) dL_law_1040 (nI_add _ _) ?_
  refine J_sald (pc := 1041) dL_law_1041 (rfl) (by omega) hL ?_
  refine J_aload_n (pc := 1042) dL_law_1042 rfl ?_
  refine J_iload_n (pc := 1043) dL_law_1043 rfl ?_
  refine J_iconst (pc := 1044) (v := nI 3) dL_law_1044 (by decide) ?_
  refine J_iadd (pc := 1045) dL_law_1045 (nI_add _ _) ?_
  refine J_sald (pc := 1046) dL_law_1046 (rfl) (by omega) hL ?_
  refine K_Vl3 (pc := 1047) (Y' := YX6_mean) dL_law_1047 lL_134 mX6_mean vX6_mean ⟨_, _, rfl⟩ sh131 (Nat.le_of_ble_eq_true rfl) (c6_mean M1) ?_
  rintro r2 h2 ⟨e2, s2, l2⟩
  have ee : r1 = r2 := e1.trans ((e_mean hh).trans e2.symm)
  have R2 : RX h2 h2 := RX_congr R1 (hh.same.tr s2) l2.xq
  refine J_lcmp (pc := 1050) dL_law_1050 ?_
  refine J_if_eq (pc := 1051) (tgt := 1536) dL_law_1051 (by decide) (fun c1051 => ?_) (fun c1051 => ?_)
  · skip
    refine J_ls (ls' := [(0, .ref 500000), (1, .ref 0), (2, .ref 131), (3, .int (nI i))]) ⟨rfl, rfl, rfl, rfl, trivial⟩ ?_
    exact kx h2 R2
  · skip
    exact absurd (by rw [ee]; exact lg_cmp_self r2) c1051
set_option maxHeartbeats 400000 in
theorem law_29 {g : jG} {nm : String} {h : jH} {i : Nat} {Q : kQ} (hR : RX h h) (hL : sL g ≤ 384) (hi6 : i + 6 ≤ sL g) (kx : ∀ h2, RX h2 h2 → K g 14 (YL nm) h2 1536 [(0, .ref 500000), (1, .ref 0), (2, .ref 131), (3, .int (nI i))] [] Q) : K g 14 (YL nm) h 1056 [(0, .ref 500000), (1, .ref 0), (2, .ref 131), (3, .int (nI i))] [] Q := by
  refine J_aload_n (pc := 1056) dL_law_1056 rfl ?_
  refine J_aload_n (pc := 1057) dL_law_1057 rfl ?_
  refine J_iload_n (pc := 1058) dL_law_1058 rfl ?_
  refine J_iconst (pc := 1059) (v := nI 1) dL_law_1059 (by decide) ?_
  refine J_iadd (pc := 1060) dL_law_1060 (nI_add _ _) ?_
  refine J_sald (pc := 1061) dL_law_1061 (rfl) (by omega) hL ?_
  refine J_aload_n (pc := 1062) dL_law_1062 rfl ?_
  refine J_iload_n (pc := 1063) dL_law_1063 rfl ?_
  refine J_iconst (pc := 1064) (v := nI 2) dL_law_1064 (by decide) ?_
  refine J_iadd (pc := 1065) dL_law_1065 (nI_add _ _) ?_
  refine J_sald (pc := 1066) dL_law_1066 (rfl) (by omega) hL ?_
  refine J_aload_n (pc := 1067) dL_law_1067 rfl ?_
  refine J_iload_n (pc := 1068) dL_law_1068 rfl ?_
  refine J_iconst (pc := 1069) (v := nI 3) dL_law_1069 (by decide) ?_
  refine J_iadd (pc := 1070) dL_law_1070 (nI_add _ _) ?_
  refine J_sald (pc := 1071) dL_law_1071 (rfl) (by omega) hL ?_
  refine K_Vl3 (pc := 1072) (Y' := YX5_luck) dL_law_1072 lL_135 mX5_luck vX5_luck ⟨_, _, rfl⟩ sh0 (Nat.le_of_ble_eq_true rfl) (c5_luck (a := h) hR) ?_
  rintro r1 h1 ⟨e1, R1, hh⟩
  have M1 := MR_same hR.mr hh.same
  refine J_aload_n (pc := 1075) dL_law_1075 rfl ?_
  refine J_aload_n (pc := 1076) dL_law_1076 rfl ?_
  refine J_iload_n (pc := 1077) dL_law_1077 rfl ?_
  refine J_iconst (pc := 1078) (v := nI 1) dL_law_1078 (by decide) ?_
  refine J_iadd (pc := 1079) dL_law_1079 (nI_add _ _) ?_
  refine J_sald (pc := 1080) dL_law_1080 (rfl) (by omega) hL ?_
  refine J_aload_n (pc := 1081) dL_law_1081 rfl ?_
  refine J_iload_n (pc := 1082) dL_law_1082 rfl ?_
  refine J_iconst (pc := 1083) (v := nI 2) dL_law_1083 (by decide) ?_
  refine J_iadd (pc := 1084) dL_law_1084 (nI_add _ _) ?_
  refine J_sald (pc := 1085) dL_law_1085 (rfl) (by omega) hL ?_
  refine J_aload_n (pc := 1086) dL_law_1086 rfl ?_
  refine J_iload_n (pc := 1087) dL_law_1087 rfl ?_
  refine J_iconst (pc := 1088) (v := nI 3) dL_law_1088 (by decide) ?_
  refine J_iadd (pc := 1089) dL_law_1089 (nI_add _ _) ?_
  refine J_sald (pc := 1090) dL_law_1090 (rfl) (by omega) hL ?_
  refine K_Vl3 (pc := 1091) (Y' := YX6_luck) dL_law_1091 lL_138 mX6_luck vX6_luck ⟨_, _, rfl⟩ sh131 (Nat.le_of_ble_eq_true rfl) (c6_luck M1) ?_
  rintro r2 h2 ⟨e2, s2, l2⟩
  have ee : r1 = r2 := e1.trans ((e_luck hh).trans e2.symm)
  have R2 : RX h2 h2 := RX_congr R1 (hh.same.tr s2) l2.xq
  refine J_lcmp (pc := 1094) dL_law_1094 ?_
  refine J_if_eq (pc := 1095) (tgt := 1536) dL_law_1095 (by decide) (fun c1095 => ?_) (fun c1095 => ?_)
  · skip
    refine J_ls (ls' := [(0, .ref 500000), (1, .ref 0), (2, .ref 131), (3, .int (nI i))]) ⟨rfl, rfl, rfl, rfl, trivial⟩ ?_
    exact kx h2 R2
  · skip
    exact absurd (by rw [ee]; exact lg_cmp_self r2) c1095
set_option maxHeartbeats 400000 in
theorem law_30 {g : jG} {nm : String} {h : jH} {i : Nat} {Q : kQ} (hR : RX h h) (hL : sL g ≤ 384) (hi6 : i + 6 ≤ sL g) (kx : ∀ h2, RX h2 h2 → K g 14 (YL nm) h2 1536 [(0, .ref 500000), (1, .ref 0), (2, .ref 131), (3, .int (nI i))] [] Q) : K g 14 (YL nm) h 1100 [(0, .ref 500000), (1, .ref 0), (2, .ref 131), (3, .int (nI i))] [] Q := by
  refine J_aload_n (pc := 1100) dL_law_1100 rfl ?_
  refine J_aload_n (pc := 1101) dL_law_1101 rfl ?_
  refine J_iload_n (pc := 1102) dL_law_1102 rfl ?_
  refine J_iconst (pc := 1103) (v := nI 1) dL_law_1103 (by decide) ?_
  refine J_iadd (pc := 1104) dL_law_1104 (nI_add _ _) ?_
  refine J_sald (pc := 1105) dL_law_1105 (rfl) (by omega) hL ?_
  refine J_aload_n (pc := 1106) dL_law_1106 rfl ?_
  refine J_iload_n (pc := 1107) dL_law_1107 rfl ?_
  refine J_iconst (pc := 1108) (v := nI 2) dL_law_1108 (by decide) ?_
  refine J_iadd (pc := 1109) dL_law_1109 (nI_add _ _) ?_
  refine J_sald (pc := 1110) dL_law_1110 (rfl) (by omega) hL ?_
  refine K_Vl2 (pc := 1111) (Y' := YX5_forecast) dL_law_1111 lL_139 mX5_forecast vX5_forecast ⟨_, _, rfl⟩ sh0 (Nat.le_of_ble_eq_true rfl) (c5_forecast (a := h) hR) ?_
  rintro r1 h1 ⟨e1, R1, hh⟩
  have M1 := MR_same hR.mr hh.same
  refine J_aload_n (pc := 1114) dL_law_1114 rfl ?_
  refine J_aload_n (pc := 1115) dL_law_1115 rfl ?_
  refine J_iload_n (pc := 1116) dL_law_1116 rfl ?_
  refine J_iconst (pc := 1117) (v := nI 1) dL_law_1117 (by decide) ?_
  refine J_iadd (pc := 1118) dL_law_1118 (nI_add _ _) ?_
  refine J_sald (pc := 1119) dL_law_1119 (rfl) (by omega) hL ?_
  refine J_aload_n (pc := 1120) dL_law_1120 rfl ?_
  refine J_iload_n (pc := 1121) dL_law_1121 rfl ?_
  refine J_iconst (pc := 1122) (v := nI 2) dL_law_1122 (by decide) ?_
  refine J_iadd (pc := 1123) dL_law_1123 (nI_add _ _) ?_
  refine J_sald (pc := 1124) dL_law_1124 (rfl) (by omega) hL ?_
  refine K_Vl2 (pc := 1125) (Y' := YX6_forecast) dL_law_1125 lL_143 mX6_forecast vX6_forecast ⟨_, _, rfl⟩ sh131 (Nat.le_of_ble_eq_true rfl) (c6_forecast M1) ?_
  rintro r2 h2 ⟨e2, s2, l2⟩
  have ee : r1 = r2 := e1.trans ((e_forecast hh).trans e2.symm)
  have R2 : RX h2 h2 := RX_congr R1 (hh.same.tr s2) l2.xq
  refine J_lcmp (pc := 1128) dL_law_1128 ?_
  refine J_if_eq (pc := 1129) (tgt := 1536) dL_law_1129 (by decide) (fun c1129 => ?_) (fun c1129 => ?_)
  · skip
    refine J_ls (ls' := [(0, .ref 500000), (1, .ref 0), (2, .ref 131), (3, .int (nI i))]) ⟨rfl, rfl, rfl, rfl, trivial⟩ ?_
    exact kx h2 R2
  · skip
    exact absurd (by rw [ee]; exact lg_cmp_self r2) c1129
set_option maxHeartbeats 400000 in
theorem law_31 {g : jG} {nm : String} {h : jH} {i : Nat} {Q : kQ} (hR : RX h h) (hL : sL g ≤ 384) (hi6 : i + 6 ≤ sL g) (kx : ∀ h2, RX h2 h2 → K g 14 (YL nm) h2 1536 [(0, .ref 500000), (1, .ref 0), (2, .ref 131), (3, .int (nI i))] [] Q) : K g 14 (YL nm) h 1134 [(0, .ref 500000), (1, .ref 0), (2, .ref 131), (3, .int (nI i))] [] Q := by
  refine J_aload_n (pc := 1134) dL_law_1134 rfl ?_
  refine K_Vi0 (pc := 1135) (Y' := YX5_pays) dL_law_1135 lL_144 mX5_pays vX5_pays ⟨_, _, rfl⟩ sh0 (Nat.le_of_ble_eq_true rfl) (c5_pays (a := h) hR) ?_
  rintro r1 h1 ⟨a1, eo, R1, hh⟩
  have M1 := MR_same hR.mr hh.same
  refine J_aload_n (pc := 1138) dL_law_1138 rfl ?_
  refine K_Vi0 (pc := 1139) (Y' := YX6_pays) dL_law_1139 lL_147 mX6_pays vX6_pays ⟨_, _, rfl⟩ sh131 (Nat.le_of_ble_eq_true rfl) (c6_pays M1) ?_
  rintro r2 h2 e6
  obtain ⟨ee, R2⟩ := fin_s eo (e_pays hh) e6 R1
  refine J_icmp_eq (pc := 1142) (tgt := 1536) dL_law_1142 (by decide) (fun c1142 => ?_) (fun c1142 => ?_)
  · skip
    refine J_ls (ls' := [(0, .ref 500000), (1, .ref 0), (2, .ref 131), (3, .int (nI i))]) ⟨rfl, rfl, rfl, rfl, trivial⟩ ?_
    exact kx h2 R2
  · skip
    exact absurd ee c1142
set_option maxHeartbeats 400000 in
theorem law_32 {g : jG} {nm : String} {h : jH} {i : Nat} {Q : kQ} (hR : RX h h) (hL : sL g ≤ 384) (hi6 : i + 6 ≤ sL g) (kx : ∀ h2, RX h2 h2 → K g 14 (YL nm) h2 1536 [(0, .ref 500000), (1, .ref 0), (2, .ref 131), (3, .int (nI i))] [] Q) : K g 14 (YL nm) h 1147 [(0, .ref 500000), (1, .ref 0), (2, .ref 131), (3, .int (nI i))] [] Q := by
  refine J_aload_n (pc := 1147) dL_law_1147 rfl ?_
  refine K_Vi0 (pc := 1148) (Y' := YX5_forgive) dL_law_1148 lL_148 mX5_forgive vX5_forgive ⟨_, _, rfl⟩ sh0 (Nat.le_of_ble_eq_true rfl) (c5_forgive (a := h) hR) ?_
  rintro r1 h1 ⟨a1, eo, R1, hh⟩
  have M1 := MR_same hR.mr hh.same
  refine J_aload_n (pc := 1151) dL_law_1151 rfl ?_
  refine K_Vi0 (pc := 1152) (Y' := YX6_forgive) dL_law_1152 lL_151 mX6_forgive vX6_forgive ⟨_, _, rfl⟩ sh131 (Nat.le_of_ble_eq_true rfl) (c6_forgive M1) ?_
  rintro r2 h2 e6
  obtain ⟨ee, R2⟩ := fin_e eo (e_forgive hh) e6 lo_forgive R1
  refine J_icmp_eq (pc := 1155) (tgt := 1536) dL_law_1155 (by decide) (fun c1155 => ?_) (fun c1155 => ?_)
  · skip
    refine J_ls (ls' := [(0, .ref 500000), (1, .ref 0), (2, .ref 131), (3, .int (nI i))]) ⟨rfl, rfl, rfl, rfl, trivial⟩ ?_
    exact kx h2 R2
  · skip
    exact absurd ee c1155
set_option maxHeartbeats 400000 in
theorem law_33 {g : jG} {nm : String} {h : jH} {i : Nat} {Q : kQ} (hR : RX h h) (hL : sL g ≤ 384) (hi6 : i + 6 ≤ sL g) (kx : ∀ h2, RX h2 h2 → K g 14 (YL nm) h2 1536 [(0, .ref 500000), (1, .ref 0), (2, .ref 131), (3, .int (nI i))] [] Q) : K g 14 (YL nm) h 1160 [(0, .ref 500000), (1, .ref 0), (2, .ref 131), (3, .int (nI i))] [] Q := by
  refine J_aload_n (pc := 1160) dL_law_1160 rfl ?_
  refine J_aload_n (pc := 1161) dL_law_1161 rfl ?_
  refine J_iload_n (pc := 1162) dL_law_1162 rfl ?_
  refine J_iconst (pc := 1163) (v := nI 1) dL_law_1163 (by decide) ?_
  refine J_iadd (pc := 1164) dL_law_1164 (nI_add _ _) ?_
  refine J_sald (pc := 1165) dL_law_1165 (rfl) (by omega) hL ?_
  refine J_aload_n (pc := 1166) dL_law_1166 rfl ?_
  refine J_iload_n (pc := 1167) dL_law_1167 rfl ?_
  refine J_iconst (pc := 1168) (v := nI 2) dL_law_1168 (by decide) ?_
  refine J_iadd (pc := 1169) dL_law_1169 (nI_add _ _) ?_
  refine J_sald (pc := 1170) dL_law_1170 (rfl) (by omega) hL ?_
  refine J_aload_n (pc := 1171) dL_law_1171 rfl ?_
  refine J_iload_n (pc := 1172) dL_law_1172 rfl ?_
  refine J_iconst (pc := 1173) (v := nI 3) dL_law_1173 (by decide) ?_
  refine J_iadd (pc := 1174) dL_law_1174 (nI_add _ _) ?_
  refine J_sald (pc := 1175) dL_law_1175 (rfl) (by omega) hL ?_
  refine K_Vi3 (pc := 1176) (Y' := YX5_see) dL_law_1176 lL_152 mX5_see vX5_see ⟨_, _, rfl⟩ sh0 (Nat.le_of_ble_eq_true rfl) (c5_see (a := h) hR) ?_
  rintro r1 h1 ⟨a1, eo, R1, hh⟩
  have M1 := MR_same hR.mr hh.same
  refine J_aload_n (pc := 1179) dL_law_1179 rfl ?_
  refine J_aload_n (pc := 1180) dL_law_1180 rfl ?_
  refine J_iload_n (pc := 1181) dL_law_1181 rfl ?_
  refine J_iconst (pc := 1182) (v := nI 1) dL_law_1182 (by decide) ?_
  refine J_iadd (pc := 1183) dL_law_1183 (nI_add _ _) ?_
  refine J_sald (pc := 1184) dL_law_1184 (rfl) (by omega) hL ?_
  refine J_aload_n (pc := 1185) dL_law_1185 rfl ?_
  refine J_iload_n (pc := 1186) dL_law_1186 rfl ?_
  refine J_iconst (pc := 1187) (v := nI 2) dL_law_1187 (by decide) ?_
  refine J_iadd (pc := 1188) dL_law_1188 (nI_add _ _) ?_
  refine J_sald (pc := 1189) dL_law_1189 (rfl) (by omega) hL ?_
  refine J_aload_n (pc := 1190) dL_law_1190 rfl ?_
  refine J_iload_n (pc := 1191) dL_law_1191 rfl ?_
  refine J_iconst (pc := 1192) (v := nI 3) dL_law_1192 (by decide) ?_
  refine J_iadd (pc := 1193) dL_law_1193 (nI_add _ _) ?_
  refine J_sald (pc := 1194) dL_law_1194 (rfl) (by omega) hL ?_
  refine K_Vi3 (pc := 1195) (Y' := YX6_see) dL_law_1195 lL_155 mX6_see vX6_see ⟨_, _, rfl⟩ sh131 (Nat.le_of_ble_eq_true rfl) (c6_see M1) ?_
  rintro r2 h2 e6
  obtain ⟨ee, R2⟩ := fin_e eo (e_see hh) e6 lo_see R1
  refine J_icmp_eq (pc := 1198) (tgt := 1536) dL_law_1198 (by decide) (fun c1198 => ?_) (fun c1198 => ?_)
  · skip
    refine J_ls (ls' := [(0, .ref 500000), (1, .ref 0), (2, .ref 131), (3, .int (nI i))]) ⟨rfl, rfl, rfl, rfl, trivial⟩ ?_
    exact kx h2 R2
  · skip
    exact absurd ee c1198
set_option maxHeartbeats 400000 in
theorem law_34 {g : jG} {nm : String} {h : jH} {i : Nat} {Q : kQ} (hR : RX h h) (hL : sL g ≤ 384) (hi6 : i + 6 ≤ sL g) (kx : ∀ h2, RX h2 h2 → K g 14 (YL nm) h2 1536 [(0, .ref 500000), (1, .ref 0), (2, .ref 131), (3, .int (nI i))] [] Q) : K g 14 (YL nm) h 1203 [(0, .ref 500000), (1, .ref 0), (2, .ref 131), (3, .int (nI i))] [] Q := by
  refine J_aload_n (pc := 1203) dL_law_1203 rfl ?_
  refine J_aload_n (pc := 1204) dL_law_1204 rfl ?_
  refine J_iload_n (pc := 1205) dL_law_1205 rfl ?_
  refine J_iconst (pc := 1206) (v := nI 1) dL_law_1206 (by decide) ?_
  refine J_iadd (pc := 1207) dL_law_1207 (nI_add _ _) ?_
  refine J_sald (pc := 1208) dL_law_1208 (rfl) (by omega) hL ?_
  refine K_Vi1 (pc := 1209) (Y' := YX5_forget) dL_law_1209 lL_156 mX5_forget vX5_forget ⟨_, _, rfl⟩ sh0 (Nat.le_of_ble_eq_true rfl) (c5_forget (a := h) hR) ?_
  rintro r1 h1 ⟨a1, eo, R1, hh⟩
  have M1 := MR_same hR.mr hh.same
  refine J_aload_n (pc := 1212) dL_law_1212 rfl ?_
  refine J_aload_n (pc := 1213) dL_law_1213 rfl ?_
  refine J_iload_n (pc := 1214) dL_law_1214 rfl ?_
  refine J_iconst (pc := 1215) (v := nI 1) dL_law_1215 (by decide) ?_
  refine J_iadd (pc := 1216) dL_law_1216 (nI_add _ _) ?_
  refine J_sald (pc := 1217) dL_law_1217 (rfl) (by omega) hL ?_
  refine K_Vi1 (pc := 1218) (Y' := YX6_forget) dL_law_1218 lL_159 mX6_forget vX6_forget ⟨_, _, rfl⟩ sh131 (Nat.le_of_ble_eq_true rfl) (c6_forget M1) ?_
  rintro r2 h2 e6
  obtain ⟨ee, R2⟩ := fin_e eo (e_forget hh) e6 lo_forget R1
  refine J_icmp_eq (pc := 1221) (tgt := 1536) dL_law_1221 (by decide) (fun c1221 => ?_) (fun c1221 => ?_)
  · skip
    refine J_ls (ls' := [(0, .ref 500000), (1, .ref 0), (2, .ref 131), (3, .int (nI i))]) ⟨rfl, rfl, rfl, rfl, trivial⟩ ?_
    exact kx h2 R2
  · skip
    exact absurd ee c1221
set_option maxHeartbeats 400000 in
theorem law_35 {g : jG} {nm : String} {h : jH} {i : Nat} {Q : kQ} (hR : RX h h) (hL : sL g ≤ 384) (hi6 : i + 6 ≤ sL g) (kx : ∀ h2, RX h2 h2 → K g 14 (YL nm) h2 1536 [(0, .ref 500000), (1, .ref 0), (2, .ref 131), (3, .int (nI i))] [] Q) : K g 14 (YL nm) h 1226 [(0, .ref 500000), (1, .ref 0), (2, .ref 131), (3, .int (nI i))] [] Q := by
  refine J_aload_n (pc := 1226) dL_law_1226 rfl ?_
  refine J_aload_n (pc := 1227) dL_law_1227 rfl ?_
  refine J_iload_n (pc := 1228) dL_law_1228 rfl ?_
  refine J_iconst (pc := 1229) (v := nI 1) dL_law_1229 (by decide) ?_
  refine J_iadd (pc := 1230) dL_law_1230 (nI_add _ _) ?_
  refine J_sald (pc := 1231) dL_law_1231 (rfl) (by omega) hL ?_
  refine K_Vi1 (pc := 1232) (Y' := YX5_fits) dL_law_1232 lL_160 mX5_fits vX5_fits ⟨_, _, rfl⟩ sh0 (Nat.le_of_ble_eq_true rfl) (c5_fits (a := h) hR) ?_
  rintro r1 h1 ⟨a1, eo, R1, hh⟩
  have M1 := MR_same hR.mr hh.same
  refine J_aload_n (pc := 1235) dL_law_1235 rfl ?_
  refine J_aload_n (pc := 1236) dL_law_1236 rfl ?_
  refine J_iload_n (pc := 1237) dL_law_1237 rfl ?_
  refine J_iconst (pc := 1238) (v := nI 1) dL_law_1238 (by decide) ?_
  refine J_iadd (pc := 1239) dL_law_1239 (nI_add _ _) ?_
  refine J_sald (pc := 1240) dL_law_1240 (rfl) (by omega) hL ?_
  refine K_Vi1 (pc := 1241) (Y' := YX6_fits) dL_law_1241 lL_163 mX6_fits vX6_fits ⟨_, _, rfl⟩ sh131 (Nat.le_of_ble_eq_true rfl) (c6_fits M1) ?_
  rintro r2 h2 e6
  obtain ⟨ee, R2⟩ := fin_s eo (e_fits hh) e6 R1
  refine J_icmp_eq (pc := 1244) (tgt := 1536) dL_law_1244 (by decide) (fun c1244 => ?_) (fun c1244 => ?_)
  · skip
    refine J_ls (ls' := [(0, .ref 500000), (1, .ref 0), (2, .ref 131), (3, .int (nI i))]) ⟨rfl, rfl, rfl, rfl, trivial⟩ ?_
    exact kx h2 R2
  · skip
    exact absurd ee c1244
set_option maxHeartbeats 400000 in
theorem law_36 {g : jG} {nm : String} {h : jH} {i : Nat} {Q : kQ} (hR : RX h h) (hL : sL g ≤ 384) (hi6 : i + 6 ≤ sL g) (kx : ∀ h2, RX h2 h2 → K g 14 (YL nm) h2 1536 [(0, .ref 500000), (1, .ref 0), (2, .ref 131), (3, .int (nI i))] [] Q) : K g 14 (YL nm) h 1249 [(0, .ref 500000), (1, .ref 0), (2, .ref 131), (3, .int (nI i))] [] Q := by
  refine J_aload_n (pc := 1249) dL_law_1249 rfl ?_
  refine J_aload_n (pc := 1250) dL_law_1250 rfl ?_
  refine J_iload_n (pc := 1251) dL_law_1251 rfl ?_
  refine J_iconst (pc := 1252) (v := nI 1) dL_law_1252 (by decide) ?_
  refine J_iadd (pc := 1253) dL_law_1253 (nI_add _ _) ?_
  refine J_sald (pc := 1254) dL_law_1254 (rfl) (by omega) hL ?_
  refine K_Vi1 (pc := 1255) (Y' := YX5_look) dL_law_1255 lL_164 mX5_look vX5_look ⟨_, _, rfl⟩ sh0 (Nat.le_of_ble_eq_true rfl) (c5_look (a := h) hR) ?_
  rintro r1 h1 ⟨a1, eo, R1, hh⟩
  have M1 := MR_same hR.mr hh.same
  refine J_aload_n (pc := 1258) dL_law_1258 rfl ?_
  refine J_aload_n (pc := 1259) dL_law_1259 rfl ?_
  refine J_iload_n (pc := 1260) dL_law_1260 rfl ?_
  refine J_iconst (pc := 1261) (v := nI 1) dL_law_1261 (by decide) ?_
  refine J_iadd (pc := 1262) dL_law_1262 (nI_add _ _) ?_
  refine J_sald (pc := 1263) dL_law_1263 (rfl) (by omega) hL ?_
  refine K_Vi1 (pc := 1264) (Y' := YX6_look) dL_law_1264 lL_167 mX6_look vX6_look ⟨_, _, rfl⟩ sh131 (Nat.le_of_ble_eq_true rfl) (c6_look M1) ?_
  rintro r2 h2 e6
  obtain ⟨ee, R2⟩ := fin_s eo (e_look hh) e6 R1
  refine J_icmp_eq (pc := 1267) (tgt := 1536) dL_law_1267 (by decide) (fun c1267 => ?_) (fun c1267 => ?_)
  · skip
    refine J_ls (ls' := [(0, .ref 500000), (1, .ref 0), (2, .ref 131), (3, .int (nI i))]) ⟨rfl, rfl, rfl, rfl, trivial⟩ ?_
    exact kx h2 R2
  · skip
    exact absurd ee c1267
set_option maxHeartbeats 400000 in
theorem law_37 {g : jG} {nm : String} {h : jH} {i : Nat} {Q : kQ} (hR : RX h h) (hL : sL g ≤ 384) (hi6 : i + 6 ≤ sL g) (kx : ∀ h2, RX h2 h2 → K g 14 (YL nm) h2 1536 [(0, .ref 500000), (1, .ref 0), (2, .ref 131), (3, .int (nI i))] [] Q) : K g 14 (YL nm) h 1272 [(0, .ref 500000), (1, .ref 0), (2, .ref 131), (3, .int (nI i))] [] Q := by
  refine J_aload_n (pc := 1272) dL_law_1272 rfl ?_
  refine J_aload_n (pc := 1273) dL_law_1273 rfl ?_
  refine J_iload_n (pc := 1274) dL_law_1274 rfl ?_
  refine J_iconst (pc := 1275) (v := nI 1) dL_law_1275 (by decide) ?_
  refine J_iadd (pc := 1276) dL_law_1276 (nI_add _ _) ?_
  refine J_sald (pc := 1277) dL_law_1277 (rfl) (by omega) hL ?_
  refine J_aload_n (pc := 1278) dL_law_1278 rfl ?_
  refine J_iload_n (pc := 1279) dL_law_1279 rfl ?_
  refine J_iconst (pc := 1280) (v := nI 2) dL_law_1280 (by decide) ?_
  refine J_iadd (pc := 1281) dL_law_1281 (nI_add _ _) ?_
  refine J_sald (pc := 1282) dL_law_1282 (rfl) (by omega) hL ?_
  refine J_aload_n (pc := 1283) dL_law_1283 rfl ?_
  refine J_iload_n (pc := 1284) dL_law_1284 rfl ?_
  refine J_iconst (pc := 1285) (v := nI 3) dL_law_1285 (by decide) ?_
  refine J_iadd (pc := 1286) dL_law_1286 (nI_add _ _) ?_
  refine J_sald (pc := 1287) dL_law_1287 (rfl) (by omega) hL ?_
  refine K_Vi3 (pc := 1288) (Y' := YX5_drift) dL_law_1288 lL_168 mX5_drift vX5_drift ⟨_, _, rfl⟩ sh0 (Nat.le_of_ble_eq_true rfl) (c5_drift (a := h) hR) ?_
  rintro r1 h1 ⟨a1, eo, R1, hh⟩
  have M1 := MR_same hR.mr hh.same
  refine J_aload_n (pc := 1291) dL_law_1291 rfl ?_
  refine J_aload_n (pc := 1292) dL_law_1292 rfl ?_
  refine J_iload_n (pc := 1293) dL_law_1293 rfl ?_
  refine J_iconst (pc := 1294) (v := nI 1) dL_law_1294 (by decide) ?_
  refine J_iadd (pc := 1295) dL_law_1295 (nI_add _ _) ?_
  refine J_sald (pc := 1296) dL_law_1296 (rfl) (by omega) hL ?_
  refine J_aload_n (pc := 1297) dL_law_1297 rfl ?_
  refine J_iload_n (pc := 1298) dL_law_1298 rfl ?_
  refine J_iconst (pc := 1299) (v := nI 2) dL_law_1299 (by decide) ?_
  refine J_iadd (pc := 1300) dL_law_1300 (nI_add _ _) ?_
  refine J_sald (pc := 1301) dL_law_1301 (rfl) (by omega) hL ?_
  refine J_aload_n (pc := 1302) dL_law_1302 rfl ?_
  refine J_iload_n (pc := 1303) dL_law_1303 rfl ?_
  refine J_iconst (pc := 1304) (v := nI 3) dL_law_1304 (by decide) ?_
  refine J_iadd (pc := 1305) dL_law_1305 (nI_add _ _) ?_
  refine J_sald (pc := 1306) dL_law_1306 (rfl) (by omega) hL ?_
  refine K_Vi3 (pc := 1307) (Y' := YX6_drift) dL_law_1307 lL_171 mX6_drift vX6_drift ⟨_, _, rfl⟩ sh131 (Nat.le_of_ble_eq_true rfl) (c6_drift M1) ?_
  rintro r2 h2 e6
  obtain ⟨ee, R2⟩ := fin_s eo (e_drift hh) e6 R1
  refine J_icmp_eq (pc := 1310) (tgt := 1536) dL_law_1310 (by decide) (fun c1310 => ?_) (fun c1310 => ?_)
  · skip
    refine J_ls (ls' := [(0, .ref 500000), (1, .ref 0), (2, .ref 131), (3, .int (nI i))]) ⟨rfl, rfl, rfl, rfl, trivial⟩ ?_
    exact kx h2 R2
  · skip
    exact absurd ee c1310
set_option maxHeartbeats 400000 in
theorem law_38 {g : jG} {nm : String} {h : jH} {i : Nat} {Q : kQ} (hR : RX h h) (hL : sL g ≤ 384) (hi6 : i + 6 ≤ sL g) (kx : ∀ h2, RX h2 h2 → K g 14 (YL nm) h2 1536 [(0, .ref 500000), (1, .ref 0), (2, .ref 131), (3, .int (nI i))] [] Q) : K g 14 (YL nm) h 1315 [(0, .ref 500000), (1, .ref 0), (2, .ref 131), (3, .int (nI i))] [] Q := by
  refine J_aload_n (pc := 1315) dL_law_1315 rfl ?_
  refine J_aload_n (pc := 1316) dL_law_1316 rfl ?_
  refine J_iload_n (pc := 1317) dL_law_1317 rfl ?_
  refine J_iconst (pc := 1318) (v := nI 1) dL_law_1318 (by decide) ?_
  refine J_iadd (pc := 1319) dL_law_1319 (nI_add _ _) ?_
  refine J_sald (pc := 1320) dL_law_1320 (rfl) (by omega) hL ?_
  refine K_Vi1 (pc := 1321) (Y' := YX5_keep) dL_law_1321 lL_172 mX5_keep vX5_keep ⟨_, _, rfl⟩ sh0 (Nat.le_of_ble_eq_true rfl) (c5_keep (a := h) hR) ?_
  rintro r1 h1 ⟨a1, eo, R1, hh⟩
  have M1 := MR_same hR.mr hh.same
  refine J_aload_n (pc := 1324) dL_law_1324 rfl ?_
  refine J_aload_n (pc := 1325) dL_law_1325 rfl ?_
  refine J_iload_n (pc := 1326) dL_law_1326 rfl ?_
  refine J_iconst (pc := 1327) (v := nI 1) dL_law_1327 (by decide) ?_
  refine J_iadd (pc := 1328) dL_law_1328 (nI_add _ _) ?_
  refine J_sald (pc := 1329) dL_law_1329 (rfl) (by omega) hL ?_
  refine K_Vi1 (pc := 1330) (Y' := YX6_keep) dL_law_1330 lL_175 mX6_keep vX6_keep ⟨_, _, rfl⟩ sh131 (Nat.le_of_ble_eq_true rfl) (c6_keep M1) ?_
  rintro r2 h2 e6
  obtain ⟨ee, R2⟩ := fin_e eo (e_keep hh) e6 lo_keep R1
  refine J_icmp_eq (pc := 1333) (tgt := 1536) dL_law_1333 (by decide) (fun c1333 => ?_) (fun c1333 => ?_)
  · skip
    refine J_ls (ls' := [(0, .ref 500000), (1, .ref 0), (2, .ref 131), (3, .int (nI i))]) ⟨rfl, rfl, rfl, rfl, trivial⟩ ?_
    exact kx h2 R2
  · skip
    exact absurd ee c1333
set_option maxHeartbeats 400000 in
theorem law_39 {g : jG} {nm : String} {h : jH} {i : Nat} {Q : kQ} (hR : RX h h) (hL : sL g ≤ 384) (hi6 : i + 6 ≤ sL g) (kx : ∀ h2, RX h2 h2 → K g 14 (YL nm) h2 1536 [(0, .ref 500000), (1, .ref 0), (2, .ref 131), (3, .int (nI i))] [] Q) : K g 14 (YL nm) h 1338 [(0, .ref 500000), (1, .ref 0), (2, .ref 131), (3, .int (nI i))] [] Q := by
  refine J_aload_n (pc := 1338) dL_law_1338 rfl ?_
  refine J_aload_n (pc := 1339) dL_law_1339 rfl ?_
  refine J_iload_n (pc := 1340) dL_law_1340 rfl ?_
  refine J_iconst (pc := 1341) (v := nI 1) dL_law_1341 (by decide) ?_
  refine J_iadd (pc := 1342) dL_law_1342 (nI_add _ _) ?_
  refine J_sald (pc := 1343) dL_law_1343 (rfl) (by omega) hL ?_
  refine K_Vi1 (pc := 1344) (Y' := YX5_back) dL_law_1344 lL_176 mX5_back vX5_back ⟨_, _, rfl⟩ sh0 (Nat.le_of_ble_eq_true rfl) (c5_back (a := h) hR) ?_
  rintro r1 h1 ⟨a1, eo, R1, hh⟩
  have M1 := MR_same hR.mr hh.same
  refine J_aload_n (pc := 1347) dL_law_1347 rfl ?_
  refine J_aload_n (pc := 1348) dL_law_1348 rfl ?_
  refine J_iload_n (pc := 1349) dL_law_1349 rfl ?_
  refine J_iconst (pc := 1350) (v := nI 1) dL_law_1350 (by decide) ?_
  refine J_iadd (pc := 1351) dL_law_1351 (nI_add _ _) ?_
  refine J_sald (pc := 1352) dL_law_1352 (rfl) (by omega) hL ?_
  refine K_Vi1 (pc := 1353) (Y' := YX6_back) dL_law_1353 lL_179 mX6_back vX6_back ⟨_, _, rfl⟩ sh131 (Nat.le_of_ble_eq_true rfl) (c6_back M1) ?_
  rintro r2 h2 e6
  obtain ⟨ee, R2⟩ := fin_e eo (e_back hh) e6 lo_back R1
  refine J_icmp_eq (pc := 1356) (tgt := 1536) dL_law_1356 (by decide) (fun c1356 => ?_) (fun c1356 => ?_)
  · skip
    refine J_ls (ls' := [(0, .ref 500000), (1, .ref 0), (2, .ref 131), (3, .int (nI i))]) ⟨rfl, rfl, rfl, rfl, trivial⟩ ?_
    exact kx h2 R2
  · skip
    exact absurd ee c1356
set_option maxHeartbeats 400000 in
theorem law_40 {g : jG} {nm : String} {h : jH} {i : Nat} {Q : kQ} (hR : RX h h) (hL : sL g ≤ 384) (hi6 : i + 6 ≤ sL g) (kx : ∀ h2, RX h2 h2 → K g 14 (YL nm) h2 1536 [(0, .ref 500000), (1, .ref 0), (2, .ref 131), (3, .int (nI i))] [] Q) : K g 14 (YL nm) h 1361 [(0, .ref 500000), (1, .ref 0), (2, .ref 131), (3, .int (nI i))] [] Q := by
  refine J_aload_n (pc := 1361) dL_law_1361 rfl ?_
  refine J_aload_n (pc := 1362) dL_law_1362 rfl ?_
  refine J_iload_n (pc := 1363) dL_law_1363 rfl ?_
  refine J_iconst (pc := 1364) (v := nI 1) dL_law_1364 (by decide) ?_
  refine J_iadd (pc := 1365) dL_law_1365 (nI_add _ _) ?_
  refine J_sald (pc := 1366) dL_law_1366 (rfl) (by omega) hL ?_
  refine J_aload_n (pc := 1367) dL_law_1367 rfl ?_
  refine J_iload_n (pc := 1368) dL_law_1368 rfl ?_
  refine J_iconst (pc := 1369) (v := nI 2) dL_law_1369 (by decide) ?_
  refine J_iadd (pc := 1370) dL_law_1370 (nI_add _ _) ?_
  refine J_sald (pc := 1371) dL_law_1371 (rfl) (by omega) hL ?_
  refine J_aload_n (pc := 1372) dL_law_1372 rfl ?_
  refine J_iload_n (pc := 1373) dL_law_1373 rfl ?_
  refine J_iconst (pc := 1374) (v := nI 3) dL_law_1374 (by decide) ?_
  refine J_iadd (pc := 1375) dL_law_1375 (nI_add _ _) ?_
  refine J_sald (pc := 1376) dL_law_1376 (rfl) (by omega) hL ?_
  refine K_Vi3 (pc := 1377) (Y' := YX5_sheet) dL_law_1377 lL_180 mX5_sheet vX5_sheet ⟨_, _, rfl⟩ sh0 (Nat.le_of_ble_eq_true rfl) (c5_sheet (a := h) hR) ?_
  rintro r1 h1 ⟨a1, eo, R1, hh⟩
  have M1 := MR_same hR.mr hh.same
  refine J_aload_n (pc := 1380) dL_law_1380 rfl ?_
  refine J_aload_n (pc := 1381) dL_law_1381 rfl ?_
  refine J_iload_n (pc := 1382) dL_law_1382 rfl ?_
  refine J_iconst (pc := 1383) (v := nI 1) dL_law_1383 (by decide) ?_
  refine J_iadd (pc := 1384) dL_law_1384 (nI_add _ _) ?_
  refine J_sald (pc := 1385) dL_law_1385 (rfl) (by omega) hL ?_
  refine J_aload_n (pc := 1386) dL_law_1386 rfl ?_
  refine J_iload_n (pc := 1387) dL_law_1387 rfl ?_
  refine J_iconst (pc := 1388) (v := nI 2) dL_law_1388 (by decide) ?_
  refine J_iadd (pc := 1389) dL_law_1389 (nI_add _ _) ?_
  refine J_sald (pc := 1390) dL_law_1390 (rfl) (by omega) hL ?_
  refine J_aload_n (pc := 1391) dL_law_1391 rfl ?_
  refine J_iload_n (pc := 1392) dL_law_1392 rfl ?_
  refine J_iconst (pc := 1393) (v := nI 3) dL_law_1393 (by decide) ?_
  refine J_iadd (pc := 1394) dL_law_1394 (nI_add _ _) ?_
  refine J_sald (pc := 1395) dL_law_1395 (rfl) (by omega) hL ?_
  refine K_Vi3 (pc := 1396) (Y' := YX6_sheet) dL_law_1396 lL_183 mX6_sheet vX6_sheet ⟨_, _, rfl⟩ sh131 (Nat.le_of_ble_eq_true rfl) (c6_sheet M1) ?_
  rintro r2 h2 e6
  obtain ⟨ee, R2⟩ := fin_e eo (e_sheet hh) e6 lo_sheet R1
  refine J_icmp_eq (pc := 1399) (tgt := 1536) dL_law_1399 (by decide) (fun c1399 => ?_) (fun c1399 => ?_)
  · skip
    refine J_ls (ls' := [(0, .ref 500000), (1, .ref 0), (2, .ref 131), (3, .int (nI i))]) ⟨rfl, rfl, rfl, rfl, trivial⟩ ?_
    exact kx h2 R2
  · skip
    exact absurd ee c1399
set_option maxHeartbeats 400000 in
theorem law_41 {g : jG} {nm : String} {h : jH} {i : Nat} {Q : kQ} (hR : RX h h) (hL : sL g ≤ 384) (hi6 : i + 6 ≤ sL g) (kx : ∀ h2, RX h2 h2 → K g 14 (YL nm) h2 1536 [(0, .ref 500000), (1, .ref 0), (2, .ref 131), (3, .int (nI i))] [] Q) : K g 14 (YL nm) h 1404 [(0, .ref 500000), (1, .ref 0), (2, .ref 131), (3, .int (nI i))] [] Q := by
  refine J_aload_n (pc := 1404) dL_law_1404 rfl ?_
  refine J_aload_n (pc := 1405) dL_law_1405 rfl ?_
  refine J_iload_n (pc := 1406) dL_law_1406 rfl ?_
  refine J_iconst (pc := 1407) (v := nI 1) dL_law_1407 (by decide) ?_
  refine J_iadd (pc := 1408) dL_law_1408 (nI_add _ _) ?_
  refine J_sald (pc := 1409) dL_law_1409 (rfl) (by omega) hL ?_
  refine J_aload_n (pc := 1410) dL_law_1410 rfl ?_
  refine J_iload_n (pc := 1411) dL_law_1411 rfl ?_
  refine J_iconst (pc := 1412) (v := nI 2) dL_law_1412 (by decide) ?_
  refine J_iadd (pc := 1413) dL_law_1413 (nI_add _ _) ?_
  refine J_sald (pc := 1414) dL_law_1414 (rfl) (by omega) hL ?_
  refine J_aload_n (pc := 1415) dL_law_1415 rfl ?_
  refine J_iload_n (pc := 1416) dL_law_1416 rfl ?_
  refine J_iconst (pc := 1417) (v := nI 3) dL_law_1417 (by decide) ?_
  refine J_iadd (pc := 1418) dL_law_1418 (nI_add _ _) ?_
  refine J_sald (pc := 1419) dL_law_1419 (rfl) (by omega) hL ?_
  refine K_Vi3 (pc := 1420) (Y' := YX5_lay) dL_law_1420 lL_184 mX5_lay vX5_lay ⟨_, _, rfl⟩ sh0 (Nat.le_of_ble_eq_true rfl) (c5_lay (a := h) hR) ?_
  rintro r1 h1 ⟨a1, eo, R1, hh⟩
  have M1 := MR_same hR.mr hh.same
  refine J_aload_n (pc := 1423) dL_law_1423 rfl ?_
  refine J_aload_n (pc := 1424) dL_law_1424 rfl ?_
  refine J_iload_n (pc := 1425) dL_law_1425 rfl ?_
  refine J_iconst (pc := 1426) (v := nI 1) dL_law_1426 (by decide) ?_
  refine J_iadd (pc := 1427) dL_law_1427 (nI_add _ _) ?_
  refine J_sald (pc := 1428) dL_law_1428 (rfl) (by omega) hL ?_
  refine J_aload_n (pc := 1429) dL_law_1429 rfl ?_
  refine J_iload_n (pc := 1430) dL_law_1430 rfl ?_
  refine J_iconst (pc := 1431) (v := nI 2) dL_law_1431 (by decide) ?_
  refine J_iadd (pc := 1432) dL_law_1432 (nI_add _ _) ?_
  refine J_sald (pc := 1433) dL_law_1433 (rfl) (by omega) hL ?_
  refine J_aload_n (pc := 1434) dL_law_1434 rfl ?_
  refine J_iload_n (pc := 1435) dL_law_1435 rfl ?_
  refine J_iconst (pc := 1436) (v := nI 3) dL_law_1436 (by decide) ?_
  refine J_iadd (pc := 1437) dL_law_1437 (nI_add _ _) ?_
  refine J_sald (pc := 1438) dL_law_1438 (rfl) (by omega) hL ?_
  refine K_Vi3 (pc := 1439) (Y' := YX6_lay) dL_law_1439 lL_187 mX6_lay vX6_lay ⟨_, _, rfl⟩ sh131 (Nat.le_of_ble_eq_true rfl) (c6_lay M1) ?_
  rintro r2 h2 e6
  obtain ⟨ee, R2⟩ := fin_e eo (e_lay hh) e6 lo_lay R1
  refine J_icmp_eq (pc := 1442) (tgt := 1536) dL_law_1442 (by decide) (fun c1442 => ?_) (fun c1442 => ?_)
  · skip
    refine J_ls (ls' := [(0, .ref 500000), (1, .ref 0), (2, .ref 131), (3, .int (nI i))]) ⟨rfl, rfl, rfl, rfl, trivial⟩ ?_
    exact kx h2 R2
  · skip
    exact absurd ee c1442
set_option maxHeartbeats 400000 in
theorem law_42 {g : jG} {nm : String} {h : jH} {i : Nat} {Q : kQ} (hR : RX h h) (hL : sL g ≤ 384) (hi6 : i + 6 ≤ sL g) (kx : ∀ h2, RX h2 h2 → K g 14 (YL nm) h2 1536 [(0, .ref 500000), (1, .ref 0), (2, .ref 131), (3, .int (nI i))] [] Q) : K g 14 (YL nm) h 1447 [(0, .ref 500000), (1, .ref 0), (2, .ref 131), (3, .int (nI i))] [] Q := by
  refine J_aload_n (pc := 1447) dL_law_1447 rfl ?_
  refine J_aload_n (pc := 1448) dL_law_1448 rfl ?_
  refine J_iload_n (pc := 1449) dL_law_1449 rfl ?_
  refine J_iconst (pc := 1450) (v := nI 1) dL_law_1450 (by decide) ?_
  refine J_iadd (pc := 1451) dL_law_1451 (nI_add _ _) ?_
  refine J_sald (pc := 1452) dL_law_1452 (rfl) (by omega) hL ?_
  refine J_aload_n (pc := 1453) dL_law_1453 rfl ?_
  refine J_iload_n (pc := 1454) dL_law_1454 rfl ?_
  refine J_iconst (pc := 1455) (v := nI 2) dL_law_1455 (by decide) ?_
  refine J_iadd (pc := 1456) dL_law_1456 (nI_add _ _) ?_
  refine J_sald (pc := 1457) dL_law_1457 (rfl) (by omega) hL ?_
  refine J_aload_n (pc := 1458) dL_law_1458 rfl ?_
  refine J_iload_n (pc := 1459) dL_law_1459 rfl ?_
  refine J_iconst (pc := 1460) (v := nI 3) dL_law_1460 (by decide) ?_
  refine J_iadd (pc := 1461) dL_law_1461 (nI_add _ _) ?_
  refine J_sald (pc := 1462) dL_law_1462 (rfl) (by omega) hL ?_
  refine J_aload_n (pc := 1463) dL_law_1463 rfl ?_
  refine J_iload_n (pc := 1464) dL_law_1464 rfl ?_
  refine J_iconst (pc := 1465) (v := nI 4) dL_law_1465 (by decide) ?_
  refine J_iadd (pc := 1466) dL_law_1466 (nI_add _ _) ?_
  refine J_sald (pc := 1467) dL_law_1467 (rfl) (by omega) hL ?_
  refine K_Vi4 (pc := 1468) (Y' := YX5_read) dL_law_1468 lL_188 mX5_read vX5_read ⟨_, _, rfl⟩ sh0 (Nat.le_of_ble_eq_true rfl) (c5_read (a := h) hR) ?_
  rintro r1 h1 ⟨a1, eo, R1, hh⟩
  have M1 := MR_same hR.mr hh.same
  refine J_aload_n (pc := 1471) dL_law_1471 rfl ?_
  refine J_aload_n (pc := 1472) dL_law_1472 rfl ?_
  refine J_iload_n (pc := 1473) dL_law_1473 rfl ?_
  refine J_iconst (pc := 1474) (v := nI 1) dL_law_1474 (by decide) ?_
  refine J_iadd (pc := 1475) dL_law_1475 (nI_add _ _) ?_
  refine J_sald (pc := 1476) dL_law_1476 (rfl) (by omega) hL ?_
  refine J_aload_n (pc := 1477) dL_law_1477 rfl ?_
  refine J_iload_n (pc := 1478) dL_law_1478 rfl ?_
  refine J_iconst (pc := 1479) (v := nI 2) dL_law_1479 (by decide) ?_
  refine J_iadd (pc := 1480) dL_law_1480 (nI_add _ _) ?_
  refine J_sald (pc := 1481) dL_law_1481 (rfl) (by omega) hL ?_
  refine J_aload_n (pc := 1482) dL_law_1482 rfl ?_
  refine J_iload_n (pc := 1483) dL_law_1483 rfl ?_
  refine J_iconst (pc := 1484) (v := nI 3) dL_law_1484 (by decide) ?_
  refine J_iadd (pc := 1485) dL_law_1485 (nI_add _ _) ?_
  refine J_sald (pc := 1486) dL_law_1486 (rfl) (by omega) hL ?_
  refine J_aload_n (pc := 1487) dL_law_1487 rfl ?_
  refine J_iload_n (pc := 1488) dL_law_1488 rfl ?_
  refine J_iconst (pc := 1489) (v := nI 4) dL_law_1489 (by decide) ?_
  refine J_iadd (pc := 1490) dL_law_1490 (nI_add _ _) ?_
  refine J_sald (pc := 1491) dL_law_1491 (rfl) (by omega) hL ?_
  refine K_Vi4 (pc := 1492) (Y' := YX6_read) dL_law_1492 lL_192 mX6_read vX6_read ⟨_, _, rfl⟩ sh131 (Nat.le_of_ble_eq_true rfl) (c6_read M1) ?_
  rintro r2 h2 e6
  obtain ⟨ee, R2⟩ := fin_s eo (e_read hh) e6 R1
  refine J_icmp_eq (pc := 1495) (tgt := 1536) dL_law_1495 (by decide) (fun c1495 => ?_) (fun c1495 => ?_)
  · skip
    refine J_ls (ls' := [(0, .ref 500000), (1, .ref 0), (2, .ref 131), (3, .int (nI i))]) ⟨rfl, rfl, rfl, rfl, trivial⟩ ?_
    exact kx h2 R2
  · skip
    exact absurd ee c1495
set_option maxHeartbeats 400000 in
theorem law_43 {g : jG} {nm : String} {h : jH} {i : Nat} {Q : kQ} (hR : RX h h) (hL : sL g ≤ 384) (hi6 : i + 6 ≤ sL g) (kx : ∀ h2, RX h2 h2 → K g 14 (YL nm) h2 1536 [(0, .ref 500000), (1, .ref 0), (2, .ref 131), (3, .int (nI i))] [] Q) : K g 14 (YL nm) h 1500 [(0, .ref 500000), (1, .ref 0), (2, .ref 131), (3, .int (nI i))] [] Q := by
  refine J_aload_n (pc := 1500) dL_law_1500 rfl ?_
  refine K_Vi0 (pc := 1501) (Y' := YX5_torn) dL_law_1501 lL_193 mX5_torn vX5_torn ⟨_, _, rfl⟩ sh0 (Nat.le_of_ble_eq_true rfl) (c5_torn (a := h) hR) ?_
  rintro r1 h1 ⟨a1, eo, R1, hh⟩
  have M1 := MR_same hR.mr hh.same
  refine J_aload_n (pc := 1504) dL_law_1504 rfl ?_
  refine K_Vi0 (pc := 1505) (Y' := YX6_torn) dL_law_1505 lL_196 mX6_torn vX6_torn ⟨_, _, rfl⟩ sh131 (Nat.le_of_ble_eq_true rfl) (c6_torn M1) ?_
  rintro r2 h2 e6
  obtain ⟨ee, R2⟩ := fin_e eo (e_torn hh) e6 lo_torn R1
  refine J_icmp_eq (pc := 1508) (tgt := 1536) dL_law_1508 (by decide) (fun c1508 => ?_) (fun c1508 => ?_)
  · skip
    refine J_ls (ls' := [(0, .ref 500000), (1, .ref 0), (2, .ref 131), (3, .int (nI i))]) ⟨rfl, rfl, rfl, rfl, trivial⟩ ?_
    exact kx h2 R2
  · skip
    exact absurd ee c1508
set_option maxHeartbeats 400000 in
theorem law_44 {g : jG} {nm : String} {h : jH} {i : Nat} {Q : kQ} (hR : RX h h) (hL : sL g ≤ 384) (hi6 : i + 6 ≤ sL g) (kx : ∀ h2, RX h2 h2 → K g 14 (YL nm) h2 1536 [(0, .ref 500000), (1, .ref 0), (2, .ref 131), (3, .int (nI i))] [] Q) : K g 14 (YL nm) h 1513 [(0, .ref 500000), (1, .ref 0), (2, .ref 131), (3, .int (nI i))] [] Q := by
  refine J_aload_n (pc := 1513) dL_law_1513 rfl ?_
  refine J_aload_n (pc := 1514) dL_law_1514 rfl ?_
  refine J_iload_n (pc := 1515) dL_law_1515 rfl ?_
  refine J_iconst (pc := 1516) (v := nI 1) dL_law_1516 (by decide) ?_
  refine J_iadd (pc := 1517) dL_law_1517 (nI_add _ _) ?_
  refine J_sald (pc := 1518) dL_law_1518 (rfl) (by omega) hL ?_
  refine K_Vi1 (pc := 1519) (Y' := YX5_count) dL_law_1519 lL_197 mX5_count vX5_count ⟨_, _, rfl⟩ sh0 (Nat.le_of_ble_eq_true rfl) (c5_count (a := h) hR) ?_
  rintro r1 h1 ⟨a1, eo, R1, hh⟩
  have M1 := MR_same hR.mr hh.same
  refine J_aload_n (pc := 1522) dL_law_1522 rfl ?_
  refine J_aload_n (pc := 1523) dL_law_1523 rfl ?_
  refine J_iload_n (pc := 1524) dL_law_1524 rfl ?_
  refine J_iconst (pc := 1525) (v := nI 1) dL_law_1525 (by decide) ?_
  refine J_iadd (pc := 1526) dL_law_1526 (nI_add _ _) ?_
  refine J_sald (pc := 1527) dL_law_1527 (rfl) (by omega) hL ?_
  refine K_Vi1 (pc := 1528) (Y' := YX6_count) dL_law_1528 lL_200 mX6_count vX6_count ⟨_, _, rfl⟩ sh131 (Nat.le_of_ble_eq_true rfl) (c6_count M1) ?_
  rintro r2 h2 e6
  obtain ⟨ee, R2⟩ := fin_e eo (e_count hh) e6 lo_count R1
  refine J_icmp_eq (pc := 1531) (tgt := 1536) dL_law_1531 (by decide) (fun c1531 => ?_) (fun c1531 => ?_)
  · skip
    refine J_ls (ls' := [(0, .ref 500000), (1, .ref 0), (2, .ref 131), (3, .int (nI i))]) ⟨rfl, rfl, rfl, rfl, trivial⟩ ?_
    exact kx h2 R2
  · skip
    exact absurd ee c1531
