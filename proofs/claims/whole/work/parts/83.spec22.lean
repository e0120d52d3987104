/-! the law's loop: the two answers, and what stays -/
abbrev YL (nm : String) : jY := (RL, ⟨RL, nm, "([I)Z"⟩, cL_law, 4, ret)
def glue (h h1 : jH) : jH := fun b k => if 131 ≤ b then h b k else h1 b k
theorem hi_glue {h h1 : jH} (hh : hi h h1) : h1 = glue h h1 := by
  funext b k
  by_cases z : 131 ≤ b
  · rw [glue, if_pos z, hh b z]
  · rw [glue, if_neg z]
theorem hi.same {h h1 : jH} (hh : hi h h1) : sameP h h1 := ⟨fun k _ => by rw [hh 132 (by omega)], fun k _ => by rw [hh 131 (by omega)], fun b hb => hh b (by omega)⟩
theorem lo.xq {h h' : jH} (l : lo h h') : xq h h' := fun b hb => l b (by omega)
theorem fin_s {X X1 : Int32 × jH} {r r' : Int32} {a' h1 h2 : jH} (eo : X = (r, a')) (er : eqR X X1) (e6 : r' = X1.1 ∧ sameP X1.2 h2 ∧ lo h1 h2) (hR : RX a' h1) : r = r' ∧ RX h2 h2 := by
  obtain ⟨e1, e2, e3⟩ := e6
  subst eo
  exact ⟨er.1.trans e1.symm, RX_congr hR (er.2.tr e2) e3.xq⟩
theorem fin_e {X X1 : Int32 × jH} {r r' : Int32} {a' h1 h2 : jH} (eo : X = (r, a')) (er : eqR X X1) (e6 : (r', h2) = X1) (l : lo h1 X1.2) (hR : RX a' h1) : r = r' ∧ RX h2 h2 := by
  subst e6
  exact fin_s eo er ⟨rfl, sameP.rf, l⟩ hR
theorem lo_iteR {C : Prop} {x y : Int32 × jH} {h : jH} (h1 : lo h x.2) (h2 : lo h y.2) : lo h (iteR C x y).2 := by
  by_cases c : C
  · rw [iteR_t c]; exact h1
  · rw [iteR_f c]; exact h2
theorem lo_zcH {h : jH} {k m : Nat} : lo h (zcH h k m) := fun b hb => funext fun j => if_neg (by omega)
theorem eqR_rd {h h1 : jH} {X : rdT} (hh : hi h h1) : eqR (rdO h X) (rdO h1 X) := by
  rw [hi_glue hh]
  match X with
  | (r, none) => exact ⟨rfl, fun _ _ => rfl, fun _ _ => rfl, fun b hb => by rcases hb with rfl | rfl | rfl | rfl | rfl | rfl | rfl | rfl | rfl <;> rfl⟩
  | (r, some (b, P)) => exact ⟨rfl, fun _ _ => rfl, fun _ _ => rfl, fun b hb => by rcases hb with rfl | rfl | rfl | rfl | rfl | rfl | rfl | rfl | rfl <;> rfl⟩
section JL
variable {g : jG} {d : Nat} {Y Y' : jY} {b : Nat × Nat} {σ : List jD} {h : jH} {pc : Nat} {ls : List (Nat × Value)} {st : List Value} {Q : jQ}
/-- an int of the script -/
def sc (g : jG) (i : Nat) : Int32 := Int32.ofNat (g.2.2.2.1 (700000 + i))
def sL (g : jG) : Nat := g.2.2.2.1 600000
theorem J_slen {v : Int32} (hv : nI (sL g) = v) (hd : decode Y.2.2.1 pc = .ok (.arraylength, 1)) (kk : J g d Y b σ h (pc + 1) ls (.int v :: st) Q) : J g d Y b σ h pc ls (.ref 500000 :: st) Q := by
  intro p e R s m args below meth c Qw C H locs cells slots lsA hc hs hP hS hl
  obtain ⟨hx, hbb, hml, hown, hts, hE, -⟩ := id C
  exact va_tlen hx hbb hE.2.2.2.2.2.2.2.2.2.2.1 hS hv hd (kk p e R s m args below meth c Qw C H locs cells slots lsA hc hs hP hS hl)
theorem J_sald {k : Nat} {i : Int32} (hd : decode Y.2.2.1 pc = .ok (.iaload, 1)) (hi : i = nI k) (hk : k < sL g) (hL : sL g ≤ 384) (kk : J g d Y b σ h (pc + 1) ls (.int (sc g k) :: st) Q) : J g d Y b σ h pc ls (.int i :: .ref 500000 :: st) Q := by
  intro p e R s m args below meth c Qw C H locs cells slots lsA hc hs hP hS hl
  obtain ⟨hx, hbb, hml, hown, hts, hE, -⟩ := id C
  subst hi
  have hL' : g.2.2.2.1 600000 ≤ 384 := hL
  have hk' : k < g.2.2.2.1 600000 := hk
  exact va_ti hx hbb hE.2.2.2.2.2.2.2.2.2.2.1 hS (j_in hk' (by omega)) (v := .int (sc g k)) (by rw [nI_clamp (by omega)]; rfl) hd (kk p e R s m args below meth c Qw C H locs cells slots lsA hc hs hP hS hl)
end JL
