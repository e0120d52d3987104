/-! THE SHAPE of what the law makes: 146 places; and the judgement over it -/
def vD (v : Nat) : List jD := [.inr (.inr (4, [none, some (some (v + 1)), some (some (v + 4)), none, some (some (v + 5)), some (some (v + 11)), none, none, some (some (v + 12)), none, some (some (v + 13))])),
  .inr (.inl (2, [some (v + 2), some (v + 3), some (v + 4)])), .inl (0, 4), .inl (0, 4), .inl (0, 4),
  .inr (.inl (2, [some (v + 6), some (v + 7), some (v + 8), some (v + 9), some (v + 10)])), .inl (0, 5), .inl (0, 5), .inl (0, 5), .inl (0, 5), .inl (0, 5),
  .inl (0, 4), .inl (0, 8), .inr (.inl (2, [some (v + 14), some (v + 15), some (v + 16), some (v + 17)])), .inl (0, 4), .inl (0, 4), .inl (0, 4), .inl (0, 4)]
def SH : List jD := [.inr (.inr (5, [some (some 1), some (some 19), some (some 37), some (some 38), some (some 39), some (some 59), some (some 81), some (some 85), some (some 86), none]))] ++ (vD 1 ++ (vD 19 ++ ([.inr (.inl (3, [some 87, some 105])), .inl (1, 2), .inr (.inr (1, [some (some 40), none, none, none, none, none, none, some (some 41), none, none, none])), .inl (0, 160)] ++ (vD 41 ++ ([.inr (.inr (0, [some (some 60), some (some 78), some (some 79), none, some (some 80), none, none]))] ++ (vD 60 ++ ([.inl (0, 1364), .inl (0, 256), .inl (0, 1000), .inr (.inr (3, [none, some (some 82), some (some 83), some (some 84)])), .inl (0, 6), .inl (0, 6), .inl (0, 6), .inr (.inl (4, [some 123, some 125, some 127, some 129])), .inl (0, 16)] ++ (vD 87 ++ (vD 105 ++ ([.inr (.inr (2, [none, none, some (some 124)])), .inl (0, 40), .inr (.inr (2, [none, none, some (some 126)])), .inl (0, 40), .inr (.inr (2, [none, none, some (some 128)])), .inl (0, 40), .inr (.inr (2, [none, none, some (some 130)])), .inl (0, 40), .inr (.inr (6, [some (some 132), some (some 133), none, some (some 134), none, none, none, some (some 135), none, none, none, none, none, none, none, none, some (some 136), some (some 137), none, some (some 138), some (some 139), none, some (some 140), some (some 141), some (some 142), some (some 143), some (some 144), some (some 145), none])), .inl (0, 414), .inl (0, 16), .inl (0, 69), .inl (0, 160), .inl (0, 13), .inl (0, 56), .inl (0, 16), .inl (0, 18), .inl (0, 4096), .inl (1, 256), .inl (1, 2), .inl (0, 4), .inl (0, 4), .inl (0, 160)]))))))))))
theorem sh0 : SH[0]? = some (.inr (.inr (5, [some (some 1), some (some 19), some (some 37), some (some 38), some (some 39), some (some 59), some (some 81), some (some 85), some (some 86), none]))) := rfl
theorem sh37 : SH[37]? = some (.inr (.inl (3, [some 87, some 105]))) := rfl
theorem sh38 : SH[38]? = some (.inl (1, 2)) := rfl
theorem sh39 : SH[39]? = some (.inr (.inr (1, [some (some 40), none, none, none, none, none, none, some (some 41), none, none, none]))) := rfl
theorem sh40 : SH[40]? = some (.inl (0, 160)) := rfl
theorem sh59 : SH[59]? = some (.inr (.inr (0, [some (some 60), some (some 78), some (some 79), none, some (some 80), none, none]))) := rfl
theorem sh78 : SH[78]? = some (.inl (0, 1364)) := rfl
theorem sh79 : SH[79]? = some (.inl (0, 256)) := rfl
theorem sh80 : SH[80]? = some (.inl (0, 1000)) := rfl
theorem sh81 : SH[81]? = some (.inr (.inr (3, [none, some (some 82), some (some 83), some (some 84)]))) := rfl
theorem sh82 : SH[82]? = some (.inl (0, 6)) := rfl
theorem sh83 : SH[83]? = some (.inl (0, 6)) := rfl
theorem sh84 : SH[84]? = some (.inl (0, 6)) := rfl
theorem sh85 : SH[85]? = some (.inr (.inl (4, [some 123, some 125, some 127, some 129]))) := rfl
theorem sh86 : SH[86]? = some (.inl (0, 16)) := rfl
theorem sh123 : SH[123]? = some (.inr (.inr (2, [none, none, some (some 124)]))) := rfl
theorem sh124 : SH[124]? = some (.inl (0, 40)) := rfl
theorem sh125 : SH[125]? = some (.inr (.inr (2, [none, none, some (some 126)]))) := rfl
theorem sh126 : SH[126]? = some (.inl (0, 40)) := rfl
theorem sh127 : SH[127]? = some (.inr (.inr (2, [none, none, some (some 128)]))) := rfl
theorem sh128 : SH[128]? = some (.inl (0, 40)) := rfl
theorem sh129 : SH[129]? = some (.inr (.inr (2, [none, none, some (some 130)]))) := rfl
theorem sh130 : SH[130]? = some (.inl (0, 40)) := rfl
theorem sh131 : SH[131]? = some (.inr (.inr (6, [some (some 132), some (some 133), none, some (some 134), none, none, none, some (some 135), none, none, none, none, none, none, none, none, some (some 136), some (some 137), none, some (some 138), some (some 139), none, some (some 140), some (some 141), some (some 142), some (some 143), some (some 144), some (some 145), none]))) := rfl
theorem sh132 : SH[132]? = some (.inl (0, 414)) := rfl
theorem sh133 : SH[133]? = some (.inl (0, 16)) := rfl
theorem sh134 : SH[134]? = some (.inl (0, 69)) := rfl
theorem sh135 : SH[135]? = some (.inl (0, 160)) := rfl
theorem sh136 : SH[136]? = some (.inl (0, 13)) := rfl
theorem sh137 : SH[137]? = some (.inl (0, 56)) := rfl
theorem sh138 : SH[138]? = some (.inl (0, 16)) := rfl
theorem sh139 : SH[139]? = some (.inl (0, 18)) := rfl
theorem sh140 : SH[140]? = some (.inl (0, 4096)) := rfl
theorem sh141 : SH[141]? = some (.inl (1, 256)) := rfl
theorem sh142 : SH[142]? = some (.inl (1, 2)) := rfl
theorem sh143 : SH[143]? = some (.inl (0, 4)) := rfl
theorem sh144 : SH[144]? = some (.inl (0, 4)) := rfl
theorem sh145 : SH[145]? = some (.inl (0, 160)) := rfl
def isV (v : Nat) : Prop := v = 1 ∨ v = 19 ∨ v = 41 ∨ v = 60 ∨ v = 87 ∨ v = 105
theorem sv0 {v : Nat} (hv : isV v) : SH[v]? = some (.inr (.inr (4, [none, some (some (v + 1)), some (some (v + 4)), none, some (some (v + 5)), some (some (v + 11)), none, none, some (some (v + 12)), none, some (some (v + 13))]))) := by rcases hv with rfl | rfl | rfl | rfl | rfl | rfl <;> rfl
theorem sv1 {v : Nat} (hv : isV v) : SH[v + 1]? = some (.inr (.inl (2, [some (v + 2), some (v + 3), some (v + 4)]))) := by rcases hv with rfl | rfl | rfl | rfl | rfl | rfl <;> rfl
theorem sv2 {v : Nat} (hv : isV v) : SH[v + 2]? = some (.inl (0, 4)) := by rcases hv with rfl | rfl | rfl | rfl | rfl | rfl <;> rfl
theorem sv3 {v : Nat} (hv : isV v) : SH[v + 3]? = some (.inl (0, 4)) := by rcases hv with rfl | rfl | rfl | rfl | rfl | rfl <;> rfl
theorem sv4 {v : Nat} (hv : isV v) : SH[v + 4]? = some (.inl (0, 4)) := by rcases hv with rfl | rfl | rfl | rfl | rfl | rfl <;> rfl
theorem sv5 {v : Nat} (hv : isV v) : SH[v + 5]? = some (.inr (.inl (2, [some (v + 6), some (v + 7), some (v + 8), some (v + 9), some (v + 10)]))) := by rcases hv with rfl | rfl | rfl | rfl | rfl | rfl <;> rfl
theorem sv6 {v : Nat} (hv : isV v) : SH[v + 6]? = some (.inl (0, 5)) := by rcases hv with rfl | rfl | rfl | rfl | rfl | rfl <;> rfl
theorem sv7 {v : Nat} (hv : isV v) : SH[v + 7]? = some (.inl (0, 5)) := by rcases hv with rfl | rfl | rfl | rfl | rfl | rfl <;> rfl
theorem sv8 {v : Nat} (hv : isV v) : SH[v + 8]? = some (.inl (0, 5)) := by rcases hv with rfl | rfl | rfl | rfl | rfl | rfl <;> rfl
theorem sv9 {v : Nat} (hv : isV v) : SH[v + 9]? = some (.inl (0, 5)) := by rcases hv with rfl | rfl | rfl | rfl | rfl | rfl <;> rfl
theorem sv10 {v : Nat} (hv : isV v) : SH[v + 10]? = some (.inl (0, 5)) := by rcases hv with rfl | rfl | rfl | rfl | rfl | rfl <;> rfl
theorem sv11 {v : Nat} (hv : isV v) : SH[v + 11]? = some (.inl (0, 4)) := by rcases hv with rfl | rfl | rfl | rfl | rfl | rfl <;> rfl
theorem sv12 {v : Nat} (hv : isV v) : SH[v + 12]? = some (.inl (0, 8)) := by rcases hv with rfl | rfl | rfl | rfl | rfl | rfl <;> rfl
theorem sv13 {v : Nat} (hv : isV v) : SH[v + 13]? = some (.inr (.inl (2, [some (v + 14), some (v + 15), some (v + 16), some (v + 17)]))) := by rcases hv with rfl | rfl | rfl | rfl | rfl | rfl <;> rfl
theorem sv14 {v : Nat} (hv : isV v) : SH[v + 14]? = some (.inl (0, 4)) := by rcases hv with rfl | rfl | rfl | rfl | rfl | rfl <;> rfl
theorem sv15 {v : Nat} (hv : isV v) : SH[v + 15]? = some (.inl (0, 4)) := by rcases hv with rfl | rfl | rfl | rfl | rfl | rfl <;> rfl
theorem sv16 {v : Nat} (hv : isV v) : SH[v + 16]? = some (.inl (0, 4)) := by rcases hv with rfl | rfl | rfl | rfl | rfl | rfl <;> rfl
theorem sv17 {v : Nat} (hv : isV v) : SH[v + 17]? = some (.inl (0, 4)) := by rcases hv with rfl | rfl | rfl | rfl | rfl | rfl <;> rfl
theorem isV1 : isV 1 := Or.inl rfl
theorem isV19 : isV 19 := Or.inr (Or.inl rfl)
theorem isV41 : isV 41 := Or.inr (Or.inr (Or.inl rfl))
theorem isV60 : isV 60 := Or.inr (Or.inr (Or.inr (Or.inl rfl)))
theorem isV87 : isV 87 := Or.inr (Or.inr (Or.inr (Or.inr (Or.inl rfl))))
theorem isV105 : isV 105 := Or.inr (Or.inr (Or.inr (Or.inr (Or.inr rfl))))
theorem j_k0 {g : jG} : ∃ ty, (j_t g)[0]? = some (g.2.2.1 0, ty) := ⟨_, rfl⟩
theorem j_k1 {g : jG} : ∃ ty, (j_t g)[1]? = some (g.2.2.1 1, ty) := ⟨_, rfl⟩
theorem j_k2 {g : jG} : ∃ ty, (j_t g)[2]? = some (g.2.2.1 2, ty) ∧ ty.isReference = true := ⟨_, rfl, rfl⟩
theorem j_k3 {g : jG} : ∃ ty, (j_t g)[3]? = some (g.2.2.1 3, ty) ∧ ty.isReference = true := ⟨_, rfl, rfl⟩
theorem j_k4 {g : jG} : ∃ ty, (j_t g)[4]? = some (g.2.2.1 4, ty) ∧ ty.isReference = true := ⟨_, rfl, rfl⟩
abbrev kQ : Type := Option Value → jH → Prop
def j_q (Q : kQ) : jQ := fun r σ h => σ = SH ∧ Q r h
abbrev K (g : jG) (d : Nat) (Y : jY) (h : jH) (pc : Nat) (ls : List (Nat × Value)) (st : List Value) (Q : kQ) : Prop := J g d Y (0, 0) SH h pc ls st (j_q Q)
def Mi (g : jG) (d : Nat) (Y : jY) (h : jH) (av : List Value) (P : Int32 → jH → Prop) : Prop := M g d Y (0, 0) SH h av (j_q fun r h' => ∃ x, r = some (.int x) ∧ P x h')
def Ml (g : jG) (d : Nat) (Y : jY) (h : jH) (av : List Value) (P : Int64 → jH → Prop) : Prop := M g d Y (0, 0) SH h av (j_q fun r h' => ∃ x, r = some (.long x) ∧ P x h')
def Mv (g : jG) (d : Nat) (Y : jY) (h : jH) (av : List Value) (P : jH → Prop) : Prop := M g d Y (0, 0) SH h av (j_q fun r h' => r = none ∧ P h')
def Mr (g : jG) (d : Nat) (Y : jY) (h : jH) (av : List Value) (P : Nat → jH → Prop) : Prop := M g d Y (0, 0) SH h av (j_q fun r h' => ∃ x, r = some (.ref x) ∧ P x h')
section KC
variable {g : jG} {d : Nat} {Y Y' : jY} {h : jH} {pc : Nat} {ls : List (Nat × Value)} {st : List Value} {Q : kQ}
theorem K_iret {x : Int32} {P : Int32 → jH → Prop} (hd : decode Y.2.2.1 pc = .ok (.ireturn, 1)) (hr : Y.2.2.2.2 = some .int) (hq : P x h) : K g d Y h pc ls [.int x] (fun r h' => ∃ x, r = some (.int x) ∧ P x h') := J_iret hd hr ⟨rfl, x, rfl, hq⟩
theorem K_zret {x : Int32} {P : Int32 → jH → Prop} (hd : decode Y.2.2.1 pc = .ok (.ireturn, 1)) (hr : Y.2.2.2.2 = some .boolean) (hx : x = 0 ∨ x = 1) (hq : P x h) : K g d Y h pc ls [.int x] (fun r h' => ∃ x, r = some (.int x) ∧ P x h') := J_zret hd hr (by rcases hx with rfl | rfl <;> decide) ⟨rfl, x, rfl, hq⟩
theorem K_lret {x : Int64} {P : Int64 → jH → Prop} (hd : decode Y.2.2.1 pc = .ok (.lreturn, 1)) (hr : Y.2.2.2.2 = some .long) (hq : P x h) : K g d Y h pc ls [.long x] (fun r h' => ∃ x, r = some (.long x) ∧ P x h') := J_lret hd hr ⟨rfl, x, rfl, hq⟩
theorem K_aret {x : Nat} {n : String} {P : Nat → jH → Prop} (hd : decode Y.2.2.1 pc = .ok (.areturn, 1)) (hr : Y.2.2.2.2 = some (.object n)) (hq : P x h) : K g d Y h pc ls [.ref x] (fun r h' => ∃ x, r = some (.ref x) ∧ P x h') := J_aret hd hr ⟨rfl, x, rfl, hq⟩
theorem K_ret {P : jH → Prop} (hd : decode Y.2.2.1 pc = .ok (.return_, 1)) (hr : Y.2.2.2.2 = none) (hq : P h) : K g d Y h pc ls [] (fun r h' => r = none ∧ P h') := J_ret hd hr ⟨rfl, rfl, hq⟩
theorem K_Vi0 {nst : Bool} {ci a idx : Nat} {fs : List (Option (Option Nat))} {P : Int32 → jH → Prop} (hd : decode Y.2.2.1 pc = .ok (.invokevirtual idx, 3)) (hL : j_L Y.1 idx Y'.2.1 nst) (hM : j_My Y' 0) (hI : Cond.instanceMethod Y'.2.1 ∈ jB ∧ Cond.selects Y'.1 Y'.2.1 Y'.2.1 ∈ jB) (hcl : ∃ T N, vwCl[ci]? = some (Y'.1, T, N)) (hs : SH[a]? = some (.inr (.inr (ci, fs)))) (hw : (st.map fun v => v.category).sum ≤ 8) (hc : Mi g d Y' h (.ref a :: []) P) (kk : ∀ (x : Int32) (h' : jH), P x h' → K g (d + 1) Y h' (pc + 3) ls (.int x :: st) Q) : K g (d + 1) Y h pc ls (.ref a :: st) Q :=
  J_callV (b' := (0, 0)) (b2 := (0, 0)) (As := []) hd hL hM hI hcl hs rfl rfl hw ⟨Nat.le_refl _, Nat.le_refl _⟩ hc (by
    rintro r σ h' ⟨rfl, x, rfl, hp⟩
    exact kk x h' hp)
theorem K_Si0 {nst : Bool} {idx : Nat} {P : Int32 → jH → Prop} (hd : decode Y.2.2.1 pc = .ok (.invokestatic idx, 3)) (hL : j_L Y.1 idx Y'.2.1 nst) (hM : j_My Y' 0) (hI : Cond.static Y'.2.1 ∈ jB) (hw : (st.map fun v => v.category).sum ≤ 8) (hc : Mi g d Y' h [] P) (kk : ∀ (x : Int32) (h' : jH), P x h' → K g (d + 1) Y h' (pc + 3) ls (.int x :: st) Q) : K g (d + 1) Y h pc ls (st) Q :=
  J_callS (b' := (0, 0)) (b2 := (0, 0)) (As := []) hd hL hM hI rfl rfl hw ⟨Nat.le_refl _, Nat.le_refl _⟩ hc (by
    rintro r σ h' ⟨rfl, x, rfl, hp⟩
    exact kk x h' hp)
theorem K_Vl0 {nst : Bool} {ci a idx : Nat} {fs : List (Option (Option Nat))} {P : Int64 → jH → Prop} (hd : decode Y.2.2.1 pc = .ok (.invokevirtual idx, 3)) (hL : j_L Y.1 idx Y'.2.1 nst) (hM : j_My Y' 0) (hI : Cond.instanceMethod Y'.2.1 ∈ jB ∧ Cond.selects Y'.1 Y'.2.1 Y'.2.1 ∈ jB) (hcl : ∃ T N, vwCl[ci]? = some (Y'.1, T, N)) (hs : SH[a]? = some (.inr (.inr (ci, fs)))) (hw : (st.map fun v => v.category).sum ≤ 8) (hc : Ml g d Y' h (.ref a :: []) P) (kk : ∀ (x : Int64) (h' : jH), P x h' → K g (d + 1) Y h' (pc + 3) ls (.long x :: st) Q) : K g (d + 1) Y h pc ls (.ref a :: st) Q :=
  J_callV (b' := (0, 0)) (b2 := (0, 0)) (As := []) hd hL hM hI hcl hs rfl rfl hw ⟨Nat.le_refl _, Nat.le_refl _⟩ hc (by
    rintro r σ h' ⟨rfl, x, rfl, hp⟩
    exact kk x h' hp)
theorem K_Sl0 {nst : Bool} {idx : Nat} {P : Int64 → jH → Prop} (hd : decode Y.2.2.1 pc = .ok (.invokestatic idx, 3)) (hL : j_L Y.1 idx Y'.2.1 nst) (hM : j_My Y' 0) (hI : Cond.static Y'.2.1 ∈ jB) (hw : (st.map fun v => v.category).sum ≤ 8) (hc : Ml g d Y' h [] P) (kk : ∀ (x : Int64) (h' : jH), P x h' → K g (d + 1) Y h' (pc + 3) ls (.long x :: st) Q) : K g (d + 1) Y h pc ls (st) Q :=
  J_callS (b' := (0, 0)) (b2 := (0, 0)) (As := []) hd hL hM hI rfl rfl hw ⟨Nat.le_refl _, Nat.le_refl _⟩ hc (by
    rintro r σ h' ⟨rfl, x, rfl, hp⟩
    exact kk x h' hp)
theorem K_Vr0 {nst : Bool} {ci a idx : Nat} {fs : List (Option (Option Nat))} {P : Nat → jH → Prop} (hd : decode Y.2.2.1 pc = .ok (.invokevirtual idx, 3)) (hL : j_L Y.1 idx Y'.2.1 nst) (hM : j_My Y' 0) (hI : Cond.instanceMethod Y'.2.1 ∈ jB ∧ Cond.selects Y'.1 Y'.2.1 Y'.2.1 ∈ jB) (hcl : ∃ T N, vwCl[ci]? = some (Y'.1, T, N)) (hs : SH[a]? = some (.inr (.inr (ci, fs)))) (hw : (st.map fun v => v.category).sum ≤ 8) (hc : Mr g d Y' h (.ref a :: []) P) (kk : ∀ (x : Nat) (h' : jH), P x h' → K g (d + 1) Y h' (pc + 3) ls (.ref x :: st) Q) : K g (d + 1) Y h pc ls (.ref a :: st) Q :=
  J_callV (b' := (0, 0)) (b2 := (0, 0)) (As := []) hd hL hM hI hcl hs rfl rfl hw ⟨Nat.le_refl _, Nat.le_refl _⟩ hc (by
    rintro r σ h' ⟨rfl, x, rfl, hp⟩
    exact kk x h' hp)
theorem K_Sr0 {nst : Bool} {idx : Nat} {P : Nat → jH → Prop} (hd : decode Y.2.2.1 pc = .ok (.invokestatic idx, 3)) (hL : j_L Y.1 idx Y'.2.1 nst) (hM : j_My Y' 0) (hI : Cond.static Y'.2.1 ∈ jB) (hw : (st.map fun v => v.category).sum ≤ 8) (hc : Mr g d Y' h [] P) (kk : ∀ (x : Nat) (h' : jH), P x h' → K g (d + 1) Y h' (pc + 3) ls (.ref x :: st) Q) : K g (d + 1) Y h pc ls (st) Q :=
  J_callS (b' := (0, 0)) (b2 := (0, 0)) (As := []) hd hL hM hI rfl rfl hw ⟨Nat.le_refl _, Nat.le_refl _⟩ hc (by
    rintro r σ h' ⟨rfl, x, rfl, hp⟩
    exact kk x h' hp)
theorem K_Vv0 {nst : Bool} {ci a idx : Nat} {fs : List (Option (Option Nat))} {P : jH → Prop} (hd : decode Y.2.2.1 pc = .ok (.invokevirtual idx, 3)) (hL : j_L Y.1 idx Y'.2.1 nst) (hM : j_My Y' 0) (hI : Cond.instanceMethod Y'.2.1 ∈ jB ∧ Cond.selects Y'.1 Y'.2.1 Y'.2.1 ∈ jB) (hcl : ∃ T N, vwCl[ci]? = some (Y'.1, T, N)) (hs : SH[a]? = some (.inr (.inr (ci, fs)))) (hw : (st.map fun v => v.category).sum ≤ 8) (hc : Mv g d Y' h (.ref a :: []) P) (kk : ∀ (h' : jH), P h' → K g (d + 1) Y h' (pc + 3) ls st Q) : K g (d + 1) Y h pc ls (.ref a :: st) Q :=
  J_callV (b' := (0, 0)) (b2 := (0, 0)) (As := []) hd hL hM hI hcl hs rfl rfl hw ⟨Nat.le_refl _, Nat.le_refl _⟩ hc (by
    rintro r σ h' ⟨rfl, rfl, hp⟩
    exact kk h' hp)
theorem K_Sv0 {nst : Bool} {idx : Nat} {P : jH → Prop} (hd : decode Y.2.2.1 pc = .ok (.invokestatic idx, 3)) (hL : j_L Y.1 idx Y'.2.1 nst) (hM : j_My Y' 0) (hI : Cond.static Y'.2.1 ∈ jB) (hw : (st.map fun v => v.category).sum ≤ 8) (hc : Mv g d Y' h [] P) (kk : ∀ (h' : jH), P h' → K g (d + 1) Y h' (pc + 3) ls st Q) : K g (d + 1) Y h pc ls (st) Q :=
  J_callS (b' := (0, 0)) (b2 := (0, 0)) (As := []) hd hL hM hI rfl rfl hw ⟨Nat.le_refl _, Nat.le_refl _⟩ hc (by
    rintro r σ h' ⟨rfl, rfl, hp⟩
    exact kk h' hp)
theorem K_Vi1 {nst : Bool} {ci a idx : Nat} {fs : List (Option (Option Nat))} {v1 : Value} {P : Int32 → jH → Prop} (hd : decode Y.2.2.1 pc = .ok (.invokevirtual idx, 3)) (hL : j_L Y.1 idx Y'.2.1 nst) (hM : j_My Y' 1) (hI : Cond.instanceMethod Y'.2.1 ∈ jB ∧ Cond.selects Y'.1 Y'.2.1 Y'.2.1 ∈ jB) (hcl : ∃ T N, vwCl[ci]? = some (Y'.1, T, N)) (hs : SH[a]? = some (.inr (.inr (ci, fs)))) (hw : (st.map fun v => v.category).sum ≤ 8) (hc : Mi g d Y' h (.ref a :: [v1]) P) (kk : ∀ (x : Int32) (h' : jH), P x h' → K g (d + 1) Y h' (pc + 3) ls (.int x :: st) Q) : K g (d + 1) Y h pc ls (v1 :: .ref a :: st) Q :=
  J_callV (b' := (0, 0)) (b2 := (0, 0)) (As := [v1]) hd hL hM hI hcl hs rfl rfl hw ⟨Nat.le_refl _, Nat.le_refl _⟩ hc (by
    rintro r σ h' ⟨rfl, x, rfl, hp⟩
    exact kk x h' hp)
theorem K_Si1 {nst : Bool} {idx : Nat} {v1 : Value} {P : Int32 → jH → Prop} (hd : decode Y.2.2.1 pc = .ok (.invokestatic idx, 3)) (hL : j_L Y.1 idx Y'.2.1 nst) (hM : j_My Y' 1) (hI : Cond.static Y'.2.1 ∈ jB) (hw : (st.map fun v => v.category).sum ≤ 8) (hc : Mi g d Y' h [v1] P) (kk : ∀ (x : Int32) (h' : jH), P x h' → K g (d + 1) Y h' (pc + 3) ls (.int x :: st) Q) : K g (d + 1) Y h pc ls (v1 :: st) Q :=
  J_callS (b' := (0, 0)) (b2 := (0, 0)) (As := [v1]) hd hL hM hI rfl rfl hw ⟨Nat.le_refl _, Nat.le_refl _⟩ hc (by
    rintro r σ h' ⟨rfl, x, rfl, hp⟩
    exact kk x h' hp)
theorem K_Vl1 {nst : Bool} {ci a idx : Nat} {fs : List (Option (Option Nat))} {v1 : Value} {P : Int64 → jH → Prop} (hd : decode Y.2.2.1 pc = .ok (.invokevirtual idx, 3)) (hL : j_L Y.1 idx Y'.2.1 nst) (hM : j_My Y' 1) (hI : Cond.instanceMethod Y'.2.1 ∈ jB ∧ Cond.selects Y'.1 Y'.2.1 Y'.2.1 ∈ jB) (hcl : ∃ T N, vwCl[ci]? = some (Y'.1, T, N)) (hs : SH[a]? = some (.inr (.inr (ci, fs)))) (hw : (st.map fun v => v.category).sum ≤ 8) (hc : Ml g d Y' h (.ref a :: [v1]) P) (kk : ∀ (x : Int64) (h' : jH), P x h' → K g (d + 1) Y h' (pc + 3) ls (.long x :: st) Q) : K g (d + 1) Y h pc ls (v1 :: .ref a :: st) Q :=
  J_callV (b' := (0, 0)) (b2 := (0, 0)) (As := [v1]) hd hL hM hI hcl hs rfl rfl hw ⟨Nat.le_refl _, Nat.le_refl _⟩ hc (by
    rintro r σ h' ⟨rfl, x, rfl, hp⟩
    exact kk x h' hp)
theorem K_Sl1 {nst : Bool} {idx : Nat} {v1 : Value} {P : Int64 → jH → Prop} (hd : decode Y.2.2.1 pc = .ok (.invokestatic idx, 3)) (hL : j_L Y.1 idx Y'.2.1 nst) (hM : j_My Y' 1) (hI : Cond.static Y'.2.1 ∈ jB) (hw : (st.map fun v => v.category).sum ≤ 8) (hc : Ml g d Y' h [v1] P) (kk : ∀ (x : Int64) (h' : jH), P x h' → K g (d + 1) Y h' (pc + 3) ls (.long x :: st) Q) : K g (d + 1) Y h pc ls (v1 :: st) Q :=
  J_callS (b' := (0, 0)) (b2 := (0, 0)) (As := [v1]) hd hL hM hI rfl rfl hw ⟨Nat.le_refl _, Nat.le_refl _⟩ hc (by
    rintro r σ h' ⟨rfl, x, rfl, hp⟩
    exact kk x h' hp)
theorem K_Vr1 {nst : Bool} {ci a idx : Nat} {fs : List (Option (Option Nat))} {v1 : Value} {P : Nat → jH → Prop} (hd : decode Y.2.2.1 pc = .ok (.invokevirtual idx, 3)) (hL : j_L Y.1 idx Y'.2.1 nst) (hM : j_My Y' 1) (hI : Cond.instanceMethod Y'.2.1 ∈ jB ∧ Cond.selects Y'.1 Y'.2.1 Y'.2.1 ∈ jB) (hcl : ∃ T N, vwCl[ci]? = some (Y'.1, T, N)) (hs : SH[a]? = some (.inr (.inr (ci, fs)))) (hw : (st.map fun v => v.category).sum ≤ 8) (hc : Mr g d Y' h (.ref a :: [v1]) P) (kk : ∀ (x : Nat) (h' : jH), P x h' → K g (d + 1) Y h' (pc + 3) ls (.ref x :: st) Q) : K g (d + 1) Y h pc ls (v1 :: .ref a :: st) Q :=
  J_callV (b' := (0, 0)) (b2 := (0, 0)) (As := [v1]) hd hL hM hI hcl hs rfl rfl hw ⟨Nat.le_refl _, Nat.le_refl _⟩ hc (by
    rintro r σ h' ⟨rfl, x, rfl, hp⟩
    exact kk x h' hp)
theorem K_Sr1 {nst : Bool} {idx : Nat} {v1 : Value} {P : Nat → jH → Prop} (hd : decode Y.2.2.1 pc = .ok (.invokestatic idx, 3)) (hL : j_L Y.1 idx Y'.2.1 nst) (hM : j_My Y' 1) (hI : Cond.static Y'.2.1 ∈ jB) (hw : (st.map fun v => v.category).sum ≤ 8) (hc : Mr g d Y' h [v1] P) (kk : ∀ (x : Nat) (h' : jH), P x h' → K g (d + 1) Y h' (pc + 3) ls (.ref x :: st) Q) : K g (d + 1) Y h pc ls (v1 :: st) Q :=
  J_callS (b' := (0, 0)) (b2 := (0, 0)) (As := [v1]) hd hL hM hI rfl rfl hw ⟨Nat.le_refl _, Nat.le_refl _⟩ hc (by
    rintro r σ h' ⟨rfl, x, rfl, hp⟩
    exact kk x h' hp)
theorem K_Vv1 {nst : Bool} {ci a idx : Nat} {fs : List (Option (Option Nat))} {v1 : Value} {P : jH → Prop} (hd : decode Y.2.2.1 pc = .ok (.invokevirtual idx, 3)) (hL : j_L Y.1 idx Y'.2.1 nst) (hM : j_My Y' 1) (hI : Cond.instanceMethod Y'.2.1 ∈ jB ∧ Cond.selects Y'.1 Y'.2.1 Y'.2.1 ∈ jB) (hcl : ∃ T N, vwCl[ci]? = some (Y'.1, T, N)) (hs : SH[a]? = some (.inr (.inr (ci, fs)))) (hw : (st.map fun v => v.category).sum ≤ 8) (hc : Mv g d Y' h (.ref a :: [v1]) P) (kk : ∀ (h' : jH), P h' → K g (d + 1) Y h' (pc + 3) ls st Q) : K g (d + 1) Y h pc ls (v1 :: .ref a :: st) Q :=
  J_callV (b' := (0, 0)) (b2 := (0, 0)) (As := [v1]) hd hL hM hI hcl hs rfl rfl hw ⟨Nat.le_refl _, Nat.le_refl _⟩ hc (by
    rintro r σ h' ⟨rfl, rfl, hp⟩
    exact kk h' hp)
theorem K_Sv1 {nst : Bool} {idx : Nat} {v1 : Value} {P : jH → Prop} (hd : decode Y.2.2.1 pc = .ok (.invokestatic idx, 3)) (hL : j_L Y.1 idx Y'.2.1 nst) (hM : j_My Y' 1) (hI : Cond.static Y'.2.1 ∈ jB) (hw : (st.map fun v => v.category).sum ≤ 8) (hc : Mv g d Y' h [v1] P) (kk : ∀ (h' : jH), P h' → K g (d + 1) Y h' (pc + 3) ls st Q) : K g (d + 1) Y h pc ls (v1 :: st) Q :=
  J_callS (b' := (0, 0)) (b2 := (0, 0)) (As := [v1]) hd hL hM hI rfl rfl hw ⟨Nat.le_refl _, Nat.le_refl _⟩ hc (by
    rintro r σ h' ⟨rfl, rfl, hp⟩
    exact kk h' hp)
theorem K_Vi2 {nst : Bool} {ci a idx : Nat} {fs : List (Option (Option Nat))} {v1 v2 : Value} {P : Int32 → jH → Prop} (hd : decode Y.2.2.1 pc = .ok (.invokevirtual idx, 3)) (hL : j_L Y.1 idx Y'.2.1 nst) (hM : j_My Y' 2) (hI : Cond.instanceMethod Y'.2.1 ∈ jB ∧ Cond.selects Y'.1 Y'.2.1 Y'.2.1 ∈ jB) (hcl : ∃ T N, vwCl[ci]? = some (Y'.1, T, N)) (hs : SH[a]? = some (.inr (.inr (ci, fs)))) (hw : (st.map fun v => v.category).sum ≤ 8) (hc : Mi g d Y' h (.ref a :: [v1, v2]) P) (kk : ∀ (x : Int32) (h' : jH), P x h' → K g (d + 1) Y h' (pc + 3) ls (.int x :: st) Q) : K g (d + 1) Y h pc ls (v2 :: v1 :: .ref a :: st) Q :=
  J_callV (b' := (0, 0)) (b2 := (0, 0)) (As := [v1, v2]) hd hL hM hI hcl hs rfl rfl hw ⟨Nat.le_refl _, Nat.le_refl _⟩ hc (by
    rintro r σ h' ⟨rfl, x, rfl, hp⟩
    exact kk x h' hp)
theorem K_Si2 {nst : Bool} {idx : Nat} {v1 v2 : Value} {P : Int32 → jH → Prop} (hd : decode Y.2.2.1 pc = .ok (.invokestatic idx, 3)) (hL : j_L Y.1 idx Y'.2.1 nst) (hM : j_My Y' 2) (hI : Cond.static Y'.2.1 ∈ jB) (hw : (st.map fun v => v.category).sum ≤ 8) (hc : Mi g d Y' h [v1, v2] P) (kk : ∀ (x : Int32) (h' : jH), P x h' → K g (d + 1) Y h' (pc + 3) ls (.int x :: st) Q) : K g (d + 1) Y h pc ls (v2 :: v1 :: st) Q :=
  J_callS (b' := (0, 0)) (b2 := (0, 0)) (As := [v1, v2]) hd hL hM hI rfl rfl hw ⟨Nat.le_refl _, Nat.le_refl _⟩ hc (by
    rintro r σ h' ⟨rfl, x, rfl, hp⟩
    exact kk x h' hp)
theorem K_Vl2 {nst : Bool} {ci a idx : Nat} {fs : List (Option (Option Nat))} {v1 v2 : Value} {P : Int64 → jH → Prop} (hd : decode Y.2.2.1 pc = .ok (.invokevirtual idx, 3)) (hL : j_L Y.1 idx Y'.2.1 nst) (hM : j_My Y' 2) (hI : Cond.instanceMethod Y'.2.1 ∈ jB ∧ Cond.selects Y'.1 Y'.2.1 Y'.2.1 ∈ jB) (hcl : ∃ T N, vwCl[ci]? = some (Y'.1, T, N)) (hs : SH[a]? = some (.inr (.inr (ci, fs)))) (hw : (st.map fun v => v.category).sum ≤ 8) (hc : Ml g d Y' h (.ref a :: [v1, v2]) P) (kk : ∀ (x : Int64) (h' : jH), P x h' → K g (d + 1) Y h' (pc + 3) ls (.long x :: st) Q) : K g (d + 1) Y h pc ls (v2 :: v1 :: .ref a :: st) Q :=
  J_callV (b' := (0, 0)) (b2 := (0, 0)) (As := [v1, v2]) hd hL hM hI hcl hs rfl rfl hw ⟨Nat.le_refl _, Nat.le_refl _⟩ hc (by
    rintro r σ h' ⟨rfl, x, rfl, hp⟩
    exact kk x h' hp)
theorem K_Sl2 {nst : Bool} {idx : Nat} {v1 v2 : Value} {P : Int64 → jH → Prop} (hd : decode Y.2.2.1 pc = .ok (.invokestatic idx, 3)) (hL : j_L Y.1 idx Y'.2.1 nst) (hM : j_My Y' 2) (hI : Cond.static Y'.2.1 ∈ jB) (hw : (st.map fun v => v.category).sum ≤ 8) (hc : Ml g d Y' h [v1, v2] P) (kk : ∀ (x : Int64) (h' : jH), P x h' → K g (d + 1) Y h' (pc + 3) ls (.long x :: st) Q) : K g (d + 1) Y h pc ls (v2 :: v1 :: st) Q :=
  J_callS (b' := (0, 0)) (b2 := (0, 0)) (As := [v1, v2]) hd hL hM hI rfl rfl hw ⟨Nat.le_refl _, Nat.le_refl _⟩ hc (by
    rintro r σ h' ⟨rfl, x, rfl, hp⟩
    exact kk x h' hp)
theorem K_Vr2 {nst : Bool} {ci a idx : Nat} {fs : List (Option (Option Nat))} {v1 v2 : Value} {P : Nat → jH → Prop} (hd : decode Y.2.2.1 pc = .ok (.invokevirtual idx, 3)) (hL : j_L Y.1 idx Y'.2.1 nst) (hM : j_My Y' 2) (hI : Cond.instanceMethod Y'.2.1 ∈ jB ∧ Cond.selects Y'.1 Y'.2.1 Y'.2.1 ∈ jB) (hcl : ∃ T N, vwCl[ci]? = some (Y'.1, T, N)) (hs : SH[a]? = some (.inr (.inr (ci, fs)))) (hw : (st.map fun v => v.category).sum ≤ 8) (hc : Mr g d Y' h (.ref a :: [v1, v2]) P) (kk : ∀ (x : Nat) (h' : jH), P x h' → K g (d + 1) Y h' (pc + 3) ls (.ref x :: st) Q) : K g (d + 1) Y h pc ls (v2 :: v1 :: .ref a :: st) Q :=
  J_callV (b' := (0, 0)) (b2 := (0, 0)) (As := [v1, v2]) hd hL hM hI hcl hs rfl rfl hw ⟨Nat.le_refl _, Nat.le_refl _⟩ hc (by
    rintro r σ h' ⟨rfl, x, rfl, hp⟩
    exact kk x h' hp)
theorem K_Sr2 {nst : Bool} {idx : Nat} {v1 v2 : Value} {P : Nat → jH → Prop} (hd : decode Y.2.2.1 pc = .ok (.invokestatic idx, 3)) (hL : j_L Y.1 idx Y'.2.1 nst) (hM : j_My Y' 2) (hI : Cond.static Y'.2.1 ∈ jB) (hw : (st.map fun v => v.category).sum ≤ 8) (hc : Mr g d Y' h [v1, v2] P) (kk : ∀ (x : Nat) (h' : jH), P x h' → K g (d + 1) Y h' (pc + 3) ls (.ref x :: st) Q) : K g (d + 1) Y h pc ls (v2 :: v1 :: st) Q :=
  J_callS (b' := (0, 0)) (b2 := (0, 0)) (As := [v1, v2]) hd hL hM hI rfl rfl hw ⟨Nat.le_refl _, Nat.le_refl _⟩ hc (by
    rintro r σ h' ⟨rfl, x, rfl, hp⟩
    exact kk x h' hp)
theorem K_Vv2 {nst : Bool} {ci a idx : Nat} {fs : List (Option (Option Nat))} {v1 v2 : Value} {P : jH → Prop} (hd : decode Y.2.2.1 pc = .ok (.invokevirtual idx, 3)) (hL : j_L Y.1 idx Y'.2.1 nst) (hM : j_My Y' 2) (hI : Cond.instanceMethod Y'.2.1 ∈ jB ∧ Cond.selects Y'.1 Y'.2.1 Y'.2.1 ∈ jB) (hcl : ∃ T N, vwCl[ci]? = some (Y'.1, T, N)) (hs : SH[a]? = some (.inr (.inr (ci, fs)))) (hw : (st.map fun v => v.category).sum ≤ 8) (hc : Mv g d Y' h (.ref a :: [v1, v2]) P) (kk : ∀ (h' : jH), P h' → K g (d + 1) Y h' (pc + 3) ls st Q) : K g (d + 1) Y h pc ls (v2 :: v1 :: .ref a :: st) Q :=
  J_callV (b' := (0, 0)) (b2 := (0, 0)) (As := [v1, v2]) hd hL hM hI hcl hs rfl rfl hw ⟨Nat.le_refl _, Nat.le_refl _⟩ hc (by
    rintro r σ h' ⟨rfl, rfl, hp⟩
    exact kk h' hp)
theorem K_Sv2 {nst : Bool} {idx : Nat} {v1 v2 : Value} {P : jH → Prop} (hd : decode Y.2.2.1 pc = .ok (.invokestatic idx, 3)) (hL : j_L Y.1 idx Y'.2.1 nst) (hM : j_My Y' 2) (hI : Cond.static Y'.2.1 ∈ jB) (hw : (st.map fun v => v.category).sum ≤ 8) (hc : Mv g d Y' h [v1, v2] P) (kk : ∀ (h' : jH), P h' → K g (d + 1) Y h' (pc + 3) ls st Q) : K g (d + 1) Y h pc ls (v2 :: v1 :: st) Q :=
  J_callS (b' := (0, 0)) (b2 := (0, 0)) (As := [v1, v2]) hd hL hM hI rfl rfl hw ⟨Nat.le_refl _, Nat.le_refl _⟩ hc (by
    rintro r σ h' ⟨rfl, rfl, hp⟩
    exact kk h' hp)
theorem K_Vi3 {nst : Bool} {ci a idx : Nat} {fs : List (Option (Option Nat))} {v1 v2 v3 : Value} {P : Int32 → jH → Prop} (hd : decode Y.2.2.1 pc = .ok (.invokevirtual idx, 3)) (hL : j_L Y.1 idx Y'.2.1 nst) (hM : j_My Y' 3) (hI : Cond.instanceMethod Y'.2.1 ∈ jB ∧ Cond.selects Y'.1 Y'.2.1 Y'.2.1 ∈ jB) (hcl : ∃ T N, vwCl[ci]? = some (Y'.1, T, N)) (hs : SH[a]? = some (.inr (.inr (ci, fs)))) (hw : (st.map fun v => v.category).sum ≤ 8) (hc : Mi g d Y' h (.ref a :: [v1, v2, v3]) P) (kk : ∀ (x : Int32) (h' : jH), P x h' → K g (d + 1) Y h' (pc + 3) ls (.int x :: st) Q) : K g (d + 1) Y h pc ls (v3 :: v2 :: v1 :: .ref a :: st) Q :=
  J_callV (b' := (0, 0)) (b2 := (0, 0)) (As := [v1, v2, v3]) hd hL hM hI hcl hs rfl rfl hw ⟨Nat.le_refl _, Nat.le_refl _⟩ hc (by
    rintro r σ h' ⟨rfl, x, rfl, hp⟩
    exact kk x h' hp)
theorem K_Si3 {nst : Bool} {idx : Nat} {v1 v2 v3 : Value} {P : Int32 → jH → Prop} (hd : decode Y.2.2.1 pc = .ok (.invokestatic idx, 3)) (hL : j_L Y.1 idx Y'.2.1 nst) (hM : j_My Y' 3) (hI : Cond.static Y'.2.1 ∈ jB) (hw : (st.map fun v => v.category).sum ≤ 8) (hc : Mi g d Y' h [v1, v2, v3] P) (kk : ∀ (x : Int32) (h' : jH), P x h' → K g (d + 1) Y h' (pc + 3) ls (.int x :: st) Q) : K g (d + 1) Y h pc ls (v3 :: v2 :: v1 :: st) Q :=
  J_callS (b' := (0, 0)) (b2 := (0, 0)) (As := [v1, v2, v3]) hd hL hM hI rfl rfl hw ⟨Nat.le_refl _, Nat.le_refl _⟩ hc (by
    rintro r σ h' ⟨rfl, x, rfl, hp⟩
    exact kk x h' hp)
theorem K_Vl3 {nst : Bool} {ci a idx : Nat} {fs : List (Option (Option Nat))} {v1 v2 v3 : Value} {P : Int64 → jH → Prop} (hd : decode Y.2.2.1 pc = .ok (.invokevirtual idx, 3)) (hL : j_L Y.1 idx Y'.2.1 nst) (hM : j_My Y' 3) (hI : Cond.instanceMethod Y'.2.1 ∈ jB ∧ Cond.selects Y'.1 Y'.2.1 Y'.2.1 ∈ jB) (hcl : ∃ T N, vwCl[ci]? = some (Y'.1, T, N)) (hs : SH[a]? = some (.inr (.inr (ci, fs)))) (hw : (st.map fun v => v.category).sum ≤ 8) (hc : Ml g d Y' h (.ref a :: [v1, v2, v3]) P) (kk : ∀ (x : Int64) (h' : jH), P x h' → K g (d + 1) Y h' (pc + 3) ls (.long x :: st) Q) : K g (d + 1) Y h pc ls (v3 :: v2 :: v1 :: .ref a :: st) Q :=
  J_callV (b' := (0, 0)) (b2 := (0, 0)) (As := [v1, v2, v3]) hd hL hM hI hcl hs rfl rfl hw ⟨Nat.le_refl _, Nat.le_refl _⟩ hc (by
    rintro r σ h' ⟨rfl, x, rfl, hp⟩
    exact kk x h' hp)
theorem K_Sl3 {nst : Bool} {idx : Nat} {v1 v2 v3 : Value} {P : Int64 → jH → Prop} (hd : decode Y.2.2.1 pc = .ok (.invokestatic idx, 3)) (hL : j_L Y.1 idx Y'.2.1 nst) (hM : j_My Y' 3) (hI : Cond.static Y'.2.1 ∈ jB) (hw : (st.map fun v => v.category).sum ≤ 8) (hc : Ml g d Y' h [v1, v2, v3] P) (kk : ∀ (x : Int64) (h' : jH), P x h' → K g (d + 1) Y h' (pc + 3) ls (.long x :: st) Q) : K g (d + 1) Y h pc ls (v3 :: v2 :: v1 :: st) Q :=
  J_callS (b' := (0, 0)) (b2 := (0, 0)) (As := [v1, v2, v3]) hd hL hM hI rfl rfl hw ⟨Nat.le_refl _, Nat.le_refl _⟩ hc (by
    rintro r σ h' ⟨rfl, x, rfl, hp⟩
    exact kk x h' hp)
theorem K_Vr3 {nst : Bool} {ci a idx : Nat} {fs : List (Option (Option Nat))} {v1 v2 v3 : Value} {P : Nat → jH → Prop} (hd : decode Y.2.2.1 pc = .ok (.invokevirtual idx, 3)) (hL : j_L Y.1 idx Y'.2.1 nst) (hM : j_My Y' 3) (hI : Cond.instanceMethod Y'.2.1 ∈ jB ∧ Cond.selects Y'.1 Y'.2.1 Y'.2.1 ∈ jB) (hcl : ∃ T N, vwCl[ci]? = some (Y'.1, T, N)) (hs : SH[a]? = some (.inr (.inr (ci, fs)))) (hw : (st.map fun v => v.category).sum ≤ 8) (hc : Mr g d Y' h (.ref a :: [v1, v2, v3]) P) (kk : ∀ (x : Nat) (h' : jH), P x h' → K g (d + 1) Y h' (pc + 3) ls (.ref x :: st) Q) : K g (d + 1) Y h pc ls (v3 :: v2 :: v1 :: .ref a :: st) Q :=
  J_callV (b' := (0, 0)) (b2 := (0, 0)) (As := [v1, v2, v3]) hd hL hM hI hcl hs rfl rfl hw ⟨Nat.le_refl _, Nat.le_refl _⟩ hc (by
    rintro r σ h' ⟨rfl, x, rfl, hp⟩
    exact kk x h' hp)
theorem K_Sr3 {nst : Bool} {idx : Nat} {v1 v2 v3 : Value} {P : Nat → jH → Prop} (hd : decode Y.2.2.1 pc = .ok (.invokestatic idx, 3)) (hL : j_L Y.1 idx Y'.2.1 nst) (hM : j_My Y' 3) (hI : Cond.static Y'.2.1 ∈ jB) (hw : (st.map fun v => v.category).sum ≤ 8) (hc : Mr g d Y' h [v1, v2, v3] P) (kk : ∀ (x : Nat) (h' : jH), P x h' → K g (d + 1) Y h' (pc + 3) ls (.ref x :: st) Q) : K g (d + 1) Y h pc ls (v3 :: v2 :: v1 :: st) Q :=
  J_callS (b' := (0, 0)) (b2 := (0, 0)) (As := [v1, v2, v3]) hd hL hM hI rfl rfl hw ⟨Nat.le_refl _, Nat.le_refl _⟩ hc (by
    rintro r σ h' ⟨rfl, x, rfl, hp⟩
    exact kk x h' hp)
theorem K_Vv3 {nst : Bool} {ci a idx : Nat} {fs : List (Option (Option Nat))} {v1 v2 v3 : Value} {P : jH → Prop} (hd : decode Y.2.2.1 pc = .ok (.invokevirtual idx, 3)) (hL : j_L Y.1 idx Y'.2.1 nst) (hM : j_My Y' 3) (hI : Cond.instanceMethod Y'.2.1 ∈ jB ∧ Cond.selects Y'.1 Y'.2.1 Y'.2.1 ∈ jB) (hcl : ∃ T N, vwCl[ci]? = some (Y'.1, T, N)) (hs : SH[a]? = some (.inr (.inr (ci, fs)))) (hw : (st.map fun v => v.category).sum ≤ 8) (hc : Mv g d Y' h (.ref a :: [v1, v2, v3]) P) (kk : ∀ (h' : jH), P h' → K g (d + 1) Y h' (pc + 3) ls st Q) : K g (d + 1) Y h pc ls (v3 :: v2 :: v1 :: .ref a :: st) Q :=
  J_callV (b' := (0, 0)) (b2 := (0, 0)) (As := [v1, v2, v3]) hd hL hM hI hcl hs rfl rfl hw ⟨Nat.le_refl _, Nat.le_refl _⟩ hc (by
    rintro r σ h' ⟨rfl, rfl, hp⟩
    exact kk h' hp)
theorem K_Sv3 {nst : Bool} {idx : Nat} {v1 v2 v3 : Value} {P : jH → Prop} (hd : decode Y.2.2.1 pc = .ok (.invokestatic idx, 3)) (hL : j_L Y.1 idx Y'.2.1 nst) (hM : j_My Y' 3) (hI : Cond.static Y'.2.1 ∈ jB) (hw : (st.map fun v => v.category).sum ≤ 8) (hc : Mv g d Y' h [v1, v2, v3] P) (kk : ∀ (h' : jH), P h' → K g (d + 1) Y h' (pc + 3) ls st Q) : K g (d + 1) Y h pc ls (v3 :: v2 :: v1 :: st) Q :=
  J_callS (b' := (0, 0)) (b2 := (0, 0)) (As := [v1, v2, v3]) hd hL hM hI rfl rfl hw ⟨Nat.le_refl _, Nat.le_refl _⟩ hc (by
    rintro r σ h' ⟨rfl, rfl, hp⟩
    exact kk h' hp)
theorem K_Vi4 {nst : Bool} {ci a idx : Nat} {fs : List (Option (Option Nat))} {v1 v2 v3 v4 : Value} {P : Int32 → jH → Prop} (hd : decode Y.2.2.1 pc = .ok (.invokevirtual idx, 3)) (hL : j_L Y.1 idx Y'.2.1 nst) (hM : j_My Y' 4) (hI : Cond.instanceMethod Y'.2.1 ∈ jB ∧ Cond.selects Y'.1 Y'.2.1 Y'.2.1 ∈ jB) (hcl : ∃ T N, vwCl[ci]? = some (Y'.1, T, N)) (hs : SH[a]? = some (.inr (.inr (ci, fs)))) (hw : (st.map fun v => v.category).sum ≤ 8) (hc : Mi g d Y' h (.ref a :: [v1, v2, v3, v4]) P) (kk : ∀ (x : Int32) (h' : jH), P x h' → K g (d + 1) Y h' (pc + 3) ls (.int x :: st) Q) : K g (d + 1) Y h pc ls (v4 :: v3 :: v2 :: v1 :: .ref a :: st) Q :=
  J_callV (b' := (0, 0)) (b2 := (0, 0)) (As := [v1, v2, v3, v4]) hd hL hM hI hcl hs rfl rfl hw ⟨Nat.le_refl _, Nat.le_refl _⟩ hc (by
    rintro r σ h' ⟨rfl, x, rfl, hp⟩
    exact kk x h' hp)
theorem K_Si4 {nst : Bool} {idx : Nat} {v1 v2 v3 v4 : Value} {P : Int32 → jH → Prop} (hd : decode Y.2.2.1 pc = .ok (.invokestatic idx, 3)) (hL : j_L Y.1 idx Y'.2.1 nst) (hM : j_My Y' 4) (hI : Cond.static Y'.2.1 ∈ jB) (hw : (st.map fun v => v.category).sum ≤ 8) (hc : Mi g d Y' h [v1, v2, v3, v4] P) (kk : ∀ (x : Int32) (h' : jH), P x h' → K g (d + 1) Y h' (pc + 3) ls (.int x :: st) Q) : K g (d + 1) Y h pc ls (v4 :: v3 :: v2 :: v1 :: st) Q :=
  J_callS (b' := (0, 0)) (b2 := (0, 0)) (As := [v1, v2, v3, v4]) hd hL hM hI rfl rfl hw ⟨Nat.le_refl _, Nat.le_refl _⟩ hc (by
    rintro r σ h' ⟨rfl, x, rfl, hp⟩
    exact kk x h' hp)
theorem K_Vl4 {nst : Bool} {ci a idx : Nat} {fs : List (Option (Option Nat))} {v1 v2 v3 v4 : Value} {P : Int64 → jH → Prop} (hd : decode Y.2.2.1 pc = .ok (.invokevirtual idx, 3)) (hL : j_L Y.1 idx Y'.2.1 nst) (hM : j_My Y' 4) (hI : Cond.instanceMethod Y'.2.1 ∈ jB ∧ Cond.selects Y'.1 Y'.2.1 Y'.2.1 ∈ jB) (hcl : ∃ T N, vwCl[ci]? = some (Y'.1, T, N)) (hs : SH[a]? = some (.inr (.inr (ci, fs)))) (hw : (st.map fun v => v.category).sum ≤ 8) (hc : Ml g d Y' h (.ref a :: [v1, v2, v3, v4]) P) (kk : ∀ (x : Int64) (h' : jH), P x h' → K g (d + 1) Y h' (pc + 3) ls (.long x :: st) Q) : K g (d + 1) Y h pc ls (v4 :: v3 :: v2 :: v1 :: .ref a :: st) Q :=
  J_callV (b' := (0, 0)) (b2 := (0, 0)) (As := [v1, v2, v3, v4]) hd hL hM hI hcl hs rfl rfl hw ⟨Nat.le_refl _, Nat.le_refl _⟩ hc (by
    rintro r σ h' ⟨rfl, x, rfl, hp⟩
    exact kk x h' hp)
theorem K_Sl4 {nst : Bool} {idx : Nat} {v1 v2 v3 v4 : Value} {P : Int64 → jH → Prop} (hd : decode Y.2.2.1 pc = .ok (.invokestatic idx, 3)) (hL : j_L Y.1 idx Y'.2.1 nst) (hM : j_My Y' 4) (hI : Cond.static Y'.2.1 ∈ jB) (hw : (st.map fun v => v.category).sum ≤ 8) (hc : Ml g d Y' h [v1, v2, v3, v4] P) (kk : ∀ (x : Int64) (h' : jH), P x h' → K g (d + 1) Y h' (pc + 3) ls (.long x :: st) Q) : K g (d + 1) Y h pc ls (v4 :: v3 :: v2 :: v1 :: st) Q :=
  J_callS (b' := (0, 0)) (b2 := (0, 0)) (As := [v1, v2, v3, v4]) hd hL hM hI rfl rfl hw ⟨Nat.le_refl _, Nat.le_refl _⟩ hc (by
    rintro r σ h' ⟨rfl, x, rfl, hp⟩
    exact kk x h' hp)
theorem K_Vr4 {nst : Bool} {ci a idx : Nat} {fs : List (Option (Option Nat))} {v1 v2 v3 v4 : Value} {P : Nat → jH → Prop} (hd : decode Y.2.2.1 pc = .ok (.invokevirtual idx, 3)) (hL : j_L Y.1 idx Y'.2.1 nst) (hM : j_My Y' 4) (hI : Cond.instanceMethod Y'.2.1 ∈ jB ∧ Cond.selects Y'.1 Y'.2.1 Y'.2.1 ∈ jB) (hcl : ∃ T N, vwCl[ci]? = some (Y'.1, T, N)) (hs : SH[a]? = some (.inr (.inr (ci, fs)))) (hw : (st.map fun v => v.category).sum ≤ 8) (hc : Mr g d Y' h (.ref a :: [v1, v2, v3, v4]) P) (kk : ∀ (x : Nat) (h' : jH), P x h' → K g (d + 1) Y h' (pc + 3) ls (.ref x :: st) Q) : K g (d + 1) Y h pc ls (v4 :: v3 :: v2 :: v1 :: .ref a :: st) Q :=
  J_callV (b' := (0, 0)) (b2 := (0, 0)) (As := [v1, v2, v3, v4]) hd hL hM hI hcl hs rfl rfl hw ⟨Nat.le_refl _, Nat.le_refl _⟩ hc (by
    rintro r σ h' ⟨rfl, x, rfl, hp⟩
    exact kk x h' hp)
theorem K_Sr4 {nst : Bool} {idx : Nat} {v1 v2 v3 v4 : Value} {P : Nat → jH → Prop} (hd : decode Y.2.2.1 pc = .ok (.invokestatic idx, 3)) (hL : j_L Y.1 idx Y'.2.1 nst) (hM : j_My Y' 4) (hI : Cond.static Y'.2.1 ∈ jB) (hw : (st.map fun v => v.category).sum ≤ 8) (hc : Mr g d Y' h [v1, v2, v3, v4] P) (kk : ∀ (x : Nat) (h' : jH), P x h' → K g (d + 1) Y h' (pc + 3) ls (.ref x :: st) Q) : K g (d + 1) Y h pc ls (v4 :: v3 :: v2 :: v1 :: st) Q :=
  J_callS (b' := (0, 0)) (b2 := (0, 0)) (As := [v1, v2, v3, v4]) hd hL hM hI rfl rfl hw ⟨Nat.le_refl _, Nat.le_refl _⟩ hc (by
    rintro r σ h' ⟨rfl, x, rfl, hp⟩
    exact kk x h' hp)
theorem K_Vv4 {nst : Bool} {ci a idx : Nat} {fs : List (Option (Option Nat))} {v1 v2 v3 v4 : Value} {P : jH → Prop} (hd : decode Y.2.2.1 pc = .ok (.invokevirtual idx, 3)) (hL : j_L Y.1 idx Y'.2.1 nst) (hM : j_My Y' 4) (hI : Cond.instanceMethod Y'.2.1 ∈ jB ∧ Cond.selects Y'.1 Y'.2.1 Y'.2.1 ∈ jB) (hcl : ∃ T N, vwCl[ci]? = some (Y'.1, T, N)) (hs : SH[a]? = some (.inr (.inr (ci, fs)))) (hw : (st.map fun v => v.category).sum ≤ 8) (hc : Mv g d Y' h (.ref a :: [v1, v2, v3, v4]) P) (kk : ∀ (h' : jH), P h' → K g (d + 1) Y h' (pc + 3) ls st Q) : K g (d + 1) Y h pc ls (v4 :: v3 :: v2 :: v1 :: .ref a :: st) Q :=
  J_callV (b' := (0, 0)) (b2 := (0, 0)) (As := [v1, v2, v3, v4]) hd hL hM hI hcl hs rfl rfl hw ⟨Nat.le_refl _, Nat.le_refl _⟩ hc (by
    rintro r σ h' ⟨rfl, rfl, hp⟩
    exact kk h' hp)
theorem K_Sv4 {nst : Bool} {idx : Nat} {v1 v2 v3 v4 : Value} {P : jH → Prop} (hd : decode Y.2.2.1 pc = .ok (.invokestatic idx, 3)) (hL : j_L Y.1 idx Y'.2.1 nst) (hM : j_My Y' 4) (hI : Cond.static Y'.2.1 ∈ jB) (hw : (st.map fun v => v.category).sum ≤ 8) (hc : Mv g d Y' h [v1, v2, v3, v4] P) (kk : ∀ (h' : jH), P h' → K g (d + 1) Y h' (pc + 3) ls st Q) : K g (d + 1) Y h pc ls (v4 :: v3 :: v2 :: v1 :: st) Q :=
  J_callS (b' := (0, 0)) (b2 := (0, 0)) (As := [v1, v2, v3, v4]) hd hL hM hI rfl rfl hw ⟨Nat.le_refl _, Nat.le_refl _⟩ hc (by
    rintro r σ h' ⟨rfl, rfl, hp⟩
    exact kk h' hp)
theorem K_Vi5 {nst : Bool} {ci a idx : Nat} {fs : List (Option (Option Nat))} {v1 v2 v3 v4 v5 : Value} {P : Int32 → jH → Prop} (hd : decode Y.2.2.1 pc = .ok (.invokevirtual idx, 3)) (hL : j_L Y.1 idx Y'.2.1 nst) (hM : j_My Y' 5) (hI : Cond.instanceMethod Y'.2.1 ∈ jB ∧ Cond.selects Y'.1 Y'.2.1 Y'.2.1 ∈ jB) (hcl : ∃ T N, vwCl[ci]? = some (Y'.1, T, N)) (hs : SH[a]? = some (.inr (.inr (ci, fs)))) (hw : (st.map fun v => v.category).sum ≤ 8) (hc : Mi g d Y' h (.ref a :: [v1, v2, v3, v4, v5]) P) (kk : ∀ (x : Int32) (h' : jH), P x h' → K g (d + 1) Y h' (pc + 3) ls (.int x :: st) Q) : K g (d + 1) Y h pc ls (v5 :: v4 :: v3 :: v2 :: v1 :: .ref a :: st) Q :=
  J_callV (b' := (0, 0)) (b2 := (0, 0)) (As := [v1, v2, v3, v4, v5]) hd hL hM hI hcl hs rfl rfl hw ⟨Nat.le_refl _, Nat.le_refl _⟩ hc (by
    rintro r σ h' ⟨rfl, x, rfl, hp⟩
    exact kk x h' hp)
theorem K_Si5 {nst : Bool} {idx : Nat} {v1 v2 v3 v4 v5 : Value} {P : Int32 → jH → Prop} (hd : decode Y.2.2.1 pc = .ok (.invokestatic idx, 3)) (hL : j_L Y.1 idx Y'.2.1 nst) (hM : j_My Y' 5) (hI : Cond.static Y'.2.1 ∈ jB) (hw : (st.map fun v => v.category).sum ≤ 8) (hc : Mi g d Y' h [v1, v2, v3, v4, v5] P) (kk : ∀ (x : Int32) (h' : jH), P x h' → K g (d + 1) Y h' (pc + 3) ls (.int x :: st) Q) : K g (d + 1) Y h pc ls (v5 :: v4 :: v3 :: v2 :: v1 :: st) Q :=
  J_callS (b' := (0, 0)) (b2 := (0, 0)) (As := [v1, v2, v3, v4, v5]) hd hL hM hI rfl rfl hw ⟨Nat.le_refl _, Nat.le_refl _⟩ hc (by
    rintro r σ h' ⟨rfl, x, rfl, hp⟩
    exact kk x h' hp)
theorem K_Vl5 {nst : Bool} {ci a idx : Nat} {fs : List (Option (Option Nat))} {v1 v2 v3 v4 v5 : Value} {P : Int64 → jH → Prop} (hd : decode Y.2.2.1 pc = .ok (.invokevirtual idx, 3)) (hL : j_L Y.1 idx Y'.2.1 nst) (hM : j_My Y' 5) (hI : Cond.instanceMethod Y'.2.1 ∈ jB ∧ Cond.selects Y'.1 Y'.2.1 Y'.2.1 ∈ jB) (hcl : ∃ T N, vwCl[ci]? = some (Y'.1, T, N)) (hs : SH[a]? = some (.inr (.inr (ci, fs)))) (hw : (st.map fun v => v.category).sum ≤ 8) (hc : Ml g d Y' h (.ref a :: [v1, v2, v3, v4, v5]) P) (kk : ∀ (x : Int64) (h' : jH), P x h' → K g (d + 1) Y h' (pc + 3) ls (.long x :: st) Q) : K g (d + 1) Y h pc ls (v5 :: v4 :: v3 :: v2 :: v1 :: .ref a :: st) Q :=
  J_callV (b' := (0, 0)) (b2 := (0, 0)) (As := [v1, v2, v3, v4, v5]) hd hL hM hI hcl hs rfl rfl hw ⟨Nat.le_refl _, Nat.le_refl _⟩ hc (by
    rintro r σ h' ⟨rfl, x, rfl, hp⟩
    exact kk x h' hp)
theorem K_Sl5 {nst : Bool} {idx : Nat} {v1 v2 v3 v4 v5 : Value} {P : Int64 → jH → Prop} (hd : decode Y.2.2.1 pc = .ok (.invokestatic idx, 3)) (hL : j_L Y.1 idx Y'.2.1 nst) (hM : j_My Y' 5) (hI : Cond.static Y'.2.1 ∈ jB) (hw : (st.map fun v => v.category).sum ≤ 8) (hc : Ml g d Y' h [v1, v2, v3, v4, v5] P) (kk : ∀ (x : Int64) (h' : jH), P x h' → K g (d + 1) Y h' (pc + 3) ls (.long x :: st) Q) : K g (d + 1) Y h pc ls (v5 :: v4 :: v3 :: v2 :: v1 :: st) Q :=
  J_callS (b' := (0, 0)) (b2 := (0, 0)) (As := [v1, v2, v3, v4, v5]) hd hL hM hI rfl rfl hw ⟨Nat.le_refl _, Nat.le_refl _⟩ hc (by
    rintro r σ h' ⟨rfl, x, rfl, hp⟩
    exact kk x h' hp)
theorem K_Vr5 {nst : Bool} {ci a idx : Nat} {fs : List (Option (Option Nat))} {v1 v2 v3 v4 v5 : Value} {P : Nat → jH → Prop} (hd : decode Y.2.2.1 pc = .ok (.invokevirtual idx, 3)) (hL : j_L Y.1 idx Y'.2.1 nst) (hM : j_My Y' 5) (hI : Cond.instanceMethod Y'.2.1 ∈ jB ∧ Cond.selects Y'.1 Y'.2.1 Y'.2.1 ∈ jB) (hcl : ∃ T N, vwCl[ci]? = some (Y'.1, T, N)) (hs : SH[a]? = some (.inr (.inr (ci, fs)))) (hw : (st.map fun v => v.category).sum ≤ 8) (hc : Mr g d Y' h (.ref a :: [v1, v2, v3, v4, v5]) P) (kk : ∀ (x : Nat) (h' : jH), P x h' → K g (d + 1) Y h' (pc + 3) ls (.ref x :: st) Q) : K g (d + 1) Y h pc ls (v5 :: v4 :: v3 :: v2 :: v1 :: .ref a :: st) Q :=
  J_callV (b' := (0, 0)) (b2 := (0, 0)) (As := [v1, v2, v3, v4, v5]) hd hL hM hI hcl hs rfl rfl hw ⟨Nat.le_refl _, Nat.le_refl _⟩ hc (by
    rintro r σ h' ⟨rfl, x, rfl, hp⟩
    exact kk x h' hp)
theorem K_Sr5 {nst : Bool} {idx : Nat} {v1 v2 v3 v4 v5 : Value} {P : Nat → jH → Prop} (hd : decode Y.2.2.1 pc = .ok (.invokestatic idx, 3)) (hL : j_L Y.1 idx Y'.2.1 nst) (hM : j_My Y' 5) (hI : Cond.static Y'.2.1 ∈ jB) (hw : (st.map fun v => v.category).sum ≤ 8) (hc : Mr g d Y' h [v1, v2, v3, v4, v5] P) (kk : ∀ (x : Nat) (h' : jH), P x h' → K g (d + 1) Y h' (pc + 3) ls (.ref x :: st) Q) : K g (d + 1) Y h pc ls (v5 :: v4 :: v3 :: v2 :: v1 :: st) Q :=
  J_callS (b' := (0, 0)) (b2 := (0, 0)) (As := [v1, v2, v3, v4, v5]) hd hL hM hI rfl rfl hw ⟨Nat.le_refl _, Nat.le_refl _⟩ hc (by
    rintro r σ h' ⟨rfl, x, rfl, hp⟩
    exact kk x h' hp)
theorem K_Vv5 {nst : Bool} {ci a idx : Nat} {fs : List (Option (Option Nat))} {v1 v2 v3 v4 v5 : Value} {P : jH → Prop} (hd : decode Y.2.2.1 pc = .ok (.invokevirtual idx, 3)) (hL : j_L Y.1 idx Y'.2.1 nst) (hM : j_My Y' 5) (hI : Cond.instanceMethod Y'.2.1 ∈ jB ∧ Cond.selects Y'.1 Y'.2.1 Y'.2.1 ∈ jB) (hcl : ∃ T N, vwCl[ci]? = some (Y'.1, T, N)) (hs : SH[a]? = some (.inr (.inr (ci, fs)))) (hw : (st.map fun v => v.category).sum ≤ 8) (hc : Mv g d Y' h (.ref a :: [v1, v2, v3, v4, v5]) P) (kk : ∀ (h' : jH), P h' → K g (d + 1) Y h' (pc + 3) ls st Q) : K g (d + 1) Y h pc ls (v5 :: v4 :: v3 :: v2 :: v1 :: .ref a :: st) Q :=
  J_callV (b' := (0, 0)) (b2 := (0, 0)) (As := [v1, v2, v3, v4, v5]) hd hL hM hI hcl hs rfl rfl hw ⟨Nat.le_refl _, Nat.le_refl _⟩ hc (by
    rintro r σ h' ⟨rfl, rfl, hp⟩
    exact kk h' hp)
theorem K_Sv5 {nst : Bool} {idx : Nat} {v1 v2 v3 v4 v5 : Value} {P : jH → Prop} (hd : decode Y.2.2.1 pc = .ok (.invokestatic idx, 3)) (hL : j_L Y.1 idx Y'.2.1 nst) (hM : j_My Y' 5) (hI : Cond.static Y'.2.1 ∈ jB) (hw : (st.map fun v => v.category).sum ≤ 8) (hc : Mv g d Y' h [v1, v2, v3, v4, v5] P) (kk : ∀ (h' : jH), P h' → K g (d + 1) Y h' (pc + 3) ls st Q) : K g (d + 1) Y h pc ls (v5 :: v4 :: v3 :: v2 :: v1 :: st) Q :=
  J_callS (b' := (0, 0)) (b2 := (0, 0)) (As := [v1, v2, v3, v4, v5]) hd hL hM hI rfl rfl hw ⟨Nat.le_refl _, Nat.le_refl _⟩ hc (by
    rintro r σ h' ⟨rfl, rfl, hp⟩
    exact kk h' hp)
end KC
