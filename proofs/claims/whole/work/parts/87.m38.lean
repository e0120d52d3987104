set_option maxHeartbeats 4000000 in
theorem g4_clr2 {g : jG} {d : Nat} {h : jH} {Q : kQ} {S : List jD} {v p : Nat} (hv : hV S v) (hp : p < 4) (kx : KG S g d YX4_clearDebts (cdI h v p 4) 29 [(0, .ref v), (1, .int (nI p)), (2, .int (nI 4))] [] Q) : ∀ (mm k : Nat) , k ≤ 4 → 4 < k + mm → KG S g d YX4_clearDebts (cdI h v p k) 9 [(0, .ref v), (1, .int (nI p)), (2, .int (nI k))] [] Q := by
  intro mm
  induction mm with
  | zero => intro k  hk1 hk2 ; omega
  | succ mm ih =>
    intro k  hk1 hk2 
    refine J_iload_n (pc := 9) dX4_clearDebts_9 rfl ?_
    refine J_iconst (pc := 10) (v := nI 4) dX4_clearDebts_10 (by decide) ?_
    refine J_icmp_ge (pc := 11) (tgt := 29) dX4_clearDebts_11 (by decide) (fun c11 => ?_) (fun c11 => ?_)
    · skip
      have q11 : 4 ≤ k := (nI_leI (by omega) (by omega)).mp c11
      have e_k : k = 4 := by omega
      refine J_ls (ls' := [(0, .ref v), (1, .int (nI p)), (2, .int (nI k))]) ⟨rfl, rfl, rfl, trivial⟩ ?_
      rw [e_k]
      exact kx
    · skip
      have q11 : k < 4 := Nat.lt_of_not_le (fun z => c11 ((nI_leI (by omega) (by omega)).mpr z))
      refine J_aload_n (pc := 14) dX4_clearDebts_14 rfl ?_
      refine J_getR (pc := 15) dX4_clearDebts_15 fX4_29 (gv0 hv) rfl ?_
      refine J_iload_n (pc := 18) dX4_clearDebts_18 rfl ?_
      refine J_aald (pc := 19) dX4_clearDebts_19 (gv13 hv) j_k2 (rfl) (debtsR (by omega)) (Nat.le_of_ble_eq_true rfl) ?_
      refine J_iload_n (pc := 20) dX4_clearDebts_20 rfl ?_
      refine J_iconst (pc := 21) (v := nI 0) dX4_clearDebts_21 (by decide) ?_
      refine J_iast (pc := 22) dX4_clearDebts_22 (gdR hv (by omega)) (rfl) (by omega) (by decide) ?_
      rw [cdI_s]
      refine J_iinc (pc := 23) dX4_clearDebts_23 rfl (v := nI (k + 1)) (by exact nI_add _ _) (by decide) ?_
      refine J_goto (pc := 26) (tgt := 9) dX4_clearDebts_26 (by decide) ?_
      exact J_ls (ls' := [(0, .ref v), (1, .int (nI p)), (2, .int (nI (k + 1)))]) ⟨rfl, rfl, rfl, trivial⟩ (ih (k + 1)  (by omega) (by omega) )
set_option maxHeartbeats 4000000 in
theorem g4_clr1 {g : jG} {d : Nat} {h : jH} {Q : kQ} {S : List jD} {v : Nat} (hv : hV S v) (kx : KG S g d YX4_clearDebts (cdI h v 4 0) 35 [(0, .ref v), (1, .int (nI 4))] [] Q) : ∀ (mm k : Nat) , k ≤ 4 → 4 < k + mm → KG S g d YX4_clearDebts (cdI h v k 0) 2 [(0, .ref v), (1, .int (nI k))] [] Q := by
  intro mm
  induction mm with
  | zero => intro k  hk1 hk2 ; omega
  | succ mm ih =>
    intro k  hk1 hk2 
    refine J_iload_n (pc := 2) dX4_clearDebts_2 rfl ?_
    refine J_iconst (pc := 3) (v := nI 4) dX4_clearDebts_3 (by decide) ?_
    refine J_icmp_ge (pc := 4) (tgt := 35) dX4_clearDebts_4 (by decide) (fun c4 => ?_) (fun c4 => ?_)
    · skip
      have q4 : 4 ≤ k := (nI_leI (by omega) (by omega)).mp c4
      have e_k : k = 4 := by omega
      refine J_ls (ls' := [(0, .ref v), (1, .int (nI k))]) ⟨rfl, rfl, trivial⟩ ?_
      rw [e_k]
      exact kx
    · skip
      have q4 : k < 4 := Nat.lt_of_not_le (fun z => c4 ((nI_leI (by omega) (by omega)).mpr z))
      refine J_iconst (pc := 7) (v := nI 0) dX4_clearDebts_7 (by decide) ?_
      refine J_istore_n (pc := 8) dX4_clearDebts_8 (by decide) ?_
      refine J_ls (ls' := [(0, .ref v), (1, .int (nI k)), (2, .int (nI 0))]) ⟨rfl, rfl, rfl, trivial⟩ ?_
      refine g4_clr2 hv q4 ?_ 5 0 (Nat.zero_le _) (by omega)
      rw [cdI_n]
      refine J_iinc (pc := 29) dX4_clearDebts_29 rfl (v := nI (k + 1)) (by exact nI_add _ _) (by decide) ?_
      refine J_goto (pc := 32) (tgt := 2) dX4_clearDebts_32 (by decide) ?_
      exact J_ls (ls' := [(0, .ref v), (1, .int (nI (k + 1)))]) ⟨rfl, rfl, trivial⟩ (ih (k + 1) (by omega) (by omega))
set_option maxHeartbeats 4000000 in
theorem g4_clearDebts {g : jG} {d : Nat} {h : jH} {S : List jD} {v : Nat} (hv : hV S v) : MvG S g d YX4_clearDebts h [.ref v] (fun h' => h' = cdI h v 4 0) := by
  refine M.of (by decide) rfl (Nat.le_of_ble_eq_true rfl) ?_
  refine J_iconst (pc := 0) (v := nI 0) dX4_clearDebts_0 (by decide) ?_
  refine J_istore_n (pc := 1) dX4_clearDebts_1 (by decide) ?_
  refine J_h (h' := cdI h v 0 0) (by rw [cdI_0]) ?_
  refine J_ls (ls' := [(0, .ref v), (1, .int (nI 0))]) ⟨rfl, rfl, trivial⟩ ?_
  refine g4_clr1 hv ?_ 5 0 (Nat.zero_le _) (by omega)
  refine KG_ret (pc := 35) dX4_clearDebts_35 rfl ?_
  exact rfl
set_option maxHeartbeats 4000000 in
theorem g4_clear {g : jG} {d : Nat} {h : jH} {S : List jD} {v : Nat} (hv : hV S v) : MvG S g (d + 1) YX4_clear h [.ref v] (fun h' => h' = clH h v) := by
  refine M.of (by decide) rfl (Nat.le_of_ble_eq_true rfl) ?_
  refine J_aload_n (pc := 0) dX4_clear_0 rfl ?_
  refine J_iconst (pc := 1) (v := nI 0) dX4_clear_1 (by decide) ?_
  refine J_putI (pc := 2) dX4_clear_2 fX4_35 (gv0 hv) rfl ?_
  refine J_aload_n (pc := 5) dX4_clear_5 rfl ?_
  refine J_iconst (pc := 6) (v := nI 0) dX4_clear_6 (by decide) ?_
  refine J_putI (pc := 7) dX4_clear_7 fX4_39 (gv0 hv) rfl ?_
  refine J_aload_n (pc := 10) dX4_clear_10 rfl ?_
  refine J_getR (pc := 11) dX4_clear_11 fX4_23 (gv0 hv) rfl ?_
  refine J_iconst (pc := 14) (v := nI 0) dX4_clear_14 (by decide) ?_
  refine J_iconst (pc := 15) (v := nI 3) dX4_clear_15 (by decide) ?_
  refine J_iast (pc := 16) dX4_clear_16 (gv11 hv) (rfl) (by omega) (by decide) ?_
  refine J_aload_n (pc := 17) dX4_clear_17 rfl ?_
  refine J_getR (pc := 18) dX4_clear_18 fX4_23 (gv0 hv) rfl ?_
  refine J_iconst (pc := 21) (v := nI 1) dX4_clear_21 (by decide) ?_
  refine J_iconst (pc := 22) (v := nI 3) dX4_clear_22 (by decide) ?_
  refine J_iast (pc := 23) dX4_clear_23 (gv11 hv) (rfl) (by omega) (by decide) ?_
  refine J_aload_n (pc := 24) dX4_clear_24 rfl ?_
  refine J_getR (pc := 25) dX4_clear_25 fX4_23 (gv0 hv) rfl ?_
  refine J_iconst (pc := 28) (v := nI 2) dX4_clear_28 (by decide) ?_
  refine J_iconst (pc := 29) (v := nI 3) dX4_clear_29 (by decide) ?_
  refine J_iast (pc := 30) dX4_clear_30 (gv11 hv) (rfl) (by omega) (by decide) ?_
  refine J_aload_n (pc := 31) dX4_clear_31 rfl ?_
  refine J_getR (pc := 32) dX4_clear_32 fX4_23 (gv0 hv) rfl ?_
  refine J_iconst (pc := 35) (v := nI 3) dX4_clear_35 (by decide) ?_
  refine J_iconst (pc := 36) (v := nI 1) dX4_clear_36 (by decide) ?_
  refine J_iast (pc := 37) dX4_clear_37 (gv11 hv) (rfl) (by omega) (by decide) ?_
  refine J_aload_n (pc := 38) dX4_clear_38 rfl ?_
  refine J_iconst (pc := 39) (v := nI 5) dX4_clear_39 (by decide) ?_
  refine J_putI (pc := 40) dX4_clear_40 fX4_42 (gv0 hv) rfl ?_
  refine J_aload_n (pc := 43) dX4_clear_43 rfl ?_
  refine J_iconst (pc := 44) (v := nI 0) dX4_clear_44 (by decide) ?_
  refine J_putI (pc := 45) dX4_clear_45 fX4_45 (gv0 hv) rfl ?_
  refine J_aload_n (pc := 48) dX4_clear_48 rfl ?_
  refine J_iconst (pc := 49) (v := nI 0) dX4_clear_49 (by decide) ?_
  refine J_putI (pc := 50) dX4_clear_50 fX4_48 (gv0 hv) rfl ?_
  refine J_aload_n (pc := 53) dX4_clear_53 rfl ?_
  refine KG_Vv0 (pc := 54) (Y' := YX4_clearDebts) dX4_clear_54 lX4_51 mX4_clearDebts vX4_clearDebts ⟨_, _, rfl⟩ (gv0 hv) (Nat.le_of_ble_eq_true rfl) (g4_clearDebts hv) ?_
  rintro h1 rfl
  refine KG_ret (pc := 57) dX4_clear_57 rfl ?_
  exact rfl
