def oX0 : jD := .inr (.inr (0, [some none, some none, some none, none, some none, none, none]))
theorem fsX0 : ∀ j, j < 7 → (([some none, some none, some none, none, some none, none, none] : List (Option (Option Nat)))[j]? = some none ∧ defaultValue (tyX0 j) = .int 0) ∨ (([some none, some none, some none, none, some none, none, none] : List (Option (Option Nat)))[j]? = some (some none) ∧ defaultValue (tyX0 j) = .null)
  | 0, _ => Or.inr ⟨rfl, rfl⟩
  | 1, _ => Or.inr ⟨rfl, rfl⟩
  | 2, _ => Or.inr ⟨rfl, rfl⟩
  | 3, _ => Or.inl ⟨rfl, rfl⟩
  | 4, _ => Or.inr ⟨rfl, rfl⟩
  | 5, _ => Or.inl ⟨rfl, rfl⟩
  | 6, _ => Or.inl ⟨rfl, rfl⟩
  | j + 7, h => absurd h (by omega)
def oX1 : jD := .inr (.inr (1, [some none, none, none, none, none, none, none, some none, none, none, none]))
theorem fsX1 : ∀ j, j < 11 → (([some none, none, none, none, none, none, none, some none, none, none, none] : List (Option (Option Nat)))[j]? = some none ∧ defaultValue (tyX1 j) = .int 0) ∨ (([some none, none, none, none, none, none, none, some none, none, none, none] : List (Option (Option Nat)))[j]? = some (some none) ∧ defaultValue (tyX1 j) = .null)
  | 0, _ => Or.inr ⟨rfl, rfl⟩
  | 1, _ => Or.inl ⟨rfl, rfl⟩
  | 2, _ => Or.inl ⟨rfl, rfl⟩
  | 3, _ => Or.inl ⟨rfl, rfl⟩
  | 4, _ => Or.inl ⟨rfl, rfl⟩
  | 5, _ => Or.inl ⟨rfl, rfl⟩
  | 6, _ => Or.inl ⟨rfl, rfl⟩
  | 7, _ => Or.inr ⟨rfl, rfl⟩
  | 8, _ => Or.inl ⟨rfl, rfl⟩
  | 9, _ => Or.inl ⟨rfl, rfl⟩
  | 10, _ => Or.inl ⟨rfl, rfl⟩
  | j + 11, h => absurd h (by omega)
def oX2 : jD := .inr (.inr (2, [none, none, some none]))
theorem fsX2 : ∀ j, j < 3 → (([none, none, some none] : List (Option (Option Nat)))[j]? = some none ∧ defaultValue (tyX2 j) = .int 0) ∨ (([none, none, some none] : List (Option (Option Nat)))[j]? = some (some none) ∧ defaultValue (tyX2 j) = .null)
  | 0, _ => Or.inl ⟨rfl, rfl⟩
  | 1, _ => Or.inl ⟨rfl, rfl⟩
  | 2, _ => Or.inr ⟨rfl, rfl⟩
  | j + 3, h => absurd h (by omega)
def oX3 : jD := .inr (.inr (3, [none, some none, some none, some none]))
theorem fsX3 : ∀ j, j < 4 → (([none, some none, some none, some none] : List (Option (Option Nat)))[j]? = some none ∧ defaultValue (tyX3 j) = .int 0) ∨ (([none, some none, some none, some none] : List (Option (Option Nat)))[j]? = some (some none) ∧ defaultValue (tyX3 j) = .null)
  | 0, _ => Or.inl ⟨rfl, rfl⟩
  | 1, _ => Or.inr ⟨rfl, rfl⟩
  | 2, _ => Or.inr ⟨rfl, rfl⟩
  | 3, _ => Or.inr ⟨rfl, rfl⟩
  | j + 4, h => absurd h (by omega)
def oX4 : jD := .inr (.inr (4, [none, some none, some none, none, some none, some none, none, none, some none, none, some none]))
theorem fsX4 : ∀ j, j < 11 → (([none, some none, some none, none, some none, some none, none, none, some none, none, some none] : List (Option (Option Nat)))[j]? = some none ∧ defaultValue (tyX4 j) = .int 0) ∨ (([none, some none, some none, none, some none, some none, none, none, some none, none, some none] : List (Option (Option Nat)))[j]? = some (some none) ∧ defaultValue (tyX4 j) = .null)
  | 0, _ => Or.inl ⟨rfl, rfl⟩
  | 1, _ => Or.inr ⟨rfl, rfl⟩
  | 2, _ => Or.inr ⟨rfl, rfl⟩
  | 3, _ => Or.inl ⟨rfl, rfl⟩
  | 4, _ => Or.inr ⟨rfl, rfl⟩
  | 5, _ => Or.inr ⟨rfl, rfl⟩
  | 6, _ => Or.inl ⟨rfl, rfl⟩
  | 7, _ => Or.inl ⟨rfl, rfl⟩
  | 8, _ => Or.inr ⟨rfl, rfl⟩
  | 9, _ => Or.inl ⟨rfl, rfl⟩
  | 10, _ => Or.inr ⟨rfl, rfl⟩
  | j + 11, h => absurd h (by omega)
def oX5 : jD := .inr (.inr (5, [some none, some none, some none, some none, some none, some none, some none, some none, some none, none]))
theorem fsX5 : ∀ j, j < 10 → (([some none, some none, some none, some none, some none, some none, some none, some none, some none, none] : List (Option (Option Nat)))[j]? = some none ∧ defaultValue (tyX5 j) = .int 0) ∨ (([some none, some none, some none, some none, some none, some none, some none, some none, some none, none] : List (Option (Option Nat)))[j]? = some (some none) ∧ defaultValue (tyX5 j) = .null)
  | 0, _ => Or.inr ⟨rfl, rfl⟩
  | 1, _ => Or.inr ⟨rfl, rfl⟩
  | 2, _ => Or.inr ⟨rfl, rfl⟩
  | 3, _ => Or.inr ⟨rfl, rfl⟩
  | 4, _ => Or.inr ⟨rfl, rfl⟩
  | 5, _ => Or.inr ⟨rfl, rfl⟩
  | 6, _ => Or.inr ⟨rfl, rfl⟩
  | 7, _ => Or.inr ⟨rfl, rfl⟩
  | 8, _ => Or.inr ⟨rfl, rfl⟩
  | 9, _ => Or.inl ⟨rfl, rfl⟩
  | j + 10, h => absurd h (by omega)
def oX6 : jD := .inr (.inr (6, [some none, some none, none, some none, none, none, none, some none, none, none, none, none, none, none, none, none, some none, some none, none, some none, some none, none, some none, some none, some none, some none, some none, some none, none]))
theorem fsX6 : ∀ j, j < 29 → (([some none, some none, none, some none, none, none, none, some none, none, none, none, none, none, none, none, none, some none, some none, none, some none, some none, none, some none, some none, some none, some none, some none, some none, none] : List (Option (Option Nat)))[j]? = some none ∧ defaultValue (tyX6 j) = .int 0) ∨ (([some none, some none, none, some none, none, none, none, some none, none, none, none, none, none, none, none, none, some none, some none, none, some none, some none, none, some none, some none, some none, some none, some none, some none, none] : List (Option (Option Nat)))[j]? = some (some none) ∧ defaultValue (tyX6 j) = .null)
  | 0, _ => Or.inr ⟨rfl, rfl⟩
  | 1, _ => Or.inr ⟨rfl, rfl⟩
  | 2, _ => Or.inl ⟨rfl, rfl⟩
  | 3, _ => Or.inr ⟨rfl, rfl⟩
  | 4, _ => Or.inl ⟨rfl, rfl⟩
  | 5, _ => Or.inl ⟨rfl, rfl⟩
  | 6, _ => Or.inl ⟨rfl, rfl⟩
  | 7, _ => Or.inr ⟨rfl, rfl⟩
  | 8, _ => Or.inl ⟨rfl, rfl⟩
  | 9, _ => Or.inl ⟨rfl, rfl⟩
  | 10, _ => Or.inl ⟨rfl, rfl⟩
  | 11, _ => Or.inl ⟨rfl, rfl⟩
  | 12, _ => Or.inl ⟨rfl, rfl⟩
  | 13, _ => Or.inl ⟨rfl, rfl⟩
  | 14, _ => Or.inl ⟨rfl, rfl⟩
  | 15, _ => Or.inl ⟨rfl, rfl⟩
  | 16, _ => Or.inr ⟨rfl, rfl⟩
  | 17, _ => Or.inr ⟨rfl, rfl⟩
  | 18, _ => Or.inl ⟨rfl, rfl⟩
  | 19, _ => Or.inr ⟨rfl, rfl⟩
  | 20, _ => Or.inr ⟨rfl, rfl⟩
  | 21, _ => Or.inl ⟨rfl, rfl⟩
  | 22, _ => Or.inr ⟨rfl, rfl⟩
  | 23, _ => Or.inr ⟨rfl, rfl⟩
  | 24, _ => Or.inr ⟨rfl, rfl⟩
  | 25, _ => Or.inr ⟨rfl, rfl⟩
  | 26, _ => Or.inr ⟨rfl, rfl⟩
  | 27, _ => Or.inr ⟨rfl, rfl⟩
  | 28, _ => Or.inl ⟨rfl, rfl⟩
  | j + 29, h => absurd h (by omega)
set_option maxHeartbeats 1000000 in
theorem c4_init {g : jG} {d : Nat} {σ : List jD} {v : Nat} {h : jH} (hv : σ.length = v) (hz : v ≤ 1000) : M g (d + 2) YX4_init (17, 77) (σ ++ [oX4]) h [.ref v] (fun r σ' h' => r = none ∧ σ' = σ ++ vD v ∧ (XV 0 (fun _ => 0) h' v ∧ h' v 9 = 0) ∧ low v h h') := by
  refine M.of (by decide) rfl (Nat.le_of_ble_eq_true rfl) ?_
  refine J_aload_n (pc := 0) dX4_init_0 rfl ?_
  refine J_objInit (pc := 1) dX4_init_1 qX4_3 w_oi_i w_oi_c (Nat.le_of_ble_eq_true rfl) ?_
  refine J_aload_n (pc := 4) dX4_init_4 rfl ?_
  refine J_iconst (pc := 5) (v := nI 3) dX4_init_5 (by decide) ?_
  refine J_iconst (pc := 6) (v := nI 4) dX4_init_6 (by decide) ?_
  refine R_mna (pc := 7) (b1 := 13) (b2 := 62) (k := 1) (T' := ([.inr (.inr (4, [none, some none, some none, none, some none, some none, none, none, some none, none, some none])), .inr (.inl (2, [some (v + 2), some (v + 3), some (v + 4)])), .inl (0, 4), .inl (0, 4), .inl (0, 4)] : List jD)) dX4_init_7 (j_bm (j_m1 29 rfl) rfl) (j_bm (j_m1 96 rfl) rfl) (N := 3) (M := 4) rfl rfl (by decide) (by decide) hv rfl rfl (by omega) ?_
  refine R_putF (pc := 11) (i := 0) (T' := ([.inr (.inr (4, [none, some (some (v + 1)), some none, none, some none, some none, none, none, some none, none, some none])), .inr (.inl (2, [some (v + 2), some (v + 3), some (v + 4)])), .inl (0, 4), .inl (0, 4), .inl (0, 4)] : List jD)) dX4_init_11 fX4_11 ⟨_, _, rfl⟩ rfl rfl hv rfl rfl (Nat.le_of_ble_eq_true rfl) rfl ?_
  refine J_aload_n (pc := 14) dX4_init_14 rfl ?_
  refine J_aload_n (pc := 15) dX4_init_15 rfl ?_
  refine J_getR (pc := 16) dX4_init_16 fX4_11 (R_at (i := 0) hv rfl rfl) rfl ?_
  refine J_iconst (pc := 19) (v := nI 2) dX4_init_19 (by decide) ?_
  refine J_aald (pc := 20) dX4_init_20 (R_at (i := 1) hv rfl rfl) j_k2 (k := 2) rfl rfl (Nat.le_of_ble_eq_true rfl) ?_
  refine R_putF (pc := 21) (i := 0) (T' := ([.inr (.inr (4, [none, some (some (v + 1)), some (some (v + 4)), none, some none, some none, none, none, some none, none, some none])), .inr (.inl (2, [some (v + 2), some (v + 3), some (v + 4)])), .inl (0, 4), .inl (0, 4), .inl (0, 4)] : List jD)) dX4_init_21 fX4_16 ⟨_, _, rfl⟩ rfl rfl hv rfl rfl (Nat.le_of_ble_eq_true rfl) rfl ?_
  refine J_aload_n (pc := 24) dX4_init_24 rfl ?_
  refine J_iconst (pc := 25) (v := nI 5) dX4_init_25 (by decide) ?_
  refine J_iconst (pc := 26) (v := nI 5) dX4_init_26 (by decide) ?_
  refine R_mna (pc := 27) (b1 := 7) (b2 := 32) (k := 5) (T' := ([.inr (.inr (4, [none, some (some (v + 1)), some (some (v + 4)), none, some none, some none, none, none, some none, none, some none])), .inr (.inl (2, [some (v + 2), some (v + 3), some (v + 4)])), .inl (0, 4), .inl (0, 4), .inl (0, 4), .inr (.inl (2, [some (v + 6), some (v + 7), some (v + 8), some (v + 9), some (v + 10)])), .inl (0, 5), .inl (0, 5), .inl (0, 5), .inl (0, 5), .inl (0, 5)] : List jD)) dX4_init_27 (j_bm (j_m1 29 rfl) rfl) (j_bm (j_m1 96 rfl) rfl) (N := 5) (M := 5) rfl rfl (by decide) (by decide) hv rfl rfl (by omega) ?_
  refine R_putF (pc := 31) (i := 0) (T' := ([.inr (.inr (4, [none, some (some (v + 1)), some (some (v + 4)), none, some (some (v + 5)), some none, none, none, some none, none, some none])), .inr (.inl (2, [some (v + 2), some (v + 3), some (v + 4)])), .inl (0, 4), .inl (0, 4), .inl (0, 4), .inr (.inl (2, [some (v + 6), some (v + 7), some (v + 8), some (v + 9), some (v + 10)])), .inl (0, 5), .inl (0, 5), .inl (0, 5), .inl (0, 5), .inl (0, 5)] : List jD)) dX4_init_31 fX4_20 ⟨_, _, rfl⟩ rfl rfl hv rfl rfl (Nat.le_of_ble_eq_true rfl) rfl ?_
  refine J_aload_n (pc := 34) dX4_init_34 rfl ?_
  refine J_iconst (pc := 35) (v := nI 4) dX4_init_35 (by decide) ?_
  refine R_newa (pc := 36) (b1 := 6) (b2 := 28) (k := 11) (T' := ([.inr (.inr (4, [none, some (some (v + 1)), some (some (v + 4)), none, some (some (v + 5)), some none, none, none, some none, none, some none])), .inr (.inl (2, [some (v + 2), some (v + 3), some (v + 4)])), .inl (0, 4), .inl (0, 4), .inl (0, 4), .inr (.inl (2, [some (v + 6), some (v + 7), some (v + 8), some (v + 9), some (v + 10)])), .inl (0, 5), .inl (0, 5), .inl (0, 5), .inl (0, 5), .inl (0, 5), .inl (0, 4)] : List jD)) dX4_init_36 rfl (Or.inl ⟨rfl, rfl⟩) (j_bm (j_m1 96 rfl) rfl) (N := 4) rfl (by decide) hv rfl rfl (by omega) ?_
  refine R_putF (pc := 38) (i := 0) (T' := ([.inr (.inr (4, [none, some (some (v + 1)), some (some (v + 4)), none, some (some (v + 5)), some (some (v + 11)), none, none, some none, none, some none])), .inr (.inl (2, [some (v + 2), some (v + 3), some (v + 4)])), .inl (0, 4), .inl (0, 4), .inl (0, 4), .inr (.inl (2, [some (v + 6), some (v + 7), some (v + 8), some (v + 9), some (v + 10)])), .inl (0, 5), .inl (0, 5), .inl (0, 5), .inl (0, 5), .inl (0, 5), .inl (0, 4)] : List jD)) dX4_init_38 fX4_23 ⟨_, _, rfl⟩ rfl rfl hv rfl rfl (Nat.le_of_ble_eq_true rfl) rfl ?_
  refine J_aload_n (pc := 41) dX4_init_41 rfl ?_
  refine J_bipush (pc := 42) (v := nI 8) dX4_init_42 (by decide) ?_
  refine R_newa (pc := 44) (b1 := 5) (b2 := 20) (k := 12) (T' := ([.inr (.inr (4, [none, some (some (v + 1)), some (some (v + 4)), none, some (some (v + 5)), some (some (v + 11)), none, none, some none, none, some none])), .inr (.inl (2, [some (v + 2), some (v + 3), some (v + 4)])), .inl (0, 4), .inl (0, 4), .inl (0, 4), .inr (.inl (2, [some (v + 6), some (v + 7), some (v + 8), some (v + 9), some (v + 10)])), .inl (0, 5), .inl (0, 5), .inl (0, 5), .inl (0, 5), .inl (0, 5), .inl (0, 4), .inl (0, 8)] : List jD)) dX4_init_44 rfl (Or.inl ⟨rfl, rfl⟩) (j_bm (j_m1 96 rfl) rfl) (N := 8) rfl (by decide) hv rfl rfl (by omega) ?_
  refine R_putF (pc := 46) (i := 0) (T' := ([.inr (.inr (4, [none, some (some (v + 1)), some (some (v + 4)), none, some (some (v + 5)), some (some (v + 11)), none, none, some (some (v + 12)), none, some none])), .inr (.inl (2, [some (v + 2), some (v + 3), some (v + 4)])), .inl (0, 4), .inl (0, 4), .inl (0, 4), .inr (.inl (2, [some (v + 6), some (v + 7), some (v + 8), some (v + 9), some (v + 10)])), .inl (0, 5), .inl (0, 5), .inl (0, 5), .inl (0, 5), .inl (0, 5), .inl (0, 4), .inl (0, 8)] : List jD)) dX4_init_46 fX4_26 ⟨_, _, rfl⟩ rfl rfl hv rfl rfl (Nat.le_of_ble_eq_true rfl) rfl ?_
  refine J_aload_n (pc := 49) dX4_init_49 rfl ?_
  refine J_iconst (pc := 50) (v := nI 4) dX4_init_50 (by decide) ?_
  refine J_iconst (pc := 51) (v := nI 4) dX4_init_51 (by decide) ?_
  refine R_mna (pc := 52) (b1 := 0) (b2 := 0) (k := 13) (T' := ([.inr (.inr (4, [none, some (some (v + 1)), some (some (v + 4)), none, some (some (v + 5)), some (some (v + 11)), none, none, some (some (v + 12)), none, some none])), .inr (.inl (2, [some (v + 2), some (v + 3), some (v + 4)])), .inl (0, 4), .inl (0, 4), .inl (0, 4), .inr (.inl (2, [some (v + 6), some (v + 7), some (v + 8), some (v + 9), some (v + 10)])), .inl (0, 5), .inl (0, 5), .inl (0, 5), .inl (0, 5), .inl (0, 5), .inl (0, 4), .inl (0, 8), .inr (.inl (2, [some (v + 14), some (v + 15), some (v + 16), some (v + 17)])), .inl (0, 4), .inl (0, 4), .inl (0, 4), .inl (0, 4)] : List jD)) dX4_init_52 (j_bm (j_m1 29 rfl) rfl) (j_bm (j_m1 96 rfl) rfl) (N := 4) (M := 4) rfl rfl (by decide) (by decide) hv rfl rfl (by omega) ?_
  refine R_putF (pc := 56) (i := 0) (T' := vD v) dX4_init_56 fX4_29 ⟨_, _, rfl⟩ rfl rfl hv rfl rfl (Nat.le_of_ble_eq_true rfl) rfl ?_
  refine J_aload_n (pc := 59) dX4_init_59 rfl ?_
  refine J_callV (pc := 60) (Y' := YX4_clear) (b' := (0, 0)) (b2 := (0, 0)) (As := []) dX4_init_60 lX4_32 mX4_clear vX4_clear ⟨_, _, rfl⟩ (gv0 (hV_of hv)) rfl rfl (Nat.le_of_ble_eq_true rfl) ⟨by decide, by decide⟩ (g4_clear (hV_of hv)) ?_
  rintro r σ' h9 ⟨rfl, rfl, rfl⟩
  refine J_ret (pc := 63) dX4_init_63 rfl ?_
  exact ⟨rfl, rfl, ⟨XV_clear, clH_9⟩, fun b hb => (clH_out (by omega)).trans (((((low_zr (v := v) (by omega)).tr (low_zr (by omega))).tr (low_row (by omega))).tr (low_row (by omega))).tr (low_zr (by omega)) b hb)⟩
theorem c4_initR {g : jG} {d : Nat} {σ T : List jD} {v k : Nat} {h : jH} (hv : σ.length = v) (hk : T.length = k) (hz : v + k ≤ 1000) : M g (d + 2) YX4_init (17, 77) (σ ++ (T ++ [oX4])) h [.ref (v + k)] (fun r σ' h' => r = none ∧ σ' = σ ++ (T ++ vD (v + k)) ∧ (XV 0 (fun _ => 0) h' (v + k) ∧ h' (v + k) 9 = 0) ∧ low (v + k) h h') := by
  have q := c4_init (g := g) (d := d) (σ := σ ++ T) (v := v + k) (h := h) (R_len hv hk) hz
  simp only [List.append_assoc] at q
  exact q
set_option maxHeartbeats 1000000 in
theorem c2_init {g : jG} {d : Nat} {σ : List jD} {v : Nat} {h : jH} (hv : σ.length = v) (hz : v ≤ 1000) : M g (d + 1) YX2_init (1, 40) (σ ++ [oX2]) h [.ref v] (fun r σ' h' => r = none ∧ σ' = σ ++ ([.inr (.inr (2, [none, none, some (some (v + 1))])), .inl (0, 40)] : List jD) ∧ (h' v 0 = -1 ∧ h' v 1 = h v 1 ∧ ∀ i, h' (v + 1) i = 0) ∧ low v h h') := by
  refine M.of (by decide) rfl (Nat.le_of_ble_eq_true rfl) ?_
  refine J_aload_n (pc := 0) dX2_init_0 rfl ?_
  refine J_objInit (pc := 1) dX2_init_1 qX2_3 w_oi_i w_oi_c (Nat.le_of_ble_eq_true rfl) ?_
  refine J_aload_n (pc := 4) dX2_init_4 rfl ?_
  refine J_iconst (pc := 5) (v := -1) dX2_init_5 (by decide) ?_
  refine J_putI (pc := 6) dX2_init_6 fX2_11 (R_at (i := 0) hv rfl rfl) rfl ?_
  refine J_aload_n (pc := 9) dX2_init_9 rfl ?_
  refine J_bipush (pc := 10) (v := nI 40) dX2_init_10 (by decide) ?_
  refine R_newa (pc := 12) (b1 := 0) (b2 := 0) (k := 1) (T' := ([.inr (.inr (2, [none, none, some none])), .inl (0, 40)] : List jD)) dX2_init_12 rfl (Or.inl ⟨rfl, rfl⟩) (j_bm (j_m1 96 rfl) rfl) (N := 40) rfl (by decide) hv rfl rfl (by omega) ?_
  refine R_putF (pc := 14) (i := 0) (T' := ([.inr (.inr (2, [none, none, some (some (v + 1))])), .inl (0, 40)] : List jD)) dX2_init_14 fX2_15 ⟨_, _, rfl⟩ rfl rfl hv rfl rfl (Nat.le_of_ble_eq_true rfl) rfl ?_
  refine J_ret (pc := 17) dX2_init_17 rfl ?_
  refine ⟨rfl, rfl, ⟨?_, ?_, fun i => ?_⟩, (low_up (by omega)).tr (low_row (by omega))⟩
  · rw [j_row_ne v (by omega), j_up_s]
  · rw [j_row_ne v (by omega), j_up_o (by omega)]
  · rw [j_row_at]
theorem c2_initR {g : jG} {d : Nat} {σ T : List jD} {v k : Nat} {h : jH} (hv : σ.length = v) (hk : T.length = k) (hz : v + k ≤ 1000) : M g (d + 1) YX2_init (1, 40) (σ ++ (T ++ [oX2])) h [.ref (v + k)] (fun r σ' h' => r = none ∧ σ' = σ ++ (T ++ ([.inr (.inr (2, [none, none, some (some (v + k + 1))])), .inl (0, 40)] : List jD)) ∧ (h' (v + k) 0 = -1 ∧ h' (v + k) 1 = h (v + k) 1 ∧ ∀ i, h' ((v + k) + 1) i = 0) ∧ low (v + k) h h') := by
  have q := c2_init (g := g) (d := d) (σ := σ ++ T) (v := v + k) (h := h) (R_len hv hk) hz
  simp only [List.append_assoc] at q
  exact q
set_option maxHeartbeats 1000000 in
theorem c3_init {g : jG} {d : Nat} {σ : List jD} {v : Nat} {h : jH} (hv : σ.length = v) (hz : v ≤ 1000) : M g (d + 1) YX3_init (3, 18) (σ ++ [oX3]) h [.ref v] (fun r σ' h' => r = none ∧ σ' = σ ++ ([.inr (.inr (3, [none, some (some (v + 1)), some (some (v + 2)), some (some (v + 3))])), .inl (0, 6), .inl (0, 6), .inl (0, 6)] : List jD) ∧ (h' v 0 = h v 0) ∧ low v h h') := by
  refine M.of (by decide) rfl (Nat.le_of_ble_eq_true rfl) ?_
  refine J_aload_n (pc := 0) dX3_init_0 rfl ?_
  refine J_objInit (pc := 1) dX3_init_1 qX3_3 w_oi_i w_oi_c (Nat.le_of_ble_eq_true rfl) ?_
  refine J_aload_n (pc := 4) dX3_init_4 rfl ?_
  refine J_bipush (pc := 5) (v := nI 6) dX3_init_5 (by decide) ?_
  refine R_newa (pc := 7) (b1 := 2) (b2 := 12) (k := 1) (T' := ([.inr (.inr (3, [none, some none, some none, some none])), .inl (0, 6)] : List jD)) dX3_init_7 rfl (Or.inl ⟨rfl, rfl⟩) (j_bm (j_m1 96 rfl) rfl) (N := 6) rfl (by decide) hv rfl rfl (by omega) ?_
  refine R_putF (pc := 9) (i := 0) (T' := ([.inr (.inr (3, [none, some (some (v + 1)), some none, some none])), .inl (0, 6)] : List jD)) dX3_init_9 fX3_9 ⟨_, _, rfl⟩ rfl rfl hv rfl rfl (Nat.le_of_ble_eq_true rfl) rfl ?_
  refine J_aload_n (pc := 12) dX3_init_12 rfl ?_
  refine J_bipush (pc := 13) (v := nI 6) dX3_init_13 (by decide) ?_
  refine R_newa (pc := 15) (b1 := 1) (b2 := 6) (k := 2) (T' := ([.inr (.inr (3, [none, some (some (v + 1)), some none, some none])), .inl (0, 6), .inl (0, 6)] : List jD)) dX3_init_15 rfl (Or.inl ⟨rfl, rfl⟩) (j_bm (j_m1 96 rfl) rfl) (N := 6) rfl (by decide) hv rfl rfl (by omega) ?_
  refine R_putF (pc := 17) (i := 0) (T' := ([.inr (.inr (3, [none, some (some (v + 1)), some (some (v + 2)), some none])), .inl (0, 6), .inl (0, 6)] : List jD)) dX3_init_17 fX3_15 ⟨_, _, rfl⟩ rfl rfl hv rfl rfl (Nat.le_of_ble_eq_true rfl) rfl ?_
  refine J_aload_n (pc := 20) dX3_init_20 rfl ?_
  refine J_bipush (pc := 21) (v := nI 6) dX3_init_21 (by decide) ?_
  refine R_newa (pc := 23) (b1 := 0) (b2 := 0) (k := 3) (T' := ([.inr (.inr (3, [none, some (some (v + 1)), some (some (v + 2)), some none])), .inl (0, 6), .inl (0, 6), .inl (0, 6)] : List jD)) dX3_init_23 rfl (Or.inl ⟨rfl, rfl⟩) (j_bm (j_m1 96 rfl) rfl) (N := 6) rfl (by decide) hv rfl rfl (by omega) ?_
  refine R_putF (pc := 25) (i := 0) (T' := ([.inr (.inr (3, [none, some (some (v + 1)), some (some (v + 2)), some (some (v + 3))])), .inl (0, 6), .inl (0, 6), .inl (0, 6)] : List jD)) dX3_init_25 fX3_18 ⟨_, _, rfl⟩ rfl rfl hv rfl rfl (Nat.le_of_ble_eq_true rfl) rfl ?_
  refine J_ret (pc := 28) dX3_init_28 rfl ?_
  exact ⟨rfl, rfl, by rw [j_row_ne v (by omega), j_row_ne v (by omega), j_row_ne v (by omega)], ((low_row (by omega)).tr (low_row (by omega))).tr (low_row (by omega))⟩
theorem c3_initR {g : jG} {d : Nat} {σ T : List jD} {v k : Nat} {h : jH} (hv : σ.length = v) (hk : T.length = k) (hz : v + k ≤ 1000) : M g (d + 1) YX3_init (3, 18) (σ ++ (T ++ [oX3])) h [.ref (v + k)] (fun r σ' h' => r = none ∧ σ' = σ ++ (T ++ ([.inr (.inr (3, [none, some (some (v + k + 1)), some (some (v + k + 2)), some (some (v + k + 3))])), .inl (0, 6), .inl (0, 6), .inl (0, 6)] : List jD)) ∧ (h' (v + k) 0 = h (v + k) 0) ∧ low (v + k) h h') := by
  have q := c3_init (g := g) (d := d) (σ := σ ++ T) (v := v + k) (h := h) (R_len hv hk) hz
  simp only [List.append_assoc] at q
  exact q
set_option maxHeartbeats 1000000 in
theorem c1_init {g : jG} {d : Nat} {σ : List jD} {v : Nat} {h : jH} (hv : σ.length = v) (hz : v ≤ 500) : M g (d + 3) YX1_init (19, 248) (σ ++ [oX1]) h [.ref v] (fun r σ' h' => r = none ∧ σ' = σ ++ ([.inr (.inr (1, [some (some (v + 1)), none, none, none, none, none, none, some (some (v + 2)), none, none, none])), .inl (0, 160)] ++ (vD (v + 2)) : List jD) ∧ (h' v 1 = h v 1 ∧ h' v 6 = 0) ∧ low v h h') := by
  refine M.of (by decide) rfl (Nat.le_of_ble_eq_true rfl) ?_
  refine J_aload_n (pc := 0) dX1_init_0 rfl ?_
  refine J_objInit (pc := 1) dX1_init_1 qX1_3 w_oi_i w_oi_c (Nat.le_of_ble_eq_true rfl) ?_
  refine J_aload_n (pc := 4) dX1_init_4 rfl ?_
  refine J_sipush (pc := 5) (v := nI 160) dX1_init_5 (by decide) ?_
  refine R_newa (pc := 8) (b1 := 18) (b2 := 88) (k := 1) (T' := ([.inr (.inr (1, [some none, none, none, none, none, none, none, some none, none, none, none])), .inl (0, 160)] : List jD)) dX1_init_8 rfl (Or.inl ⟨rfl, rfl⟩) (j_bm (j_m1 96 rfl) rfl) (N := 160) rfl (by decide) hv rfl rfl (by omega) ?_
  refine R_putF (pc := 10) (i := 0) (T' := ([.inr (.inr (1, [some (some (v + 1)), none, none, none, none, none, none, some none, none, none, none])), .inl (0, 160)] : List jD)) dX1_init_10 fX1_11 ⟨_, _, rfl⟩ rfl rfl hv rfl rfl (Nat.le_of_ble_eq_true rfl) rfl ?_
  refine J_aload_n (pc := 13) dX1_init_13 rfl ?_
  refine J_iconst (pc := 14) (v := nI 0) dX1_init_14 (by decide) ?_
  refine J_putI (pc := 15) dX1_init_15 fX1_15 (R_at (i := 0) hv rfl rfl) rfl ?_
  refine J_aload_n (pc := 18) dX1_init_18 rfl ?_
  refine R_new (pc := 19) (b1 := 17) (b2 := 77) (k := 2) (T' := ([.inr (.inr (1, [some (some (v + 1)), none, none, none, none, none, none, some none, none, none, none])), .inl (0, 160)] : List jD) ++ [oX4]) dX1_init_19 rfl cf4 tyX4_ok (j_bm (j_m1 104 rfl) rfl) (j_bm (j_m1 24 rfl) rfl) (j_bm (j_m1 2 rfl) rfl) fsX4 hv rfl rfl (by omega) ?_
  refine J_dup (pc := 22) dX1_init_22 rfl ?_
  refine J_callI (pc := 23) (Y' := YX4_init) (b' := (17, 77)) (b2 := (0, 0)) (As := []) dX1_init_23 lX1_21 mX4_init rfl iX4_init rfl rfl (Nat.le_of_ble_eq_true rfl) ⟨by decide, by decide⟩ (c4_initR (T := ([.inr (.inr (1, [some (some (v + 1)), none, none, none, none, none, none, some none, none, none, none])), .inl (0, 160)] : List jD)) (k := 2) hv rfl (by omega)) ?_
  rintro r σ' h2 ⟨rfl, rfl, p2, w2⟩
  refine R_putF (pc := 26) (i := 0) (T' := ([.inr (.inr (1, [some (some (v + 1)), none, none, none, none, none, none, some (some (v + 2)), none, none, none])), .inl (0, 160)] ++ (vD (v + 2)) : List jD)) dX1_init_26 fX1_22 ⟨_, _, rfl⟩ rfl rfl hv rfl rfl (Nat.le_of_ble_eq_true rfl) rfl ?_
  refine J_ret (pc := 29) dX1_init_29 rfl ?_
  refine ⟨rfl, rfl, ⟨?_, ?_⟩, ((((low_row (by omega)).tr (low_up (by omega))).tr (low_row (by omega))).tr (w2.mono (by omega)))⟩
  · rw [w2 v (by omega), j_row_ne v (by omega), j_up_o (by omega), j_row_ne v (by omega)]
  · rw [w2 v (by omega), j_row_ne v (by omega), j_up_s]; rfl
theorem c1_initR {g : jG} {d : Nat} {σ T : List jD} {v k : Nat} {h : jH} (hv : σ.length = v) (hk : T.length = k) (hz : v + k ≤ 500) : M g (d + 3) YX1_init (19, 248) (σ ++ (T ++ [oX1])) h [.ref (v + k)] (fun r σ' h' => r = none ∧ σ' = σ ++ (T ++ ([.inr (.inr (1, [some (some (v + k + 1)), none, none, none, none, none, none, some (some (v + k + 2)), none, none, none])), .inl (0, 160)] ++ (vD (v + k + 2)) : List jD)) ∧ (h' (v + k) 1 = h (v + k) 1 ∧ h' (v + k) 6 = 0) ∧ low (v + k) h h') := by
  have q := c1_init (g := g) (d := d) (σ := σ ++ T) (v := v + k) (h := h) (R_len hv hk) hz
  simp only [List.append_assoc] at q
  exact q
set_option maxHeartbeats 1000000 in
theorem c0_init {g : jG} {d : Nat} {σ : List jD} {v : Nat} {h : jH} (hv : σ.length = v) (hz : v ≤ 500) : M g (d + 3) YX0_init (21, 2708) (σ ++ [oX0]) h [.ref v] (fun r σ' h' => r = none ∧ σ' = σ ++ ([.inr (.inr (0, [some (some (v + 1)), some (some (v + 19)), some (some (v + 20)), none, some (some (v + 21)), none, none]))] ++ (vD (v + 1) ++ ([.inl (0, 1364), .inl (0, 256), .inl (0, 1000)])) : List jD) ∧ (∀ i, h' (v + 21) i = 0) ∧ low v h h') := by
  refine M.of (by decide) rfl (Nat.le_of_ble_eq_true rfl) ?_
  refine J_aload_n (pc := 0) dX0_init_0 rfl ?_
  refine J_objInit (pc := 1) dX0_init_1 qX0_3 w_oi_i w_oi_c (Nat.le_of_ble_eq_true rfl) ?_
  refine J_aload_n (pc := 4) dX0_init_4 rfl ?_
  refine R_new (pc := 5) (b1 := 20) (b2 := 2697) (k := 1) (T' := ([.inr (.inr (0, [some none, some none, some none, none, some none, none, none]))] : List jD) ++ [oX4]) dX0_init_5 rfl cf4 tyX4_ok (j_bm (j_m1 150 rfl) rfl) (j_bm (j_m1 24 rfl) rfl) (j_bm (j_m1 2 rfl) rfl) fsX4 hv rfl rfl (by omega) ?_
  refine J_dup (pc := 8) dX0_init_8 rfl ?_
  refine J_callI (pc := 9) (Y' := YX4_init) (b' := (17, 77)) (b2 := (3, 2620)) (As := []) dX0_init_9 lX0_11 mX4_init rfl iX4_init rfl rfl (Nat.le_of_ble_eq_true rfl) ⟨by decide, by decide⟩ (c4_initR (T := ([.inr (.inr (0, [some none, some none, some none, none, some none, none, none]))] : List jD)) (k := 1) hv rfl (by omega)) ?_
  rintro r σ' h1 ⟨rfl, rfl, p1, w1⟩
  refine R_putF (pc := 12) (i := 0) (T' := ([.inr (.inr (0, [some (some (v + 1)), some none, some none, none, some none, none, none]))] ++ (vD (v + 1)) : List jD)) dX0_init_12 fX0_12 ⟨_, _, rfl⟩ rfl rfl hv rfl rfl (Nat.le_of_ble_eq_true rfl) rfl ?_
  refine J_aload_n (pc := 15) dX0_init_15 rfl ?_
  refine J_sipush (pc := 16) (v := nI 1364) dX0_init_16 (by decide) ?_
  refine R_newa (pc := 19) (b1 := 2) (b2 := 1256) (k := 19) (T' := ([.inr (.inr (0, [some (some (v + 1)), some none, some none, none, some none, none, none]))] ++ (vD (v + 1) ++ ([.inl (0, 1364)])) : List jD)) dX0_init_19 rfl (Or.inl ⟨rfl, rfl⟩) (j_bm (j_m1 96 rfl) rfl) (N := 1364) rfl (by decide) hv rfl rfl (by omega) ?_
  refine R_putF (pc := 21) (i := 0) (T' := ([.inr (.inr (0, [some (some (v + 1)), some (some (v + 19)), some none, none, some none, none, none]))] ++ (vD (v + 1) ++ ([.inl (0, 1364)])) : List jD)) dX0_init_21 fX0_18 ⟨_, _, rfl⟩ rfl rfl hv rfl rfl (Nat.le_of_ble_eq_true rfl) rfl ?_
  refine J_aload_n (pc := 24) dX0_init_24 rfl ?_
  refine J_sipush (pc := 25) (v := nI 256) dX0_init_25 (by decide) ?_
  refine R_newa (pc := 28) (b1 := 1) (b2 := 1000) (k := 20) (T' := ([.inr (.inr (0, [some (some (v + 1)), some (some (v + 19)), some none, none, some none, none, none]))] ++ (vD (v + 1) ++ ([.inl (0, 1364), .inl (0, 256)])) : List jD)) dX0_init_28 rfl (Or.inl ⟨rfl, rfl⟩) (j_bm (j_m1 96 rfl) rfl) (N := 256) rfl (by decide) hv rfl rfl (by omega) ?_
  refine R_putF (pc := 30) (i := 0) (T' := ([.inr (.inr (0, [some (some (v + 1)), some (some (v + 19)), some (some (v + 20)), none, some none, none, none]))] ++ (vD (v + 1) ++ ([.inl (0, 1364), .inl (0, 256)])) : List jD)) dX0_init_30 fX0_22 ⟨_, _, rfl⟩ rfl rfl hv rfl rfl (Nat.le_of_ble_eq_true rfl) rfl ?_
  refine J_aload_n (pc := 33) dX0_init_33 rfl ?_
  refine J_sipush (pc := 34) (v := nI 1000) dX0_init_34 (by decide) ?_
  refine R_newa (pc := 37) (b1 := 0) (b2 := 0) (k := 21) (T' := ([.inr (.inr (0, [some (some (v + 1)), some (some (v + 19)), some (some (v + 20)), none, some none, none, none]))] ++ (vD (v + 1) ++ ([.inl (0, 1364), .inl (0, 256), .inl (0, 1000)])) : List jD)) dX0_init_37 rfl (Or.inl ⟨rfl, rfl⟩) (j_bm (j_m1 96 rfl) rfl) (N := 1000) rfl (by decide) hv rfl rfl (by omega) ?_
  refine R_putF (pc := 39) (i := 0) (T' := ([.inr (.inr (0, [some (some (v + 1)), some (some (v + 19)), some (some (v + 20)), none, some (some (v + 21)), none, none]))] ++ (vD (v + 1) ++ ([.inl (0, 1364), .inl (0, 256), .inl (0, 1000)])) : List jD)) dX0_init_39 fX0_25 ⟨_, _, rfl⟩ rfl rfl hv rfl rfl (Nat.le_of_ble_eq_true rfl) rfl ?_
  refine J_ret (pc := 42) dX0_init_42 rfl ?_
  refine ⟨rfl, rfl, fun i => ?_, (((((low_row (by omega)).tr (w1.mono (by omega))).tr (low_row (by omega))).tr (low_row (by omega))).tr (low_row (by omega)))⟩
  rw [j_row_at]
theorem c0_initR {g : jG} {d : Nat} {σ T : List jD} {v k : Nat} {h : jH} (hv : σ.length = v) (hk : T.length = k) (hz : v + k ≤ 500) : M g (d + 3) YX0_init (21, 2708) (σ ++ (T ++ [oX0])) h [.ref (v + k)] (fun r σ' h' => r = none ∧ σ' = σ ++ (T ++ ([.inr (.inr (0, [some (some (v + k + 1)), some (some (v + k + 19)), some (some (v + k + 20)), none, some (some (v + k + 21)), none, none]))] ++ (vD (v + k + 1) ++ ([.inl (0, 1364), .inl (0, 256), .inl (0, 1000)])) : List jD)) ∧ (∀ i, h' ((v + k) + 21) i = 0) ∧ low (v + k) h h') := by
  have q := c0_init (g := g) (d := d) (σ := σ ++ T) (v := v + k) (h := h) (R_len hv hk) hz
  simp only [List.append_assoc] at q
  exact q
