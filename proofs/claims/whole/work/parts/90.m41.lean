def cI (h' : jH) : Prop := (XV 0 (fun _ => 0) h' 1 ∧ h' 1 9 = 0) ∧ (∀ k, h' 38 k = 0) ∧ (h' 39 1 = 0 ∧ h' 39 6 = 0) ∧ (∀ i, h' 80 i = 0) ∧ h' 81 0 = 0 ∧ h' 0 9 = 0 ∧ ∀ s, s < 4 → h' (123 + 2 * s) 0 = -1 ∧ h' (123 + 2 * s) 1 = 0 ∧ ∀ i, h' (124 + 2 * s) i = 0
def mI (h h' : jH) : Prop := ((((∀ k, h' 132 k = 0) ∧ (∀ i, i < 16 → h' 133 i = j_bri.getD i 0) ∧ low 132 h h') ∧ (∀ i, i < 13 → h' 136 i = j_cut.getD i 0) ∧ ∀ i, i < 56 → h' 137 i = j_let.getD i 0) ∧ (∀ k, h' 142 k = 0) ∧ ∀ i, i < 4 → h' 143 i = -4) ∧ (∀ k, h' 144 k = 0) ∧ ∀ k, h' 145 k = 0
theorem GD_0 : GD 0 (fun _ => 0) := by
  obtain ⟨g1, ga, gb, gc, gd, ge, gz, gs⟩ := IG_0
  exact GD_parts.mpr ⟨g1, ga, ⟨gb.1, fun c hc => absurd hc (Nat.not_lt_zero _)⟩, gc, gd, ge, (show nb 1000 (nI 0) from nb_nI (by omega) (by omega)), fun p q _ _ _ => rfl⟩
/-- both sides, as they are made -/
theorem RX_start {h1 h : jH} (hc : cI h1) (hm : mI (j_row h1 131 (fun _ => 0)) h) : RX h h := by
  obtain ⟨⟨c1, c9⟩, c38, ⟨c39a, c39b⟩, c80, c81, c0, cs⟩ := hc
  obtain ⟨⟨⟨⟨m132, m133, lw⟩, m136, m137⟩, m142, m143⟩, m144, m145⟩ := hm
  have e : ∀ b, b < 131 → h b = h1 b := fun b hb => (lw b (by omega)).trans (j_row_ne b (by omega))
  have e131 : ∀ k, h 131 k = 0 := fun k => by rw [lw 131 (by omega), j_row_at]
  have i0 : ix (0 : Int32) = 0 := rfl
  have pz : ∀ o k, pg h o k = 0 := fun o k => m132 _
  have n2 : ix (h 131 2) = 0 := by rw [e131]; rfl
  refine ⟨⟨?_, ?_, ?_, ?_⟩, fun k hk => ?_, ⟨?_, ?_, fun i hi => ?_, ?_⟩, ⟨?_, ?_, fun i hi => ?_⟩, ⟨fun k hk => ?_, ?_⟩, ⟨m133, fun i _ => ?_, m136, m137⟩⟩
  · rw [e131]; exact (show nb 5 (nI 0) from nb_nI (by omega) (by omega))
  · rw [n2]; exact XV_congr c1 (fun k _ => pz 0 k) (by omega) (by show ix (0 : Int32) < 6; rw [i0]; omega) (by show ix (0 : Int32) < 9; rw [i0]; omega) (fun b h1 h2 => e b (by omega))
  · rw [e 1 (by omega), c9, m132]
  · rw [n2]; exact GD_congr GD_0 (fun k _ => pz 0 k)
  · rw [e 38 (by omega), c38, m142]; exact ⟨rfl, Or.inl rfl⟩
  · rw [e 39 (by omega), c39a, e131]
  · rw [e131]; exact (show nb 161 (nI 0) from nb_nI (by omega) (by omega))
  · rw [e131] at hi; exact absurd hi (Nat.not_lt_zero _)
  · rw [e 39 (by omega), c39b, e131]
  · rw [e 81 (by omega), c81, e131]
  · rw [e131]; exact (show nb 7 (nI 0) from nb_nI (by omega) (by omega))
  · rw [e131] at hi; exact absurd hi (Nat.not_lt_zero _)
  · obtain ⟨s1, s2, s3⟩ := cs k hk
    refine ⟨Or.inl ⟨by rw [e _ (by omega)]; exact s1, m143 k hk⟩, by rw [e _ (by omega), s2, m144], by rw [m144]; exact (show nb 41 (nI 0) from nb_nI (by omega) (by omega)), fun i _ => by rw [e _ (by omega), s3, m145]⟩
  · rw [e 0 (by omega), c0, e131]
  · rw [e 80 (by omega)]; exact c80 i
set_option maxRecDepth 20000 in
set_option maxHeartbeats 1000000 in
theorem law_start {g : jG} {nm : String} {h : jH} (hL : sL g ≤ 384) : J g 14 (YL nm) (146, 8867) ([] ++ []) h 0 [(0, .ref 500000)] [] (j_q LQ1) := by
  have hv : ([] : List jD).length = 0 := rfl
  refine R_new (pc := 0) (σ := []) (b1 := 145) (b2 := 8857) (k := 0) (T := []) (T' := [] ++ [oX5]) dL_law_0 rfl cf5 tyX5_ok (j_bm (j_m1 15 rfl) rfl) (j_bm (j_m1 16 rfl) rfl) (j_bm (j_m1 1 rfl) rfl) fsX5 hv rfl rfl (by omega) ?_
  refine J_dup (pc := 3) dL_law_3 rfl ?_
  refine J_callI (pc := 4) (Y' := YX5_init) (b' := (130, 3544)) (b2 := (15, 5313)) (As := []) dL_law_4 lL_9 mX5_init rfl iX5_init rfl rfl (Nat.le_of_ble_eq_true rfl) ⟨by decide, by decide⟩ (c5_init (d := 9)) ?_
  rintro r σ' h1 ⟨rfl, rfl, hc⟩
  refine J_astore_n (pc := 7) dL_law_7 (Nat.le_of_ble_eq_true rfl) ?_
  refine R_new (pc := 8) (σ := []) (b1 := 14) (b2 := 5284) (k := 131) (T := cT) (T' := cT ++ [oX6]) dL_law_8 rfl cf6 tyX6_ok (j_bm (j_m4 134 rfl) rfl) (j_bm (j_m4 135 rfl) rfl) (j_bm (j_m1 7 rfl) rfl) fsX6 hv cT_len rfl (by omega) ?_
  refine J_dup (pc := 11) dL_law_11 rfl ?_
  refine J_callI (pc := 12) (Y' := YX6_init) (b' := (14, 5284)) (b2 := (0, 0)) (As := []) dL_law_12 lL_12 mX6_init rfl iX6_init rfl rfl (Nat.le_of_ble_eq_true rfl) ⟨by decide, by decide⟩ (c6_init (d := 12) (σ := cT) cT_len) ?_
  rintro r σ' h2 ⟨rfl, rfl, hm⟩
  refine J_astore_n (pc := 15) dL_law_15 (Nat.le_of_ble_eq_true rfl) ?_
  refine J_iconst (pc := 16) (v := nI 0) dL_law_16 (by decide) ?_
  refine J_istore_n (pc := 17) dL_law_17 (Nat.le_of_ble_eq_true rfl) ?_
  rw [SH_eq]
  refine J_ls (ls' := [(0, .ref 500000), (1, .ref 0), (2, .ref 131), (3, .int (nI 0))]) ⟨rfl, rfl, rfl, rfl, trivial⟩ ?_
  exact law_loop hL 65 0 h2 (RX_start (h1 := h1) hc hm) (by omega) (by omega)
theorem i32_ofNat (x : Int32) : Int32.ofNat x.toUInt32.toNat = x := by
  cases x with
  | ofUInt32 x => simp [Int32.ofNat]
def adW (n tB tF b L tZ : Nat) (aK aV : Nat → Nat) (xs : Nat → Int32) (k : Nat) : Nat := if k < 100000 then n + k else if k = 200000 then tB else if k = 200001 then tF else if k = 500000 then b else if k = 600000 then L else if k = 800000 then tZ else if k < 300012 then aK (k - 300000) else if k < 400012 then aV (k - 400000) else (xs (k - 700000)).toUInt32.toNat
def flN : List Cond := flatC (Jvm.Cond.and given_1 narrow_1)
theorem st_tb : ∀ i, i < 12 → Cond.stringRef "RainCover$Reader" ((j_stx.getD i (0, "", 0, [])).1) ((j_stx.getD i (0, "", 0, [])).2.1) ∈ lw_tbl
  | 0, _ => (j_m2 76 rfl)
  | 1, _ => (j_m2 77 rfl)
  | 2, _ => (j_m2 78 rfl)
  | 3, _ => (j_m2 79 rfl)
  | 4, _ => (j_m2 80 rfl)
  | 5, _ => (j_m2 81 rfl)
  | 6, _ => (j_m2 82 rfl)
  | 7, _ => (j_m2 83 rfl)
  | 8, _ => (j_m2 84 rfl)
  | 9, _ => (j_m2 85 rfl)
  | 10, _ => (j_m2 86 rfl)
  | 11, _ => (j_m2 87 rfl)
  | i + 12, h => absurd h (by omega)
def stm (i : Nat) : Term := .string "RainCover$Reader" ((j_stx.getD i (0, "", 0, [])).1)
theorem st_ex : ∀ i, i < 12 → Cond.exactly (stm i) "java/lang/String" ∈ flN := by decide +kernel
theorem st_co : ∀ i, i < 12 → Cond.eq (.field (stm i) "java/lang/String" "coder" "B") (.int 0) ∈ flN := by decide +kernel
theorem st_ar : ∀ i, i < 12 → Cond.arrayOf (.field (stm i) "java/lang/String" "value" "[B") .byte ∈ flN := by decide +kernel
theorem st_le : ∀ i, i < 12 → Cond.eq (.length (.field (stm i) "java/lang/String" "value" "[B")) (.int (Int32.ofNat (j_len.getD i 0))) ∈ flN := by decide +kernel
theorem st_el : ∀ i, i < 12 → ∀ j, j < j_len.getD i 0 → Cond.eq (.elem (.field (stm i) "java/lang/String" "value" "[B") (.int (Int32.ofNat j))) (.int ((j_byt.getD i []).getD j 0)) ∈ flN := by decide +kernel
theorem st_ne : ∀ i, i < 12 → ∀ j, j < 12 → i ≠ j → Cond.not (Cond.eq (stm i) (stm j)) ∈ flN ∨ Cond.not (Cond.eq (stm j) (stm i)) ∈ flN := by decide +kernel
theorem br_el : ∀ j, j < 16 → Cond.eq (.elem (.static "RainCover" "BRINGS" "[I") (.int (Int32.ofNat j))) (.int (j_bri.getD j 0)) ∈ flN := by decide +kernel
theorem fi_el : ∀ j, j < 5 → Cond.eq (.elem (.static "RainCover$Outlook" "FIRST" "[I") (.int (Int32.ofNat j))) (.int (j_fst.getD j 0)) ∈ flN := by decide +kernel
theorem fl_br : Cond.arrayOf (.static "RainCover" "BRINGS" "[I") .int ∈ flN ∧ Cond.eq (.length (.static "RainCover" "BRINGS" "[I")) (.int (Int32.ofNat 16)) ∈ flN := by decide +kernel
theorem fl_fi : Cond.arrayOf (.static "RainCover$Outlook" "FIRST" "[I") .int ∈ flN ∧ Cond.eq (.length (.static "RainCover$Outlook" "FIRST" "[I")) (.int (Int32.ofNat 5)) ∈ flN := by decide +kernel
theorem fl_cs : Cond.eq (.static "java/lang/String" "COMPACT_STRINGS" "Z") (.int 1) ∈ flN ∧ Cond.isRef (.static "jdk/internal/util/Preconditions" "SIOOBE_FORMATTER" "Ljava/util/function/BiFunction;") ∈ flN := by decide +kernel
