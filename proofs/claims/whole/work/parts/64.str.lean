/-! STRINGS: word i at place 300000 + i, its bytes at 400000 + i -/
theorem j_st12 : ∀ i, i < 12 → j_len.getD i 0 = (j_byt.getD i []).length ∧ j_len.getD i 0 < 8 ∧ ∀ k, k < j_len.getD i 0 → ((((j_byt.getD i []).getD k 0) &&& 255).toUInt32 % 65536).toInt32 = (j_byt.getD i []).getD k 0 ∧ narrow .char (.int ((j_byt.getD i []).getD k 0)) = .int ((j_byt.getD i []).getD k 0) := by decide +kernel
section JS
variable {g : jG} {d : Nat} {Y Y' : jY} {b : Nat × Nat} {σ : List jD} {h : jH} {pc : Nat} {ls : List (Nat × Value)} {st : List Value} {Q : jQ}
theorem J_i2c {x v : Int32} (hd : decode Y.2.2.1 pc = .ok (.i2c, 1)) (hv : (x.toUInt32 % 65536).toInt32 = v) (k : J g d Y b σ h (pc + 1) ls (.int v :: st) Q) : J g d Y b σ h pc ls (.int x :: st) Q := by
  intro p e R s m args below meth c Qw C H locs cells slots lsA hc hs hP hS hl
  exact lv_i2c C.1 C.2.1 hd hv (k p e R s m args below meth c Qw C H locs cells slots lsA hc hs hP hS hl)
theorem J_ldS {i : Nat} {w : Nat × String × Nat × List Int32} (hi : i < 12) (hw : j_stx.getD i (0, "", 0, []) = w) (hd : decode Y.2.2.1 pc = .ok (.ldc w.1, 2)) (hy : Y.1 = "RainCover$Reader") (k : J g d Y b σ h (pc + 2) ls (.ref (300000 + i) :: st) Q) : J g d Y b σ h pc ls st Q := by
  intro p e R s m args below meth c Qw C H locs cells slots lsA hc hs hP hS hl
  obtain ⟨hx, hbb, hml, hown, hts, hE, -⟩ := id C
  have hR := hE.2.2.2.2.2.2.2.1 i hi
  rw [hw] at hR
  exact va_ldcS hx hbb (by rw [← hy]; exact hown) hR hd (k p e R s m args below meth c Qw C H locs cells slots lsA hc hs hP hS hl)
theorem J_getSv {i idx : Nat} (hi : i < 12) (hd : decode Y.2.2.1 pc = .ok (.getfield idx, 3)) (hL : Cond.fieldLink Y.1 idx "java/lang/String" "value" "[B" ∈ jB) (kk : J g d Y b σ h (pc + 3) ls (.ref (400000 + i) :: st) Q) : J g d Y b σ h pc ls (.ref (300000 + i) :: st) Q := by
  intro p e R s m args below meth c Qw C H locs cells slots lsA hc hs hP hS hl
  obtain ⟨hx, hbb, hml, hown, hts, hE, -⟩ := id C
  exact vk_getf hx hbb (hE.2.2.2.2.2.2.2.2.1.1 i hi).2.2.1 hS hown (hts _ hL) (fun _ h => h) hd (kk p e R s m args below meth c Qw C H locs cells slots lsA hc hs hP hS hl)
theorem J_getSc {i idx : Nat} (hi : i < 12) (hd : decode Y.2.2.1 pc = .ok (.getfield idx, 3)) (hL : Cond.fieldLink Y.1 idx "java/lang/String" "coder" "B" ∈ jB) (kk : J g d Y b σ h (pc + 3) ls (.int 0 :: st) Q) : J g d Y b σ h pc ls (.ref (300000 + i) :: st) Q := by
  intro p e R s m args below meth c Qw C H locs cells slots lsA hc hs hP hS hl
  obtain ⟨hx, hbb, hml, hown, hts, hE, -⟩ := id C
  exact vk_getf hx hbb (hE.2.2.2.2.2.2.2.2.1.1 i hi).2.1 hS hown (hts _ hL) (fun _ h => h) hd (kk p e R s m args below meth c Qw C H locs cells slots lsA hc hs hP hS hl)
theorem J_gsC {idx : Nat} (hd : decode Y.2.2.1 pc = .ok (.getstatic idx, 3)) (hL : Cond.fieldLink Y.1 idx "java/lang/String" "COMPACT_STRINGS" "Z" ∈ jB) (kk : J g d Y b σ h (pc + 3) ls (.int 1 :: st) Q) : J g d Y b σ h pc ls st Q := by
  intro p e R s m args below meth c Qw C H locs cells slots lsA hc hs hP hS hl
  obtain ⟨hx, hbb, hml, hown, hts, hE, -⟩ := id C
  exact va_gets hx hbb hE.2.2.2.2.2.2.2.2.2.1 hS hown (hts _ hL) (fun _ h => h) hd (kk p e R s m args below meth c Qw C H locs cells slots lsA hc hs hP hS hl)
theorem J_gsZ {idx : Nat} (hd : decode Y.2.2.1 pc = .ok (.getstatic idx, 3)) (hL : Cond.fieldLink Y.1 idx "jdk/internal/util/Preconditions" "SIOOBE_FORMATTER" "Ljava/util/function/BiFunction;" ∈ jB) (kk : ∀ v : Value, v = .null ∨ v = .ref 800000 → J g d Y b σ h (pc + 3) ls (v :: st) Q) : J g d Y b σ h pc ls st Q := by
  intro p e R s m args below meth c Qw C H locs cells slots lsA hc hs hP hS hl
  obtain ⟨hx, hbb, hml, hown, hts, hE, -⟩ := id C
  rcases hE.2.2.2.2.2.2.2.2.2.2.2.2.2.2 with z | z
  · exact va_gets hx hbb z hS hown (hts _ hL) (fun _ h => h) hd (kk _ (Or.inl rfl) p e R s m args below meth c Qw C H locs cells slots lsA hc hs hP hS hl)
  · exact va_gets hx hbb z hS hown (hts _ hL) (fun _ h => h) hd (kk _ (Or.inr rfl) p e R s m args below meth c Qw C H locs cells slots lsA hc hs hP hS hl)
theorem J_alenS {i : Nat} {v : Int32} (hi : i < 12) (hv : nI (j_len.getD i 0) = v) (hd : decode Y.2.2.1 pc = .ok (.arraylength, 1)) (kk : J g d Y b σ h (pc + 1) ls (.int v :: st) Q) : J g d Y b σ h pc ls (.ref (400000 + i) :: st) Q := by
  intro p e R s m args below meth c Qw C H locs cells slots lsA hc hs hP hS hl
  obtain ⟨hx, hbb, hml, hown, hts, hE, -⟩ := id C
  exact va_tlen hx hbb (hE.2.2.2.2.2.2.2.2.1.1 i hi).2.2.2 hS hv hd (kk p e R s m args below meth c Qw C H locs cells slots lsA hc hs hP hS hl)
theorem J_baldS {i k : Nat} {v : Int32} (hi : i < 12) (hk : k < j_len.getD i 0) (hk2 : k < 100) (hv : (j_byt.getD i []).getD k 0 = v) (hd : decode Y.2.2.1 pc = .ok (.baload, 1)) (kk : J g d Y b σ h (pc + 1) ls (.int v :: st) Q) : J g d Y b σ h pc ls (.int (nI k) :: .ref (400000 + i) :: st) Q := by
  intro p e R s m args below meth c Qw C H locs cells slots lsA hc hs hP hS hl
  obtain ⟨hx, hbb, hml, hown, hts, hE, -⟩ := id C
  subst hv
  exact va_tb hx hbb (hE.2.2.2.2.2.2.2.2.1.1 i hi).2.2.2 hS (j_in hk (by have := (j_st12 i hi).2.1; omega)) (v := .int ((j_byt.getD i []).getD k 0)) (by rw [nI_clamp (by omega)]) hd (kk p e R s m args below meth c Qw C H locs cells slots lsA hc hs hP hS hl)
/-- a call on a String constant -/
theorem J_callT {n i idx : Nat} {b' b2 : Nat × Nat} {st0 : List Value} {P : jQ} {As : List Value} (hi : i < 12) (hd : decode Y.2.2.1 pc = .ok (.invokevirtual idx, 3)) (hL : Cond.methodLink Y.1 idx Y'.2.1 ∈ jB) (hM : j_My Y' n) (hI : Cond.instanceMethod Y'.2.1 ∈ jB ∧ Cond.selects Y'.1 Y'.2.1 Y'.2.1 ∈ jB) (hcl : Y'.1 = "java/lang/String") (hn : As.length = n) (hst : st0 = As.reverse ++ .ref (300000 + i) :: st) (hw : (st.map fun v => v.category).sum ≤ 8) (hb : b'.1 + b2.1 ≤ b.1 ∧ b'.2 + b2.2 ≤ b.2)
    (hc : M g d Y' b' σ h (.ref (300000 + i) :: As) P) (kk : ∀ (r : Option Value) (σ' : List jD) (h' : jH), P r σ' h' → J g (d + 1) Y b2 σ' h' (pc + 3) ls (r.toList ++ st) Q) : J g (d + 1) Y b σ h pc ls st0 Q := by
  intro p e R s m args below meth c Qw C H locs cells slots lsA hcl' hsl hP hS hl
  obtain ⟨hx, hbb, hml, hown, hts, hE, hba, hfr, hlo, hnm, hret⟩ := id C
  obtain ⟨m1, m2, m3, m4, m5, m6, m7⟩ := hM
  have hpre : PreV s H Y'.1 (g.2.2.2.1 (300000 + i)) (j_Pc g σ h (.ref (300000 + i) :: As)) (As.map (j_v g.2.2.2.1)) := ⟨j_blind _ _ _ _, by rw [hcl]; exact vk_recv (i := i) (adK := fun i => g.2.2.2.1 (300000 + i)) (adV := fun i => g.2.2.2.1 (400000 + i)) hE.2.2.2.2.2.2.2.2.1 hi hS, fun U hU hW => ⟨rfl, by rw [hU]; exact Nat.le_trans hba hS.1, by rw [hU]; exact hP, hE.moved (by rw [hU]; exact hS) hW⟩⟩
  have hfit : cells + b'.1 ≤ R.cells ∧ slots + b'.2 ≤ R.slots := ⟨by omega, by omega⟩
  have hroom : (j_rm d b').frames + 1 ≤ R.frames ∧ 8 + (Y'.2.2.2.1 + 11) + (j_rm d b').locals ≤ R.locals := ⟨hfr, by show 8 + (Y'.2.2.2.1 + 11) + 37 * d ≤ _; omega⟩
  have hstk : (F0 m pc lsA (st0.map (j_v g.2.2.2.1))).stack = (As.map (j_v g.2.2.2.1)).reverse ++ .ref (g.2.2.2.1 (300000 + i)) :: st.map (j_v g.2.2.2.1) := by
    show st0.map (j_v g.2.2.2.1) = _
    rw [hst, List.map_append, List.map_reverse]
    rfl
  have go : ∀ (r : Option Value) (σ' : List jD) (h' : jH) (H1 : Heap) (locs1 : List Loc), P r σ' h' → j_P g σ' h' H1 → va_S (j_A g) s.heap H1 locs1 → W p g.1 e R s m args below meth c H1 locs1 (cells + b'.1) (slots + b'.2) Qw (F0 m (pc + 3) lsA ((r.map (j_v g.2.2.2.1)).toList ++ st.map (j_v g.2.2.2.1))) := fun r σ' h' H1 locs1 hp hP1 hS1 => by
    rw [j_tl]
    exact kk r σ' h' hp p e R s m args below meth c Qw C H1 locs1 _ _ lsA (by omega) (by omega) hP1 hS1 hl
  have hini : (Cond.initialized Y'.2.1.cls).before args s = true := by rw [m1]; exact hts _ m3
  have hdd : Y'.2.1.cls ≠ "java/lang/invoke/MethodHandle" ∧ Y'.2.1.cls ≠ "java/lang/invoke/VarHandle" ∧ (parseMethodDescriptor Y'.2.1.desc).map (fun d => d.parameters.length) = some n := ⟨by rw [m1]; exact m4, by rw [m1]; exact m5, m6⟩
  exact j_run (va_runV (Ts := jB) (As := As.map (j_v g.2.2.2.1)) (rest := st.map (j_v g.2.2.2.1)) ⟨hx, hbb, hml, hown, hts⟩ hc ⟨callB_of n hts (j_good m2) rfl rfl rfl hini (hts _ hL) hdd hroom, hts _ hI.1, hts _ hI.2⟩ hpre rfl (by rw [List.length_map]; exact hn) hl.1 hstk (lv_room (j_cat hw)) hd hfit) hS go
theorem j_LL {own : String} {idx : Nat} {y : MethodName} (h : j_L own idx y false) : Cond.methodLink own idx y ∈ jB := by
  rcases h with ⟨-, h⟩ | ⟨h, -⟩
  · exact h
  · cases h
end JS
section KS
variable {g : jG} {d : Nat} {Y Y' : jY} {h : jH} {pc : Nat} {ls : List (Nat × Value)} {st : List Value} {Q : kQ}
theorem K_Ti0 {i idx : Nat} {P : Int32 → jH → Prop} (hi : i < 12) (hd : decode Y.2.2.1 pc = .ok (.invokevirtual idx, 3)) (hL : j_L Y.1 idx Y'.2.1 false) (hM : j_My Y' 0) (hI : Cond.instanceMethod Y'.2.1 ∈ jB ∧ Cond.selects Y'.1 Y'.2.1 Y'.2.1 ∈ jB) (hcl : Y'.1 = "java/lang/String") (hw : (st.map fun v => v.category).sum ≤ 8) (hc : Mi g d Y' h [.ref (300000 + i)] P) (kk : ∀ (x : Int32) (h' : jH), P x h' → K g (d + 1) Y h' (pc + 3) ls (.int x :: st) Q) : K g (d + 1) Y h pc ls (.ref (300000 + i) :: st) Q :=
  J_callT (b' := (0, 0)) (b2 := (0, 0)) (As := []) hi hd (j_LL hL) hM hI hcl rfl rfl hw ⟨Nat.le_refl _, Nat.le_refl _⟩ hc (fun r σ' h' z => by
    obtain ⟨rfl, x, rfl, z⟩ := z
    exact kk x h' z)
theorem K_Ti1 {i idx : Nat} {v1 : Value} {P : Int32 → jH → Prop} (hi : i < 12) (hd : decode Y.2.2.1 pc = .ok (.invokevirtual idx, 3)) (hL : j_L Y.1 idx Y'.2.1 false) (hM : j_My Y' 1) (hI : Cond.instanceMethod Y'.2.1 ∈ jB ∧ Cond.selects Y'.1 Y'.2.1 Y'.2.1 ∈ jB) (hcl : Y'.1 = "java/lang/String") (hw : (st.map fun v => v.category).sum ≤ 8) (hc : Mi g d Y' h [.ref (300000 + i), v1] P) (kk : ∀ (x : Int32) (h' : jH), P x h' → K g (d + 1) Y h' (pc + 3) ls (.int x :: st) Q) : K g (d + 1) Y h pc ls (v1 :: .ref (300000 + i) :: st) Q :=
  J_callT (b' := (0, 0)) (b2 := (0, 0)) (As := [v1]) hi hd (j_LL hL) hM hI hcl rfl rfl hw ⟨Nat.le_refl _, Nat.le_refl _⟩ hc (fun r σ' h' z => by
    obtain ⟨rfl, x, rfl, z⟩ := z
    exact kk x h' z)
end KS
theorem kJ0_9 : Cond.fieldLink RJ0 9 "java/lang/String" "value" "[B" ∈ jB := (j_bm (j_m6 115 rfl) rfl)
theorem kJ0_15 : Cond.fieldLink RJ0 15 "java/lang/String" "coder" "B" ∈ jB := (j_bm (j_m6 116 rfl) rfl)
theorem kJ0_38 : Cond.fieldLink RJ0 38 "java/lang/String" "COMPACT_STRINGS" "Z" ∈ jB := (j_bm (j_m2 100 rfl) rfl)
theorem kJ0_1053 : Cond.fieldLink RJ0 1053 "jdk/internal/util/Preconditions" "SIOOBE_FORMATTER" "Ljava/util/function/BiFunction;" ∈ jB := (j_bm (j_m2 116 rfl) rfl)
theorem K_tret {g : jG} {d : Nat} {Y : jY} {h : jH} {pc : Nat} {ls : List (Nat × Value)} {x : Int32} {ty : FieldType} {P : Int32 → jH → Prop} (hd : decode Y.2.2.1 pc = .ok (.ireturn, 1)) (hr : Y.2.2.2.2 = some ty) (hx : narrow ty (.int x) = .int x) (hq : P x h) : K g d Y h pc ls [.int x] (fun r h' => ∃ x, r = some (.int x) ∧ P x h') := J_tret hd hr hx ⟨rfl, x, rfl, hq⟩
theorem cs_coder {g : jG} {d : Nat} {h : jH} {i : Nat} (hi : i < 12) : Mi g d YJ0_coder_7d493 h [.ref (300000 + i)] (fun r h' => h' = h ∧ r = 0) := by
  refine M.of (by decide) rfl (Nat.le_of_ble_eq_true rfl) ?_
  refine J_gsC (pc := 0) dJ0_coder_7d493_0 kJ0_38 ?_
  refine J_if_eq (pc := 3) (tgt := 13) dJ0_coder_7d493_3 (by decide) (fun c => absurd c (by decide)) (fun _ => ?_)
  refine J_aload_n (pc := 6) dJ0_coder_7d493_6 rfl ?_
  refine J_getSc (pc := 7) hi dJ0_coder_7d493_7 kJ0_15 ?_
  refine J_goto (pc := 10) (tgt := 14) dJ0_coder_7d493_10 (by decide) ?_
  exact K_tret (pc := 14) dJ0_coder_7d493_14 rfl (by decide) ⟨rfl, rfl⟩
theorem cs_latin {g : jG} {d : Nat} {h : jH} {i : Nat} (hi : i < 12) : Mi g d YJ0_isLatin1_aae02 h [.ref (300000 + i)] (fun r h' => h' = h ∧ r = nI 1) := by
  refine M.of (by decide) rfl (Nat.le_of_ble_eq_true rfl) ?_
  refine J_gsC (pc := 0) dJ0_isLatin1_aae02_0 kJ0_38 ?_
  refine J_if_eq (pc := 3) (tgt := 17) dJ0_isLatin1_aae02_3 (by decide) (fun c => absurd c (by decide)) (fun _ => ?_)
  refine J_aload_n (pc := 6) dJ0_isLatin1_aae02_6 rfl ?_
  refine J_getSc (pc := 7) hi dJ0_isLatin1_aae02_7 kJ0_15 ?_
  refine J_if_ne (pc := 10) (tgt := 17) dJ0_isLatin1_aae02_10 (by decide) (fun c => absurd c (by decide)) (fun _ => ?_)
  refine J_iconst (pc := 13) (v := nI 1) dJ0_isLatin1_aae02_13 (by decide) ?_
  refine J_goto (pc := 14) (tgt := 18) dJ0_isLatin1_aae02_14 (by decide) ?_
  exact K_zret (pc := 18) dJ0_isLatin1_aae02_18 rfl (by decide) ⟨rfl, rfl⟩
theorem cs_length {g : jG} {d : Nat} {h : jH} {i : Nat} (hi : i < 12) : Mi g (d + 1) YJ0_length_8abf5 h [.ref (300000 + i)] (fun r h' => h' = h ∧ r = nI (j_len.getD i 0)) := by
  refine M.of (by decide) rfl (Nat.le_of_ble_eq_true rfl) ?_
  refine J_aload_n (pc := 0) dJ0_length_8abf5_0 rfl ?_
  refine J_getSv (pc := 1) hi dJ0_length_8abf5_1 kJ0_9 ?_
  refine J_alenS (pc := 4) hi rfl dJ0_length_8abf5_4 ?_
  refine J_aload_n (pc := 5) dJ0_length_8abf5_5 rfl ?_
  refine K_Ti0 (pc := 6) (Y' := YJ0_coder_7d493) hi dJ0_length_8abf5_6 lJ0_335 mJ0_coder_7d493 vJ0_coder_7d493 rfl (Nat.le_of_ble_eq_true rfl) (cs_coder hi) ?_
  rintro x h0 ⟨rfl, rfl⟩
  refine J_ishr (pc := 9) (v := nI (j_len.getD i 0)) dJ0_length_8abf5_9 ?_ ?_
  · have : ∀ i, i < 12 → nI (j_len.getD i 0) >>> ((0 : Int32) &&& 31) = nI (j_len.getD i 0) := by decide +kernel
    exact this i hi
  exact K_iret (pc := 10) dJ0_length_8abf5_10 rfl ⟨rfl, rfl⟩
theorem cs_check3 {g : jG} {d : Nat} {h : jH} {i n : Nat} {v : Value} (hv : v = .null ∨ v = .ref 800000) (hi : i < n) (hn : n < 100) : Mi g d YJ3_checkIndex_8e157 h [.int (nI i), .int (nI n), v] (fun r h' => h' = h) := by
  rcases hv with rfl | rfl <;>
  · refine M.of (by decide) rfl (Nat.le_of_ble_eq_true rfl) ?_
    refine J_iload_n (pc := 0) dJ3_checkIndex_8e157_0 rfl ?_
    refine J_if_lt (pc := 1) (tgt := 9) dJ3_checkIndex_8e157_1 (by decide) (fun c => absurd c (nI_pos (by omega))) (fun _ => ?_)
    refine J_iload_n (pc := 4) dJ3_checkIndex_8e157_4 rfl ?_
    refine J_iload_n (pc := 5) dJ3_checkIndex_8e157_5 rfl ?_
    refine J_icmp_lt (pc := 6) (tgt := 16) dJ3_checkIndex_8e157_6 (by decide) (fun _ => ?_) (fun c => absurd (nI_lt hi (by omega)) c)
    refine J_iload_n (pc := 16) dJ3_checkIndex_8e157_16 rfl ?_
    exact K_iret (pc := 17) dJ3_checkIndex_8e157_17 rfl rfl
theorem cs_check0 {g : jG} {d : Nat} {h : jH} {i n : Nat} (hi : i < n) (hn : n < 100) : Mv g (d + 1) YJ0_checkIndex_df160 h [.int (nI i), .int (nI n)] (fun h' => h' = h) := by
  refine M.of (by decide) rfl (Nat.le_of_ble_eq_true rfl) ?_
  refine J_iload_n (pc := 0) dJ0_checkIndex_df160_0 rfl ?_
  refine J_iload_n (pc := 1) dJ0_checkIndex_df160_1 rfl ?_
  refine J_gsZ (pc := 2) dJ0_checkIndex_df160_2 kJ0_1053 (fun v hv => ?_)
  refine K_Si3 (pc := 5) (Y' := YJ3_checkIndex_8e157) dJ0_checkIndex_df160_5 lJ0_1059 mJ3_checkIndex_8e157 sJ3_checkIndex_8e157 (Nat.le_of_ble_eq_true rfl) (cs_check3 hv hi hn) ?_
  rintro x h0 rfl
  refine J_pop (pc := 8) dJ0_checkIndex_df160_8 rfl ?_
  exact K_ret (pc := 9) dJ0_checkIndex_df160_9 rfl rfl
theorem cs_char1 {g : jG} {d : Nat} {h : jH} {i k : Nat} (hi : i < 12) (hk : k < j_len.getD i 0) : Mi g (d + 2) YJ1_charAt_3b067 h [.ref (400000 + i), .int (nI k)] (fun r h' => h' = h ∧ r = (j_byt.getD i []).getD k 0) := by
  obtain ⟨s1, s2, s3⟩ := j_st12 i hi
  refine M.of (by decide) rfl (Nat.le_of_ble_eq_true rfl) ?_
  refine J_iload_n (pc := 0) dJ1_charAt_3b067_0 rfl ?_
  refine J_aload_n (pc := 1) dJ1_charAt_3b067_1 rfl ?_
  refine J_alenS (pc := 2) hi rfl dJ1_charAt_3b067_2 ?_
  refine K_Sv2 (pc := 3) (Y' := YJ0_checkIndex_df160) dJ1_charAt_3b067_3 lJ1_9 mJ0_checkIndex_df160 sJ0_checkIndex_df160 (Nat.le_of_ble_eq_true rfl) (cs_check0 hk (by omega)) ?_
  rintro h0 rfl
  refine J_aload_n (pc := 6) dJ1_charAt_3b067_6 rfl ?_
  refine J_iload_n (pc := 7) dJ1_charAt_3b067_7 rfl ?_
  refine J_baldS (pc := 8) hi hk (by omega) rfl dJ1_charAt_3b067_8 ?_
  refine J_sipush (pc := 9) (v := 255) dJ1_charAt_3b067_9 (by decide) ?_
  refine J_iand (pc := 12) dJ1_charAt_3b067_12 rfl ?_
  refine J_i2c (pc := 13) dJ1_charAt_3b067_13 (s3 k hk).1 ?_
  exact K_tret (pc := 14) dJ1_charAt_3b067_14 rfl (s3 k hk).2 ⟨rfl, rfl⟩
theorem cs_charAt {g : jG} {d : Nat} {h : jH} {i k : Nat} (hi : i < 12) (hk : k < j_len.getD i 0) : Mi g (d + 3) YJ0_charAt_5068e h [.ref (300000 + i), .int (nI k)] (fun r h' => h' = h ∧ r = (j_byt.getD i []).getD k 0) := by
  obtain ⟨s1, s2, s3⟩ := j_st12 i hi
  refine M.of (by decide) rfl (Nat.le_of_ble_eq_true rfl) ?_
  refine J_aload_n (pc := 0) dJ0_charAt_5068e_0 rfl ?_
  refine K_Ti0 (pc := 1) (Y' := YJ0_isLatin1_aae02) hi dJ0_charAt_5068e_1 lJ0_492 mJ0_isLatin1_aae02 vJ0_isLatin1_aae02 rfl (Nat.le_of_ble_eq_true rfl) (cs_latin hi) ?_
  rintro x h0 ⟨rfl, rfl⟩
  refine J_if_eq (pc := 4) (tgt := 16) dJ0_charAt_5068e_4 (by decide) (fun c => absurd c (by decide)) (fun _ => ?_)
  refine J_aload_n (pc := 7) dJ0_charAt_5068e_7 rfl ?_
  refine J_getSv (pc := 8) hi dJ0_charAt_5068e_8 kJ0_9 ?_
  refine J_iload_n (pc := 11) dJ0_charAt_5068e_11 rfl ?_
  refine K_Si2 (pc := 12) (Y' := YJ1_charAt_3b067) dJ0_charAt_5068e_12 lJ0_495 mJ1_charAt_3b067 sJ1_charAt_3b067 (Nat.le_of_ble_eq_true rfl) (cs_char1 hi hk) ?_
  rintro x h0 ⟨rfl, rfl⟩
  exact K_tret (pc := 15) dJ0_charAt_5068e_15 rfl (s3 k hk).2 ⟨rfl, rfl⟩
