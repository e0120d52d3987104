def LQ1 : kQ := fun r h' => ∃ x, r = some (.int x) ∧ (fun x (_ : jH) => x = nI 1) x h'
set_option maxHeartbeats 2000000 in
theorem law_loop {g : jG} {nm : String} (hL : sL g ≤ 384) : ∀ (n i : Nat) (h : jH), RX h h → i ≤ 500 → sL g < i + 6 * n → K g 14 (YL nm) h 18 [(0, .ref 500000), (1, .ref 0), (2, .ref 131), (3, .int (nI i))] [] LQ1 := by
  intro n
  induction n with
  | zero =>
    intro i h hR hi hn
    refine J_iload_n (pc := 18) dL_law_18 rfl ?_
    refine J_aload_n (pc := 19) dL_law_19 rfl ?_
    refine J_slen (pc := 20) (rfl) dL_law_20 ?_
    refine J_bipush (pc := 21) (v := nI 6) dL_law_21 (by decide) ?_
    refine J_isub (pc := 23) dL_law_23 (rfl) ?_
    refine J_icmp_gt (pc := 24) (tgt := 1542) dL_law_24 (by decide) (fun c24 => ?_) (fun c24 => ?_)
    · skip
      refine J_iconst (pc := 1542) (v := nI 1) dL_law_1542 (by decide) ?_
      refine K_zret (pc := 1543) dL_law_1543 rfl (by decide) ?_
      exact rfl
    · skip
      have d6 : (nI (sL g) - nI 6).toInt = (sL g : Int) - 6 := by rw [pk_sub_toInt (by omega) (by omega)]; rfl
      have di : (nI i).toInt = (i : Int) := nI_n (by omega)
      rw [i_lt, d6, di] at c24
      omega
  | succ n ih =>
    intro i h hR hi hn
    refine J_iload_n (pc := 18) dL_law_18 rfl ?_
    refine J_aload_n (pc := 19) dL_law_19 rfl ?_
    refine J_slen (pc := 20) (rfl) dL_law_20 ?_
    refine J_bipush (pc := 21) (v := nI 6) dL_law_21 (by decide) ?_
    refine J_isub (pc := 23) dL_law_23 (rfl) ?_
    refine J_icmp_gt (pc := 24) (tgt := 1542) dL_law_24 (by decide) (fun c24 => ?_) (fun c24 => ?_)
    · skip
      refine J_iconst (pc := 1542) (v := nI 1) dL_law_1542 (by decide) ?_
      refine K_zret (pc := 1543) dL_law_1543 rfl (by decide) ?_
      exact rfl
    · skip
      have d6 : (nI (sL g) - nI 6).toInt = (sL g : Int) - 6 := by rw [pk_sub_toInt (by omega) (by omega)]; rfl
      have di : (nI i).toInt = (i : Int) := nI_n (by omega)
      have hi6 : i + 6 ≤ sL g := by
        rw [i_lt, d6, di] at c24
        omega
      refine J_aload_n (pc := 27) dL_law_27 rfl ?_
      refine J_iload_n (pc := 28) dL_law_28 rfl ?_
      refine J_sald (pc := 29) dL_law_29 (rfl) (by omega) hL ?_
      refine J_bipush (pc := 30) (v := nI 63) dL_law_30 (by decide) ?_
      refine J_iand (pc := 32) dL_law_32 (rfl) ?_
      have hk0 : ∀ h2, RX h2 h2 → K g 14 (YL nm) h2 1536 [(0, .ref 500000), (1, .ref 0), (2, .ref 131), (3, .int (nI i))] [] LQ1 := fun h2 R2 => by
        refine J_iinc (pc := 1536) dL_law_1536 rfl (v := nI (i + 6)) (by exact nI_add _ _) (Nat.le_of_ble_eq_true rfl) ?_
        refine J_goto (pc := 1539) (tgt := 18) dL_law_1539 (by decide) ?_
        refine J_ls (ls' := [(0, .ref 500000), (1, .ref 0), (2, .ref 131), (3, .int (nI (i + 6)))]) ⟨rfl, rfl, rfl, rfl, trivial⟩ ?_
        exact ih (i + 6) h2 R2 (by omega) (by omega)
      refine J_ls (ls' := [(0, .ref 500000), (1, .ref 0), (2, .ref 131), (3, .int (nI i))]) ⟨rfl, rfl, rfl, rfl, trivial⟩ ?_
      generalize sc g i &&& nI 63 = x
      by_cases hx : ∃ k, k < 45 ∧ x = nI k
      · obtain ⟨k, hk, rfl⟩ := hx
        match k, hk with
        | 0, _ => exact J_tableIn (pc := 33) (off := 195) (tgt := 228) dL_law_33 (by decide) (by decide) (by decide) (by decide) (law_0 hR hL hi6 hk0)
        | 1, _ => exact J_tableIn (pc := 33) (off := 218) (tgt := 251) dL_law_33 (by decide) (by decide) (by decide) (by decide) (law_1 hR hL hi6 hk0)
        | 2, _ => exact J_tableIn (pc := 33) (off := 241) (tgt := 274) dL_law_33 (by decide) (by decide) (by decide) (by decide) (law_2 hR hL hi6 hk0)
        | 3, _ => exact J_tableIn (pc := 33) (off := 254) (tgt := 287) dL_law_33 (by decide) (by decide) (by decide) (by decide) (law_3 hR hL hi6 hk0)
        | 4, _ => exact J_tableIn (pc := 33) (off := 267) (tgt := 300) dL_law_33 (by decide) (by decide) (by decide) (by decide) (law_4 hR hL hi6 hk0)
        | 5, _ => exact J_tableIn (pc := 33) (off := 290) (tgt := 323) dL_law_33 (by decide) (by decide) (by decide) (by decide) (law_5 hR hL hi6 hk0)
        | 6, _ => exact J_tableIn (pc := 33) (off := 323) (tgt := 356) dL_law_33 (by decide) (by decide) (by decide) (by decide) (law_6 hR hL hi6 hk0)
        | 7, _ => exact J_tableIn (pc := 33) (off := 356) (tgt := 389) dL_law_33 (by decide) (by decide) (by decide) (by decide) (law_7 hR hL hi6 hk0)
        | 8, _ => exact J_tableIn (pc := 33) (off := 389) (tgt := 422) dL_law_33 (by decide) (by decide) (by decide) (by decide) (law_8 hR hL hi6 hk0)
        | 9, _ => exact J_tableIn (pc := 33) (off := 412) (tgt := 445) dL_law_33 (by decide) (by decide) (by decide) (by decide) (law_9 hR hL hi6 hk0)
        | 10, _ => exact J_tableIn (pc := 33) (off := 435) (tgt := 468) dL_law_33 (by decide) (by decide) (by decide) (by decide) (law_10 hR hL hi6 hk0)
        | 11, _ => exact J_tableIn (pc := 33) (off := 468) (tgt := 501) dL_law_33 (by decide) (by decide) (by decide) (by decide) (law_11 hR hL hi6 hk0)
        | 12, _ => exact J_tableIn (pc := 33) (off := 511) (tgt := 544) dL_law_33 (by decide) (by decide) (by decide) (by decide) (law_12 hR hL hi6 hk0)
        | 13, _ => exact J_tableIn (pc := 33) (off := 554) (tgt := 587) dL_law_33 (by decide) (by decide) (by decide) (by decide) (law_13 hR hL hi6 hk0)
        | 14, _ => exact J_tableIn (pc := 33) (off := 617) (tgt := 650) dL_law_33 (by decide) (by decide) (by decide) (by decide) (law_14 hR hL hi6 hk0)
        | 15, _ => exact J_tableIn (pc := 33) (off := 640) (tgt := 673) dL_law_33 (by decide) (by decide) (by decide) (by decide) (law_15 hR hL hi6 hk0)
        | 16, _ => exact J_tableIn (pc := 33) (off := 673) (tgt := 706) dL_law_33 (by decide) (by decide) (by decide) (by decide) (law_16 hR hL hi6 hk0)
        | 17, _ => exact J_tableIn (pc := 33) (off := 696) (tgt := 729) dL_law_33 (by decide) (by decide) (by decide) (by decide) (law_17 hR hL hi6 hk0)
        | 18, _ => exact J_tableIn (pc := 33) (off := 719) (tgt := 752) dL_law_33 (by decide) (by decide) (by decide) (by decide) (law_18 hR hL hi6 hk0)
        | 19, _ => exact J_tableIn (pc := 33) (off := 742) (tgt := 775) dL_law_33 (by decide) (by decide) (by decide) (by decide) (law_19 hR hL hi6 hk0)
        | 20, _ => exact J_tableIn (pc := 33) (off := 765) (tgt := 798) dL_law_33 (by decide) (by decide) (by decide) (by decide) (law_20 hR hL hi6 hk0)
        | 21, _ => exact J_tableIn (pc := 33) (off := 788) (tgt := 821) dL_law_33 (by decide) (by decide) (by decide) (by decide) (law_21 hR hL hi6 hk0)
        | 22, _ => exact J_tableIn (pc := 33) (off := 811) (tgt := 844) dL_law_33 (by decide) (by decide) (by decide) (by decide) (law_22 hR hL hi6 hk0)
        | 23, _ => exact J_tableIn (pc := 33) (off := 854) (tgt := 887) dL_law_33 (by decide) (by decide) (by decide) (by decide) (law_23 hR hL hi6 hk0)
        | 24, _ => exact J_tableIn (pc := 33) (off := 877) (tgt := 910) dL_law_33 (by decide) (by decide) (by decide) (by decide) (law_24 hR hL hi6 hk0)
        | 25, _ => exact J_tableIn (pc := 33) (off := 900) (tgt := 933) dL_law_33 (by decide) (by decide) (by decide) (by decide) (law_25 hR hL hi6 hk0)
        | 26, _ => exact J_tableIn (pc := 33) (off := 933) (tgt := 966) dL_law_33 (by decide) (by decide) (by decide) (by decide) (law_26 hR hL hi6 hk0)
        | 27, _ => exact J_tableIn (pc := 33) (off := 956) (tgt := 989) dL_law_33 (by decide) (by decide) (by decide) (by decide) (law_27 hR hL hi6 hk0)
        | 28, _ => exact J_tableIn (pc := 33) (off := 979) (tgt := 1012) dL_law_33 (by decide) (by decide) (by decide) (by decide) (law_28 hR hL hi6 hk0)
        | 29, _ => exact J_tableIn (pc := 33) (off := 1023) (tgt := 1056) dL_law_33 (by decide) (by decide) (by decide) (by decide) (law_29 hR hL hi6 hk0)
        | 30, _ => exact J_tableIn (pc := 33) (off := 1067) (tgt := 1100) dL_law_33 (by decide) (by decide) (by decide) (by decide) (law_30 hR hL hi6 hk0)
        | 31, _ => exact J_tableIn (pc := 33) (off := 1101) (tgt := 1134) dL_law_33 (by decide) (by decide) (by decide) (by decide) (law_31 hR hL hi6 hk0)
        | 32, _ => exact J_tableIn (pc := 33) (off := 1114) (tgt := 1147) dL_law_33 (by decide) (by decide) (by decide) (by decide) (law_32 hR hL hi6 hk0)
        | 33, _ => exact J_tableIn (pc := 33) (off := 1127) (tgt := 1160) dL_law_33 (by decide) (by decide) (by decide) (by decide) (law_33 hR hL hi6 hk0)
        | 34, _ => exact J_tableIn (pc := 33) (off := 1170) (tgt := 1203) dL_law_33 (by decide) (by decide) (by decide) (by decide) (law_34 hR hL hi6 hk0)
        | 35, _ => exact J_tableIn (pc := 33) (off := 1193) (tgt := 1226) dL_law_33 (by decide) (by decide) (by decide) (by decide) (law_35 hR hL hi6 hk0)
        | 36, _ => exact J_tableIn (pc := 33) (off := 1216) (tgt := 1249) dL_law_33 (by decide) (by decide) (by decide) (by decide) (law_36 hR hL hi6 hk0)
        | 37, _ => exact J_tableIn (pc := 33) (off := 1239) (tgt := 1272) dL_law_33 (by decide) (by decide) (by decide) (by decide) (law_37 hR hL hi6 hk0)
        | 38, _ => exact J_tableIn (pc := 33) (off := 1282) (tgt := 1315) dL_law_33 (by decide) (by decide) (by decide) (by decide) (law_38 hR hL hi6 hk0)
        | 39, _ => exact J_tableIn (pc := 33) (off := 1305) (tgt := 1338) dL_law_33 (by decide) (by decide) (by decide) (by decide) (law_39 hR hL hi6 hk0)
        | 40, _ => exact J_tableIn (pc := 33) (off := 1328) (tgt := 1361) dL_law_33 (by decide) (by decide) (by decide) (by decide) (law_40 hR hL hi6 hk0)
        | 41, _ => exact J_tableIn (pc := 33) (off := 1371) (tgt := 1404) dL_law_33 (by decide) (by decide) (by decide) (by decide) (law_41 hR hL hi6 hk0)
        | 42, _ => exact J_tableIn (pc := 33) (off := 1414) (tgt := 1447) dL_law_33 (by decide) (by decide) (by decide) (by decide) (law_42 hR hL hi6 hk0)
        | 43, _ => exact J_tableIn (pc := 33) (off := 1467) (tgt := 1500) dL_law_33 (by decide) (by decide) (by decide) (by decide) (law_43 hR hL hi6 hk0)
        | 44, _ => exact J_tableIn (pc := 33) (off := 1480) (tgt := 1513) dL_law_33 (by decide) (by decide) (by decide) (by decide) (law_44 hR hL hi6 hk0)
        | k + 45, hk => exact absurd hk (by omega)
      · exact J_tableOut (pc := 33) (tgt := 1536) dL_law_33 (tsw_out (N := 45) (by omega) (fun k hk z => hx ⟨k, hk, z⟩)) (by decide) (hk0 h hR)
