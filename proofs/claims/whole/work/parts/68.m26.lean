theorem c1_wordOf {g : jG} {d : Nat} {h : jH} {w : Nat} (hw : w < 12) : Mr g d YX1_wordOf h [.int (nI w)] (fun r h' => h' = h ∧ r = 300000 + w) := by
  match w, hw with
  | 0, _ =>
    refine M.of (by decide) rfl (Nat.le_of_ble_eq_true rfl) ?_
    refine J_iload_n (pc := 0) dX1_wordOf_0 rfl ?_
    refine J_tableIn (pc := 1) (off := 59) (tgt := 60) dX1_wordOf_1 (by decide) (by decide) (by decide) (by decide) ?_
    refine J_ldS (i := 0) (pc := 60) (by omega) rfl dX1_wordOf_60 rfl ?_
    exact K_aret (pc := 62) dX1_wordOf_62 rfl ⟨rfl, rfl⟩
  | 1, _ =>
    refine M.of (by decide) rfl (Nat.le_of_ble_eq_true rfl) ?_
    refine J_iload_n (pc := 0) dX1_wordOf_0 rfl ?_
    refine J_tableIn (pc := 1) (off := 62) (tgt := 63) dX1_wordOf_1 (by decide) (by decide) (by decide) (by decide) ?_
    refine J_ldS (i := 1) (pc := 63) (by omega) rfl dX1_wordOf_63 rfl ?_
    exact K_aret (pc := 65) dX1_wordOf_65 rfl ⟨rfl, rfl⟩
  | 2, _ =>
    refine M.of (by decide) rfl (Nat.le_of_ble_eq_true rfl) ?_
    refine J_iload_n (pc := 0) dX1_wordOf_0 rfl ?_
    refine J_tableIn (pc := 1) (off := 65) (tgt := 66) dX1_wordOf_1 (by decide) (by decide) (by decide) (by decide) ?_
    refine J_ldS (i := 2) (pc := 66) (by omega) rfl dX1_wordOf_66 rfl ?_
    exact K_aret (pc := 68) dX1_wordOf_68 rfl ⟨rfl, rfl⟩
  | 3, _ =>
    refine M.of (by decide) rfl (Nat.le_of_ble_eq_true rfl) ?_
    refine J_iload_n (pc := 0) dX1_wordOf_0 rfl ?_
    refine J_tableIn (pc := 1) (off := 68) (tgt := 69) dX1_wordOf_1 (by decide) (by decide) (by decide) (by decide) ?_
    refine J_ldS (i := 3) (pc := 69) (by omega) rfl dX1_wordOf_69 rfl ?_
    exact K_aret (pc := 71) dX1_wordOf_71 rfl ⟨rfl, rfl⟩
  | 4, _ =>
    refine M.of (by decide) rfl (Nat.le_of_ble_eq_true rfl) ?_
    refine J_iload_n (pc := 0) dX1_wordOf_0 rfl ?_
    refine J_tableIn (pc := 1) (off := 71) (tgt := 72) dX1_wordOf_1 (by decide) (by decide) (by decide) (by decide) ?_
    refine J_ldS (i := 4) (pc := 72) (by omega) rfl dX1_wordOf_72 rfl ?_
    exact K_aret (pc := 74) dX1_wordOf_74 rfl ⟨rfl, rfl⟩
  | 5, _ =>
    refine M.of (by decide) rfl (Nat.le_of_ble_eq_true rfl) ?_
    refine J_iload_n (pc := 0) dX1_wordOf_0 rfl ?_
    refine J_tableIn (pc := 1) (off := 74) (tgt := 75) dX1_wordOf_1 (by decide) (by decide) (by decide) (by decide) ?_
    refine J_ldS (i := 5) (pc := 75) (by omega) rfl dX1_wordOf_75 rfl ?_
    exact K_aret (pc := 77) dX1_wordOf_77 rfl ⟨rfl, rfl⟩
  | 6, _ =>
    refine M.of (by decide) rfl (Nat.le_of_ble_eq_true rfl) ?_
    refine J_iload_n (pc := 0) dX1_wordOf_0 rfl ?_
    refine J_tableIn (pc := 1) (off := 77) (tgt := 78) dX1_wordOf_1 (by decide) (by decide) (by decide) (by decide) ?_
    refine J_ldS (i := 6) (pc := 78) (by omega) rfl dX1_wordOf_78 rfl ?_
    exact K_aret (pc := 80) dX1_wordOf_80 rfl ⟨rfl, rfl⟩
  | 7, _ =>
    refine M.of (by decide) rfl (Nat.le_of_ble_eq_true rfl) ?_
    refine J_iload_n (pc := 0) dX1_wordOf_0 rfl ?_
    refine J_tableIn (pc := 1) (off := 80) (tgt := 81) dX1_wordOf_1 (by decide) (by decide) (by decide) (by decide) ?_
    refine J_ldS (i := 7) (pc := 81) (by omega) rfl dX1_wordOf_81 rfl ?_
    exact K_aret (pc := 83) dX1_wordOf_83 rfl ⟨rfl, rfl⟩
  | 8, _ =>
    refine M.of (by decide) rfl (Nat.le_of_ble_eq_true rfl) ?_
    refine J_iload_n (pc := 0) dX1_wordOf_0 rfl ?_
    refine J_tableIn (pc := 1) (off := 83) (tgt := 84) dX1_wordOf_1 (by decide) (by decide) (by decide) (by decide) ?_
    refine J_ldS (i := 8) (pc := 84) (by omega) rfl dX1_wordOf_84 rfl ?_
    exact K_aret (pc := 86) dX1_wordOf_86 rfl ⟨rfl, rfl⟩
  | 9, _ =>
    refine M.of (by decide) rfl (Nat.le_of_ble_eq_true rfl) ?_
    refine J_iload_n (pc := 0) dX1_wordOf_0 rfl ?_
    refine J_tableIn (pc := 1) (off := 86) (tgt := 87) dX1_wordOf_1 (by decide) (by decide) (by decide) (by decide) ?_
    refine J_ldS (i := 9) (pc := 87) (by omega) rfl dX1_wordOf_87 rfl ?_
    exact K_aret (pc := 89) dX1_wordOf_89 rfl ⟨rfl, rfl⟩
  | 10, _ =>
    refine M.of (by decide) rfl (Nat.le_of_ble_eq_true rfl) ?_
    refine J_iload_n (pc := 0) dX1_wordOf_0 rfl ?_
    refine J_tableIn (pc := 1) (off := 89) (tgt := 90) dX1_wordOf_1 (by decide) (by decide) (by decide) (by decide) ?_
    refine J_ldS (i := 10) (pc := 90) (by omega) rfl dX1_wordOf_90 rfl ?_
    exact K_aret (pc := 92) dX1_wordOf_92 rfl ⟨rfl, rfl⟩
  | 11, _ =>
    refine M.of (by decide) rfl (Nat.le_of_ble_eq_true rfl) ?_
    refine J_iload_n (pc := 0) dX1_wordOf_0 rfl ?_
    refine J_tableOut (pc := 1) (tgt := 93) dX1_wordOf_1 (by decide) (by decide) ?_
    refine J_ldS (i := 11) (pc := 93) (by omega) rfl dX1_wordOf_93 rfl ?_
    exact K_aret (pc := 95) dX1_wordOf_95 rfl ⟨rfl, rfl⟩
theorem cs_len {g : jG} {d : Nat} {h : jH} {w : Nat} (hw : w < 12) : Mi g (d + 1) YJ0_length_8abf5 h [.ref (300000 + w)] (fun r h' => h' = h ∧ r = nI (wL w)) := cs_length hw
theorem cs_chr {g : jG} {d : Nat} {h : jH} {w k : Nat} (hw : w < 12) (hk : k < wL w) : Mi g (d + 3) YJ0_charAt_5068e h [.ref (300000 + w), .int (nI k)] (fun r h' => h' = h ∧ r = wC w k) := cs_charAt hw hk
set_option maxHeartbeats 4000000 in
theorem l1_spells {g : jG} {d : Nat} {h : jH} {Q : kQ} {L p q w : Nat} {t : Nat → Int32} (hT : TP L t h) (h2 : h 39 2 = nI q) (h3 : h 39 3 = nI p) (hpq : p ≤ q) (hqL : q ≤ L) (hw : w < 12) (hwl : wL w = q - p) (ky : ∀ k, k < wL w → ¬ wC w k = t (p + k) → K g (d + 4) YX1_spells h 47 [(0, .ref 39), (1, .ref (300000 + w)), (2, .int (nI k))] [] Q) (kx : ∀ (uu : Unit), (∀ j, j < (wL w) → wC w j = t (p + j)) → K g (d + 4) YX1_spells (h) 55 [(0, .ref 39), (1, .ref (300000 + w)), (2, .int (nI (wL w)))] [] Q) : ∀ (mm k : Nat) (uu : Unit), k ≤ (wL w) → (wL w) < k + mm → (∀ j, j < k → wC w j = t (p + j)) → K g (d + 4) YX1_spells (h) 20 [(0, .ref 39), (1, .ref (300000 + w)), (2, .int (nI k))] [] Q := by
  intro mm
  induction mm with
  | zero => intro k uu hk1 hk2 hI; omega
  | succ mm ih =>
    intro k uu hk1 hk2 hI
    have w8 : wL w < 8 := (j_st12 w hw).2.1
    have hL := hT.2.1
    refine J_iload_n (pc := 20) dX1_spells_20 rfl ?_
    refine J_aload_n (pc := 21) dX1_spells_21 rfl ?_
    refine K_Ti0 (pc := 22) (Y' := YJ0_length_8abf5) hw dX1_spells_22 lX1_162 mJ0_length_8abf5 vJ0_length_8abf5 rfl (Nat.le_of_ble_eq_true rfl) (cs_len hw) ?_
    rintro r h0 ⟨e0, rfl⟩
    rw [e0]
    clear e0 h0
    refine J_icmp_ge (pc := 25) (tgt := 55) dX1_spells_25 (by decide) (fun c25 => ?_) (fun c25 => ?_)
    · skip
      have q25 : (wL w) ≤ k := (nI_leI (by omega) (by omega)).mp c25
      have e_k : k = (wL w) := by omega
      refine J_ls (ls' := [(0, .ref 39), (1, .ref (300000 + w)), (2, .int (nI k))]) ⟨rfl, rfl, rfl, trivial⟩ ?_
      rw [e_k] at hI ⊢
      exact kx uu hI
    · skip
      have q25 : k < (wL w) := Nat.lt_of_not_le (fun z => c25 ((nI_leI (by omega) (by omega)).mpr z))
      refine J_aload_n (pc := 28) dX1_spells_28 rfl ?_
      refine J_iload_n (pc := 29) dX1_spells_29 rfl ?_
      refine K_Ti1 (pc := 30) (Y' := YJ0_charAt_5068e) hw dX1_spells_30 lX1_166 mJ0_charAt_5068e vJ0_charAt_5068e rfl (Nat.le_of_ble_eq_true rfl) (cs_chr hw q25) ?_
      rintro r h0 ⟨e0, rfl⟩
      rw [e0]
      clear e0 h0
      refine J_aload_n (pc := 33) dX1_spells_33 rfl ?_
      refine J_getR (pc := 34) dX1_spells_34 fX1_11 sh39 rfl ?_
      refine J_aload_n (pc := 37) dX1_spells_37 rfl ?_
      refine J_getI (pc := 38) dX1_spells_38 fX1_49 sh39 rfl (h3) ?_
      refine J_iload_n (pc := 41) dX1_spells_41 rfl ?_
      refine J_iadd (pc := 42) dX1_spells_42 (nI_add _ _) ?_
      refine J_iald (pc := 43) dX1_spells_43 sh40 (rfl) (by omega) (hT.2.2 _ (by omega)) (by decide) ?_
      refine J_icmp_eq (pc := 44) (tgt := 49) dX1_spells_44 (by decide) (fun c44 => ?_) (fun c44 => ?_)
      · skip
        refine J_iinc (pc := 49) dX1_spells_49 rfl (v := nI (k + 1)) (by exact nI_add _ _) (by decide) ?_
        refine J_goto (pc := 52) (tgt := 20) dX1_spells_52 (by decide) ?_
        exact J_ls (ls' := [(0, .ref 39), (1, .ref (300000 + w)), (2, .int (nI (k + 1)))]) ⟨rfl, rfl, rfl, trivial⟩ (ih (k + 1) ()  (by omega) (by omega)  (fun j hj => (Nat.lt_or_ge j k).elim (fun z => hI j z) (fun z => by rw [show j = k by omega]; exact c44)))
      · skip
        refine J_ls (ls' := [(0, .ref 39), (1, .ref (300000 + w)), (2, .int (nI k))]) ⟨rfl, rfl, rfl, trivial⟩ ?_
        exact ky k q25 c44
set_option maxHeartbeats 4000000 in
theorem c1_spells {g : jG} {d : Nat} {h : jH} {L p q w : Nat} {t : Nat → Int32} (hT : TP L t h) (h2 : h 39 2 = nI q) (h3 : h 39 3 = nI p) (hpq : p ≤ q) (hqL : q ≤ L) (hw : w < 12) : Mi g (d + 4) YX1_spells h [.ref 39, .ref (300000 + w)] (fun r h' => h' = h ∧ bq (spl t p q w = true) r) := by
  refine M.of (by decide) rfl (Nat.le_of_ble_eq_true rfl) ?_
  have w8 : wL w < 8 := (j_st12 w hw).2.1
  have hL := hT.2.1
  refine J_aload_n (pc := 0) dX1_spells_0 rfl ?_
  refine K_Ti0 (pc := 1) (Y' := YJ0_length_8abf5) hw dX1_spells_1 lX1_162 mJ0_length_8abf5 vJ0_length_8abf5 rfl (Nat.le_of_ble_eq_true rfl) (cs_len hw) ?_
  rintro r h0 ⟨e0, rfl⟩
  rw [e0]
  clear e0 h0
  refine J_aload_n (pc := 4) dX1_spells_4 rfl ?_
  refine J_getI (pc := 5) dX1_spells_5 fX1_55 sh39 rfl (h2) ?_
  refine J_aload_n (pc := 8) dX1_spells_8 rfl ?_
  refine J_getI (pc := 9) dX1_spells_9 fX1_49 sh39 rfl (h3) ?_
  refine J_isub (pc := 12) dX1_spells_12 (nIsub (by omega) hpq) ?_
  refine J_icmp_eq (pc := 13) (tgt := 18) dX1_spells_13 (by decide) (fun c13 => ?_) (fun c13 => ?_)
  · skip
    have hwl : wL w = q - p := (nIe (by omega) (by omega)).mp c13
    refine J_iconst (pc := 18) (v := nI 0) dX1_spells_18 (by decide) ?_
    refine J_istore_n (pc := 19) dX1_spells_19 (by decide) ?_
    refine J_ls (ls' := [(0, .ref 39), (1, .ref (300000 + w)), (2, .int (nI 0))]) ⟨rfl, rfl, rfl, trivial⟩ ?_
    refine l1_spells hT h2 h3 hpq hqL hw hwl (fun k hk hne => ?_) (fun uu hI => ?_) (wL w + 1) 0 () (Nat.zero_le _) (by omega) (fun j hj => absurd hj (Nat.not_lt_zero _))
    · skip
      refine J_iconst (pc := 47) (v := nI 0) dX1_spells_47 (by decide) ?_
      refine K_zret (pc := 48) dX1_spells_48 rfl (by decide) ?_
      exact ⟨rfl, bqf (fun z => hne ((of_decide_eq_true z).2 k hk))⟩
    · skip
      refine J_iconst (pc := 55) (v := nI 1) dX1_spells_55 (by decide) ?_
      refine K_zret (pc := 56) dX1_spells_56 rfl (by decide) ?_
      exact ⟨rfl, bqt (decide_eq_true ⟨hwl, hI⟩)⟩
  · skip
    have hwl : ¬ wL w = q - p := fun z => c13 ((nIe (by omega) (by omega)).mpr z)
    refine J_iconst (pc := 16) (v := nI 0) dX1_spells_16 (by decide) ?_
    refine K_zret (pc := 17) dX1_spells_17 rfl (by decide) ?_
    exact ⟨rfl, bqf (fun z => hwl (of_decide_eq_true z).1)⟩
set_option maxHeartbeats 4000000 in
theorem l1_wordHere {g : jG} {d : Nat} {h : jH} {Q : kQ} {L p q : Nat} {t : Nat → Int32} (hT : TP L t h) (h2 : h 39 2 = nI q) (h3 : h 39 3 = nI p) (hpq : p ≤ q) (hqL : q ≤ L) (ky : ∀ k, k < 12 → spl t p q k = true → K g (d + 5) YX1_wordHere h 19 [(0, .ref 39), (1, .int (nI k))] [] Q) (kx : ∀ (uu : Unit), (∀ j, j < 12 → ¬ spl t p q j = true) → K g (d + 5) YX1_wordHere (h) 27 [(0, .ref 39), (1, .int (nI 12))] [] Q) : ∀ (mm k : Nat) (uu : Unit), k ≤ 12 → 12 < k + mm → (∀ j, j < k → ¬ spl t p q j = true) → K g (d + 5) YX1_wordHere (h) 2 [(0, .ref 39), (1, .int (nI k))] [] Q := by
  intro mm
  induction mm with
  | zero => intro k uu hk1 hk2 hI; omega
  | succ mm ih =>
    intro k uu hk1 hk2 hI
    refine J_iload_n (pc := 2) dX1_wordHere_2 rfl ?_
    refine J_bipush (pc := 3) (v := nI 12) dX1_wordHere_3 (by decide) ?_
    refine J_icmp_ge (pc := 5) (tgt := 27) dX1_wordHere_5 (by decide) (fun c5 => ?_) (fun c5 => ?_)
    · skip
      have q5 : 12 ≤ k := (nI_leI (by omega) (by omega)).mp c5
      have e_k : k = 12 := by omega
      refine J_ls (ls' := [(0, .ref 39), (1, .int (nI k))]) ⟨rfl, rfl, trivial⟩ ?_
      rw [e_k] at hI ⊢
      exact kx uu hI
    · skip
      have q5 : k < 12 := Nat.lt_of_not_le (fun z => c5 ((nI_leI (by omega) (by omega)).mpr z))
      refine J_aload_n (pc := 8) dX1_wordHere_8 rfl ?_
      refine J_iload_n (pc := 9) dX1_wordHere_9 rfl ?_
      refine K_Sr1 (pc := 10) (Y' := YX1_wordOf) dX1_wordHere_10 lX1_154 mX1_wordOf sX1_wordOf (Nat.le_of_ble_eq_true rfl) (c1_wordOf q5) ?_
      rintro r h0 ⟨e0, rfl⟩
      rw [e0]
      clear e0 h0
      refine K_Vi1 (pc := 13) (Y' := YX1_spells) dX1_wordHere_13 lX1_158 mX1_spells vX1_spells ⟨_, _, rfl⟩ sh39 (Nat.le_of_ble_eq_true rfl) (c1_spells hT h2 h3 hpq hqL q5) ?_
      rintro x h0 ⟨e0, ⟨rfl, b13⟩ | ⟨rfl, b13⟩⟩ <;> rw [e0] <;> clear e0 h0
      · skip
        refine J_if_eq (pc := 16) (tgt := 21) dX1_wordHere_16 (by decide) (fun c => absurd c (by decide)) (fun _ => ?_)
        refine J_ls (ls' := [(0, .ref 39), (1, .int (nI k))]) ⟨rfl, rfl, trivial⟩ ?_
        exact ky k q5 b13
      · skip
        refine J_if_eq (pc := 16) (tgt := 21) dX1_wordHere_16 (by decide) (fun _ => ?_) (fun c => absurd c (by decide))
        refine J_iinc (pc := 21) dX1_wordHere_21 rfl (v := nI (k + 1)) (by exact nI_add _ _) (by decide) ?_
        refine J_goto (pc := 24) (tgt := 2) dX1_wordHere_24 (by decide) ?_
        exact J_ls (ls' := [(0, .ref 39), (1, .int (nI (k + 1)))]) ⟨rfl, rfl, trivial⟩ (ih (k + 1) ()  (by omega) (by omega)  (fun j hj => (Nat.lt_or_ge j k).elim (fun z => hI j z) (fun z => by rw [show j = k by omega]; exact b13)))
set_option maxHeartbeats 4000000 in
theorem c1_wordHere {g : jG} {d : Nat} {h : jH} {L p q : Nat} {t : Nat → Int32} (hT : TP L t h) (h2 : h 39 2 = nI q) (h3 : h 39 3 = nI p) (hpq : p ≤ q) (hqL : q ≤ L) {u : Nat × Int32} : Mi g (d + 5) YX1_wordHere h [.ref 39] (fun r h' => h' = h ∧ r = wI (wd t (p, q, u))) := by
  refine M.of (by decide) rfl (Nat.le_of_ble_eq_true rfl) ?_
  refine J_iconst (pc := 0) (v := nI 0) dX1_wordHere_0 (by decide) ?_
  refine J_istore_n (pc := 1) dX1_wordHere_1 (by decide) ?_
  refine J_ls (ls' := [(0, .ref 39), (1, .int (nI 0))]) ⟨rfl, rfl, trivial⟩ ?_
  refine l1_wordHere hT h2 h3 hpq hqL (fun k hk hne => ?_) (fun uu hI => ?_) 13 0 () (Nat.zero_le _) (by omega) (fun j hj => absurd hj (Nat.not_lt_zero _))
  · skip
    refine J_iload_n (pc := 19) dX1_wordHere_19 rfl ?_
    refine K_iret (pc := 20) dX1_wordHere_20 rfl ?_
    exact ⟨rfl, by rw [wd_yes (c := (p, q, u)) hk hne, wI, if_neg (by omega)]⟩
  · skip
    refine J_iconst (pc := 27) (v := -1) dX1_wordHere_27 (by decide) ?_
    refine K_iret (pc := 28) dX1_wordHere_28 rfl ?_
    exact ⟨rfl, by rw [wd_no (c := (p, q, u)) (fun w hw => hI w hw)]; rfl⟩
set_option maxHeartbeats 4000000 in
theorem c1_wordT {g : jG} {d : Nat} {h : jH} {L : Nat} {t : Nat → Int32} {s : sS} (hT : TP L t h) (hs : CT L s h) : Mi g (d + 5) YX1_wordHere h [.ref 39] (fun r h' => h' = h ∧ r = wI (wd t s.2)) := by
  exact c1_wordHere (u := s.2.2.2) hT hs.1 hs.2.1 hs.2.2.2.2.2.2.1 hs.2.2.2.2.2.2.2.1
/-- refuseIf where the condition counts only behind no fault -/
theorem c1_ref2 {g : jG} {d : Nat} {h : jH} {L : Nat} {s : sS} {b : Bool} {x : Int32} {c : Nat} (hs : CT L s h) (hb : s.1 = 0 → bq (b = true) x) (hx : x = nI 1 ∨ x = nI 0) (hc : c ≤ 6) : Mv g d YX1_refuseIf h [.ref 39, .int x, .int (nI c)] (fun h' => CT L (sRef b c s) h' ∧ tf h h') := by
  by_cases z : s.1 = 0
  · exact c1_refuseIf hs (hb z) hc
  · rw [sRef_f z]
    have e : sRef (decide (x = nI 1)) c s = s := sRef_f z
    have := c1_refuseIf (g := g) (d := d) (b := decide (x = nI 1)) (x := x) (c := c) hs (by
      rcases hx with rfl | rfl
      · exact bqt rfl
      · exact bqf (by decide)) hc
    rw [e] at this
    exact this
set_option maxHeartbeats 4000000 in
theorem c1_takeNumber {g : jG} {d : Nat} {h : jH} {L : Nat} {t : Nat → Int32} {s : sS} {lo hi : Int32} (hT : TP L t h) (hs : CT L s h) : Mi g (d + 3) YX1_takeNumber h [.ref 39, .int lo, .int hi] (fun r h' => (CT L (sNum L t lo hi s) h' ∧ tf h h') ∧ r = sVal (sNum L t lo hi s)) := by
  refine M.of (by decide) rfl (Nat.le_of_ble_eq_true rfl) ?_
  refine J_aload_n (pc := 0) dX1_takeNumber_0 rfl ?_
  refine K_Vv0 (pc := 1) (Y' := YX1_advance) dX1_takeNumber_1 lX1_32 mX1_advance vX1_advance ⟨_, _, rfl⟩ sh39 (Nat.le_of_ble_eq_true rfl) (c1_advance hT hs) ?_
  rintro h1 ⟨hs1, f1⟩
  refine J_aload_n (pc := 4) dX1_takeNumber_4 rfl ?_
  refine J_iconst (pc := 5) (v := nI 2) dX1_takeNumber_5 (by decide) ?_
  refine K_Vv1 (pc := 6) (Y' := YX1_expect) dX1_takeNumber_6 lX1_68 mX1_expect vX1_expect ⟨_, _, rfl⟩ sh39 (Nat.le_of_ble_eq_true rfl) (c1_expect (k := 2) hs1 (by omega)) ?_
  rintro h2 ⟨hs2, f2⟩
  have kn : (sExp 2 (sAdv L t s)).1 = 0 → h2 39 5 = (sAdv L t s).2.2.2.2 := fun z => by
    have q := hs2.2.2.2.1
    rw [sExp_2] at q
    exact q (sExp_0 z).2.1
  refine J_aload_n (pc := 9) dX1_takeNumber_9 rfl ?_
  refine J_aload_n (pc := 10) dX1_takeNumber_10 rfl ?_
  refine J_getI (pc := 11) dX1_takeNumber_11 fX1_127 sh39 rfl (rfl) ?_
  refine J_iload_n (pc := 14) dX1_takeNumber_14 rfl ?_
  refine J_iload_n (pc := 15) dX1_takeNumber_15 rfl ?_
  refine K_Si3 (pc := 16) (Y' := YX5_within) dX1_takeNumber_16 lX1_130 mX5_within sX5_within (Nat.le_of_ble_eq_true rfl) (c5_within) ?_
  rintro x h0 ⟨e0, ⟨rfl, b16⟩ | ⟨rfl, b16⟩⟩ <;> rw [e0] <;> clear e0 h0
  · skip
    refine J_if_ne (pc := 19) (tgt := 26) dX1_takeNumber_19 (by decide) (fun _ => ?_) (fun c => absurd c (by decide))
    refine J_iconst (pc := 26) (v := nI 0) dX1_takeNumber_26 (by decide) ?_
    refine J_iconst (pc := 27) (v := nI 3) dX1_takeNumber_27 (by decide) ?_
    refine K_Vv2 (pc := 28) (Y' := YX1_refuseIf) dX1_takeNumber_28 lX1_45 mX1_refuseIf vX1_refuseIf ⟨_, _, rfl⟩ sh39 (Nat.le_of_ble_eq_true rfl) (c1_ref2 (b := decide (¬ (lo ≤ (sAdv L t s).2.2.2.2 ∧ (sAdv L t s).2.2.2.2 ≤ hi))) (c := 3) (x := nI 0) hs2 (fun e2 => bqf (fun z => (of_decide_eq_true z) (by rw [← kn e2]; exact b16))) (Or.inr rfl) (by omega)) ?_
    rintro h3 ⟨hs3, f3⟩
    refine J_aload_n (pc := 31) dX1_takeNumber_31 rfl ?_
    refine J_getI (pc := 32) dX1_takeNumber_32 fX1_15 sh39 rfl (hs3.2.2.2.2.1) ?_
    refine J_if_ne (pc := 35) (tgt := 45) dX1_takeNumber_35 (by decide) (fun c35 => ?_) (fun c35 => ?_)
    · skip
      refine J_iconst (pc := 45) (v := nI 0) dX1_takeNumber_45 (by decide) ?_
      refine K_iret (pc := 46) dX1_takeNumber_46 rfl ?_
      have z : (sNum L t lo hi s).1 ≠ 0 := fun z => c35 ((nI0e (Nat.le_trans hs3.2.2.2.2.2.1 (by omega))).mpr z)
      exact ⟨⟨hs3, (f1.tr f2).tr f3⟩, (if_neg z).symm⟩
    · skip
      refine J_aload_n (pc := 38) dX1_takeNumber_38 rfl ?_
      refine J_getI (pc := 39) dX1_takeNumber_39 fX1_127 sh39 rfl (rfl) ?_
      refine J_goto (pc := 42) (tgt := 46) dX1_takeNumber_42 (by decide) ?_
      refine K_iret (pc := 46) dX1_takeNumber_46 rfl ?_
      have z : (sNum L t lo hi s).1 = 0 := (nI0e (Nat.le_trans hs3.2.2.2.2.2.1 (by omega))).mp c35
      refine ⟨⟨hs3, (f1.tr f2).tr f3⟩, ?_⟩
      have kz := sNm_0 z
      have q := hs3.2.2.2.1
      rw [sRef_2, sExp_2] at q
      rw [q kz.2.1, sVal, if_pos z, sNum, sNm_2]
  · skip
    refine J_if_ne (pc := 19) (tgt := 26) dX1_takeNumber_19 (by decide) (fun c => absurd c (by decide)) (fun _ => ?_)
    refine J_iconst (pc := 22) (v := nI 1) dX1_takeNumber_22 (by decide) ?_
    refine J_goto (pc := 23) (tgt := 27) dX1_takeNumber_23 (by decide) ?_
    refine J_iconst (pc := 27) (v := nI 3) dX1_takeNumber_27 (by decide) ?_
    refine K_Vv2 (pc := 28) (Y' := YX1_refuseIf) dX1_takeNumber_28 lX1_45 mX1_refuseIf vX1_refuseIf ⟨_, _, rfl⟩ sh39 (Nat.le_of_ble_eq_true rfl) (c1_ref2 (b := decide (¬ (lo ≤ (sAdv L t s).2.2.2.2 ∧ (sAdv L t s).2.2.2.2 ≤ hi))) (c := 3) (x := nI 1) hs2 (fun e2 => bqt (decide_eq_true (fun z => b16 (by rw [kn e2]; exact z)))) (Or.inl rfl) (by omega)) ?_
    rintro h3 ⟨hs3, f3⟩
    refine J_aload_n (pc := 31) dX1_takeNumber_31 rfl ?_
    refine J_getI (pc := 32) dX1_takeNumber_32 fX1_15 sh39 rfl (hs3.2.2.2.2.1) ?_
    refine J_if_ne (pc := 35) (tgt := 45) dX1_takeNumber_35 (by decide) (fun c35 => ?_) (fun c35 => ?_)
    · skip
      refine J_iconst (pc := 45) (v := nI 0) dX1_takeNumber_45 (by decide) ?_
      refine K_iret (pc := 46) dX1_takeNumber_46 rfl ?_
      have z : (sNum L t lo hi s).1 ≠ 0 := fun z => c35 ((nI0e (Nat.le_trans hs3.2.2.2.2.2.1 (by omega))).mpr z)
      exact ⟨⟨hs3, (f1.tr f2).tr f3⟩, (if_neg z).symm⟩
    · skip
      refine J_aload_n (pc := 38) dX1_takeNumber_38 rfl ?_
      refine J_getI (pc := 39) dX1_takeNumber_39 fX1_127 sh39 rfl (rfl) ?_
      refine J_goto (pc := 42) (tgt := 46) dX1_takeNumber_42 (by decide) ?_
      refine K_iret (pc := 46) dX1_takeNumber_46 rfl ?_
      have z : (sNum L t lo hi s).1 = 0 := (nI0e (Nat.le_trans hs3.2.2.2.2.2.1 (by omega))).mp c35
      refine ⟨⟨hs3, (f1.tr f2).tr f3⟩, ?_⟩
      have kz := sNm_0 z
      have q := hs3.2.2.2.1
      rw [sRef_2, sExp_2] at q
      rw [q kz.2.1, sVal, if_pos z, sNum, sNm_2]
set_option maxHeartbeats 4000000 in
theorem c1_takeSemicolon {g : jG} {d : Nat} {h : jH} {L : Nat} {t : Nat → Int32} {s : sS} (hT : TP L t h) (hs : CT L s h) : Mv g (d + 3) YX1_takeSemicolon h [.ref 39] (fun h' => CT L (sSem L t s) h' ∧ tf h h') := by
  refine M.of (by decide) rfl (Nat.le_of_ble_eq_true rfl) ?_
  refine J_aload_n (pc := 0) dX1_takeSemicolon_0 rfl ?_
  refine K_Vv0 (pc := 1) (Y' := YX1_advance) dX1_takeSemicolon_1 lX1_32 mX1_advance vX1_advance ⟨_, _, rfl⟩ sh39 (Nat.le_of_ble_eq_true rfl) (c1_advance hT hs) ?_
  rintro h1 ⟨hs1, f1⟩
  refine J_aload_n (pc := 4) dX1_takeSemicolon_4 rfl ?_
  refine J_iconst (pc := 5) (v := nI 3) dX1_takeSemicolon_5 (by decide) ?_
  refine K_Vv1 (pc := 6) (Y' := YX1_expect) dX1_takeSemicolon_6 lX1_68 mX1_expect vX1_expect ⟨_, _, rfl⟩ sh39 (Nat.le_of_ble_eq_true rfl) (c1_expect (k := 3) hs1 (by omega)) ?_
  rintro h2 ⟨hs2, f2⟩
  refine K_ret (pc := 9) dX1_takeSemicolon_9 rfl ?_
  exact ⟨hs2, f1.tr f2⟩
theorem wI_w {w : Nat} (h : w ≤ 12) : nb 4 (wI w - nI 4) ↔ (4 ≤ w ∧ w < 8) := by
  have : ∀ w, w < 13 → ((ix (wI w - nI 4) < 4 ∧ wI w - nI 4 = nI (ix (wI w - nI 4))) ↔ (4 ≤ w ∧ w < 8)) := by decide +kernel
  rw [← this w (by omega)]
  exact ⟨fun z => ⟨z.2, z.1⟩, fun z => ⟨z.2, z.1⟩⟩
theorem wI_v {w : Nat} (h1 : 4 ≤ w) (h2 : w < 8) : wI w - nI 4 = nI (w - 4) := by
  have : ∀ w, w < 8 → 4 ≤ w → wI w - nI 4 = nI (w - 4) := by decide +kernel
  exact this w h2 h1
set_option maxHeartbeats 4000000 in
theorem c1_weatherHere {g : jG} {d : Nat} {h : jH} {L : Nat} {t : Nat → Int32} {s : sS} (hT : TP L t h) (hs : CT L s h) : Mi g (d + 6) YX1_weatherHere h [.ref 39] (fun r h' => (CT L (sWea t s) h' ∧ tf h h') ∧ r = sWv t (sWea t s)) := by
  refine M.of (by decide) rfl (Nat.le_of_ble_eq_true rfl) ?_
  refine J_aload_n (pc := 0) dX1_weatherHere_0 rfl ?_
  refine J_iconst (pc := 1) (v := nI 1) dX1_weatherHere_1 (by decide) ?_
  refine K_Vv1 (pc := 2) (Y' := YX1_expect) dX1_weatherHere_2 lX1_68 mX1_expect vX1_expect ⟨_, _, rfl⟩ sh39 (Nat.le_of_ble_eq_true rfl) (c1_expect (k := 1) hs (by omega)) ?_
  rintro h1 ⟨hs1, f1⟩
  refine J_aload_n (pc := 5) dX1_weatherHere_5 rfl ?_
  refine J_getI (pc := 6) dX1_weatherHere_6 fX1_15 sh39 rfl (hs1.2.2.2.2.1) ?_
  refine J_if_ne (pc := 9) (tgt := 21) dX1_weatherHere_9 (by decide) (fun c9 => ?_) (fun c9 => ?_)
  · skip
    have z9 : (sExp 1 s).1 ≠ 0 := fun z => c9 ((nI0e (by have := hs1.2.2.2.2.2.1; omega)).mpr z)
    refine J_iconst (pc := 21) (v := nI 0) dX1_weatherHere_21 (by decide) ?_
    refine J_istore_n (pc := 22) dX1_weatherHere_22 (by decide) ?_
    refine J_aload_n (pc := 23) dX1_weatherHere_23 rfl ?_
    refine J_iload_n (pc := 24) dX1_weatherHere_24 rfl ?_
    refine K_Si1 (pc := 25) (Y' := YX5_isWeather) dX1_weatherHere_25 lX1_134 mX5_isWeather sX5_isWeather (Nat.le_of_ble_eq_true rfl) (c5_isWeather) ?_
    rintro x h0 ⟨e0, ⟨rfl, b25⟩ | ⟨rfl, b25⟩⟩ <;> rw [e0] <;> clear e0 h0
    · skip
      refine J_if_ne (pc := 28) (tgt := 35) dX1_weatherHere_28 (by decide) (fun _ => ?_) (fun c => absurd c (by decide))
      refine J_iconst (pc := 35) (v := nI 0) dX1_weatherHere_35 (by decide) ?_
      refine J_iconst (pc := 36) (v := nI 2) dX1_weatherHere_36 (by decide) ?_
      refine K_Vv2 (pc := 37) (Y' := YX1_refuseIf) dX1_weatherHere_37 lX1_45 mX1_refuseIf vX1_refuseIf ⟨_, _, rfl⟩ sh39 (Nat.le_of_ble_eq_true rfl) (c1_ref2 (b := decide (¬ (4 ≤ wd t s.2 ∧ wd t s.2 < 8))) (c := 2) (x := nI 0) hs1 (fun e2 => absurd e2 z9) (Or.inr rfl) (by omega)) ?_
      rintro h3 ⟨hs3, f3⟩
      refine J_aload_n (pc := 40) dX1_weatherHere_40 rfl ?_
      refine J_getI (pc := 41) dX1_weatherHere_41 fX1_15 sh39 rfl (hs3.2.2.2.2.1) ?_
      refine J_if_ne (pc := 44) (tgt := 51) dX1_weatherHere_44 (by decide) (fun c44 => ?_) (fun c44 => ?_)
      · skip
        refine J_iconst (pc := 51) (v := nI 0) dX1_weatherHere_51 (by decide) ?_
        refine K_iret (pc := 52) dX1_weatherHere_52 rfl ?_
        have z : (sWea t s).1 ≠ 0 := fun z => c44 ((nI0e (Nat.le_trans hs3.2.2.2.2.2.1 (by omega))).mpr z)
        exact ⟨⟨hs3, f1.tr f3⟩, (if_neg z).symm⟩
      · skip
        refine J_iload_n (pc := 47) dX1_weatherHere_47 rfl ?_
        refine J_goto (pc := 48) (tgt := 52) dX1_weatherHere_48 (by decide) ?_
        refine K_iret (pc := 52) dX1_weatherHere_52 rfl ?_
        have z : (sWea t s).1 = 0 := (nI0e (Nat.le_trans hs3.2.2.2.2.2.1 (by omega))).mp c44
        have zz := sWea_0 z
        exact absurd (sRef_0 (by decide) z).1 z9
    · skip
      refine J_if_ne (pc := 28) (tgt := 35) dX1_weatherHere_28 (by decide) (fun c => absurd c (by decide)) (fun _ => ?_)
      refine J_iconst (pc := 31) (v := nI 1) dX1_weatherHere_31 (by decide) ?_
      refine J_goto (pc := 32) (tgt := 36) dX1_weatherHere_32 (by decide) ?_
      refine J_iconst (pc := 36) (v := nI 2) dX1_weatherHere_36 (by decide) ?_
      refine K_Vv2 (pc := 37) (Y' := YX1_refuseIf) dX1_weatherHere_37 lX1_45 mX1_refuseIf vX1_refuseIf ⟨_, _, rfl⟩ sh39 (Nat.le_of_ble_eq_true rfl) (c1_ref2 (b := decide (¬ (4 ≤ wd t s.2 ∧ wd t s.2 < 8))) (c := 2) (x := nI 1) hs1 (fun e2 => absurd e2 z9) (Or.inl rfl) (by omega)) ?_
      rintro h3 ⟨hs3, f3⟩
      refine J_aload_n (pc := 40) dX1_weatherHere_40 rfl ?_
      refine J_getI (pc := 41) dX1_weatherHere_41 fX1_15 sh39 rfl (hs3.2.2.2.2.1) ?_
      refine J_if_ne (pc := 44) (tgt := 51) dX1_weatherHere_44 (by decide) (fun c44 => ?_) (fun c44 => ?_)
      · skip
        refine J_iconst (pc := 51) (v := nI 0) dX1_weatherHere_51 (by decide) ?_
        refine K_iret (pc := 52) dX1_weatherHere_52 rfl ?_
        have z : (sWea t s).1 ≠ 0 := fun z => c44 ((nI0e (Nat.le_trans hs3.2.2.2.2.2.1 (by omega))).mpr z)
        exact ⟨⟨hs3, f1.tr f3⟩, (if_neg z).symm⟩
      · skip
        refine J_iload_n (pc := 47) dX1_weatherHere_47 rfl ?_
        refine J_goto (pc := 48) (tgt := 52) dX1_weatherHere_48 (by decide) ?_
        refine K_iret (pc := 52) dX1_weatherHere_52 rfl ?_
        have z : (sWea t s).1 = 0 := (nI0e (Nat.le_trans hs3.2.2.2.2.2.1 (by omega))).mp c44
        have zz := sWea_0 z
        exact absurd (sRef_0 (by decide) z).1 z9
  · skip
    refine J_aload_n (pc := 12) dX1_weatherHere_12 rfl ?_
    refine K_Vi0 (pc := 13) (Y' := YX1_wordHere) dX1_weatherHere_13 lX1_72 mX1_wordHere vX1_wordHere ⟨_, _, rfl⟩ sh39 (Nat.le_of_ble_eq_true rfl) (c1_wordT (hT.tf f1) hs1) ?_
    rintro x h0 ⟨rfl, rfl⟩
    rw [sExp_2]
    refine J_iconst (pc := 16) (v := nI 4) dX1_weatherHere_16 (by decide) ?_
    refine J_isub (pc := 17) dX1_weatherHere_17 (rfl) ?_
    refine J_goto (pc := 18) (tgt := 22) dX1_weatherHere_18 (by decide) ?_
    refine J_istore_n (pc := 22) dX1_weatherHere_22 (by decide) ?_
    refine J_aload_n (pc := 23) dX1_weatherHere_23 rfl ?_
    refine J_iload_n (pc := 24) dX1_weatherHere_24 rfl ?_
    refine K_Si1 (pc := 25) (Y' := YX5_isWeather) dX1_weatherHere_25 lX1_134 mX5_isWeather sX5_isWeather (Nat.le_of_ble_eq_true rfl) (c5_isWeather) ?_
    rintro x h0 ⟨e0, ⟨rfl, b25⟩ | ⟨rfl, b25⟩⟩ <;> rw [e0] <;> clear e0 h0
    · skip
      refine J_if_ne (pc := 28) (tgt := 35) dX1_weatherHere_28 (by decide) (fun _ => ?_) (fun c => absurd c (by decide))
      refine J_iconst (pc := 35) (v := nI 0) dX1_weatherHere_35 (by decide) ?_
      refine J_iconst (pc := 36) (v := nI 2) dX1_weatherHere_36 (by decide) ?_
      refine K_Vv2 (pc := 37) (Y' := YX1_refuseIf) dX1_weatherHere_37 lX1_45 mX1_refuseIf vX1_refuseIf ⟨_, _, rfl⟩ sh39 (Nat.le_of_ble_eq_true rfl) (c1_ref2 (b := decide (¬ (4 ≤ wd t s.2 ∧ wd t s.2 < 8))) (c := 2) (x := nI 0) hs1 (fun e2 => bqf (fun z => (of_decide_eq_true z) ((wI_w wd_le).mp b25))) (Or.inr rfl) (by omega)) ?_
      rintro h3 ⟨hs3, f3⟩
      refine J_aload_n (pc := 40) dX1_weatherHere_40 rfl ?_
      refine J_getI (pc := 41) dX1_weatherHere_41 fX1_15 sh39 rfl (hs3.2.2.2.2.1) ?_
      refine J_if_ne (pc := 44) (tgt := 51) dX1_weatherHere_44 (by decide) (fun c44 => ?_) (fun c44 => ?_)
      · skip
        refine J_iconst (pc := 51) (v := nI 0) dX1_weatherHere_51 (by decide) ?_
        refine K_iret (pc := 52) dX1_weatherHere_52 rfl ?_
        have z : (sWea t s).1 ≠ 0 := fun z => c44 ((nI0e (Nat.le_trans hs3.2.2.2.2.2.1 (by omega))).mpr z)
        exact ⟨⟨hs3, f1.tr f3⟩, (if_neg z).symm⟩
      · skip
        refine J_iload_n (pc := 47) dX1_weatherHere_47 rfl ?_
        refine J_goto (pc := 48) (tgt := 52) dX1_weatherHere_48 (by decide) ?_
        refine K_iret (pc := 52) dX1_weatherHere_52 rfl ?_
        have z : (sWea t s).1 = 0 := (nI0e (Nat.le_trans hs3.2.2.2.2.2.1 (by omega))).mp c44
        have zz := sWea_0 z
        refine ⟨⟨hs3, f1.tr f3⟩, ?_⟩
        rw [sWv, if_pos z, sWea_2, wI_v zz.2.2.1.1 zz.2.2.1.2]
    · skip
      refine J_if_ne (pc := 28) (tgt := 35) dX1_weatherHere_28 (by decide) (fun c => absurd c (by decide)) (fun _ => ?_)
      refine J_iconst (pc := 31) (v := nI 1) dX1_weatherHere_31 (by decide) ?_
      refine J_goto (pc := 32) (tgt := 36) dX1_weatherHere_32 (by decide) ?_
      refine J_iconst (pc := 36) (v := nI 2) dX1_weatherHere_36 (by decide) ?_
      refine K_Vv2 (pc := 37) (Y' := YX1_refuseIf) dX1_weatherHere_37 lX1_45 mX1_refuseIf vX1_refuseIf ⟨_, _, rfl⟩ sh39 (Nat.le_of_ble_eq_true rfl) (c1_ref2 (b := decide (¬ (4 ≤ wd t s.2 ∧ wd t s.2 < 8))) (c := 2) (x := nI 1) hs1 (fun e2 => bqt (decide_eq_true (fun z => b25 ((wI_w wd_le).mpr z)))) (Or.inl rfl) (by omega)) ?_
      rintro h3 ⟨hs3, f3⟩
      refine J_aload_n (pc := 40) dX1_weatherHere_40 rfl ?_
      refine J_getI (pc := 41) dX1_weatherHere_41 fX1_15 sh39 rfl (hs3.2.2.2.2.1) ?_
      refine J_if_ne (pc := 44) (tgt := 51) dX1_weatherHere_44 (by decide) (fun c44 => ?_) (fun c44 => ?_)
      · skip
        refine J_iconst (pc := 51) (v := nI 0) dX1_weatherHere_51 (by decide) ?_
        refine K_iret (pc := 52) dX1_weatherHere_52 rfl ?_
        have z : (sWea t s).1 ≠ 0 := fun z => c44 ((nI0e (Nat.le_trans hs3.2.2.2.2.2.1 (by omega))).mpr z)
        exact ⟨⟨hs3, f1.tr f3⟩, (if_neg z).symm⟩
      · skip
        refine J_iload_n (pc := 47) dX1_weatherHere_47 rfl ?_
        refine J_goto (pc := 48) (tgt := 52) dX1_weatherHere_48 (by decide) ?_
        refine K_iret (pc := 52) dX1_weatherHere_52 rfl ?_
        have z : (sWea t s).1 = 0 := (nI0e (Nat.le_trans hs3.2.2.2.2.2.1 (by omega))).mp c44
        have zz := sWea_0 z
        refine ⟨⟨hs3, f1.tr f3⟩, ?_⟩
        rw [sWv, if_pos z, sWea_2, wI_v zz.2.2.1.1 zz.2.2.1.2]
