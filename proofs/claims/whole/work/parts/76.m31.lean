set_option maxHeartbeats 400000 in
theorem l6_name2 {g : jG} {d : Nat} {h : jH} {Q : kQ} {L p q : Nat} {t : Nat → Int32} (hT : RP L t h) (hW : RW h) (h12 : h 131 12 = nI q) (h13 : h 131 13 = nI p) (hpq : p ≤ q) (hqL : q ≤ L) {n : Nat} (hn : n < 12) (hl : q - p = wL (rn n)) (kz : ∀ k, k < q - p → ¬ wC (rn n) k = t (p + k) → K g (d + 1) YX6_nameHere h 51 [(0, .ref 131), (1, .int (nI n)), (2, .int (nI 0))] [] Q) (kx : ∀ (uu : Unit), (∀ j, j < (q - p) → wC (rn n) j = t (p + j)) → K g (d + 1) YX6_nameHere (h) 106 [(0, .ref 131), (1, .int (nI n)), (2, .int (nI 1)), (3, .int (nI (q - p)))] [] Q) : ∀ (mm k : Nat) (uu : Unit), k ≤ (q - p) → (q - p) < k + mm → (∀ j, j < k → wC (rn n) j = t (p + j)) → K g (d + 1) YX6_nameHere (h) 51 [(0, .ref 131), (1, .int (nI n)), (2, .int (nI 1)), (3, .int (nI k))] [] Q := by
  intro mm
  induction mm with
  | zero => intro k uu hk1 hk2 hI; omega
  | succ mm ih =>
    intro k uu hk1 hk2 hI
    have hL := hT.2.1
    refine J_iload_n (pc := 51) dX6_nameHere_51 rfl ?_
    refine J_if_eq (pc := 52) (tgt := 106) dX6_nameHere_52 (by decide) (fun c => absurd c (by decide)) (fun _ => ?_)
    refine J_iload_n (pc := 55) dX6_nameHere_55 rfl ?_
    refine J_aload_n (pc := 56) dX6_nameHere_56 rfl ?_
    refine J_getI (pc := 57) dX6_nameHere_57 fX6_75 sh131 rfl (h12) ?_
    refine J_aload_n (pc := 60) dX6_nameHere_60 rfl ?_
    refine J_getI (pc := 61) dX6_nameHere_61 fX6_66 sh131 rfl (h13) ?_
    refine J_isub (pc := 64) dX6_nameHere_64 (nIsub (by omega) hpq) ?_
    refine J_icmp_ge (pc := 65) (tgt := 106) dX6_nameHere_65 (by decide) (fun c65 => ?_) (fun c65 => ?_)
    · skip
      have q65 : (q - p) ≤ k := (nI_leI (by omega) (by omega)).mp c65
      have e_k : k = (q - p) := by omega
      refine J_ls (ls' := [(0, .ref 131), (1, .int (nI n)), (2, .int (nI 1)), (3, .int (nI k))]) ⟨rfl, rfl, rfl, rfl, trivial⟩ ?_
      rw [e_k] at hI ⊢
      exact kx uu hI
    · skip
      have q65 : k < (q - p) := Nat.lt_of_not_le (fun z => c65 ((nI_leI (by omega) (by omega)).mpr z))
      have z65 := q65
      refine J_aload_n (pc := 68) dX6_nameHere_68 rfl ?_
      refine J_aload_n (pc := 69) dX6_nameHere_69 rfl ?_
      refine J_getI (pc := 70) dX6_nameHere_70 fX6_66 sh131 rfl (h13) ?_
      refine J_iload_n (pc := 73) dX6_nameHere_73 rfl ?_
      refine J_iadd (pc := 74) dX6_nameHere_74 (nI_add _ _) ?_
      refine K_Vi1 (pc := 75) (Y' := YX6_byteAt) dX6_nameHere_75 lX6_78 mX6_byteAt vX6_byteAt ⟨_, _, rfl⟩ sh131 (Nat.le_of_ble_eq_true rfl) (c6_byteAt (L := L) (t := t) (k := (p + k)) (hT) (by omega)) ?_
      rintro x h0 ⟨rfl, rfl⟩
      refine J_aload_n (pc := 78) dX6_nameHere_78 rfl ?_
      refine J_getR (pc := 79) dX6_nameHere_79 fX6_25 sh131 rfl ?_
      refine J_aload_n (pc := 82) dX6_nameHere_82 rfl ?_
      refine J_getR (pc := 83) dX6_nameHere_83 fX6_22 sh131 rfl ?_
      refine J_iload_n (pc := 86) dX6_nameHere_86 rfl ?_
      refine J_iald (pc := 87) dX6_nameHere_87 sh136 (rfl) (by omega) (hW.1 n (by omega)) (by decide) ?_
      refine J_iload_n (pc := 88) dX6_nameHere_88 rfl ?_
      refine J_iadd (pc := 89) dX6_nameHere_89 ((cut_c n hn k (by omega)).2.2) ?_
      refine J_iald (pc := 90) dX6_nameHere_90 sh137 (rfl) ((cut_c n hn k (by omega)).2.1) ((hW.2 _ (cut_c n hn k (by omega)).2.1).trans (cut_c n hn k (by omega)).1) (by decide) ?_
      refine J_icmp_ne (pc := 91) (tgt := 98) dX6_nameHere_91 (by decide) (fun c91 => ?_) (fun c91 => ?_)
      · skip
        refine J_iconst (pc := 98) (v := nI 0) dX6_nameHere_98 (by decide) ?_
        refine J_istore_n (pc := 99) dX6_nameHere_99 (by decide) ?_
        refine J_iinc (pc := 100) dX6_nameHere_100 rfl (v := nI (k + 1)) (by exact nI_add _ _) (by decide) ?_
        refine J_goto (pc := 103) (tgt := 51) dX6_nameHere_103 (by decide) ?_
        refine J_ls (ls' := [(0, .ref 131), (1, .int (nI n)), (2, .int (nI 0))]) ⟨rfl, rfl, rfl, trivial⟩ ?_
        exact kz k z65 (fun z => c91 (by rw [byF_i (by omega)]; exact z.symm))
      · skip
        refine J_iconst (pc := 94) (v := nI 1) dX6_nameHere_94 (by decide) ?_
        refine J_goto (pc := 95) (tgt := 99) dX6_nameHere_95 (by decide) ?_
        refine J_istore_n (pc := 99) dX6_nameHere_99 (by decide) ?_
        refine J_iinc (pc := 100) dX6_nameHere_100 rfl (v := nI (k + 1)) (by exact nI_add _ _) (by decide) ?_
        refine J_goto (pc := 103) (tgt := 51) dX6_nameHere_103 (by decide) ?_
        refine J_ls (ls' := [(0, .ref 131), (1, .int (nI n)), (2, .int (nI 1)), (3, .int (nI (k + 1)))]) ⟨rfl, rfl, rfl, rfl, trivial⟩ ?_
        exact ih (k + 1) () (by omega) (by omega) (fun j hj => (Nat.lt_or_ge j k).elim (fun z => hI j z) (fun z => by rw [show j = k by omega, ← c91, byF_i (by omega)]))
set_option maxHeartbeats 400000 in
theorem l6_name1 {g : jG} {d : Nat} {h : jH} {Q : kQ} {L p q : Nat} {t : Nat → Int32} (hT : RP L t h) (hW : RW h) (h12 : h 131 12 = nI q) (h13 : h 131 13 = nI p) (hpq : p ≤ q) (hqL : q ≤ L) (h14 : h 131 14 = nI 1) (ky : ∀ k, k < 12 → spl t p q (rn k) = true → K g (d + 1) YX6_nameHere h 110 [(0, .ref 131), (1, .int (nI k))] [] Q) (kx : ∀ (uu : Unit), (∀ j, j < 12 → ¬ spl t p q (rn j) = true) → K g (d + 1) YX6_nameHere (h) 118 [(0, .ref 131), (1, .int (nI 12))] [] Q) : ∀ (mm k : Nat) (uu : Unit), k ≤ 12 → 12 < k + mm → (∀ j, j < k → ¬ spl t p q (rn j) = true) → K g (d + 1) YX6_nameHere (h) 2 [(0, .ref 131), (1, .int (nI k))] [] Q := by
  intro mm
  induction mm with
  | zero => intro k uu hk1 hk2 hI; omega
  | succ mm ih =>
    intro k uu hk1 hk2 hI
    have hL := hT.2.1
    refine J_iload_n (pc := 2) dX6_nameHere_2 rfl ?_
    refine J_bipush (pc := 3) (v := nI 12) dX6_nameHere_3 (by decide) ?_
    refine J_icmp_ge (pc := 5) (tgt := 118) dX6_nameHere_5 (by decide) (fun c5 => ?_) (fun c5 => ?_)
    · skip
      have q5 : 12 ≤ k := (nI_leI (by omega) (by omega)).mp c5
      have e_k : k = 12 := by omega
      refine J_ls (ls' := [(0, .ref 131), (1, .int (nI k))]) ⟨rfl, rfl, trivial⟩ ?_
      rw [e_k] at hI ⊢
      exact kx uu hI
    · skip
      have q5 : k < 12 := Nat.lt_of_not_le (fun z => c5 ((nI_leI (by omega) (by omega)).mpr z))
      refine J_aload_n (pc := 8) dX6_nameHere_8 rfl ?_
      refine J_getI (pc := 9) dX6_nameHere_9 fX6_72 sh131 rfl (h14) ?_
      refine J_iconst (pc := 12) (v := nI 1) dX6_nameHere_12 (by decide) ?_
      refine J_icmp_ne (pc := 13) (tgt := 118) dX6_nameHere_13 (by decide) (fun c => absurd c (by decide)) (fun _ => ?_)
      refine J_aload_n (pc := 16) dX6_nameHere_16 rfl ?_
      refine J_getI (pc := 17) dX6_nameHere_17 fX6_75 sh131 rfl (h12) ?_
      refine J_aload_n (pc := 20) dX6_nameHere_20 rfl ?_
      refine J_getI (pc := 21) dX6_nameHere_21 fX6_66 sh131 rfl (h13) ?_
      refine J_isub (pc := 24) dX6_nameHere_24 (nIsub (by omega) hpq) ?_
      refine J_aload_n (pc := 25) dX6_nameHere_25 rfl ?_
      refine J_getR (pc := 26) dX6_nameHere_26 fX6_22 sh131 rfl ?_
      refine J_iload_n (pc := 29) dX6_nameHere_29 rfl ?_
      refine J_iconst (pc := 30) (v := nI 1) dX6_nameHere_30 (by decide) ?_
      refine J_iadd (pc := 31) dX6_nameHere_31 (nI_add _ _) ?_
      refine J_iald (pc := 32) dX6_nameHere_32 sh136 (rfl) (by omega) (hW.1 (k + 1) (by omega)) (by decide) ?_
      refine J_aload_n (pc := 33) dX6_nameHere_33 rfl ?_
      refine J_getR (pc := 34) dX6_nameHere_34 fX6_22 sh131 rfl ?_
      refine J_iload_n (pc := 37) dX6_nameHere_37 rfl ?_
      refine J_iald (pc := 38) dX6_nameHere_38 sh136 (rfl) (by omega) (hW.1 k (by omega)) (by decide) ?_
      refine J_isub (pc := 39) dX6_nameHere_39 (cut_l k q5) ?_
      refine J_icmp_ne (pc := 40) (tgt := 47) dX6_nameHere_40 (by decide) (fun c40 => ?_) (fun c40 => ?_)
      · skip
        have nsp : ¬ spl t p q (rn k) = true := fun z => c40 (congrArg nI (of_decide_eq_true z).1.symm)
        refine J_iconst (pc := 47) (v := nI 0) dX6_nameHere_47 (by decide) ?_
        refine J_istore_n (pc := 48) dX6_nameHere_48 (by decide) ?_
        refine J_iconst (pc := 49) (v := nI 0) dX6_nameHere_49 (by decide) ?_
        refine J_istore_n (pc := 50) dX6_nameHere_50 (by decide) ?_
        refine J_iload_n (pc := 51) dX6_nameHere_51 rfl ?_
        refine J_if_eq (pc := 52) (tgt := 106) dX6_nameHere_52 (by decide) (fun _ => ?_) (fun c => absurd c (by decide))
        refine J_iload_n (pc := 106) dX6_nameHere_106 rfl ?_
        refine J_if_eq (pc := 107) (tgt := 112) dX6_nameHere_107 (by decide) (fun _ => ?_) (fun c => absurd c (by decide))
        refine J_iinc (pc := 112) dX6_nameHere_112 rfl (v := nI (k + 1)) (by exact nI_add _ _) (by decide) ?_
        refine J_goto (pc := 115) (tgt := 2) dX6_nameHere_115 (by decide) ?_
        exact J_ls (ls' := [(0, .ref 131), (1, .int (nI (k + 1)))]) ⟨rfl, rfl, trivial⟩ (ih (k + 1) () (by omega) (by omega) (fun j hj => (Nat.lt_or_ge j k).elim (fun z => hI j z) (fun z => by rw [show j = k by omega]; exact nsp)))
      · skip
        refine J_iconst (pc := 43) (v := nI 1) dX6_nameHere_43 (by decide) ?_
        refine J_goto (pc := 44) (tgt := 48) dX6_nameHere_44 (by decide) ?_
        refine J_istore_n (pc := 48) dX6_nameHere_48 (by decide) ?_
        refine J_iconst (pc := 49) (v := nI 0) dX6_nameHere_49 (by decide) ?_
        refine J_istore_n (pc := 50) dX6_nameHere_50 (by decide) ?_
        have hwl : q - p = wL (rn k) := (nIe (by omega) (by have := (j_st12 (rn k) (rn_rn k q5).2).2.1; have : wL (rn k) < 8 := this; omega)).mp c40
        refine J_ls (ls' := [(0, .ref 131), (1, .int (nI k)), (2, .int (nI 1)), (3, .int (nI 0))]) ⟨rfl, rfl, rfl, rfl, trivial⟩ ?_
        refine l6_name2 hT hW h12 h13 hpq hqL q5 hwl (fun k2 hk2 hne => ?_) (fun uu hI2 => ?_) (q - p + 1) 0 () (Nat.zero_le _) (by omega) (fun j hj => absurd hj (Nat.not_lt_zero _))
        · have nsp : ¬ spl t p q (rn k) = true := fun z => hne ((of_decide_eq_true z).2 k2 (by omega))
          refine J_iload_n (pc := 51) dX6_nameHere_51 rfl ?_
          refine J_if_eq (pc := 52) (tgt := 106) dX6_nameHere_52 (by decide) (fun _ => ?_) (fun c => absurd c (by decide))
          refine J_iload_n (pc := 106) dX6_nameHere_106 rfl ?_
          refine J_if_eq (pc := 107) (tgt := 112) dX6_nameHere_107 (by decide) (fun _ => ?_) (fun c => absurd c (by decide))
          refine J_iinc (pc := 112) dX6_nameHere_112 rfl (v := nI (k + 1)) (by exact nI_add _ _) (by decide) ?_
          refine J_goto (pc := 115) (tgt := 2) dX6_nameHere_115 (by decide) ?_
          exact J_ls (ls' := [(0, .ref 131), (1, .int (nI (k + 1)))]) ⟨rfl, rfl, trivial⟩ (ih (k + 1) () (by omega) (by omega) (fun j hj => (Nat.lt_or_ge j k).elim (fun z => hI j z) (fun z => by rw [show j = k by omega]; exact nsp)))
        · rw [hwl] at hI2
          refine J_iload_n (pc := 106) dX6_nameHere_106 rfl ?_
          refine J_if_eq (pc := 107) (tgt := 112) dX6_nameHere_107 (by decide) (fun c => absurd c (by decide)) (fun _ => ?_)
          refine J_ls (ls' := [(0, .ref 131), (1, .int (nI k))]) ⟨rfl, rfl, trivial⟩ ?_
          exact ky k q5 (decide_eq_true ⟨hwl.symm, hI2⟩)
set_option maxHeartbeats 400000 in
theorem c6_nameHere {g : jG} {d : Nat} {h : jH} {L p q : Nat} {t : Nat → Int32} (hT : RP L t h) (hW : RW h) (h12 : h 131 12 = nI q) (h13 : h 131 13 = nI p) (hpq : p ≤ q) (hqL : q ≤ L) {u : Nat × Int32} : Mi g (d + 1) YX6_nameHere h [.ref 131] (fun r h' => h' = h ∧ (h 131 14 = nI 1 → r = nmI (wd t (p, q, u))) ∧ (¬ h 131 14 = nI 1 → r = -4)) := by
  refine M.of (by decide) rfl (Nat.le_of_ble_eq_true rfl) ?_
  by_cases h14 : h 131 14 = nI 1
  · skip
    refine J_iconst (pc := 0) (v := nI 0) dX6_nameHere_0 (by decide) ?_
    refine J_istore_n (pc := 1) dX6_nameHere_1 (by decide) ?_
    refine J_ls (ls' := [(0, .ref 131), (1, .int (nI 0))]) ⟨rfl, rfl, trivial⟩ ?_
    refine l6_name1 hT hW h12 h13 hpq hqL h14 (fun k hk hne => ?_) (fun uu hI => ?_) 13 0 () (Nat.zero_le _) (by omega) (fun j hj => absurd hj (Nat.not_lt_zero _))
    · skip
      refine J_iload_n (pc := 110) dX6_nameHere_110 rfl ?_
      refine K_iret (pc := 111) dX6_nameHere_111 rfl ?_
      exact ⟨rfl, fun _ => by rw [wd_yes (c := (p, q, u)) (rn_rn k hk).2 hne, nmI_rn hk], fun z => absurd h14 z⟩
    · skip
      refine J_bipush (pc := 118) (v := -4) dX6_nameHere_118 (by decide) ?_
      refine K_iret (pc := 120) dX6_nameHere_120 rfl ?_
      exact ⟨rfl, fun _ => by rw [wd_no (c := (p, q, u)) (fun w hw z => hI (rn w) (rn_rn w hw).2 (by rw [(rn_rn w hw).1]; exact z))]; rfl, fun z => absurd h14 z⟩
  refine J_iconst (pc := 0) (v := nI 0) dX6_nameHere_0 (by decide) ?_
  refine J_istore_n (pc := 1) dX6_nameHere_1 (by decide) ?_
  refine J_iload_n (pc := 2) dX6_nameHere_2 rfl ?_
  refine J_bipush (pc := 3) (v := nI 12) dX6_nameHere_3 (by decide) ?_
  refine J_icmp_ge (pc := 5) (tgt := 118) dX6_nameHere_5 (by decide) (fun c => absurd c (by decide)) (fun _ => ?_)
  refine J_aload_n (pc := 8) dX6_nameHere_8 rfl ?_
  refine J_getI (pc := 9) dX6_nameHere_9 fX6_72 sh131 rfl (rfl) ?_
  refine J_iconst (pc := 12) (v := nI 1) dX6_nameHere_12 (by decide) ?_
  refine J_icmp_ne (pc := 13) (tgt := 118) dX6_nameHere_13 (by decide) (fun c13 => ?_) (fun c13 => ?_)
  · skip
    refine J_bipush (pc := 118) (v := -4) dX6_nameHere_118 (by decide) ?_
    refine K_iret (pc := 120) dX6_nameHere_120 rfl ?_
    exact ⟨rfl, fun z => absurd z h14, fun _ => rfl⟩
  · skip
    exact absurd c13 h14
noncomputable def nm1 (u : sS) : sS := sRef (decide (u.2.2.2.1 ≠ 2)) 2 (nrm u)
theorem nm1_2 {u : sS} : (nm1 u).2 = u.2 := by rw [nm1, sRef_2, nrm_2]
theorem sNm_e {lo hi : Int32} {u : sS} : sNm lo hi u = sRef (decide (¬ (lo ≤ u.2.2.2.2 ∧ u.2.2.2.2 ≤ hi))) 3 (nm1 u) := rfl
theorem RT.b {L : Nat} {s : sS} {h : jH} (hs : RT L s h) : s.1 ≤ 1000 := Nat.le_trans hs.2.2.2.1 (by omega)
set_option maxHeartbeats 400000 in
theorem c6_number {g : jG} {d : Nat} {h : jH} {L : Nat} {t : Nat → Int32} {u : sS} (hT : RP L t h) (hs : RT L (nrm u) h) {lo hi : Int32} : Mi g (d + 2) YX6_number h [.ref 131, .int lo, .int hi] (fun r h' => RT L (nrm (sAdv L t (sNm lo hi u))) h' ∧ rfm h h' ∧ ((sNm lo hi u).1 = 0 → r = sVal (sNm lo hi u))) := by
  refine M.of (by decide) rfl (Nat.le_of_ble_eq_true rfl) ?_
  refine J_aload_n (pc := 0) dX6_number_0 rfl ?_
  refine J_getI (pc := 1) dX6_number_1 fX6_63 sh131 rfl (hs.2.2.2.2.1) ?_
  refine J_if_ne (pc := 4) (tgt := 20) dX6_number_4 (by decide) (fun c4 => ?_) (fun c4 => ?_)
  · skip
    have H1 : RT L (nm1 u) h := by
      rw [nm1, sRef_f (fun z => c4 (by rw [z]; rfl))]; exact hs
    refine J_aload_n (pc := 20) dX6_number_20 rfl ?_
    refine J_getI (pc := 21) dX6_number_21 fX6_63 sh131 rfl (H1.2.2.2.2.1) ?_
    refine J_if_ne (pc := 24) (tgt := 47) dX6_number_24 (by decide) (fun c24 => ?_) (fun c24 => ?_)
    · skip
      have H2 : RT L (sNm lo hi u) h := by
        rw [sNm_e, sRef_f (fun z => c24 (by rw [z]; rfl))]; exact H1
      have f2 : rfm h h := rfm.rf
      refine J_aload_n (pc := 47) dX6_number_47 rfl ?_
      refine J_getI (pc := 48) dX6_number_48 fX6_63 sh131 rfl (H2.2.2.2.2.1) ?_
      refine J_if_ne (pc := 51) (tgt := 61) dX6_number_51 (by decide) (fun c51 => ?_) (fun c51 => ?_)
      · skip
        refine J_iload_n (pc := 61) dX6_number_61 rfl ?_
        refine J_istore_n (pc := 62) dX6_number_62 (by decide) ?_
        refine J_aload_n (pc := 63) dX6_number_63 rfl ?_
        refine K_Vv0 (pc := 64) (Y' := YX6_step) dX6_number_64 lX6_97 mX6_step vX6_step ⟨_, _, rfl⟩ sh131 (Nat.le_of_ble_eq_true rfl) (c6_step (hT.rf f2) H2) ?_
        rintro h3 ⟨hs3, f3⟩
        refine J_iload_n (pc := 67) dX6_number_67 rfl ?_
        refine K_iret (pc := 68) dX6_number_68 rfl ?_
        refine ⟨hs3, f2.tr f3, fun z => absurd z (fun z => c51 (by rw [z]; rfl))⟩
      · skip
        refine J_aload_n (pc := 54) dX6_number_54 rfl ?_
        refine J_getI (pc := 55) dX6_number_55 fX6_82 sh131 rfl (rfl) ?_
        refine J_goto (pc := 58) (tgt := 62) dX6_number_58 (by decide) ?_
        refine J_istore_n (pc := 62) dX6_number_62 (by decide) ?_
        refine J_aload_n (pc := 63) dX6_number_63 rfl ?_
        refine K_Vv0 (pc := 64) (Y' := YX6_step) dX6_number_64 lX6_97 mX6_step vX6_step ⟨_, _, rfl⟩ sh131 (Nat.le_of_ble_eq_true rfl) (c6_step (hT.rf f2) H2) ?_
        rintro h3 ⟨hs3, f3⟩
        refine J_iload_n (pc := 67) dX6_number_67 rfl ?_
        refine K_iret (pc := 68) dX6_number_68 rfl ?_
        refine ⟨hs3, f2.tr f3, fun z => ?_⟩
        have k := (sNm_0 z).2.1
        have e := (H2.2.2.2.2.2.1 z).2.1
        rw [sNm_2] at e
        rw [e k, sVal, if_pos z, sNm_2]
    · skip
      refine J_aload_n (pc := 27) dX6_number_27 rfl ?_
      refine J_getI (pc := 28) dX6_number_28 fX6_82 sh131 rfl (rfl) ?_
      refine J_i2l (pc := 31) dX6_number_31 (rfl) ?_
      refine J_iload_n (pc := 32) dX6_number_32 rfl ?_
      refine J_i2l (pc := 33) dX6_number_33 (rfl) ?_
      refine J_iload_n (pc := 34) dX6_number_34 rfl ?_
      refine J_i2l (pc := 35) dX6_number_35 (rfl) ?_
      refine K_Si3 (pc := 36) (Y' := YX6_in) dX6_number_36 lX6_55 mX6_in sX6_in (Nat.le_of_ble_eq_true rfl) (c6_inI (h 131 15) lo hi rfl rfl rfl) ?_
      rintro x h0 ⟨e0, ⟨rfl, b36⟩ | ⟨rfl, b36⟩⟩ <;> rw [e0] <;> clear e0 h0
      · skip
        refine J_if_ne (pc := 39) (tgt := 47) dX6_number_39 (by decide) (fun _ => ?_) (fun c => absurd c (by decide))
        have z1 : (nm1 u).1 = 0 := (nI0e H1.b).mp c24
        have e15 := (H1.2.2.2.2.2.1 z1).2.1
        rw [nm1_2] at e15
        have k2 : u.2.2.2.1 = 2 := by simpa using (sRef_0 (by decide) z1).2.1
        have H2 : RT L (sNm lo hi u) h := by
          rw [sNm_e, sRef_n (fun z => (of_decide_eq_true z) (by rw [← e15 k2]; exact b36))]; exact H1
        have f2 : rfm h h := rfm.rf
        refine J_aload_n (pc := 47) dX6_number_47 rfl ?_
        refine J_getI (pc := 48) dX6_number_48 fX6_63 sh131 rfl (H2.2.2.2.2.1) ?_
        refine J_if_ne (pc := 51) (tgt := 61) dX6_number_51 (by decide) (fun c51 => ?_) (fun c51 => ?_)
        · skip
          refine J_iload_n (pc := 61) dX6_number_61 rfl ?_
          refine J_istore_n (pc := 62) dX6_number_62 (by decide) ?_
          refine J_aload_n (pc := 63) dX6_number_63 rfl ?_
          refine K_Vv0 (pc := 64) (Y' := YX6_step) dX6_number_64 lX6_97 mX6_step vX6_step ⟨_, _, rfl⟩ sh131 (Nat.le_of_ble_eq_true rfl) (c6_step (hT.rf f2) H2) ?_
          rintro h3 ⟨hs3, f3⟩
          refine J_iload_n (pc := 67) dX6_number_67 rfl ?_
          refine K_iret (pc := 68) dX6_number_68 rfl ?_
          refine ⟨hs3, f2.tr f3, fun z => absurd z (fun z => c51 (by rw [z]; rfl))⟩
        · skip
          refine J_aload_n (pc := 54) dX6_number_54 rfl ?_
          refine J_getI (pc := 55) dX6_number_55 fX6_82 sh131 rfl (rfl) ?_
          refine J_goto (pc := 58) (tgt := 62) dX6_number_58 (by decide) ?_
          refine J_istore_n (pc := 62) dX6_number_62 (by decide) ?_
          refine J_aload_n (pc := 63) dX6_number_63 rfl ?_
          refine K_Vv0 (pc := 64) (Y' := YX6_step) dX6_number_64 lX6_97 mX6_step vX6_step ⟨_, _, rfl⟩ sh131 (Nat.le_of_ble_eq_true rfl) (c6_step (hT.rf f2) H2) ?_
          rintro h3 ⟨hs3, f3⟩
          refine J_iload_n (pc := 67) dX6_number_67 rfl ?_
          refine K_iret (pc := 68) dX6_number_68 rfl ?_
          refine ⟨hs3, f2.tr f3, fun z => ?_⟩
          have k := (sNm_0 z).2.1
          have e := (H2.2.2.2.2.2.1 z).2.1
          rw [sNm_2] at e
          rw [e k, sVal, if_pos z, sNm_2]
      · skip
        refine J_if_ne (pc := 39) (tgt := 47) dX6_number_39 (by decide) (fun c => absurd c (by decide)) (fun _ => ?_)
        refine J_aload_n (pc := 42) dX6_number_42 rfl ?_
        refine J_iconst (pc := 43) (v := nI 3) dX6_number_43 (by decide) ?_
        refine K_Vv1 (pc := 44) (Y' := YX6_fails) dX6_number_44 lX6_93 mX6_fails vX6_fails ⟨_, _, rfl⟩ sh131 (Nat.le_of_ble_eq_true rfl) (c6_fails (c := 3)) ?_
        rintro h1 rfl
        have z1 : (nm1 u).1 = 0 := (nI0e H1.b).mp c24
        have e15 := (H1.2.2.2.2.2.1 z1).2.1
        rw [nm1_2] at e15
        have k2 : u.2.2.2.1 = 2 := by simpa using (sRef_0 (by decide) z1).2.1
        have H2 : RT L (sNm lo hi u) (flH h 3) := by
          have e : sNm lo hi u = sRef true 3 (nm1 u) := by
            rw [sNm_e, decide_eq_true (p := ¬ (lo ≤ u.2.2.2.2 ∧ u.2.2.2.2 ≤ hi))]
            exact fun z => b36 (by rw [e15 k2]; exact z)
          rw [e]
          exact RT_fl H1 (by omega) (by omega)
        have f2 : rfm h (flH h 3) := (rfm.rf).tr flH_rf
        refine J_aload_n (pc := 47) dX6_number_47 rfl ?_
        refine J_getI (pc := 48) dX6_number_48 fX6_63 sh131 rfl (H2.2.2.2.2.1) ?_
        refine J_if_ne (pc := 51) (tgt := 61) dX6_number_51 (by decide) (fun c51 => ?_) (fun c51 => ?_)
        · skip
          refine J_iload_n (pc := 61) dX6_number_61 rfl ?_
          refine J_istore_n (pc := 62) dX6_number_62 (by decide) ?_
          refine J_aload_n (pc := 63) dX6_number_63 rfl ?_
          refine K_Vv0 (pc := 64) (Y' := YX6_step) dX6_number_64 lX6_97 mX6_step vX6_step ⟨_, _, rfl⟩ sh131 (Nat.le_of_ble_eq_true rfl) (c6_step (hT.rf f2) H2) ?_
          rintro h3 ⟨hs3, f3⟩
          refine J_iload_n (pc := 67) dX6_number_67 rfl ?_
          refine K_iret (pc := 68) dX6_number_68 rfl ?_
          refine ⟨hs3, f2.tr f3, fun z => absurd z (fun z => c51 (by rw [z]; rfl))⟩
        · skip
          refine J_aload_n (pc := 54) dX6_number_54 rfl ?_
          refine J_getI (pc := 55) dX6_number_55 fX6_82 sh131 rfl (rfl) ?_
          refine J_goto (pc := 58) (tgt := 62) dX6_number_58 (by decide) ?_
          refine J_istore_n (pc := 62) dX6_number_62 (by decide) ?_
          refine J_aload_n (pc := 63) dX6_number_63 rfl ?_
          refine K_Vv0 (pc := 64) (Y' := YX6_step) dX6_number_64 lX6_97 mX6_step vX6_step ⟨_, _, rfl⟩ sh131 (Nat.le_of_ble_eq_true rfl) (c6_step (hT.rf f2) H2) ?_
          rintro h3 ⟨hs3, f3⟩
          refine J_iload_n (pc := 67) dX6_number_67 rfl ?_
          refine K_iret (pc := 68) dX6_number_68 rfl ?_
          refine ⟨hs3, f2.tr f3, fun z => ?_⟩
          have k := (sNm_0 z).2.1
          have e := (H2.2.2.2.2.2.1 z).2.1
          rw [sNm_2] at e
          rw [e k, sVal, if_pos z, sNm_2]
  · skip
    refine J_aload_n (pc := 7) dX6_number_7 rfl ?_
    refine J_getI (pc := 8) dX6_number_8 fX6_72 sh131 rfl ((hs.2.2.2.2.2.1 ((nI0e hs.b).mp c4)).1) ?_
    refine J_iconst (pc := 11) (v := nI 2) dX6_number_11 (by decide) ?_
    refine J_icmp_eq (pc := 12) (tgt := 20) dX6_number_12 (by decide) (fun c12 => ?_) (fun c12 => ?_)
    · skip
      have H1 : RT L (nm1 u) h := by
        rw [nm1, sRef_n (fun z => (of_decide_eq_true z) ((nIe (by have := hs.2.2.1.2.2.2; rw [nrm_2] at this; omega) (by omega)).mp (by rw [nrm_2] at c12; exact c12)))]; exact hs
      refine J_aload_n (pc := 20) dX6_number_20 rfl ?_
      refine J_getI (pc := 21) dX6_number_21 fX6_63 sh131 rfl (H1.2.2.2.2.1) ?_
      refine J_if_ne (pc := 24) (tgt := 47) dX6_number_24 (by decide) (fun c24 => ?_) (fun c24 => ?_)
      · skip
        have H2 : RT L (sNm lo hi u) h := by
          rw [sNm_e, sRef_f (fun z => c24 (by rw [z]; rfl))]; exact H1
        have f2 : rfm h h := rfm.rf
        refine J_aload_n (pc := 47) dX6_number_47 rfl ?_
        refine J_getI (pc := 48) dX6_number_48 fX6_63 sh131 rfl (H2.2.2.2.2.1) ?_
        refine J_if_ne (pc := 51) (tgt := 61) dX6_number_51 (by decide) (fun c51 => ?_) (fun c51 => ?_)
        · skip
          refine J_iload_n (pc := 61) dX6_number_61 rfl ?_
          refine J_istore_n (pc := 62) dX6_number_62 (by decide) ?_
          refine J_aload_n (pc := 63) dX6_number_63 rfl ?_
          refine K_Vv0 (pc := 64) (Y' := YX6_step) dX6_number_64 lX6_97 mX6_step vX6_step ⟨_, _, rfl⟩ sh131 (Nat.le_of_ble_eq_true rfl) (c6_step (hT.rf f2) H2) ?_
          rintro h3 ⟨hs3, f3⟩
          refine J_iload_n (pc := 67) dX6_number_67 rfl ?_
          refine K_iret (pc := 68) dX6_number_68 rfl ?_
          refine ⟨hs3, f2.tr f3, fun z => absurd z (fun z => c51 (by rw [z]; rfl))⟩
        · skip
          refine J_aload_n (pc := 54) dX6_number_54 rfl ?_
          refine J_getI (pc := 55) dX6_number_55 fX6_82 sh131 rfl (rfl) ?_
          refine J_goto (pc := 58) (tgt := 62) dX6_number_58 (by decide) ?_
          refine J_istore_n (pc := 62) dX6_number_62 (by decide) ?_
          refine J_aload_n (pc := 63) dX6_number_63 rfl ?_
          refine K_Vv0 (pc := 64) (Y' := YX6_step) dX6_number_64 lX6_97 mX6_step vX6_step ⟨_, _, rfl⟩ sh131 (Nat.le_of_ble_eq_true rfl) (c6_step (hT.rf f2) H2) ?_
          rintro h3 ⟨hs3, f3⟩
          refine J_iload_n (pc := 67) dX6_number_67 rfl ?_
          refine K_iret (pc := 68) dX6_number_68 rfl ?_
          refine ⟨hs3, f2.tr f3, fun z => ?_⟩
          have k := (sNm_0 z).2.1
          have e := (H2.2.2.2.2.2.1 z).2.1
          rw [sNm_2] at e
          rw [e k, sVal, if_pos z, sNm_2]
      · skip
        refine J_aload_n (pc := 27) dX6_number_27 rfl ?_
        refine J_getI (pc := 28) dX6_number_28 fX6_82 sh131 rfl (rfl) ?_
        refine J_i2l (pc := 31) dX6_number_31 (rfl) ?_
        refine J_iload_n (pc := 32) dX6_number_32 rfl ?_
        refine J_i2l (pc := 33) dX6_number_33 (rfl) ?_
        refine J_iload_n (pc := 34) dX6_number_34 rfl ?_
        refine J_i2l (pc := 35) dX6_number_35 (rfl) ?_
        refine K_Si3 (pc := 36) (Y' := YX6_in) dX6_number_36 lX6_55 mX6_in sX6_in (Nat.le_of_ble_eq_true rfl) (c6_inI (h 131 15) lo hi rfl rfl rfl) ?_
        rintro x h0 ⟨e0, ⟨rfl, b36⟩ | ⟨rfl, b36⟩⟩ <;> rw [e0] <;> clear e0 h0
        · skip
          refine J_if_ne (pc := 39) (tgt := 47) dX6_number_39 (by decide) (fun _ => ?_) (fun c => absurd c (by decide))
          have z1 : (nm1 u).1 = 0 := (nI0e H1.b).mp c24
          have e15 := (H1.2.2.2.2.2.1 z1).2.1
          rw [nm1_2] at e15
          have k2 : u.2.2.2.1 = 2 := by simpa using (sRef_0 (by decide) z1).2.1
          have H2 : RT L (sNm lo hi u) h := by
            rw [sNm_e, sRef_n (fun z => (of_decide_eq_true z) (by rw [← e15 k2]; exact b36))]; exact H1
          have f2 : rfm h h := rfm.rf
          refine J_aload_n (pc := 47) dX6_number_47 rfl ?_
          refine J_getI (pc := 48) dX6_number_48 fX6_63 sh131 rfl (H2.2.2.2.2.1) ?_
          refine J_if_ne (pc := 51) (tgt := 61) dX6_number_51 (by decide) (fun c51 => ?_) (fun c51 => ?_)
          · skip
            refine J_iload_n (pc := 61) dX6_number_61 rfl ?_
            refine J_istore_n (pc := 62) dX6_number_62 (by decide) ?_
            refine J_aload_n (pc := 63) dX6_number_63 rfl ?_
            refine K_Vv0 (pc := 64) (Y' := YX6_step) dX6_number_64 lX6_97 mX6_step vX6_step ⟨_, _, rfl⟩ sh131 (Nat.le_of_ble_eq_true rfl) (c6_step (hT.rf f2) H2) ?_
            rintro h3 ⟨hs3, f3⟩
            refine J_iload_n (pc := 67) dX6_number_67 rfl ?_
            refine K_iret (pc := 68) dX6_number_68 rfl ?_
            refine ⟨hs3, f2.tr f3, fun z => absurd z (fun z => c51 (by rw [z]; rfl))⟩
          · skip
            refine J_aload_n (pc := 54) dX6_number_54 rfl ?_
            refine J_getI (pc := 55) dX6_number_55 fX6_82 sh131 rfl (rfl) ?_
            refine J_goto (pc := 58) (tgt := 62) dX6_number_58 (by decide) ?_
            refine J_istore_n (pc := 62) dX6_number_62 (by decide) ?_
            refine J_aload_n (pc := 63) dX6_number_63 rfl ?_
            refine K_Vv0 (pc := 64) (Y' := YX6_step) dX6_number_64 lX6_97 mX6_step vX6_step ⟨_, _, rfl⟩ sh131 (Nat.le_of_ble_eq_true rfl) (c6_step (hT.rf f2) H2) ?_
            rintro h3 ⟨hs3, f3⟩
            refine J_iload_n (pc := 67) dX6_number_67 rfl ?_
            refine K_iret (pc := 68) dX6_number_68 rfl ?_
            refine ⟨hs3, f2.tr f3, fun z => ?_⟩
            have k := (sNm_0 z).2.1
            have e := (H2.2.2.2.2.2.1 z).2.1
            rw [sNm_2] at e
            rw [e k, sVal, if_pos z, sNm_2]
        · skip
          refine J_if_ne (pc := 39) (tgt := 47) dX6_number_39 (by decide) (fun c => absurd c (by decide)) (fun _ => ?_)
          refine J_aload_n (pc := 42) dX6_number_42 rfl ?_
          refine J_iconst (pc := 43) (v := nI 3) dX6_number_43 (by decide) ?_
          refine K_Vv1 (pc := 44) (Y' := YX6_fails) dX6_number_44 lX6_93 mX6_fails vX6_fails ⟨_, _, rfl⟩ sh131 (Nat.le_of_ble_eq_true rfl) (c6_fails (c := 3)) ?_
          rintro h1 rfl
          have z1 : (nm1 u).1 = 0 := (nI0e H1.b).mp c24
          have e15 := (H1.2.2.2.2.2.1 z1).2.1
          rw [nm1_2] at e15
          have k2 : u.2.2.2.1 = 2 := by simpa using (sRef_0 (by decide) z1).2.1
          have H2 : RT L (sNm lo hi u) (flH h 3) := by
            have e : sNm lo hi u = sRef true 3 (nm1 u) := by
              rw [sNm_e, decide_eq_true (p := ¬ (lo ≤ u.2.2.2.2 ∧ u.2.2.2.2 ≤ hi))]
              exact fun z => b36 (by rw [e15 k2]; exact z)
            rw [e]
            exact RT_fl H1 (by omega) (by omega)
          have f2 : rfm h (flH h 3) := (rfm.rf).tr flH_rf
          refine J_aload_n (pc := 47) dX6_number_47 rfl ?_
          refine J_getI (pc := 48) dX6_number_48 fX6_63 sh131 rfl (H2.2.2.2.2.1) ?_
          refine J_if_ne (pc := 51) (tgt := 61) dX6_number_51 (by decide) (fun c51 => ?_) (fun c51 => ?_)
          · skip
            refine J_iload_n (pc := 61) dX6_number_61 rfl ?_
            refine J_istore_n (pc := 62) dX6_number_62 (by decide) ?_
            refine J_aload_n (pc := 63) dX6_number_63 rfl ?_
            refine K_Vv0 (pc := 64) (Y' := YX6_step) dX6_number_64 lX6_97 mX6_step vX6_step ⟨_, _, rfl⟩ sh131 (Nat.le_of_ble_eq_true rfl) (c6_step (hT.rf f2) H2) ?_
            rintro h3 ⟨hs3, f3⟩
            refine J_iload_n (pc := 67) dX6_number_67 rfl ?_
            refine K_iret (pc := 68) dX6_number_68 rfl ?_
            refine ⟨hs3, f2.tr f3, fun z => absurd z (fun z => c51 (by rw [z]; rfl))⟩
          · skip
            refine J_aload_n (pc := 54) dX6_number_54 rfl ?_
            refine J_getI (pc := 55) dX6_number_55 fX6_82 sh131 rfl (rfl) ?_
            refine J_goto (pc := 58) (tgt := 62) dX6_number_58 (by decide) ?_
            refine J_istore_n (pc := 62) dX6_number_62 (by decide) ?_
            refine J_aload_n (pc := 63) dX6_number_63 rfl ?_
            refine K_Vv0 (pc := 64) (Y' := YX6_step) dX6_number_64 lX6_97 mX6_step vX6_step ⟨_, _, rfl⟩ sh131 (Nat.le_of_ble_eq_true rfl) (c6_step (hT.rf f2) H2) ?_
            rintro h3 ⟨hs3, f3⟩
            refine J_iload_n (pc := 67) dX6_number_67 rfl ?_
            refine K_iret (pc := 68) dX6_number_68 rfl ?_
            refine ⟨hs3, f2.tr f3, fun z => ?_⟩
            have k := (sNm_0 z).2.1
            have e := (H2.2.2.2.2.2.1 z).2.1
            rw [sNm_2] at e
            rw [e k, sVal, if_pos z, sNm_2]
    · skip
      refine J_aload_n (pc := 15) dX6_number_15 rfl ?_
      refine J_iconst (pc := 16) (v := nI 2) dX6_number_16 (by decide) ?_
      refine K_Vv1 (pc := 17) (Y' := YX6_fails) dX6_number_17 lX6_93 mX6_fails vX6_fails ⟨_, _, rfl⟩ sh131 (Nat.le_of_ble_eq_true rfl) (c6_fails (c := 2)) ?_
      rintro h1 rfl
      have H1 : RT L (nm1 u) (flH h 2) := by
        have e : nm1 u = sRef true 2 (nrm u) := by
          rw [nm1, decide_eq_true (p := u.2.2.2.1 ≠ 2)]
          exact fun z => c12 (by rw [nrm_2]; exact congrArg nI z)
        rw [e]
        exact RT_fl hs (by omega) (by omega)
      refine J_aload_n (pc := 20) dX6_number_20 rfl ?_
      refine J_getI (pc := 21) dX6_number_21 fX6_63 sh131 rfl (H1.2.2.2.2.1) ?_
      refine J_if_ne (pc := 24) (tgt := 47) dX6_number_24 (by decide) (fun c24 => ?_) (fun c24 => ?_)
      · skip
        have H2 : RT L (sNm lo hi u) (flH h 2) := by
          rw [sNm_e, sRef_f (fun z => c24 (by rw [z]; rfl))]; exact H1
        have f2 : rfm h (flH h 2) := flH_rf
        refine J_aload_n (pc := 47) dX6_number_47 rfl ?_
        refine J_getI (pc := 48) dX6_number_48 fX6_63 sh131 rfl (H2.2.2.2.2.1) ?_
        refine J_if_ne (pc := 51) (tgt := 61) dX6_number_51 (by decide) (fun c51 => ?_) (fun c51 => ?_)
        · skip
          refine J_iload_n (pc := 61) dX6_number_61 rfl ?_
          refine J_istore_n (pc := 62) dX6_number_62 (by decide) ?_
          refine J_aload_n (pc := 63) dX6_number_63 rfl ?_
          refine K_Vv0 (pc := 64) (Y' := YX6_step) dX6_number_64 lX6_97 mX6_step vX6_step ⟨_, _, rfl⟩ sh131 (Nat.le_of_ble_eq_true rfl) (c6_step (hT.rf f2) H2) ?_
          rintro h3 ⟨hs3, f3⟩
          refine J_iload_n (pc := 67) dX6_number_67 rfl ?_
          refine K_iret (pc := 68) dX6_number_68 rfl ?_
          refine ⟨hs3, f2.tr f3, fun z => absurd z (fun z => c51 (by rw [z]; rfl))⟩
        · skip
          refine J_aload_n (pc := 54) dX6_number_54 rfl ?_
          refine J_getI (pc := 55) dX6_number_55 fX6_82 sh131 rfl (rfl) ?_
          refine J_goto (pc := 58) (tgt := 62) dX6_number_58 (by decide) ?_
          refine J_istore_n (pc := 62) dX6_number_62 (by decide) ?_
          refine J_aload_n (pc := 63) dX6_number_63 rfl ?_
          refine K_Vv0 (pc := 64) (Y' := YX6_step) dX6_number_64 lX6_97 mX6_step vX6_step ⟨_, _, rfl⟩ sh131 (Nat.le_of_ble_eq_true rfl) (c6_step (hT.rf f2) H2) ?_
          rintro h3 ⟨hs3, f3⟩
          refine J_iload_n (pc := 67) dX6_number_67 rfl ?_
          refine K_iret (pc := 68) dX6_number_68 rfl ?_
          refine ⟨hs3, f2.tr f3, fun z => ?_⟩
          have k := (sNm_0 z).2.1
          have e := (H2.2.2.2.2.2.1 z).2.1
          rw [sNm_2] at e
          rw [e k, sVal, if_pos z, sNm_2]
      · skip
        refine J_aload_n (pc := 27) dX6_number_27 rfl ?_
        refine J_getI (pc := 28) dX6_number_28 fX6_82 sh131 rfl (rfl) ?_
        refine J_i2l (pc := 31) dX6_number_31 (rfl) ?_
        refine J_iload_n (pc := 32) dX6_number_32 rfl ?_
        refine J_i2l (pc := 33) dX6_number_33 (rfl) ?_
        refine J_iload_n (pc := 34) dX6_number_34 rfl ?_
        refine J_i2l (pc := 35) dX6_number_35 (rfl) ?_
        refine K_Si3 (pc := 36) (Y' := YX6_in) dX6_number_36 lX6_55 mX6_in sX6_in (Nat.le_of_ble_eq_true rfl) (c6_inI ((flH h 2) 131 15) lo hi rfl rfl rfl) ?_
        rintro x h0 ⟨e0, ⟨rfl, b36⟩ | ⟨rfl, b36⟩⟩ <;> rw [e0] <;> clear e0 h0
        · skip
          refine J_if_ne (pc := 39) (tgt := 47) dX6_number_39 (by decide) (fun _ => ?_) (fun c => absurd c (by decide))
          have z1 : (nm1 u).1 = 0 := (nI0e H1.b).mp c24
          have e15 := (H1.2.2.2.2.2.1 z1).2.1
          rw [nm1_2] at e15
          have k2 : u.2.2.2.1 = 2 := by simpa using (sRef_0 (by decide) z1).2.1
          have H2 : RT L (sNm lo hi u) (flH h 2) := by
            rw [sNm_e, sRef_n (fun z => (of_decide_eq_true z) (by rw [← e15 k2]; exact b36))]; exact H1
          have f2 : rfm h (flH h 2) := flH_rf
          refine J_aload_n (pc := 47) dX6_number_47 rfl ?_
          refine J_getI (pc := 48) dX6_number_48 fX6_63 sh131 rfl (H2.2.2.2.2.1) ?_
          refine J_if_ne (pc := 51) (tgt := 61) dX6_number_51 (by decide) (fun c51 => ?_) (fun c51 => ?_)
          · skip
            refine J_iload_n (pc := 61) dX6_number_61 rfl ?_
            refine J_istore_n (pc := 62) dX6_number_62 (by decide) ?_
            refine J_aload_n (pc := 63) dX6_number_63 rfl ?_
            refine K_Vv0 (pc := 64) (Y' := YX6_step) dX6_number_64 lX6_97 mX6_step vX6_step ⟨_, _, rfl⟩ sh131 (Nat.le_of_ble_eq_true rfl) (c6_step (hT.rf f2) H2) ?_
            rintro h3 ⟨hs3, f3⟩
            refine J_iload_n (pc := 67) dX6_number_67 rfl ?_
            refine K_iret (pc := 68) dX6_number_68 rfl ?_
            refine ⟨hs3, f2.tr f3, fun z => absurd z (fun z => c51 (by rw [z]; rfl))⟩
          · skip
            refine J_aload_n (pc := 54) dX6_number_54 rfl ?_
            refine J_getI (pc := 55) dX6_number_55 fX6_82 sh131 rfl (rfl) ?_
            refine J_goto (pc := 58) (tgt := 62) dX6_number_58 (by decide) ?_
            refine J_istore_n (pc := 62) dX6_number_62 (by decide) ?_
            refine J_aload_n (pc := 63) dX6_number_63 rfl ?_
            refine K_Vv0 (pc := 64) (Y' := YX6_step) dX6_number_64 lX6_97 mX6_step vX6_step ⟨_, _, rfl⟩ sh131 (Nat.le_of_ble_eq_true rfl) (c6_step (hT.rf f2) H2) ?_
            rintro h3 ⟨hs3, f3⟩
            refine J_iload_n (pc := 67) dX6_number_67 rfl ?_
            refine K_iret (pc := 68) dX6_number_68 rfl ?_
            refine ⟨hs3, f2.tr f3, fun z => ?_⟩
            have k := (sNm_0 z).2.1
            have e := (H2.2.2.2.2.2.1 z).2.1
            rw [sNm_2] at e
            rw [e k, sVal, if_pos z, sNm_2]
        · skip
          refine J_if_ne (pc := 39) (tgt := 47) dX6_number_39 (by decide) (fun c => absurd c (by decide)) (fun _ => ?_)
          refine J_aload_n (pc := 42) dX6_number_42 rfl ?_
          refine J_iconst (pc := 43) (v := nI 3) dX6_number_43 (by decide) ?_
          refine K_Vv1 (pc := 44) (Y' := YX6_fails) dX6_number_44 lX6_93 mX6_fails vX6_fails ⟨_, _, rfl⟩ sh131 (Nat.le_of_ble_eq_true rfl) (c6_fails (c := 3)) ?_
          rintro h1 rfl
          have z1 : (nm1 u).1 = 0 := (nI0e H1.b).mp c24
          have e15 := (H1.2.2.2.2.2.1 z1).2.1
          rw [nm1_2] at e15
          have k2 : u.2.2.2.1 = 2 := by simpa using (sRef_0 (by decide) z1).2.1
          have H2 : RT L (sNm lo hi u) (flH (flH h 2) 3) := by
            have e : sNm lo hi u = sRef true 3 (nm1 u) := by
              rw [sNm_e, decide_eq_true (p := ¬ (lo ≤ u.2.2.2.2 ∧ u.2.2.2.2 ≤ hi))]
              exact fun z => b36 (by rw [e15 k2]; exact z)
            rw [e]
            exact RT_fl H1 (by omega) (by omega)
          have f2 : rfm h (flH (flH h 2) 3) := (flH_rf).tr flH_rf
          refine J_aload_n (pc := 47) dX6_number_47 rfl ?_
          refine J_getI (pc := 48) dX6_number_48 fX6_63 sh131 rfl (H2.2.2.2.2.1) ?_
          refine J_if_ne (pc := 51) (tgt := 61) dX6_number_51 (by decide) (fun c51 => ?_) (fun c51 => ?_)
          · skip
            refine J_iload_n (pc := 61) dX6_number_61 rfl ?_
            refine J_istore_n (pc := 62) dX6_number_62 (by decide) ?_
            refine J_aload_n (pc := 63) dX6_number_63 rfl ?_
            refine K_Vv0 (pc := 64) (Y' := YX6_step) dX6_number_64 lX6_97 mX6_step vX6_step ⟨_, _, rfl⟩ sh131 (Nat.le_of_ble_eq_true rfl) (c6_step (hT.rf f2) H2) ?_
            rintro h3 ⟨hs3, f3⟩
            refine J_iload_n (pc := 67) dX6_number_67 rfl ?_
            refine K_iret (pc := 68) dX6_number_68 rfl ?_
            refine ⟨hs3, f2.tr f3, fun z => absurd z (fun z => c51 (by rw [z]; rfl))⟩
          · skip
            refine J_aload_n (pc := 54) dX6_number_54 rfl ?_
            refine J_getI (pc := 55) dX6_number_55 fX6_82 sh131 rfl (rfl) ?_
            refine J_goto (pc := 58) (tgt := 62) dX6_number_58 (by decide) ?_
            refine J_istore_n (pc := 62) dX6_number_62 (by decide) ?_
            refine J_aload_n (pc := 63) dX6_number_63 rfl ?_
            refine K_Vv0 (pc := 64) (Y' := YX6_step) dX6_number_64 lX6_97 mX6_step vX6_step ⟨_, _, rfl⟩ sh131 (Nat.le_of_ble_eq_true rfl) (c6_step (hT.rf f2) H2) ?_
            rintro h3 ⟨hs3, f3⟩
            refine J_iload_n (pc := 67) dX6_number_67 rfl ?_
            refine K_iret (pc := 68) dX6_number_68 rfl ?_
            refine ⟨hs3, f2.tr f3, fun z => ?_⟩
            have k := (sNm_0 z).2.1
            have e := (H2.2.2.2.2.2.1 z).2.1
            rw [sNm_2] at e
            rw [e k, sVal, if_pos z, sNm_2]
