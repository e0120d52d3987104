def MN (L : Nat) (s s' : sS) : Prop := bT L s'.2 ∧ s.2.2.1 ≤ s'.2.2.1
theorem MN.tr {L : Nat} {a b c : sS} (x : MN L a b) (y : MN L b c) : MN L a c := ⟨y.1, Nat.le_trans x.2 y.2⟩
theorem MN.eq {L : Nat} {a b c : sS} (x : MN L a b) (e : c.2 = b.2) : MN L a c := by
  unfold MN
  rw [e]; exact x
theorem MN.adv {L : Nat} {t : Nat → Int32} {a b : sS} (x : MN L a b) (hL : L ≤ 160) : MN L a (sAdv L t b) := by
  refine x.tr ?_
  by_cases z : b.1 = 0
  · rw [sAdv_g z]
    have q := tk_b (t := t) x.1.2.1 hL
    exact ⟨q.1, Nat.le_trans q.2 q.1.1⟩
  · rw [sAdv_f z]; exact ⟨x.1, Nat.le_refl _⟩
theorem MN.num {L : Nat} {t : Nat → Int32} {lo hi : Int32} {a b : sS} (x : MN L a b) (hL : L ≤ 160) : MN L a (sNum L t lo hi b) := (x.adv (t := t) hL).eq sNm_2
theorem MN.sem {L : Nat} {t : Nat → Int32} {a b : sS} (x : MN L a b) (hL : L ≤ 160) : MN L a (sSem L t b) := (x.adv (t := t) hL).eq sExp_2
theorem MN.ref {L c : Nat} {q : Bool} {a b : sS} (x : MN L a b) : MN L a (sRef q c b) := x.eq sRef_2
theorem MN_sky {L : Nat} {t : Nat → Int32} (hL : L ≤ 160) : ∀ (m : Nat) {a s : sS} {D : sD}, MN L a s → MN L a (skF L t m s D).1
  | 0, a, s, D, x => x
  | m + 1, a, s, D, x => by
    rw [skF]
    by_cases z : s.1 = 0
    · rw [if_pos z]
      by_cases z3 : (sAdv L t s).2.2.2.1 = 3
      · rw [if_pos z3]; exact x.adv hL
      · rw [if_neg z3]
        exact MN_sky hL m (((x.adv (t := t) hL).eq sExp_2).ref.eq sWea_2)
    · rw [if_neg z]; exact x
theorem MN_line {L : Nat} {t : Nat → Int32} {s : sS} {D : sD} (hL : L ≤ 160) (hb : bT L s.2) : MN L s (lLine L t s D).1 := by
  have x : MN L s (sExp 1 s) := MN.eq (b := s) ⟨hb, Nat.le_refl _⟩ sExp_2
  rw [lLine]
  by_cases z : (sExp 1 s).1 = 0
  · rw [if_pos z, lWord]
    by_cases z4 : wd t s.2 < 4
    · rw [if_pos z4]; exact ((x.ref.num hL).num hL).sem hL
    · rw [if_neg z4]
      by_cases z8 : wd t s.2 = 8
      · rw [if_pos z8]; exact (((((((x.ref.num hL).num hL).ref).adv hL).eq sWea_2).num hL).num hL).sem hL
      · rw [if_neg z8]
        by_cases z9 : wd t s.2 = 9
        · rw [if_pos z9]; exact ((((x.ref.num hL).num hL).num hL).num hL).sem hL
        · rw [if_neg z9]
          by_cases z10 : wd t s.2 = 10
          · rw [if_pos z10]; exact (x.ref.num hL).sem hL
          · rw [if_neg z10]
            by_cases z11 : wd t s.2 = 11
            · rw [if_pos z11]; exact MN_sky hL 9 x.ref
            · rw [if_neg z11]; exact MN.eq x rfl
  · rw [if_neg z]; exact x
theorem ln_next {L k : Nat} {t : Nat → Int32} {s : sS} {D : sD} (hL : L ≤ 160) (hb : bT L s.2) (hk : s.1 = 0 → k ≤ s.2.1) (h : s.2.2.2.1 ≠ 0 ∧ s.1 = 0) : bT L (sAdv L t (lLine L t s D).1).2 ∧ ((sAdv L t (lLine L t s D).1).1 = 0 → k + 1 ≤ (sAdv L t (lLine L t s D).1).2.1) := by
  have m := MN_line (t := t) (D := D) hL hb
  refine ⟨(m.adv (t := t) hL).1, fun z => ?_⟩
  have z1 := sAdv_0 z
  rw [sAdv_g z1]
  have q := (tk_b (t := t) m.1.2.1 hL).2
  have := hb.2.2.1 h.1
  have := hk h.2
  have := m.2
  show k + 1 ≤ (tk L t (lLine L t s D).1.2.2.1).1
  omega
theorem tx_nrm {L : Nat} {t : Nat → Int32} (hL : L ≤ 160) : ∀ (m k : Nat) {s : sS} {D : sD}, k + m = 160 → bT L s.2 → (s.1 = 0 → k ≤ s.2.1) → nrm (txF L t m k s D).1 = (txF L t m k s D).1
  | 0, k, s, D, hm, hb, hk => by
    show nrm s = s
    by_cases z : s.1 = 0
    · refine nrm_g (fun q => ?_)
      have := hb.2.2.1 (by omega)
      have := hb.2.1
      have := hk z
      omega
    · exact nrm_f z
  | m + 1, k, s, D, hm, hb, hk => by
    rw [txF]
    by_cases z : s.2.2.2.1 ≠ 0 ∧ s.1 = 0
    · rw [if_pos z]
      have q := ln_next (t := t) (D := D) hL hb hk z
      exact tx_nrm hL m (k + 1) (by omega) q.1 q.2
    · rw [if_neg z]
      show nrm s = s
      by_cases z1 : s.1 = 0
      · exact nrm_g (fun q => z ⟨by omega, z1⟩)
      · exact nrm_f z1
theorem tx_f {L : Nat} {t : Nat → Int32} {m k : Nat} {s : sS} {D : sD} (h : s.1 ≠ 0) : txF L t m k s D = (s, D, k) := by
  cases m with
  | zero => rfl
  | succ m => rw [txF, if_neg (fun z => h z.2)]
theorem tx_nf {L : Nat} {t : Nat → Int32} {m k : Nat} {s : sS} {D : sD} (h : (nrm s).1 ≠ 0) : nrm (txF L t m k s D).1 = nrm s := by
  by_cases z : s.1 = 0
  · have k4 : s.2.2.2.1 = 4 := Classical.byContradiction (fun q => h (by rw [nrm_g q]; exact z))
    cases m with
    | zero => rfl
    | succ m =>
      have eL : lLine L t s D = (nrm s, D) := by
        have se : sExp 1 s = nrm s := by rw [sExp_e, sRef_f h]
        rw [lLine, se, if_neg h]
      rw [txF, if_pos ⟨by omega, z⟩, eL, sAdv_f h, tx_f h, nrm_n]
  · rw [tx_f z]
def zP (h : jH) (k : Nat) : jH := fun b j => if b = 134 ∧ j < k then 0 else h b j
theorem zP_0 {h : jH} : zP h 0 = h := by
  funext b j
  exact if_neg (by omega)
theorem zP_s {h : jH} {k : Nat} : j_up (zP h k) 134 k (nI 0) = zP h (k + 1) := by
  funext b j
  by_cases z : b = 134 ∧ j = k
  · rw [z.1, z.2, j_up_s, zP, if_pos (by omega)]; rfl
  · rw [j_up_o (by omega), zP, zP]
    by_cases q : b = 134 ∧ j < k
    · rw [if_pos q, if_pos (by omega)]
    · rw [if_neg q, if_neg (by omega)]
theorem zP_o {h : jH} {k b j : Nat} (hb : b ≠ 134) : zP h k b j = h b j := if_neg (by omega)
theorem zP_i {h : jH} {k j : Nat} (hb : j < k) : zP h k 134 j = 0 := if_pos ⟨rfl, hb⟩
set_option maxHeartbeats 1000000 in
theorem l6_zero {g : jG} {d : Nat} {h : jH} {Q : kQ}  (kx : K g (d + 7) YX6_text (zP h 69) 48 [(0, .ref 131), (1, .int (nI 0)), (2, .int (nI 69))] [] Q) : ∀ (mm k : Nat) , k ≤ 69 → 69 < k + mm → K g (d + 7) YX6_text (zP h k) 29 [(0, .ref 131), (1, .int (nI 0)), (2, .int (nI k))] [] Q := by
  intro mm
  induction mm with
  | zero => intro k  hk1 hk2 ; omega
  | succ mm ih =>
    intro k  hk1 hk2 
    refine J_iload_n (pc := 29) dX6_text_29 rfl ?_
    refine J_bipush (pc := 30) (v := nI 69) dX6_text_30 (by decide) ?_
    refine J_icmp_ge (pc := 32) (tgt := 48) dX6_text_32 (by decide) (fun c32 => ?_) (fun c32 => ?_)
    · skip
      have q32 : 69 ≤ k := (nI_leI (by omega) (by omega)).mp c32
      have e_k : k = 69 := by omega
      refine J_ls (ls' := [(0, .ref 131), (1, .int (nI 0)), (2, .int (nI k))]) ⟨rfl, rfl, rfl, trivial⟩ ?_
      rw [e_k]
      exact kx
    · skip
      have q32 : k < 69 := Nat.lt_of_not_le (fun z => c32 ((nI_leI (by omega) (by omega)).mpr z))
      refine J_aload_n (pc := 35) dX6_text_35 rfl ?_
      refine J_getR (pc := 36) dX6_text_36 fX6_16 sh131 rfl ?_
      refine J_iload_n (pc := 39) dX6_text_39 rfl ?_
      refine J_iconst (pc := 40) (v := nI 0) dX6_text_40 (by decide) ?_
      refine J_iast (pc := 41) dX6_text_41 sh134 (rfl) (by omega) (by decide) ?_
      rw [zP_s]
      refine J_iinc (pc := 42) dX6_text_42 rfl (v := nI (k + 1)) (by exact nI_add _ _) (by decide) ?_
      refine J_goto (pc := 45) (tgt := 29) dX6_text_45 (by decide) ?_
      exact J_ls (ls' := [(0, .ref 131), (1, .int (nI 0)), (2, .int (nI (k + 1)))]) ⟨rfl, rfl, rfl, trivial⟩ (ih (k + 1)  (by omega) (by omega) )
set_option maxHeartbeats 1000000 in
theorem l6_back {g : jG} {d : Nat} {h : jH} {Q : kQ} {P : Nat → Int32} {x : Int32} (hG : RG P h) (kx : K g (d + 7) YX6_text (mset h 0 (cpP 69 P (pg h 0))) 154 [(0, .ref 131), (1, .int x), (2, .int (nI 69))] [] Q) : ∀ (mm k : Nat) , k ≤ 69 → 69 < k + mm → K g (d + 7) YX6_text (mset h 0 (cpP k P (pg h 0))) 130 [(0, .ref 131), (1, .int x), (2, .int (nI k))] [] Q := by
  intro mm
  induction mm with
  | zero => intro k  hk1 hk2 ; omega
  | succ mm ih =>
    intro k  hk1 hk2 
    refine J_iload_n (pc := 130) dX6_text_130 rfl ?_
    refine J_bipush (pc := 131) (v := nI 69) dX6_text_131 (by decide) ?_
    refine J_icmp_ge (pc := 133) (tgt := 154) dX6_text_133 (by decide) (fun c133 => ?_) (fun c133 => ?_)
    · skip
      have q133 : 69 ≤ k := (nI_leI (by omega) (by omega)).mp c133
      have e_k : k = 69 := by omega
      refine J_ls (ls' := [(0, .ref 131), (1, .int x), (2, .int (nI k))]) ⟨rfl, rfl, rfl, trivial⟩ ?_
      rw [e_k]
      exact kx
    · skip
      have q133 : k < 69 := Nat.lt_of_not_le (fun z => c133 ((nI_leI (by omega) (by omega)).mpr z))
      refine J_aload_n (pc := 136) dX6_text_136 rfl ?_
      refine J_getR (pc := 137) dX6_text_137 fX6_7 sh131 rfl ?_
      refine J_iload_n (pc := 140) dX6_text_140 rfl ?_
      refine J_aload_n (pc := 141) dX6_text_141 rfl ?_
      refine J_getR (pc := 142) dX6_text_142 fX6_16 sh131 rfl ?_
      refine J_iload_n (pc := 145) dX6_text_145 rfl ?_
      refine J_iald (pc := 146) dX6_text_146 sh134 (rfl) (by omega) ((congrFun (mset_ne (by decide)) k).trans (hG k q133)) (by decide) ?_
      refine J_iast (pc := 147) dX6_text_147 sh132 (rfl) (by omega) (by decide) ?_
      rw [mset_up (o := 0) (i := k) k (by omega) (by omega), cpP_s]
      refine J_iinc (pc := 148) dX6_text_148 rfl (v := nI (k + 1)) (by exact nI_add _ _) (by decide) ?_
      refine J_goto (pc := 151) (tgt := 130) dX6_text_151 (by decide) ?_
      exact J_ls (ls' := [(0, .ref 131), (1, .int x), (2, .int (nI (k + 1)))]) ⟨rfl, rfl, rfl, trivial⟩ (ih (k + 1)  (by omega) (by omega) )
set_option maxHeartbeats 1000000 in
theorem l6_txt {g : jG} {d : Nat} {L : Nat} {t : Nat → Int32} : ∀ (m k : Nat) (s : sS) (D : sD) (h h0 : jH) (Q : kQ), k + m = 160 → RP L t h → RW h → RT L (nrm s) h → ((nrm s).1 = 0 → RD D h ∧ IG D) → bT L s.2 → (s.1 = 0 → k ≤ s.2.1) → qf h0 h → (∀ h' x, RT L (nrm (txF L t m k s D).1) h' → ((nrm (txF L t m k s D).1).1 = 0 → (RD (txF L t m k s D).2.1 h' ∧ IG (txF L t m k s D).2.1) ∧ x = nI (txF L t m k s D).2.2) → qf h0 h' → K g (d + 7) YX6_text h' 76 [(0, .ref 131), (1, .int x)] [] Q) → K g (d + 7) YX6_text h 52 [(0, .ref 131), (1, .int (nI k))] [] Q
  | 0, k, s, D, h, h0, Q, hm, hT, hW, hs, hD, hb, hk, q0, kx => by
    refine J_aload_n (pc := 52) dX6_text_52 rfl ?_
    refine J_getI (pc := 53) dX6_text_53 fX6_63 sh131 rfl (hs.2.2.2.2.1) ?_
    refine J_if_ne (pc := 56) (tgt := 76) dX6_text_56 (by decide) (fun c56 => ?_) (fun c56 => ?_)
    · skip
      refine J_ls (ls' := [(0, .ref 131), (1, .int (nI k))]) ⟨rfl, rfl, trivial⟩ ?_
      have zn : (nrm s).1 ≠ 0 := fun z => c56 (by rw [z]; rfl)
      refine kx h (nI k) (by rw [tx_nf zn]; exact hs) (fun z => absurd z (by rw [tx_nf zn]; exact zn)) q0
    · skip
      refine J_aload_n (pc := 59) dX6_text_59 rfl ?_
      refine J_getI (pc := 60) dX6_text_60 fX6_72 sh131 rfl ((hs.2.2.2.2.2.1 ((nI0e hs.b).mp c56)).1) ?_
      refine J_if_eq (pc := 63) (tgt := 76) dX6_text_63 (by decide) (fun c63 => ?_) (fun c63 => ?_)
      · skip
        refine J_ls (ls' := [(0, .ref 131), (1, .int (nI k))]) ⟨rfl, rfl, trivial⟩ ?_
        exact kx h (nI k) hs (fun z => ⟨hD z, rfl⟩) q0
      · skip
        have zn : (nrm s).1 = 0 := (nI0e hs.b).mp c56
        rw [nrm_2] at c63
        have kne : s.2.2.2.1 ≠ 0 := fun z => c63 (by rw [z]; rfl)
        have := hb.2.2.1 kne
        have := hb.2.1
        have := hk (nrm_0 zn).1
        have := hT.2.1
        omega
  | m + 1, k, s, D, h, h0, Q, hm, hT, hW, hs, hD, hb, hk, q0, kx => by
    refine J_aload_n (pc := 52) dX6_text_52 rfl ?_
    refine J_getI (pc := 53) dX6_text_53 fX6_63 sh131 rfl (hs.2.2.2.2.1) ?_
    refine J_if_ne (pc := 56) (tgt := 76) dX6_text_56 (by decide) (fun c56 => ?_) (fun c56 => ?_)
    · skip
      refine J_ls (ls' := [(0, .ref 131), (1, .int (nI k))]) ⟨rfl, rfl, trivial⟩ ?_
      have zn : (nrm s).1 ≠ 0 := fun z => c56 (by rw [z]; rfl)
      refine kx h (nI k) (by rw [tx_nf zn]; exact hs) (fun z => absurd z (by rw [tx_nf zn]; exact zn)) q0
    · skip
      refine J_aload_n (pc := 59) dX6_text_59 rfl ?_
      refine J_getI (pc := 60) dX6_text_60 fX6_72 sh131 rfl ((hs.2.2.2.2.2.1 ((nI0e hs.b).mp c56)).1) ?_
      refine J_if_eq (pc := 63) (tgt := 76) dX6_text_63 (by decide) (fun c63 => ?_) (fun c63 => ?_)
      · skip
        refine J_ls (ls' := [(0, .ref 131), (1, .int (nI k))]) ⟨rfl, rfl, trivial⟩ ?_
        have zn : (nrm s).1 = 0 := (nI0e hs.b).mp c56
        have k0 : s.2.2.2.1 = 0 := by
          have kb := hs.2.2.1.2.2.2
          rw [nrm_2] at kb c63
          exact (nI0e (by omega)).mp c63
        have et : txF L t (m + 1) k s D = (s, D, k) := by rw [txF, if_neg (fun z => z.1 k0)]
        rw [et] at kx
        exact kx h (nI k) hs (fun z => ⟨hD z, rfl⟩) q0
      · skip
        have zn : (nrm s).1 = 0 := (nI0e hs.b).mp c56
        rw [nrm_2] at c63
        have kne : s.2.2.2.1 ≠ 0 ∧ s.1 = 0 := ⟨fun z => c63 (by rw [z]; rfl), (nrm_0 zn).1⟩
        refine J_aload_n (pc := 66) dX6_text_66 rfl ?_
        refine K_Vv0 (pc := 67) (Y' := YX6_readLine) dX6_text_67 lX6_142 mX6_readLine vX6_readLine ⟨_, _, rfl⟩ sh131 (Nat.le_of_ble_eq_true rfl) (c6_readLine hT hW hs zn (hD zn).1 (hD zn).2) ?_
        rintro h1 ⟨hs1, q1, hd1⟩
        refine J_iinc (pc := 70) dX6_text_70 rfl (v := nI (k + 1)) (by exact nI_add _ _) (by decide) ?_
        refine J_goto (pc := 73) (tgt := 52) dX6_text_73 (by decide) ?_
        refine J_ls (ls' := [(0, .ref 131), (1, .int (nI (k + 1)))]) ⟨rfl, rfl, trivial⟩ ?_
        have qn := ln_next (t := t) (D := D) hT.2.1 hb hk kne
        refine l6_txt m (k + 1) _ (lLine L t s D).2 _ _ _ (by omega) (hT.qf q1) (hW.qf q1) hs1 (fun z => ?_) qn.1 qn.2 (q0.tr q1) ?_
        · have z1 := sAdv_0 (nrm_0 z).1
          exact ⟨hd1 z1, IG_line z1 (hD zn).2⟩
        · have kx' := kx
          rw [txF, if_pos kne] at kx'
          exact kx'
set_option maxHeartbeats 1000000 in
theorem c6_text {g : jG} {d : Nat} {h : jH} (hR : MR h) (hB : ∀ i, i < ix (h 131 8) → nI 0 ≤ h 135 i) : Mi g (d + 7) YX6_text h [.ref 131] (fun r h' => r = (oText h).1 ∧ sameP (oText h).2 h' ∧ lo h h') := by
  refine M.of (by decide) rfl (Nat.le_of_ble_eq_true rfl) ?_
  obtain ⟨v1, v2, vk, v3, vs, vh, vb, vc, vl⟩ := id hR
  have hT : RP (ix (h 131 8)) (h 135) h := ⟨v3.1, by have := v3.2; omega, fun i hi => ⟨rfl, hB i hi⟩⟩
  have hW : RW h := ⟨vc, vl⟩
  obtain ⟨L, eL⟩ : ∃ L, ix (h 131 8) = L := ⟨_, rfl⟩
  obtain ⟨t, et⟩ : ∃ t, h 135 = t := ⟨_, rfl⟩
  have eO : oText h = iteR ((txE L t).1 = 0) (nI (tx L t).2.2, tx1 h (tx L t).2.1.1 (tx L t).2.1.2.1) (-10 - nI (txE L t).2.1, tx0 h (txE L t).1) := by rw [← eL, ← et]; rfl
  rw [eL, et] at hT
  rw [eO]
  have hL := hT.2.1
  refine J_aload_n (pc := 0) dX6_text_0 rfl ?_
  refine J_iconst (pc := 1) (v := nI 0) dX6_text_1 (by decide) ?_
  refine J_putI (pc := 2) dX6_text_2 fX6_63 sh131 rfl ?_
  refine J_aload_n (pc := 5) dX6_text_5 rfl ?_
  refine J_iconst (pc := 6) (v := nI 0) dX6_text_6 (by decide) ?_
  refine J_putI (pc := 7) dX6_text_7 fX6_75 sh131 rfl ?_
  refine J_aload_n (pc := 10) dX6_text_10 rfl ?_
  refine J_iconst (pc := 11) (v := nI 0) dX6_text_11 (by decide) ?_
  refine J_putI (pc := 12) dX6_text_12 fX6_122 sh131 rfl ?_
  refine J_aload_n (pc := 15) dX6_text_15 rfl ?_
  refine J_iconst (pc := 16) (v := nI 0) dX6_text_16 (by decide) ?_
  refine J_putI (pc := 17) dX6_text_17 fX6_136 sh131 rfl ?_
  refine J_aload_n (pc := 20) dX6_text_20 rfl ?_
  refine J_iconst (pc := 21) (v := -1) dX6_text_21 (by decide) ?_
  refine J_putI (pc := 22) dX6_text_22 fX6_104 sh131 rfl ?_
  refine J_iconst (pc := 25) (v := nI 0) dX6_text_25 (by decide) ?_
  refine J_istore_n (pc := 26) dX6_text_26 (by decide) ?_
  refine J_iconst (pc := 27) (v := nI 0) dX6_text_27 (by decide) ?_
  refine J_istore_n (pc := 28) dX6_text_28 (by decide) ?_
  refine J_ls (ls' := [(0, .ref 131), (1, .int (nI 0)), (2, .int (nI 0))]) ⟨rfl, rfl, rfl, trivial⟩ ?_
  have eB : j_up (j_up (j_up (j_up (j_up h 131 10 (nI 0)) 131 12 (nI 0)) 131 4 (nI 0)) 131 5 (nI 0)) 131 6 (-1) = zP (j_up (j_up (j_up (j_up (j_up h 131 10 (nI 0)) 131 12 (nI 0)) 131 4 (nI 0)) 131 5 (nI 0)) 131 6 (-1)) 0 := zP_0.symm
  rw [eB]
  refine l6_zero ?_ 70 0 (Nat.zero_le _) (by omega)
  have QB : ∀ b k, ¬ (b = 131 ∧ ((4 ≤ k ∧ k ≤ 6) ∨ (10 ≤ k ∧ k ≤ 15))) → b ≠ 134 → zP (j_up (j_up (j_up (j_up (j_up h 131 10 (nI 0)) 131 12 (nI 0)) 131 4 (nI 0)) 131 5 (nI 0)) 131 6 (-1)) 69 b k = h b k := fun b k z1 z2 => by rw [zP_o z2, j_up_o (by omega), j_up_o (by omega), j_up_o (by omega), j_up_o (by omega), j_up_o (by omega)]
  have QB : qf h (zP (j_up (j_up (j_up (j_up (j_up h 131 10 (nI 0)) 131 12 (nI 0)) 131 4 (nI 0)) 131 5 (nI 0)) 131 6 (-1)) 69) := QB
  have z12 : zP (j_up (j_up (j_up (j_up (j_up h 131 10 (nI 0)) 131 12 (nI 0)) 131 4 (nI 0)) 131 5 (nI 0)) 131 6 (-1)) 69 131 12 = nI 0 := by rw [zP_o (by omega)]; simp [j_up]
  have z10 : zP (j_up (j_up (j_up (j_up (j_up h 131 10 (nI 0)) 131 12 (nI 0)) 131 4 (nI 0)) 131 5 (nI 0)) 131 6 (-1)) 69 131 10 = nI 0 := by rw [zP_o (by omega)]; simp [j_up]
  have z4 : zP (j_up (j_up (j_up (j_up (j_up h 131 10 (nI 0)) 131 12 (nI 0)) 131 4 (nI 0)) 131 5 (nI 0)) 131 6 (-1)) 69 131 4 = nI 0 := by rw [zP_o (by omega)]; simp [j_up]
  have z5 : zP (j_up (j_up (j_up (j_up (j_up h 131 10 (nI 0)) 131 12 (nI 0)) 131 4 (nI 0)) 131 5 (nI 0)) 131 6 (-1)) 69 131 5 = nI 0 := by rw [zP_o (by omega)]; simp [j_up]
  have z6 : zP (j_up (j_up (j_up (j_up (j_up h 131 10 (nI 0)) 131 12 (nI 0)) 131 4 (nI 0)) 131 5 (nI 0)) 131 6 (-1)) 69 131 6 = -1 := by rw [zP_o (by omega)]; simp [j_up]
  have zz : ∀ j, j < 69 → zP (j_up (j_up (j_up (j_up (j_up h 131 10 (nI 0)) 131 12 (nI 0)) 131 4 (nI 0)) 131 5 (nI 0)) 131 6 (-1)) 69 134 j = 0 := fun j hj => zP_i hj
  generalize zP (j_up (j_up (j_up (j_up (j_up h 131 10 (nI 0)) 131 12 (nI 0)) 131 4 (nI 0)) 131 5 (nI 0)) 131 6 (-1)) 69 = hZ at *
  refine J_aload_n (pc := 48) dX6_text_48 rfl ?_
  refine K_Vv0 (pc := 49) (Y' := YX6_step) dX6_text_49 lX6_97 mX6_step vX6_step ⟨_, _, rfl⟩ sh131 (Nat.le_of_ble_eq_true rfl) (c6_step0 (L := L) (t := t) (s := 0) (hT.qf QB) (Nat.zero_le _) z12 z10) ?_
  rintro h1 ⟨hs1, f1⟩
  refine J_ls (ls' := [(0, .ref 131), (1, .int (nI 0))]) ⟨rfl, rfl, trivial⟩ ?_
  have b0 := (tk_b (t := t) (Nat.zero_le L) hL).1
  have RD0 : RD D0 h1 := by
    refine ⟨⟨fun k hk => (f1 134 k (by omega)).trans (zz k hk), (f1 131 4 (by omega)).trans z4, ?_⟩, ?_⟩
    · rw [f1 131 6 (by omega), z6]
      exact ⟨fun c hc => absurd hc (Nat.not_lt_zero _), Or.inl rfl⟩
    · rw [f1 131 5 (by omega), z5]
      exact ⟨0, by omega, rfl, by decide, by decide, by decide⟩
  refine l6_txt 160 0 (0, tk L t 0) D0 h1 h _ (by omega) ((hT.qf QB).rf f1) ((hW.qf QB).rf f1) hs1 (fun _ => ⟨RD0, IG_0⟩) b0 (fun _ => Nat.zero_le _) (QB.tr f1.qf) (fun h2 x hs2 hd2 q2 => ?_)
  have en : nrm (tx L t).1 = (tx L t).1 := tx_nrm hL 160 0 (by omega) b0 (fun _ => Nat.zero_le _)
  have hs2 : RT L (nrm (tx L t).1) h2 := hs2
  have hd2 : (nrm (tx L t).1).1 = 0 → (RD (tx L t).2.1 h2 ∧ IG (tx L t).2.1) ∧ x = nI (tx L t).2.2 := hd2
  rw [en] at hs2 hd2
  refine J_aload_n (pc := 76) dX6_text_76 rfl ?_
  refine J_getI (pc := 77) dX6_text_77 fX6_63 sh131 rfl (hs2.2.2.2.2.1) ?_
  refine J_if_ne (pc := 80) (tgt := 100) dX6_text_80 (by decide) (fun c80 => ?_) (fun c80 => ?_)
  · skip
    have H3 : RT L (txE L t) h2 := by
      rw [txE, sRef_f (fun z => c80 (by rw [z]; rfl))]; exact hs2
    have f3 : rfm h2 h2 := rfm.rf
    refine J_aload_n (pc := 100) dX6_text_100 rfl ?_
    refine J_iconst (pc := 101) (v := nI 0) dX6_text_101 (by decide) ?_
    refine J_putI (pc := 102) dX6_text_102 fX6_59 sh131 rfl ?_
    refine J_aload_n (pc := 105) dX6_text_105 rfl ?_
    refine J_aload_n (pc := 106) dX6_text_106 rfl ?_
    refine J_getI (pc := 107) dX6_text_107 fX6_63 sh131 rfl ((j_up_o (by omega)).trans H3.2.2.2.2.1) ?_
    refine J_putI (pc := 110) dX6_text_110 fX6_145 sh131 rfl ?_
    refine J_aload_n (pc := 113) dX6_text_113 rfl ?_
    refine J_getI (pc := 114) dX6_text_114 fX6_63 sh131 rfl ((j_up_o (by omega)).trans ((j_up_o (by omega)).trans H3.2.2.2.2.1)) ?_
    refine J_if_le (pc := 117) (tgt := 128) dX6_text_117 (by decide) (fun c117 => ?_) (fun c117 => ?_)
    · skip
      refine J_iconst (pc := 128) (v := nI 0) dX6_text_128 (by decide) ?_
      refine J_istore_n (pc := 129) dX6_text_129 (by decide) ?_
      have Q3 : ∀ b k, ¬ (b = 131 ∧ ((4 ≤ k ∧ k ≤ 6) ∨ (8 ≤ k ∧ k ≤ 15))) → b ≠ 134 → (j_up (j_up h2 131 8 (nI 0)) 131 9 (nI (txE L t).1)) b k = h b k := fun b k u1 u2 => by rw [j_up_o (by omega), j_up_o (by omega), f3 b k (by omega), q2 b k (by omega) u2]
      have ze : (txE L t).1 = 0 := by have := (nI_leI (b := 0) (Nat.lt_of_le_of_lt H3.b (by omega)) (by omega)).mp c117; omega
      exact absurd ((sRef_0 (by decide) ze).1) (fun z => c80 (by rw [z]; rfl))
    · skip
      refine J_bipush (pc := 120) (v := -10) dX6_text_120 (by decide) ?_
      refine J_aload_n (pc := 122) dX6_text_122 rfl ?_
      refine J_getI (pc := 123) dX6_text_123 fX6_69 sh131 rfl (rfl) ?_
      refine J_isub (pc := 126) dX6_text_126 (rfl) ?_
      refine K_iret (pc := 127) dX6_text_127 rfl ?_
      have Q3 : ∀ b k, ¬ (b = 131 ∧ ((4 ≤ k ∧ k ≤ 6) ∨ (8 ≤ k ∧ k ≤ 15))) → b ≠ 134 → (j_up (j_up h2 131 8 (nI 0)) 131 9 (nI (txE L t).1)) b k = h b k := fun b k u1 u2 => by rw [j_up_o (by omega), j_up_o (by omega), f3 b k (by omega), q2 b k (by omega) u2]
      have ze : ¬ (txE L t).1 = 0 := fun z => c117 (by rw [z]; decide)
      rw [iteR_f ze]
      dsimp only
      have a11 := H3.2.2.2.2.2.2 ze
      refine ⟨?_, ⟨fun k hk => ?_, fun k hk => ?_, fun b hb => ?_⟩, fun b hb => funext fun k => Q3 b k (by omega) (by omega)⟩
      · rw [j_up_o (by omega), j_up_o (by omega), a11]
      · rw [Q3 132 k (by omega) (by omega), tx0, j_up_o (by omega), j_up_o (by omega)]
      · rcases hk with e | e | e | e | e
        · subst e; rw [Q3 131 2 (by omega) (by omega), tx0, j_up_o (by omega), j_up_o (by omega)]
        · subst e; rw [j_up_o (by omega), j_up_s, tx0, j_up_o (by omega), j_up_s]
        · subst e; rw [j_up_s, tx0, j_up_s]
        · subst e; rw [Q3 131 21 (by omega) (by omega), tx0, j_up_o (by omega), j_up_o (by omega)]
        · subst e; rw [Q3 131 28 (by omega) (by omega), tx0, j_up_o (by omega), j_up_o (by omega)]
      · funext k
        rw [Q3 b k (by omega) (by omega), tx0, j_up_o (by omega), j_up_o (by omega)]
  · skip
    refine J_aload_n (pc := 83) dX6_text_83 rfl ?_
    refine J_getI (pc := 84) dX6_text_84 fX6_104 sh131 rfl (rfl) ?_
    refine J_aload_n (pc := 87) dX6_text_87 rfl ?_
    refine J_getI (pc := 88) dX6_text_88 fX6_122 sh131 rfl (rfl) ?_
    refine J_icmp_lt (pc := 91) (tgt := 100) dX6_text_91 (by decide) (fun c91 => ?_) (fun c91 => ?_)
    · skip
      have y0 : (tx L t).1.1 = 0 := (nI0e hs2.b).mp c80
      obtain ⟨⟨⟨hA2, hB2⟩, hG2⟩, hx2⟩ := hd2 y0
      have hst := HI_str hA2.2.2 hG2.1
      have H3 : RT L (txE L t) h2 := by
        rw [txE, sRef_n (fun q => absurd (hst.mpr q) (Int32.not_le.mpr (by rw [← hA2.2.1]; exact c91)))]; exact hs2
      have f3 : rfm h2 h2 := rfm.rf
      refine J_aload_n (pc := 100) dX6_text_100 rfl ?_
      refine J_iconst (pc := 101) (v := nI 0) dX6_text_101 (by decide) ?_
      refine J_putI (pc := 102) dX6_text_102 fX6_59 sh131 rfl ?_
      refine J_aload_n (pc := 105) dX6_text_105 rfl ?_
      refine J_aload_n (pc := 106) dX6_text_106 rfl ?_
      refine J_getI (pc := 107) dX6_text_107 fX6_63 sh131 rfl ((j_up_o (by omega)).trans H3.2.2.2.2.1) ?_
      refine J_putI (pc := 110) dX6_text_110 fX6_145 sh131 rfl ?_
      refine J_aload_n (pc := 113) dX6_text_113 rfl ?_
      refine J_getI (pc := 114) dX6_text_114 fX6_63 sh131 rfl ((j_up_o (by omega)).trans ((j_up_o (by omega)).trans H3.2.2.2.2.1)) ?_
      refine J_if_le (pc := 117) (tgt := 128) dX6_text_117 (by decide) (fun c117 => ?_) (fun c117 => ?_)
      · skip
        refine J_iconst (pc := 128) (v := nI 0) dX6_text_128 (by decide) ?_
        refine J_istore_n (pc := 129) dX6_text_129 (by decide) ?_
        have Q3 : ∀ b k, ¬ (b = 131 ∧ ((4 ≤ k ∧ k ≤ 6) ∨ (8 ≤ k ∧ k ≤ 15))) → b ≠ 134 → (j_up (j_up h2 131 8 (nI 0)) 131 9 (nI (txE L t).1)) b k = h b k := fun b k u1 u2 => by rw [j_up_o (by omega), j_up_o (by omega), f3 b k (by omega), q2 b k (by omega) u2]
        have ze : (txE L t).1 = 0 := by have := (nI_leI (b := 0) (Nat.lt_of_le_of_lt H3.b (by omega)) (by omega)).mp c117; omega
        rw [iteR_t ze]
        dsimp only
        have hG3 : RG (tx L t).2.1.2.1 (j_up (j_up h2 131 8 (nI 0)) 131 9 (nI (txE L t).1)) := fun j hj => by rw [j_up_o (by omega), j_up_o (by omega)]; exact hA2.1 j hj
        have e4 : (j_up (j_up h2 131 8 (nI 0)) 131 9 (nI (txE L t).1)) 131 4 = nI (tx L t).2.1.1 := by rw [j_up_o (by omega), j_up_o (by omega)]; exact hA2.2.1
        have e8 : (j_up (j_up h2 131 8 (nI 0)) 131 9 (nI (txE L t).1)) 131 8 = nI 0 := by rw [j_up_o (by omega), j_up_s]
        have e9 : (j_up (j_up h2 131 8 (nI 0)) 131 9 (nI (txE L t).1)) 131 9 = nI 0 := by rw [j_up_s, ze]
        generalize (j_up (j_up h2 131 8 (nI 0)) 131 9 (nI (txE L t).1)) = hY at *
        refine J_ls (ls' := [(0, .ref 131), (1, .int x), (2, .int (nI 0))]) ⟨rfl, rfl, rfl, trivial⟩ ?_
        have eY : hY = mset hY 0 (cpP 0 (tx L t).2.1.2.1 (pg hY 0)) := by
          rw [mset_cong (P := cpP 0 (tx L t).2.1.2.1 (pg hY 0)) (P' := pg hY 0) (fun k hk => if_neg (by omega)), mset_pg]
        rw [eY]
        refine l6_back hG3 ?_ 70 0 (Nat.zero_le _) (by omega)
        rw [mset_cong (P := cpP 69 (tx L t).2.1.2.1 (pg hY 0)) (P' := (tx L t).2.1.2.1) (fun k hk => if_pos (by omega))]
        refine J_aload_n (pc := 154) dX6_text_154 rfl ?_
        refine J_aload_n (pc := 155) dX6_text_155 rfl ?_
        refine J_getI (pc := 156) dX6_text_156 fX6_122 sh131 rfl ((congrFun (mset_ne (by decide)) 4).trans e4) ?_
        refine J_putI (pc := 159) dX6_text_159 fX6_148 sh131 rfl ?_
        refine J_aload_n (pc := 162) dX6_text_162 rfl ?_
        refine J_iconst (pc := 163) (v := nI 0) dX6_text_163 (by decide) ?_
        refine J_putI (pc := 164) dX6_text_164 fX6_151 sh131 rfl ?_
        refine J_aload_n (pc := 167) dX6_text_167 rfl ?_
        refine J_getR (pc := 168) dX6_text_168 fX6_41 sh131 rfl ?_
        refine J_iconst (pc := 171) (v := nI 0) dX6_text_171 (by decide) ?_
        refine J_iconst (pc := 172) (v := nI 0) dX6_text_172 (by decide) ?_
        refine J_zast (pc := 173) dX6_text_173 sh142 (rfl) (by omega) (by decide) (by decide) ?_
        refine J_aload_n (pc := 174) dX6_text_174 rfl ?_
        refine J_getR (pc := 175) dX6_text_175 fX6_41 sh131 rfl ?_
        refine J_iconst (pc := 178) (v := nI 1) dX6_text_178 (by decide) ?_
        refine J_iconst (pc := 179) (v := nI 0) dX6_text_179 (by decide) ?_
        refine J_zast (pc := 180) dX6_text_180 sh142 (rfl) (by omega) (by decide) (by decide) ?_
        refine J_iload_n (pc := 181) dX6_text_181 rfl ?_
        refine K_iret (pc := 182) dX6_text_182 rfl ?_
        have Y : ∀ b k, b ≠ 132 → ¬ (b = 131 ∧ (k = 2 ∨ k = 21)) → ¬ (b = 142 ∧ k < 2) → (j_up (j_up (j_up (j_up (mset hY 0 (tx L t).2.1.2.1) 131 2 (nI (tx L t).2.1.1)) 131 21 (nI 0)) 142 0 (nI 0)) 142 1 (nI 0)) b k = hY b k := fun b k u1 u2 u3 => by rw [j_up_o (by omega), j_up_o (by omega), j_up_o (by omega), j_up_o (by omega), mset_ne u1]
        obtain ⟨g2, g8, g9, g21, g0, g1⟩ := tx1_f (a := h) (n := (tx L t).2.1.1) (P := (tx L t).2.1.2.1)
        refine ⟨hx2, ⟨fun k hk => ?_, fun k hk => ?_, fun b hb => ?_⟩, fun b hb => funext fun k => (Y b k (by omega) (by omega) (by omega)).trans (Q3 b k (by omega) (by omega))⟩
        · rw [j_up_o (by omega), j_up_o (by omega), j_up_o (by omega), j_up_o (by omega)]
          by_cases q : k < 69
          · rw [mset_at (o := 0) k q (by omega)]
            have := tx1_p (a := h) (n := (tx L t).2.1.1) (P := (tx L t).2.1.2.1) q
            rw [pg0] at this
            exact this.symm
          · rw [mset_out (by omega), tx1_a (by omega) (by omega) (by omega)]
            exact Q3 132 k (by omega) (by omega)
        · rcases hk with e | e | e | e | e
          · subst e; rw [g2, j_up_o (by omega), j_up_o (by omega), j_up_o (by omega), j_up_s]
          · subst e; rw [g8, Y 131 8 (by omega) (by omega) (by omega)]; exact e8
          · subst e; rw [g9, Y 131 9 (by omega) (by omega) (by omega)]; exact e9
          · subst e; rw [g21, j_up_o (by omega), j_up_o (by omega), j_up_s]
          · subst e; rw [tx1_a (by omega) (by omega) (by omega), Y 131 28 (by omega) (by omega) (by omega)]; exact Q3 131 28 (by omega) (by omega)
        · funext k
          by_cases q : b = 142 ∧ k < 2
          · obtain ⟨rfl, q⟩ := q
            match k, q with
            | 0, _ => rw [g0, j_up_o (by omega), j_up_s]
            | 1, _ => rw [g1, j_up_s]
          · rw [tx1_a (by omega) (by omega) (by omega), Y b k (by omega) (by omega) q]
            exact Q3 b k (by omega) (by omega)
      · skip
        refine J_bipush (pc := 120) (v := -10) dX6_text_120 (by decide) ?_
        refine J_aload_n (pc := 122) dX6_text_122 rfl ?_
        refine J_getI (pc := 123) dX6_text_123 fX6_69 sh131 rfl (rfl) ?_
        refine J_isub (pc := 126) dX6_text_126 (rfl) ?_
        refine K_iret (pc := 127) dX6_text_127 rfl ?_
        have Q3 : ∀ b k, ¬ (b = 131 ∧ ((4 ≤ k ∧ k ≤ 6) ∨ (8 ≤ k ∧ k ≤ 15))) → b ≠ 134 → (j_up (j_up h2 131 8 (nI 0)) 131 9 (nI (txE L t).1)) b k = h b k := fun b k u1 u2 => by rw [j_up_o (by omega), j_up_o (by omega), f3 b k (by omega), q2 b k (by omega) u2]
        have ze : ¬ (txE L t).1 = 0 := fun z => c117 (by rw [z]; decide)
        rw [iteR_f ze]
        dsimp only
        have a11 := H3.2.2.2.2.2.2 ze
        refine ⟨?_, ⟨fun k hk => ?_, fun k hk => ?_, fun b hb => ?_⟩, fun b hb => funext fun k => Q3 b k (by omega) (by omega)⟩
        · rw [j_up_o (by omega), j_up_o (by omega), a11]
        · rw [Q3 132 k (by omega) (by omega), tx0, j_up_o (by omega), j_up_o (by omega)]
        · rcases hk with e | e | e | e | e
          · subst e; rw [Q3 131 2 (by omega) (by omega), tx0, j_up_o (by omega), j_up_o (by omega)]
          · subst e; rw [j_up_o (by omega), j_up_s, tx0, j_up_o (by omega), j_up_s]
          · subst e; rw [j_up_s, tx0, j_up_s]
          · subst e; rw [Q3 131 21 (by omega) (by omega), tx0, j_up_o (by omega), j_up_o (by omega)]
          · subst e; rw [Q3 131 28 (by omega) (by omega), tx0, j_up_o (by omega), j_up_o (by omega)]
        · funext k
          rw [Q3 b k (by omega) (by omega), tx0, j_up_o (by omega), j_up_o (by omega)]
    · skip
      refine J_aload_n (pc := 94) dX6_text_94 rfl ?_
      refine J_bipush (pc := 95) (v := nI 6) dX6_text_95 (by decide) ?_
      refine K_Vv1 (pc := 97) (Y' := YX6_fails) dX6_text_97 lX6_93 mX6_fails vX6_fails ⟨_, _, rfl⟩ sh131 (Nat.le_of_ble_eq_true rfl) (c6_fails (c := 6)) ?_
      rintro hz rfl
      have y0 : (tx L t).1.1 = 0 := (nI0e hs2.b).mp c80
      obtain ⟨⟨⟨hA2, hB2⟩, hG2⟩, hx2⟩ := hd2 y0
      have hst := HI_str hA2.2.2 hG2.1
      have H3 : RT L (txE L t) (flH h2 6) := by
        rw [txE, hst.mp (by rw [← hA2.2.1]; exact Int32.not_lt.mp c91)]; exact RT_fl hs2 (by omega) (by omega)
      have f3 : rfm h2 (flH h2 6) := flH_rf
      refine J_aload_n (pc := 100) dX6_text_100 rfl ?_
      refine J_iconst (pc := 101) (v := nI 0) dX6_text_101 (by decide) ?_
      refine J_putI (pc := 102) dX6_text_102 fX6_59 sh131 rfl ?_
      refine J_aload_n (pc := 105) dX6_text_105 rfl ?_
      refine J_aload_n (pc := 106) dX6_text_106 rfl ?_
      refine J_getI (pc := 107) dX6_text_107 fX6_63 sh131 rfl ((j_up_o (by omega)).trans H3.2.2.2.2.1) ?_
      refine J_putI (pc := 110) dX6_text_110 fX6_145 sh131 rfl ?_
      refine J_aload_n (pc := 113) dX6_text_113 rfl ?_
      refine J_getI (pc := 114) dX6_text_114 fX6_63 sh131 rfl ((j_up_o (by omega)).trans ((j_up_o (by omega)).trans H3.2.2.2.2.1)) ?_
      refine J_if_le (pc := 117) (tgt := 128) dX6_text_117 (by decide) (fun c117 => ?_) (fun c117 => ?_)
      · skip
        refine J_iconst (pc := 128) (v := nI 0) dX6_text_128 (by decide) ?_
        refine J_istore_n (pc := 129) dX6_text_129 (by decide) ?_
        have Q3 : ∀ b k, ¬ (b = 131 ∧ ((4 ≤ k ∧ k ≤ 6) ∨ (8 ≤ k ∧ k ≤ 15))) → b ≠ 134 → (j_up (j_up (flH h2 6) 131 8 (nI 0)) 131 9 (nI (txE L t).1)) b k = h b k := fun b k u1 u2 => by rw [j_up_o (by omega), j_up_o (by omega), f3 b k (by omega), q2 b k (by omega) u2]
        have ze : (txE L t).1 = 0 := by have := (nI_leI (b := 0) (Nat.lt_of_le_of_lt H3.b (by omega)) (by omega)).mp c117; omega
        exact absurd ze (by rw [txE, hst.mp (by rw [← hA2.2.1]; exact Int32.not_lt.mp c91), sRef_y rfl y0]; show ¬ (6 : Nat) = 0; decide)
      · skip
        refine J_bipush (pc := 120) (v := -10) dX6_text_120 (by decide) ?_
        refine J_aload_n (pc := 122) dX6_text_122 rfl ?_
        refine J_getI (pc := 123) dX6_text_123 fX6_69 sh131 rfl (rfl) ?_
        refine J_isub (pc := 126) dX6_text_126 (rfl) ?_
        refine K_iret (pc := 127) dX6_text_127 rfl ?_
        have Q3 : ∀ b k, ¬ (b = 131 ∧ ((4 ≤ k ∧ k ≤ 6) ∨ (8 ≤ k ∧ k ≤ 15))) → b ≠ 134 → (j_up (j_up (flH h2 6) 131 8 (nI 0)) 131 9 (nI (txE L t).1)) b k = h b k := fun b k u1 u2 => by rw [j_up_o (by omega), j_up_o (by omega), f3 b k (by omega), q2 b k (by omega) u2]
        have ze : ¬ (txE L t).1 = 0 := fun z => c117 (by rw [z]; decide)
        rw [iteR_f ze]
        dsimp only
        have a11 := H3.2.2.2.2.2.2 ze
        refine ⟨?_, ⟨fun k hk => ?_, fun k hk => ?_, fun b hb => ?_⟩, fun b hb => funext fun k => Q3 b k (by omega) (by omega)⟩
        · rw [j_up_o (by omega), j_up_o (by omega), a11]
        · rw [Q3 132 k (by omega) (by omega), tx0, j_up_o (by omega), j_up_o (by omega)]
        · rcases hk with e | e | e | e | e
          · subst e; rw [Q3 131 2 (by omega) (by omega), tx0, j_up_o (by omega), j_up_o (by omega)]
          · subst e; rw [j_up_o (by omega), j_up_s, tx0, j_up_o (by omega), j_up_s]
          · subst e; rw [j_up_s, tx0, j_up_s]
          · subst e; rw [Q3 131 21 (by omega) (by omega), tx0, j_up_o (by omega), j_up_o (by omega)]
          · subst e; rw [Q3 131 28 (by omega) (by omega), tx0, j_up_o (by omega), j_up_o (by omega)]
        · funext k
          rw [Q3 b k (by omega) (by omega), tx0, j_up_o (by omega), j_up_o (by omega)]
