set_option maxHeartbeats 4000000 in
theorem l5_read {g : jG} {d : Nat} {a h : jH} {k l f n : Int32} (hR0 : RX a h) (hk : ix k < 4) (hn : ix n < 21) : ∀ (m i : Nat) (P : Nat → Int32) (hh : jH), i + m = ix n →
    oRead a k l f n = rdO a (rdF (ix (a 131 2)) (fun i => a 145 (40 * ix k + ix (f + nI i))) (fun i => fltM (a 143 (ix k)) l (ix (a 144 (ix k))) (f + nI i)) m i P) → XV (ix (a 131 2)) P hh 19 → GD (ix (a 131 2)) P → hh 19 9 = P 52 → (∀ b, (b < 19 ∨ 37 ≤ b) → hh b = h b) →
    K g (d + 3) YX5_read hh 47 [(0, .ref 0), (1, .int (nI (ix k))), (2, .int l), (3, .int f), (4, .int (nI (ix n))), (5, .int (nI 0)), (6, .int (nI i)), (7, .int (nI i))] [] (fun r h' => ∃ z, r = some (.int z) ∧ ∃ a', oRead a k l f n = (z, a') ∧ RX a' h' ∧ hi h h') := by
  intro m
  induction m with
  | zero =>
    intro i P hh him hO hX hG hw hfr
    refine J_iload (pc := 47) dX5_read_47 rfl ?_
    refine J_iload (pc := 49) dX5_read_49 rfl ?_
    refine J_icmp_ge (pc := 51) (tgt := 119) dX5_read_51 (by decide) (fun c51 => ?_) (fun c51 => ?_)
    · skip
      refine J_aload_n (pc := 119) dX5_read_119 rfl ?_
      refine J_getR (pc := 120) dX5_read_120 fX5_10 sh0 rfl ?_
      refine J_aload_n (pc := 123) dX5_read_123 rfl ?_
      refine J_getR (pc := 124) dX5_read_124 fX5_16 sh0 rfl ?_
      refine K_Vv1 (pc := 127) (Y' := YX4_copyFrom) dX5_read_127 lX5_81 mX4_copyFrom vX4_copyFrom ⟨_, _, rfl⟩ (sv0 isV1) (Nat.le_of_ble_eq_true rfl) (c4_copyFrom isV19 isV1 (by omega)) ?_
      rintro h1 hc
      refine J_aload_n (pc := 130) dX5_read_130 rfl ?_
      refine J_iload (pc := 131) dX5_read_131 rfl ?_
      refine J_putI (pc := 133) dX5_read_133 fX5_58 sh0 rfl ?_
      refine J_iload (pc := 136) dX5_read_136 rfl ?_
      refine K_iret (pc := 138) dX5_read_138 rfl ?_
      exact ⟨_, hO, (RX_fin hR0 hfr hX hw hG hc).1, (RX_fin hR0 hfr hX hw hG hc).2⟩
    · skip
      exact absurd ((nI_leI (by omega) (by omega)).mpr (show ix n ≤ i by omega)) c51
  | succ m ih =>
    intro i P hh him hO hX hG hw hfr
    have c6 := hG.1.2.2.1.2
    have q5 := hR0.2.2.2.2.1.1 _ hk
    have e1 : hh (123 + 2 * ix k) = h (123 + 2 * ix k) := hfr _ (by omega)
    have e2 : hh (124 + 2 * ix k) = h (124 + 2 * ix k) := hfr _ (by omega)
    rw [← e1, ← e2] at q5
    have lan := q5.1
    have hlen := q5.2
    have h41 := hlen.2.1.2
    refine J_iload (pc := 47) dX5_read_47 rfl ?_
    refine J_iload (pc := 49) dX5_read_49 rfl ?_
    refine J_icmp_ge (pc := 51) (tgt := 119) dX5_read_51 (by decide) (fun c51 => ?_) (fun c51 => ?_)
    · skip
      exact absurd ((nI_leI (by omega) (by omega)).mp c51) (by omega)
    · skip
      refine J_iload (pc := 54) dX5_read_54 rfl ?_
      refine J_if_ne (pc := 56) (tgt := 119) dX5_read_56 (by decide) (fun c => absurd c (by decide)) (fun _ => ?_)
      refine J_aload_n (pc := 59) dX5_read_59 rfl ?_
      refine J_getR (pc := 60) dX5_read_60 fX5_50 sh0 rfl ?_
      refine J_iload_n (pc := 63) dX5_read_63 rfl ?_
      refine J_aald (pc := 64) dX5_read_64 sh85 j_k4 (rfl) (shR hk) (by decide) ?_
      refine J_iload_n (pc := 65) dX5_read_65 rfl ?_
      refine J_iload_n (pc := 66) dX5_read_66 rfl ?_
      refine J_iload (pc := 67) dX5_read_67 rfl ?_
      refine J_iadd (pc := 69) dX5_read_69 (rfl) ?_
      refine K_Vi2 (pc := 70) (Y' := YX2_faultAt) dX5_read_70 lX5_280 mX2_faultAt vX2_faultAt ⟨_, _, rfl⟩ (shS hk) (Nat.le_of_ble_eq_true rfl) (c2_faultAt (l := l) (i := f + nI i) hk rfl (hlen.1.trans hlen.2.1.1) hlen.2.1.2) ?_
      rintro r h0 ⟨e0, rfl⟩
      rw [e0, flt_eq lan]
      clear e0 h0
      refine J_istore (pc := 73) dX5_read_73 (by decide) ?_
      refine J_iload (pc := 75) dX5_read_75 rfl ?_
      refine J_if_ne (pc := 77) (tgt := 113) dX5_read_77 (by decide) (fun c77 => ?_) (fun c77 => ?_)
      · skip
        replace hO : oRead a k l f n = rdO a (nI i, some (fltM (a 143 (ix k)) l (ix (a 144 (ix k))) (f + nI i), P)) := hO.trans (by rw [rdF, iteX_f (show ¬ fltM (a 143 (ix k)) l (ix (a 144 (ix k))) (f + nI i) = nI 0 from c77)])
        refine J_iinc (pc := 113) dX5_read_113 rfl (v := nI (i + 1)) (by exact nI_add _ _) (by decide) ?_
        refine J_goto (pc := 116) (tgt := 47) dX5_read_116 (by decide) ?_
        refine J_iload (pc := 47) dX5_read_47 rfl ?_
        refine J_iload (pc := 49) dX5_read_49 rfl ?_
        refine J_icmp_ge (pc := 51) (tgt := 119) dX5_read_51 (by decide) (fun c51 => ?_) (fun c51 => ?_)
        · skip
          refine J_aload_n (pc := 119) dX5_read_119 rfl ?_
          refine J_getR (pc := 120) dX5_read_120 fX5_10 sh0 rfl ?_
          refine J_aload_n (pc := 123) dX5_read_123 rfl ?_
          refine J_getR (pc := 124) dX5_read_124 fX5_16 sh0 rfl ?_
          refine K_Vv1 (pc := 127) (Y' := YX4_copyFrom) dX5_read_127 lX5_81 mX4_copyFrom vX4_copyFrom ⟨_, _, rfl⟩ (sv0 isV1) (Nat.le_of_ble_eq_true rfl) (c4_copyFrom isV19 isV1 (by omega)) ?_
          rintro h1 hc
          refine J_aload_n (pc := 130) dX5_read_130 rfl ?_
          refine J_iload (pc := 131) dX5_read_131 rfl ?_
          refine J_putI (pc := 133) dX5_read_133 fX5_58 sh0 rfl ?_
          refine J_iload (pc := 136) dX5_read_136 rfl ?_
          refine K_iret (pc := 138) dX5_read_138 rfl ?_
          exact ⟨_, hO, (RX_fin hR0 hfr hX hw hG hc).1, (RX_fin hR0 hfr hX hw hG hc).2⟩
        · skip
          refine J_iload (pc := 54) dX5_read_54 rfl ?_
          refine J_if_ne (pc := 56) (tgt := 119) dX5_read_56 (by decide) (fun c56 => ?_) (fun c56 => ?_)
          · skip
            refine J_aload_n (pc := 119) dX5_read_119 rfl ?_
            refine J_getR (pc := 120) dX5_read_120 fX5_10 sh0 rfl ?_
            refine J_aload_n (pc := 123) dX5_read_123 rfl ?_
            refine J_getR (pc := 124) dX5_read_124 fX5_16 sh0 rfl ?_
            refine K_Vv1 (pc := 127) (Y' := YX4_copyFrom) dX5_read_127 lX5_81 mX4_copyFrom vX4_copyFrom ⟨_, _, rfl⟩ (sv0 isV1) (Nat.le_of_ble_eq_true rfl) (c4_copyFrom isV19 isV1 (by omega)) ?_
            rintro h1 hc
            refine J_aload_n (pc := 130) dX5_read_130 rfl ?_
            refine J_iload (pc := 131) dX5_read_131 rfl ?_
            refine J_putI (pc := 133) dX5_read_133 fX5_58 sh0 rfl ?_
            refine J_iload (pc := 136) dX5_read_136 rfl ?_
            refine K_iret (pc := 138) dX5_read_138 rfl ?_
            exact ⟨_, hO, (RX_fin hR0 hfr hX hw hG hc).1, (RX_fin hR0 hfr hX hw hG hc).2⟩
          · skip
            exact absurd c56 c77
      · skip
        have f0 : fltM (a 143 (ix k)) l (ix (a 144 (ix k))) (f + nI i) = nI 0 := c77
        obtain ⟨-, -, bi⟩ := fltM_0 f0
        have bi2 := bi.2
        refine J_aload_n (pc := 80) dX5_read_80 rfl ?_
        refine J_getR (pc := 81) dX5_read_81 fX5_16 sh0 rfl ?_
        refine J_aload_n (pc := 84) dX5_read_84 rfl ?_
        refine J_getR (pc := 85) dX5_read_85 fX5_50 sh0 rfl ?_
        refine J_iload_n (pc := 88) dX5_read_88 rfl ?_
        refine J_aald (pc := 89) dX5_read_89 sh85 j_k4 (rfl) (shR hk) (by decide) ?_
        refine J_getR (pc := 90) dX5_read_90 fX5_286 (shS hk) rfl ?_
        refine J_iload_n (pc := 93) dX5_read_93 rfl ?_
        refine J_iload (pc := 94) dX5_read_94 rfl ?_
        refine J_iadd (pc := 96) dX5_read_96 (rfl) ?_
        refine J_iald (pc := 97) dX5_read_97 (shC hk) (bi.1) (by omega) (hlen.2.2 _ (by omega)) (by decide) ?_
        refine K_Vi1 (pc := 98) (Y' := YX4_goWeek) dX5_read_98 lX5_160 mX4_goWeek vX4_goWeek ⟨_, _, rfl⟩ (sv0 isV19) (Nat.le_of_ble_eq_true rfl) (c4_goWeek (w := a 145 (40 * ix k + ix (f + nI i))) isV19 hX hG hw) ?_
        rintro r h0 (⟨g1, rfl, rfl⟩ | ⟨g1, g2, rfl, rfl⟩ | ⟨g1, g2, rfl, g4, g5, g6, g7⟩)
        · skip
          refine J_if_ge (pc := 101) (tgt := 110) dX5_read_101 (by decide) (fun c101 => ?_) (fun c101 => ?_)
          · skip
            exact absurd c101 (by decide)
          · skip
            refine J_bipush (pc := 104) (v := -20) dX5_read_104 (by decide) ?_
            refine J_iload (pc := 106) dX5_read_106 rfl ?_
            refine J_isub (pc := 108) dX5_read_108 (rfl) ?_
            refine K_iret (pc := 109) dX5_read_109 rfl ?_
            exact ⟨a, hO.trans (by rw [rdF, iteX_t f0, iteX_f (fun z => g1 z.1)]; rfl), RX_congr hR0 sameP.rf (fun b hb => hfr b (by omega)), fun b hb => hfr b (by omega)⟩
        · skip
          refine J_if_ge (pc := 101) (tgt := 110) dX5_read_101 (by decide) (fun c101 => ?_) (fun c101 => ?_)
          · skip
            exact absurd c101 (by decide)
          · skip
            refine J_bipush (pc := 104) (v := -20) dX5_read_104 (by decide) ?_
            refine J_iload (pc := 106) dX5_read_106 rfl ?_
            refine J_isub (pc := 108) dX5_read_108 (rfl) ?_
            refine K_iret (pc := 109) dX5_read_109 rfl ?_
            exact ⟨a, hO.trans (by rw [rdF, iteX_t f0, iteX_f (fun z => z.2 g2)]; rfl), RX_congr hR0 sameP.rf (fun b hb => hfr b (by omega)), fun b hb => hfr b (by omega)⟩
        · skip
          refine J_if_ge (pc := 101) (tgt := 110) dX5_read_101 (by decide) (fun c101 => ?_) (fun c101 => ?_)
          · skip
            refine J_iinc (pc := 110) dX5_read_110 rfl (v := nI (i + 1)) (by exact nI_add _ _) (by decide) ?_
            refine J_iinc (pc := 113) dX5_read_113 rfl (v := nI (i + 1)) (by exact nI_add _ _) (by decide) ?_
            refine J_goto (pc := 116) (tgt := 47) dX5_read_116 (by decide) ?_
            refine J_ls (ls' := [(0, .ref 0), (1, .int (nI (ix k))), (2, .int l), (3, .int f), (4, .int (nI (ix n))), (5, .int (nI 0)), (6, .int (nI (i + 1))), (7, .int (nI (i + 1)))]) ⟨rfl, rfl, rfl, rfl, rfl, congrArg (fun z => some (Value.int z)) f0, rfl, rfl, trivial⟩ ?_
            exact ih (i + 1) _ h0 (by omega) (hO.trans (by rw [rdF, iteX_t f0, iteX_t ⟨g1, g2⟩])) g4 g6 g5 (fun b hb => (g7 b (by omega)).trans (hfr b hb))
          · skip
            exact absurd (Int32.not_le.mp c101) (week_ge c6)
set_option maxHeartbeats 4000000 in
theorem c5_read {g : jG} {d : Nat} {a h : jH} {k l f n : Int32} (hR : RX a h) : Mi g (d + 3) YX5_read h [.ref 0, .int k, .int l, .int f, .int n] (fun r h' => ∃ a', oRead a k l f n = (r, a') ∧ RX a' h' ∧ hi h h') := by
  refine M.of (by decide) rfl (Nat.le_of_ble_eq_true rfl) ?_
  have hR0 := hR
  have hG := hR.1.2.2.2
  obtain ⟨⟨r1, hX, hwk, ⟨⟨v1, v2, v3, v4⟩, v5, v6, v7, v8, v9, va, vb, vc, vd⟩⟩, rK, rT, rS, rH, ⟨r8, r8b, r9, ra⟩⟩ := hR
  obtain ⟨x1, x2, x3, x4, x5, x6, x7, x8, x9⟩ := id hX
  have hn4 := v1
  have n5 := r1.2
  have c6 := v3.2
  have p9 := v5.2
  refine J_iload_n (pc := 0) dX5_read_0 rfl ?_
  refine K_Si1 (pc := 1) (Y' := YX5_isSheet) dX5_read_1 lX5_267 mX5_isSheet sX5_isSheet (Nat.le_of_ble_eq_true rfl) (c5_isSheet) ?_
  rintro x h0 ⟨e0, ⟨rfl, b1⟩ | ⟨rfl, b1⟩⟩ <;> rw [e0] <;> clear e0 h0
  · skip
    refine J_if_eq (pc := 4) (tgt := 25) dX5_read_4 (by decide) (fun c => absurd c (by decide)) (fun _ => ?_)
    refine J_iload_n (pc := 7) dX5_read_7 rfl ?_
    refine K_Si1 (pc := 8) (Y' := YX5_isLane) dX5_read_8 lX5_270 mX5_isLane sX5_isLane (Nat.le_of_ble_eq_true rfl) (c5_isLane) ?_
    rintro x h0 ⟨e0, ⟨rfl, b8⟩ | ⟨rfl, b8⟩⟩ <;> rw [e0] <;> clear e0 h0
    · skip
      refine J_if_eq (pc := 11) (tgt := 25) dX5_read_11 (by decide) (fun c => absurd c (by decide)) (fun _ => ?_)
      refine J_iload (pc := 14) dX5_read_14 rfl ?_
      refine J_iconst (pc := 16) (v := nI 0) dX5_read_16 (by decide) ?_
      refine J_bipush (pc := 17) (v := nI 20) dX5_read_17 (by decide) ?_
      refine K_Si3 (pc := 19) (Y' := YX5_within) dX5_read_19 lX5_63 mX5_within sX5_within (Nat.le_of_ble_eq_true rfl) (c5_within) ?_
      rintro x h0 ⟨e0, ⟨rfl, b19⟩ | ⟨rfl, b19⟩⟩ <;> rw [e0] <;> clear e0 h0
      · skip
        refine J_if_ne (pc := 22) (tgt := 27) dX5_read_22 (by decide) (fun _ => ?_) (fun c => absurd c (by decide))
        refine J_aload_n (pc := 27) dX5_read_27 rfl ?_
        refine J_getR (pc := 28) dX5_read_28 fX5_16 sh0 rfl ?_
        refine J_aload_n (pc := 31) dX5_read_31 rfl ?_
        refine J_getR (pc := 32) dX5_read_32 fX5_10 sh0 rfl ?_
        refine K_Vv1 (pc := 35) (Y' := YX4_copyFrom) dX5_read_35 lX5_81 mX4_copyFrom vX4_copyFrom ⟨_, _, rfl⟩ (sv0 isV19) (Nat.le_of_ble_eq_true rfl) (c4_copyFrom isV1 isV19 (by omega)) ?_
        rintro h1 hc
        refine J_iconst (pc := 38) (v := nI 0) dX5_read_38 (by decide) ?_
        refine J_istore (pc := 39) dX5_read_39 (by decide) ?_
        refine J_iconst (pc := 41) (v := nI 0) dX5_read_41 (by decide) ?_
        refine J_istore (pc := 42) dX5_read_42 (by decide) ?_
        refine J_iconst (pc := 44) (v := nI 0) dX5_read_44 (by decide) ?_
        refine J_istore (pc := 45) dX5_read_45 (by decide) ?_
        have bn : nb 21 n := (in_nbc (n := 20) rfl (by omega)).mp b19
        refine J_ls (ls' := [(0, .ref 0), (1, .int (nI (ix k))), (2, .int l), (3, .int f), (4, .int (nI (ix n))), (5, .int (nI 0)), (6, .int (nI 0)), (7, .int (nI 0))]) ⟨rfl, congrArg (fun z => some (Value.int z)) b1.1, rfl, rfl, congrArg (fun z => some (Value.int z)) bn.1, rfl, rfl, rfl, trivial⟩ ?_
        exact l5_read hR0 b1.2 bn.2 (ix n) 0 (pg a 0) h1 (by omega) (iteR_t ⟨b1, b8, b19⟩) (XV_CP hX hn4 c6 p9 hc) hG ((hc.2.1.2.2.2.2.trans hwk).trans pg0.symm) (fun b hb => hc.1 b (by omega))
      · skip
        refine J_if_ne (pc := 22) (tgt := 27) dX5_read_22 (by decide) (fun c => absurd c (by decide)) (fun _ => ?_)
        refine J_iconst (pc := 25) (v := -1) dX5_read_25 (by decide) ?_
        refine K_iret (pc := 26) dX5_read_26 rfl ?_
        exact ⟨a, iteR_f (fun z => b19 z.2.2), hR0, hi.rf⟩
    · skip
      refine J_if_eq (pc := 11) (tgt := 25) dX5_read_11 (by decide) (fun _ => ?_) (fun c => absurd c (by decide))
      refine J_iconst (pc := 25) (v := -1) dX5_read_25 (by decide) ?_
      refine K_iret (pc := 26) dX5_read_26 rfl ?_
      exact ⟨a, iteR_f (fun z => b8 z.2.1), hR0, hi.rf⟩
  · skip
    refine J_if_eq (pc := 4) (tgt := 25) dX5_read_4 (by decide) (fun _ => ?_) (fun c => absurd c (by decide))
    refine J_iconst (pc := 25) (v := -1) dX5_read_25 (by decide) ?_
    refine K_iret (pc := 26) dX5_read_26 rfl ?_
    exact ⟨a, iteR_f (fun z => b1 z.1), hR0, hi.rf⟩
set_option maxHeartbeats 4000000 in
theorem c6_weeksP {g : jG} {d : Nat} {h : jH} {n : Nat} {P : Nat → Int32} {w : Int32} (hn : h 131 2 = nI n) (r8 : ∀ i, i < 16 → h 133 i = j_bri.getD i 0) (hG : GD n P) : Mi g (d + 2) YX6_weeks (mset h 0 P) [.ref 131, .int w] (fun r h' => (¬ nb 4 w ∧ r = -1 ∧ h' = mset h 0 P) ∨ (nb 4 w ∧ P 52 = nI 999 ∧ r = -3 ∧ h' = mset h 0 P) ∨ (nb 4 w ∧ ¬ P 52 = nI 999 ∧ r = (weekP n (γP P (ix w)) (ix w) P).2 ∧ h' = mset h 0 (weekP n (γP P (ix w)) (ix w) P).1)) := by
  refine M.of (by decide) rfl (Nat.le_of_ble_eq_true rfl) ?_
  have hn4 := hG.1.1
  refine J_iload_n (pc := 0) dX6_weeks_0 rfl ?_
  refine K_Si1 (pc := 1) (Y' := YX6_isWeather) dX6_weeks_1 lX6_169 mX6_isWeather sX6_isWeather (Nat.le_of_ble_eq_true rfl) (c6_isWeather (x := w)) ?_
  rintro x h0 ⟨e0, ⟨rfl, b1⟩ | ⟨rfl, b1⟩⟩ <;> rw [e0] <;> clear e0 h0
  · skip
    refine J_if_ne (pc := 4) (tgt := 9) dX6_weeks_4 (by decide) (fun _ => ?_) (fun c => absurd c (by decide))
    refine J_aload_n (pc := 9) dX6_weeks_9 rfl ?_
    refine J_getR (pc := 10) dX6_weeks_10 fX6_7 sh131 rfl ?_
    refine J_bipush (pc := 13) (v := nI 52) dX6_weeks_13 (by decide) ?_
    refine J_iald (pc := 15) dX6_weeks_15 sh132 (rfl) (by omega) (mset_at 52 (by omega) rfl) (by decide) ?_
    refine J_sipush (pc := 16) (v := nI 999) dX6_weeks_16 (by decide) ?_
    refine J_icmp_ne (pc := 19) (tgt := 27) dX6_weeks_19 (by decide) (fun c19 => ?_) (fun c19 => ?_)
    · skip
      refine J_ls (ls' := [(0, .ref 131), (1, .int (nI (ix w)))]) ⟨rfl, congrArg (fun z => some (Value.int z)) b1.1, trivial⟩ ?_
      refine J_aload_n (pc := 27) dX6_weeks_27 rfl ?_
      refine J_iconst (pc := 28) (v := nI 0) dX6_weeks_28 (by decide) ?_
      refine J_iload_n (pc := 29) dX6_weeks_29 rfl ?_
      refine K_Vi2 (pc := 30) (Y' := YX6_weekOn) dX6_weeks_30 lX6_206 mX6_weekOn vX6_weekOn ⟨_, _, rfl⟩ sh131 (Nat.le_of_ble_eq_true rfl) (c6_weekOn (o := 0) (n := n) (P := P) (γ := γP P (ix w)) (by omega) (Or.inl rfl) hn hG.1.1 b1.2 (fun p hp => by rw [mset_at p (by omega) (by omega)]; exact hG.1.2.1 p hp) (fun p hp => by
    have k4 := (hG.1.2.1 p hp).2
    have hw4 := b1.2
    unfold gM γP
    rw [mset_at p (by omega) (by omega), mset_at (4 + p) (by omega) (by omega), mset_ne (b := 133) (by decide), r8 _ (by omega)]) hG.1.cv) ?_
      rintro r h0 ⟨e0, e1⟩
      rw [e0, e1]
      clear e0 e1 h0
      refine K_iret (pc := 33) dX6_weeks_33 rfl ?_
      exact Or.inr (Or.inr ⟨b1, c19, rfl, rfl⟩)
    · skip
      refine J_bipush (pc := 22) (v := -3) dX6_weeks_22 (by decide) ?_
      refine J_goto (pc := 24) (tgt := 33) dX6_weeks_24 (by decide) ?_
      refine K_iret (pc := 33) dX6_weeks_33 rfl ?_
      exact Or.inr (Or.inl ⟨b1, c19, rfl, rfl⟩)
  · skip
    refine J_if_ne (pc := 4) (tgt := 9) dX6_weeks_4 (by decide) (fun c => absurd c (by decide)) (fun _ => ?_)
    refine J_iconst (pc := 7) (v := -1) dX6_weeks_7 (by decide) ?_
    refine K_iret (pc := 8) dX6_weeks_8 rfl ?_
    exact Or.inl ⟨b1, rfl, rfl⟩
theorem rd_same {h : jH} {P : Nat → Int32} {b : Int32} : sameP (j_up (mset h 0 P) 131 28 b) (j_up (mset (mset h 207 (pg h 0)) 0 P) 131 28 b) := by
  refine ⟨fun k hk => ?_, fun k hk => ?_, fun b hb => ?_⟩
  · rw [j_up_o (by omega), j_up_o (by omega)]
    by_cases z : k < 69
    · rw [mset_at k z (by omega), mset_at k z (by omega)]
    · rw [mset_out (by omega), mset_out (by omega), mset_out (by omega)]
  · by_cases z : k = 28
    · subst z; rw [j_up_s, j_up_s]
    · rw [j_up_o (by omega), j_up_o (by omega), mset_ne (by decide), mset_ne (by decide), mset_ne (by decide)]
  · rw [j_up_ne b (by omega), j_up_ne b (by omega), mset_ne (by omega), mset_ne (by omega), mset_ne (by omega)]
theorem rd_back {h : jH} {P : Nat → Int32} : sameP h (mset (mset (mset h 207 (pg h 0)) 0 P) 0 (pg (mset (mset h 207 (pg h 0)) 0 P) 207)) := by
  refine ⟨fun k hk => ?_, fun k hk => ?_, fun b hb => ?_⟩
  · by_cases z : k < 69
    · rw [mset_at k z (by omega)]
      show (mset (mset h 207 (pg h 0)) 0 P) 132 (207 + k) = _
      rw [mset_out (by omega), mset_at k z rfl, pg0]
    · rw [mset_out (by omega), mset_out (by omega), mset_out (by omega)]
  · rw [mset_ne (by decide), mset_ne (by decide), mset_ne (by decide)]
  · rw [mset_ne (by omega), mset_ne (by omega), mset_ne (by omega)]
theorem week_gd {n w : Nat} {P : Nat → Int32} (hG : GD n P) (g2 : ¬ P 52 = nI 999) : GD n (weekP n (γP P w) w P).1 := by
  have e52 : (liveP n w P).1 52 = P 52 := liveP_keep hG.1 (by omega)
  have n52 := hG.2.2.2.2.2.2.2.2.1
  have q52 := n52.2
  have lt : ix (P 52) ≠ 999 := fun z => g2 (n52.1.trans (congrArg nI z))
  rw [weekP_live]
  refine GD_52 (GD_live hG) ?_
  rw [e52]
  exact nb_le (ix_suc n52 (by omega)).1 (by rw [(ix_suc n52 (by omega)).2]; omega)
set_option maxHeartbeats 4000000 in
theorem l6_read {g : jG} {d : Nat} {h : jH} {k l f n : Int32} (hR : MR h) (hk : ix k < 4) (hn : ix n < 21) : ∀ (m i : Nat) (P : Nat → Int32), i + m = ix n →
    oRead h k l f n = rdO h (rdF (ix (h 131 2)) (fun i => h 145 (40 * ix k + ix (f + nI i))) (fun i => fltM (h 143 (ix k)) l (ix (h 144 (ix k))) (f + nI i)) m i P) → GD (ix (h 131 2)) P →
    K g (d + 3) YX6_read (mset (mset h 207 (pg h 0)) 0 P) 56 [(0, .ref 131), (1, .int (nI (ix k))), (2, .int l), (3, .int f), (4, .int (nI (ix n))), (5, .int (nI 0)), (6, .int (nI i)), (7, .int (nI i))] [] (fun r h' => ∃ z, r = some (.int z) ∧ (z = (oRead h k l f n).1 ∧ sameP (oRead h k l f n).2 h' ∧ lo h h')) := by
  intro m
  induction m with
  | zero =>
    intro i P him hO hG
    refine J_iload (pc := 56) dX6_read_56 rfl ?_
    refine J_iload (pc := 58) dX6_read_58 rfl ?_
    refine J_icmp_ge (pc := 60) (tgt := 175) dX6_read_60 (by decide) (fun c60 => ?_) (fun c60 => ?_)
    · skip
      refine J_aload_n (pc := 175) dX6_read_175 rfl ?_
      refine J_iload (pc := 176) dX6_read_176 rfl ?_
      refine J_putI (pc := 178) dX6_read_178 fX6_278 sh131 rfl ?_
      refine J_iload (pc := 181) dX6_read_181 rfl ?_
      refine K_iret (pc := 183) dX6_read_183 rfl ?_
      exact by rw [hO]; exact ⟨rfl, rd_same, (lo_mset.tr lo_mset).tr (lo_up (by omega))⟩
    · skip
      exact absurd ((nI_leI (by omega) (by omega)).mpr (show ix n ≤ i by omega)) c60
  | succ m ih =>
    intro i P him hO hG
    have c6 := hG.1.2.2.1.2
    have l41 := (hR.2.2.2.2.2.1 _ hk).2
    have h41 := l41.2
    have hn1 : mset h 207 (pg h 0) 131 2 = nI (ix (h 131 2)) := mset_b (by decide) hR.1.1
    have hb1 : ∀ i, i < 16 → mset h 207 (pg h 0) 133 i = j_bri.getD i 0 := fun i hi => mset_b (by decide) (hR.2.2.2.2.2.2.1 i hi)
    refine J_iload (pc := 56) dX6_read_56 rfl ?_
    refine J_iload (pc := 58) dX6_read_58 rfl ?_
    refine J_icmp_ge (pc := 60) (tgt := 175) dX6_read_60 (by decide) (fun c60 => ?_) (fun c60 => ?_)
    · skip
      exact absurd ((nI_leI (by omega) (by omega)).mp c60) (by omega)
    · skip
      refine J_iload (pc := 63) dX6_read_63 rfl ?_
      refine J_if_ne (pc := 65) (tgt := 175) dX6_read_65 (by decide) (fun c => absurd c (by decide)) (fun _ => ?_)
      refine J_aload_n (pc := 68) dX6_read_68 rfl ?_
      refine J_getR (pc := 69) dX6_read_69 fX6_44 sh131 rfl ?_
      refine J_iload_n (pc := 72) dX6_read_72 rfl ?_
      refine J_iald (pc := 73) dX6_read_73 sh143 (rfl) (by omega) (mset_b (by decide) (mset_b (by decide) rfl)) (by decide) ?_
      refine J_bipush (pc := 74) (v := -4) dX6_read_74 (by decide) ?_
      refine J_icmp_ne (pc := 76) (tgt := 83) dX6_read_76 (by decide) (fun c76 => ?_) (fun c76 => ?_)
      · skip
        refine J_aload_n (pc := 83) dX6_read_83 rfl ?_
        refine J_getR (pc := 84) dX6_read_84 fX6_44 sh131 rfl ?_
        refine J_iload_n (pc := 87) dX6_read_87 rfl ?_
        refine J_iald (pc := 88) dX6_read_88 sh143 (rfl) (by omega) (mset_b (by decide) (mset_b (by decide) rfl)) (by decide) ?_
        refine J_iload_n (pc := 89) dX6_read_89 rfl ?_
        refine J_icmp_eq (pc := 90) (tgt := 97) dX6_read_90 (by decide) (fun c90 => ?_) (fun c90 => ?_)
        · skip
          refine J_iload_n (pc := 97) dX6_read_97 rfl ?_
          refine J_i2l (pc := 98) dX6_read_98 (rfl) ?_
          refine J_iload (pc := 99) dX6_read_99 rfl ?_
          refine J_i2l (pc := 101) dX6_read_101 (rfl) ?_
          refine J_ladd (pc := 102) dX6_read_102 (rfl) ?_
          refine J_lconst (pc := 103) (v := 0) dX6_read_103 (by decide) ?_
          refine J_aload_n (pc := 104) dX6_read_104 rfl ?_
          refine J_getR (pc := 105) dX6_read_105 fX6_47 sh131 rfl ?_
          refine J_iload_n (pc := 108) dX6_read_108 rfl ?_
          refine J_iald (pc := 109) dX6_read_109 sh144 (rfl) (by omega) ((mset_b (by decide) (mset_b (by decide) rfl)).trans l41.1) (by decide) ?_
          refine J_iconst (pc := 110) (v := nI 1) dX6_read_110 (by decide) ?_
          refine J_isub (pc := 111) dX6_read_111 (rfl) ?_
          refine J_i2l (pc := 112) dX6_read_112 (rfl) ?_
          refine K_Si3 (pc := 113) (Y' := YX6_in) dX6_read_113 lX6_55 mX6_in sX6_in (Nat.le_of_ble_eq_true rfl) (c6_in) ?_
          rintro x h0 ⟨e0, hb⟩
          rw [e0]
          clear e0 h0
          replace hb := bq_congr hb (rd_in (by omega) h41)
          rcases hb with ⟨rfl, b113⟩ | ⟨rfl, b113⟩
          · skip
            refine J_if_ne (pc := 116) (tgt := 123) dX6_read_116 (by decide) (fun _ => ?_) (fun c => absurd c (by decide))
            refine J_iconst (pc := 123) (v := nI 0) dX6_read_123 (by decide) ?_
            refine J_istore (pc := 124) dX6_read_124 (by decide) ?_
            refine J_iload (pc := 126) dX6_read_126 rfl ?_
            refine J_if_ne (pc := 128) (tgt := 169) dX6_read_128 (by decide) (fun c => absurd c (by decide)) (fun _ => ?_)
            have f0 : fltM (h 143 (ix k)) l (ix (h 144 (ix k))) (f + nI i) = nI 0 := (iteP_f c76).trans ((iteP_f (fun z => z c90)).trans (iteP_t b113))
            have bi := b113
            have bi2 := bi.2
            refine J_aload_n (pc := 131) dX6_read_131 rfl ?_
            refine J_aload_n (pc := 132) dX6_read_132 rfl ?_
            refine J_getR (pc := 133) dX6_read_133 fX6_50 sh131 rfl ?_
            refine J_bipush (pc := 136) (v := nI 40) dX6_read_136 (by decide) ?_
            refine J_iload_n (pc := 138) dX6_read_138 rfl ?_
            refine J_imul (pc := 139) dX6_read_139 (pk_mul _ _) ?_
            refine J_iload_n (pc := 140) dX6_read_140 rfl ?_
            refine J_iadd (pc := 141) dX6_read_141 (rfl) ?_
            refine J_iload (pc := 142) dX6_read_142 rfl ?_
            refine J_iadd (pc := 144) dX6_read_144 (rd_ix bi) ?_
            refine J_iald (pc := 145) dX6_read_145 sh145 (rfl) (by omega) (mset_b (by decide) (mset_b (by decide) rfl)) (by decide) ?_
            refine K_Vi1 (pc := 146) (Y' := YX6_weeks) dX6_read_146 lX6_209 mX6_weeks vX6_weeks ⟨_, _, rfl⟩ sh131 (Nat.le_of_ble_eq_true rfl) (c6_weeksP (n := ix (h 131 2)) (P := P) (w := h 145 (40 * ix k + ix (f + nI i))) hn1 hb1 hG) ?_
            rintro r h0 (⟨g1, rfl, rfl⟩ | ⟨g1, g2, rfl, rfl⟩ | ⟨g1, g2, rfl, rfl⟩)
            · skip
              refine J_if_ge (pc := 149) (tgt := 166) dX6_read_149 (by decide) (fun c149 => ?_) (fun c149 => ?_)
              · skip
                exact absurd c149 (by decide)
              · skip
                refine J_aload_n (pc := 152) dX6_read_152 rfl ?_
                refine J_sipush (pc := 153) (v := nI 207) dX6_read_153 (by decide) ?_
                refine J_iconst (pc := 156) (v := nI 0) dX6_read_156 (by decide) ?_
                refine K_Vv2 (pc := 157) (Y' := YX6_copies) dX6_read_157 lX6_215 mX6_copies vX6_copies ⟨_, _, rfl⟩ sh131 (Nat.le_of_ble_eq_true rfl) (c6_copies (a := 207) (o := 0) (by omega) (by omega) (by omega)) ?_
                rintro h0 e0
                rw [e0]
                clear e0 h0
                refine J_bipush (pc := 160) (v := -20) dX6_read_160 (by decide) ?_
                refine J_iload (pc := 162) dX6_read_162 rfl ?_
                refine J_isub (pc := 164) dX6_read_164 (rfl) ?_
                refine K_iret (pc := 165) dX6_read_165 rfl ?_
                exact by rw [hO, rdF, iteX_t f0, iteX_f (fun z => g1 z.1)]; exact ⟨rfl, rd_back, (lo_mset.tr lo_mset).tr lo_mset⟩
            · skip
              refine J_if_ge (pc := 149) (tgt := 166) dX6_read_149 (by decide) (fun c149 => ?_) (fun c149 => ?_)
              · skip
                exact absurd c149 (by decide)
              · skip
                refine J_aload_n (pc := 152) dX6_read_152 rfl ?_
                refine J_sipush (pc := 153) (v := nI 207) dX6_read_153 (by decide) ?_
                refine J_iconst (pc := 156) (v := nI 0) dX6_read_156 (by decide) ?_
                refine K_Vv2 (pc := 157) (Y' := YX6_copies) dX6_read_157 lX6_215 mX6_copies vX6_copies ⟨_, _, rfl⟩ sh131 (Nat.le_of_ble_eq_true rfl) (c6_copies (a := 207) (o := 0) (by omega) (by omega) (by omega)) ?_
                rintro h0 e0
                rw [e0]
                clear e0 h0
                refine J_bipush (pc := 160) (v := -20) dX6_read_160 (by decide) ?_
                refine J_iload (pc := 162) dX6_read_162 rfl ?_
                refine J_isub (pc := 164) dX6_read_164 (rfl) ?_
                refine K_iret (pc := 165) dX6_read_165 rfl ?_
                exact by rw [hO, rdF, iteX_t f0, iteX_f (fun z => z.2 g2)]; exact ⟨rfl, rd_back, (lo_mset.tr lo_mset).tr lo_mset⟩
            · skip
              refine J_if_ge (pc := 149) (tgt := 166) dX6_read_149 (by decide) (fun c149 => ?_) (fun c149 => ?_)
              · skip
                refine J_iinc (pc := 166) dX6_read_166 rfl (v := nI (i + 1)) (by exact nI_add _ _) (by decide) ?_
                refine J_iinc (pc := 169) dX6_read_169 rfl (v := nI (i + 1)) (by exact nI_add _ _) (by decide) ?_
                refine J_goto (pc := 172) (tgt := 56) dX6_read_172 (by decide) ?_
                refine J_ls (ls' := [(0, .ref 131), (1, .int (nI (ix k))), (2, .int l), (3, .int f), (4, .int (nI (ix n))), (5, .int (nI 0)), (6, .int (nI (i + 1))), (7, .int (nI (i + 1)))]) ⟨rfl, rfl, rfl, rfl, rfl, rfl, rfl, rfl, trivial⟩ ?_
                refine ih (i + 1) _ (by omega) (hO.trans (by rw [rdF, iteX_t f0, iteX_t ⟨g1, g2⟩])) ?_
                exact week_gd hG g2
              · skip
                exact absurd (Int32.not_le.mp c149) (week_ge c6)
          · skip
            refine J_if_ne (pc := 116) (tgt := 123) dX6_read_116 (by decide) (fun c => absurd c (by decide)) (fun _ => ?_)
            have cc : fltM (h 143 (ix k)) l (ix (h 144 (ix k))) (f + nI i) = nI 2 := (iteP_f c76).trans ((iteP_f (fun z => z c90)).trans (iteP_f b113))
            replace hO : oRead h k l f n = rdO h (nI i, some (nI 2, P)) := hO.trans (by rw [rdF, iteX_f (by rw [cc]; decide), cc])
            refine J_iconst (pc := 119) (v := nI 2) dX6_read_119 (by decide) ?_
            refine J_goto (pc := 120) (tgt := 124) dX6_read_120 (by decide) ?_
            refine J_istore (pc := 124) dX6_read_124 (by decide) ?_
            refine J_iload (pc := 126) dX6_read_126 rfl ?_
            refine J_if_ne (pc := 128) (tgt := 169) dX6_read_128 (by decide) (fun _ => ?_) (fun c => absurd c (by decide))
            refine J_iinc (pc := 169) dX6_read_169 rfl (v := nI (i + 1)) (by exact nI_add _ _) (by decide) ?_
            refine J_goto (pc := 172) (tgt := 56) dX6_read_172 (by decide) ?_
            refine J_iload (pc := 56) dX6_read_56 rfl ?_
            refine J_iload (pc := 58) dX6_read_58 rfl ?_
            refine J_icmp_ge (pc := 60) (tgt := 175) dX6_read_60 (by decide) (fun c60 => ?_) (fun c60 => ?_)
            · skip
              refine J_aload_n (pc := 175) dX6_read_175 rfl ?_
              refine J_iload (pc := 176) dX6_read_176 rfl ?_
              refine J_putI (pc := 178) dX6_read_178 fX6_278 sh131 rfl ?_
              refine J_iload (pc := 181) dX6_read_181 rfl ?_
              refine K_iret (pc := 183) dX6_read_183 rfl ?_
              exact by rw [hO]; exact ⟨rfl, rd_same, (lo_mset.tr lo_mset).tr (lo_up (by omega))⟩
            · skip
              refine J_iload (pc := 63) dX6_read_63 rfl ?_
              refine J_if_ne (pc := 65) (tgt := 175) dX6_read_65 (by decide) (fun _ => ?_) (fun c => absurd c (by decide))
              refine J_aload_n (pc := 175) dX6_read_175 rfl ?_
              refine J_iload (pc := 176) dX6_read_176 rfl ?_
              refine J_putI (pc := 178) dX6_read_178 fX6_278 sh131 rfl ?_
              refine J_iload (pc := 181) dX6_read_181 rfl ?_
              refine K_iret (pc := 183) dX6_read_183 rfl ?_
              exact by rw [hO]; exact ⟨rfl, rd_same, (lo_mset.tr lo_mset).tr (lo_up (by omega))⟩
        · skip
          have cc : fltM (h 143 (ix k)) l (ix (h 144 (ix k))) (f + nI i) = nI 3 := (iteP_f c76).trans (iteP_t c90)
          replace hO : oRead h k l f n = rdO h (nI i, some (nI 3, P)) := hO.trans (by rw [rdF, iteX_f (by rw [cc]; decide), cc])
          refine J_iconst (pc := 93) (v := nI 3) dX6_read_93 (by decide) ?_
          refine J_goto (pc := 94) (tgt := 124) dX6_read_94 (by decide) ?_
          refine J_istore (pc := 124) dX6_read_124 (by decide) ?_
          refine J_iload (pc := 126) dX6_read_126 rfl ?_
          refine J_if_ne (pc := 128) (tgt := 169) dX6_read_128 (by decide) (fun _ => ?_) (fun c => absurd c (by decide))
          refine J_iinc (pc := 169) dX6_read_169 rfl (v := nI (i + 1)) (by exact nI_add _ _) (by decide) ?_
          refine J_goto (pc := 172) (tgt := 56) dX6_read_172 (by decide) ?_
          refine J_iload (pc := 56) dX6_read_56 rfl ?_
          refine J_iload (pc := 58) dX6_read_58 rfl ?_
          refine J_icmp_ge (pc := 60) (tgt := 175) dX6_read_60 (by decide) (fun c60 => ?_) (fun c60 => ?_)
          · skip
            refine J_aload_n (pc := 175) dX6_read_175 rfl ?_
            refine J_iload (pc := 176) dX6_read_176 rfl ?_
            refine J_putI (pc := 178) dX6_read_178 fX6_278 sh131 rfl ?_
            refine J_iload (pc := 181) dX6_read_181 rfl ?_
            refine K_iret (pc := 183) dX6_read_183 rfl ?_
            exact by rw [hO]; exact ⟨rfl, rd_same, (lo_mset.tr lo_mset).tr (lo_up (by omega))⟩
          · skip
            refine J_iload (pc := 63) dX6_read_63 rfl ?_
            refine J_if_ne (pc := 65) (tgt := 175) dX6_read_65 (by decide) (fun _ => ?_) (fun c => absurd c (by decide))
            refine J_aload_n (pc := 175) dX6_read_175 rfl ?_
            refine J_iload (pc := 176) dX6_read_176 rfl ?_
            refine J_putI (pc := 178) dX6_read_178 fX6_278 sh131 rfl ?_
            refine J_iload (pc := 181) dX6_read_181 rfl ?_
            refine K_iret (pc := 183) dX6_read_183 rfl ?_
            exact by rw [hO]; exact ⟨rfl, rd_same, (lo_mset.tr lo_mset).tr (lo_up (by omega))⟩
      · skip
        have cc : fltM (h 143 (ix k)) l (ix (h 144 (ix k))) (f + nI i) = nI 1 := iteP_t c76
        replace hO : oRead h k l f n = rdO h (nI i, some (nI 1, P)) := hO.trans (by rw [rdF, iteX_f (by rw [cc]; decide), cc])
        refine J_iconst (pc := 79) (v := nI 1) dX6_read_79 (by decide) ?_
        refine J_goto (pc := 80) (tgt := 124) dX6_read_80 (by decide) ?_
        refine J_istore (pc := 124) dX6_read_124 (by decide) ?_
        refine J_iload (pc := 126) dX6_read_126 rfl ?_
        refine J_if_ne (pc := 128) (tgt := 169) dX6_read_128 (by decide) (fun _ => ?_) (fun c => absurd c (by decide))
        refine J_iinc (pc := 169) dX6_read_169 rfl (v := nI (i + 1)) (by exact nI_add _ _) (by decide) ?_
        refine J_goto (pc := 172) (tgt := 56) dX6_read_172 (by decide) ?_
        refine J_iload (pc := 56) dX6_read_56 rfl ?_
        refine J_iload (pc := 58) dX6_read_58 rfl ?_
        refine J_icmp_ge (pc := 60) (tgt := 175) dX6_read_60 (by decide) (fun c60 => ?_) (fun c60 => ?_)
        · skip
          refine J_aload_n (pc := 175) dX6_read_175 rfl ?_
          refine J_iload (pc := 176) dX6_read_176 rfl ?_
          refine J_putI (pc := 178) dX6_read_178 fX6_278 sh131 rfl ?_
          refine J_iload (pc := 181) dX6_read_181 rfl ?_
          refine K_iret (pc := 183) dX6_read_183 rfl ?_
          exact by rw [hO]; exact ⟨rfl, rd_same, (lo_mset.tr lo_mset).tr (lo_up (by omega))⟩
        · skip
          refine J_iload (pc := 63) dX6_read_63 rfl ?_
          refine J_if_ne (pc := 65) (tgt := 175) dX6_read_65 (by decide) (fun _ => ?_) (fun c => absurd c (by decide))
          refine J_aload_n (pc := 175) dX6_read_175 rfl ?_
          refine J_iload (pc := 176) dX6_read_176 rfl ?_
          refine J_putI (pc := 178) dX6_read_178 fX6_278 sh131 rfl ?_
          refine J_iload (pc := 181) dX6_read_181 rfl ?_
          refine K_iret (pc := 183) dX6_read_183 rfl ?_
          exact by rw [hO]; exact ⟨rfl, rd_same, (lo_mset.tr lo_mset).tr (lo_up (by omega))⟩
set_option maxHeartbeats 4000000 in
theorem c6_read {g : jG} {d : Nat} {h : jH} {k l f n : Int32} (hR : MR h) : Mi g (d + 3) YX6_read h [.ref 131, .int k, .int l, .int f, .int n] (fun r h' => r = (oRead h k l f n).1 ∧ sameP (oRead h k l f n).2 h' ∧ lo h h') := by
  refine M.of (by decide) rfl (Nat.le_of_ble_eq_true rfl) ?_
  have hR0 := hR
  have hG : GD (ix (h 131 2)) (pg h 0) := hR.2.1
  obtain ⟨r1, ⟨⟨v1, v2, v3, v4⟩, v5, v6, v7, v8, v9, va, vb, vc, vd⟩, r3, r4, ⟨r5, r6⟩, r7, r8, r9, ra⟩ := hR
  have hn := r1.1
  have hn4 := v1
  have n5 := r1.2
  have c6 : ix (h 132 37) < 6 := v3.2
  have p9 : ix (h 132 51) < 9 := v5.2
  have p9' : ix (pg h 0 51) < 9 := v5.2
  refine J_iload_n (pc := 0) dX6_read_0 rfl ?_
  refine J_i2l (pc := 1) dX6_read_1 (rfl) ?_
  refine J_lconst (pc := 2) (v := 0) dX6_read_2 (by decide) ?_
  refine J_ldc2 (pc := 3) dX6_read_3 kX6_111 ?_
  refine K_Si3 (pc := 6) (Y' := YX6_in) dX6_read_6 lX6_55 mX6_in sX6_in (Nat.le_of_ble_eq_true rfl) (c6_inI k (nI 0) (nI 3) rfl (by decide) (by decide)) ?_
  rintro x h0 ⟨e0, ⟨rfl, b6⟩ | ⟨rfl, b6⟩⟩ <;> rw [e0] <;> clear e0 h0
  · skip
    refine J_if_eq (pc := 9) (tgt := 37) dX6_read_9 (by decide) (fun c => absurd c (by decide)) (fun _ => ?_)
    refine J_iload_n (pc := 12) dX6_read_12 rfl ?_
    refine J_i2l (pc := 13) dX6_read_13 (rfl) ?_
    refine J_lconst (pc := 14) (v := 0) dX6_read_14 (by decide) ?_
    refine J_ldc2 (pc := 15) dX6_read_15 kX6_228 ?_
    refine K_Si3 (pc := 18) (Y' := YX6_in) dX6_read_18 lX6_55 mX6_in sX6_in (Nat.le_of_ble_eq_true rfl) (c6_inI l (nI 0) (nI 2) rfl (by decide) (by decide)) ?_
    rintro x h0 ⟨e0, ⟨rfl, b18⟩ | ⟨rfl, b18⟩⟩ <;> rw [e0] <;> clear e0 h0
    · skip
      refine J_if_eq (pc := 21) (tgt := 37) dX6_read_21 (by decide) (fun c => absurd c (by decide)) (fun _ => ?_)
      refine J_iload (pc := 24) dX6_read_24 rfl ?_
      refine J_i2l (pc := 26) dX6_read_26 (rfl) ?_
      refine J_lconst (pc := 27) (v := 0) dX6_read_27 (by decide) ?_
      refine J_ldc2 (pc := 28) dX6_read_28 kX6_189 ?_
      refine K_Si3 (pc := 31) (Y' := YX6_in) dX6_read_31 lX6_55 mX6_in sX6_in (Nat.le_of_ble_eq_true rfl) (c6_inI n (nI 0) (nI 20) rfl (by decide) (by decide)) ?_
      rintro x h0 ⟨e0, ⟨rfl, b31⟩ | ⟨rfl, b31⟩⟩ <;> rw [e0] <;> clear e0 h0
      · skip
        refine J_if_ne (pc := 34) (tgt := 39) dX6_read_34 (by decide) (fun _ => ?_) (fun c => absurd c (by decide))
        refine J_aload_n (pc := 39) dX6_read_39 rfl ?_
        refine J_iconst (pc := 40) (v := nI 0) dX6_read_40 (by decide) ?_
        refine J_sipush (pc := 41) (v := nI 207) dX6_read_41 (by decide) ?_
        refine K_Vv2 (pc := 44) (Y' := YX6_copies) dX6_read_44 lX6_215 mX6_copies vX6_copies ⟨_, _, rfl⟩ sh131 (Nat.le_of_ble_eq_true rfl) (c6_copies (a := 0) (o := 207) (by omega) (by omega) (by omega)) ?_
        rintro h0 e0
        rw [e0]
        clear e0 h0
        refine J_iconst (pc := 47) (v := nI 0) dX6_read_47 (by decide) ?_
        refine J_istore (pc := 48) dX6_read_48 (by decide) ?_
        refine J_iconst (pc := 50) (v := nI 0) dX6_read_50 (by decide) ?_
        refine J_istore (pc := 51) dX6_read_51 (by decide) ?_
        refine J_iconst (pc := 53) (v := nI 0) dX6_read_53 (by decide) ?_
        refine J_istore (pc := 54) dX6_read_54 (by decide) ?_
        have bk : nb 4 k := (in_nbc (n := 3) rfl (by omega)).mp b6
        have bl : nb 3 l := (in_nbc (n := 2) rfl (by omega)).mp b18
        have bn : nb 21 n := (in_nbc (n := 20) rfl (by omega)).mp b31
        refine J_h (h' := mset (mset h 207 (pg h 0)) 0 (pg h 0)) (by
          have e : pg h 0 = pg (mset h 207 (pg h 0)) 0 ∨ True := Or.inr trivial
          funext b j
          unfold mset pg
          by_cases z : b = 132 ∧ 0 ≤ j ∧ j < 0 + 69
          · rw [if_pos z, if_neg (by omega), z.1, show 0 + (j - 0) = j by omega]
          · rw [if_neg z]) ?_
        refine J_ls (ls' := [(0, .ref 131), (1, .int (nI (ix k))), (2, .int l), (3, .int f), (4, .int (nI (ix n))), (5, .int (nI 0)), (6, .int (nI 0)), (7, .int (nI 0))]) ⟨rfl, congrArg (fun z => some (Value.int z)) bk.1, rfl, rfl, congrArg (fun z => some (Value.int z)) bn.1, rfl, rfl, rfl, trivial⟩ ?_
        exact l6_read hR0 bk.2 bn.2 (ix n) 0 (pg h 0) (by omega) (iteR_t ⟨bk, bl, b31⟩) hG
      · skip
        refine J_if_ne (pc := 34) (tgt := 39) dX6_read_34 (by decide) (fun c => absurd c (by decide)) (fun _ => ?_)
        refine J_iconst (pc := 37) (v := -1) dX6_read_37 (by decide) ?_
        refine K_iret (pc := 38) dX6_read_38 rfl ?_
        exact by rw [oRead, iteR_f (fun z => b31 z.2.2)]; exact ⟨rfl, sameP.rf, lo.rf⟩
    · skip
      refine J_if_eq (pc := 21) (tgt := 37) dX6_read_21 (by decide) (fun _ => ?_) (fun c => absurd c (by decide))
      refine J_iconst (pc := 37) (v := -1) dX6_read_37 (by decide) ?_
      refine K_iret (pc := 38) dX6_read_38 rfl ?_
      exact by rw [oRead, iteR_f (fun z => b18 ((in_nbc (n := 2) rfl (by omega)).mpr z.2.1))]; exact ⟨rfl, sameP.rf, lo.rf⟩
  · skip
    refine J_if_eq (pc := 9) (tgt := 37) dX6_read_9 (by decide) (fun _ => ?_) (fun c => absurd c (by decide))
    refine J_iconst (pc := 37) (v := -1) dX6_read_37 (by decide) ?_
    refine K_iret (pc := 38) dX6_read_38 rfl ?_
    exact by rw [oRead, iteR_f (fun z => b6 ((in_nbc (n := 3) rfl (by omega)).mpr z.1))]; exact ⟨rfl, sameP.rf, lo.rf⟩
