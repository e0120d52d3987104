set_option maxHeartbeats 4000000 in
theorem l6_week1 {g : jG} {d : Nat} {h : jH} {Q : kQ} {o n w : Nat} {P γ : Nat → Int32} (ho : o + 69 ≤ 414) (ho2 : o = 0 ∨ 69 ≤ o) (hn : h 131 2 = nI n) (hn4 : n ≤ 4) (hw : w < 4) (hk : ∀ p, p < n → nb 4 (mset h o P 132 p)) (hγ : ∀ p, p < n → gM (mset h o P) p w = γ p) (kx : K g (d + 1) YX6_weekOn (mset h o (w1 γ P n)) 79 [(0, .ref 131), (1, .int (nI o)), (2, .int (nI w)), (3, .int (nI 0)), (4, .int (nI n))] [] Q) : ∀ m k : Nat, k ≤ n → n < k + m → K g (d + 1) YX6_weekOn (mset h o (w1 γ P k)) 5 [(0, .ref 131), (1, .int (nI o)), (2, .int (nI w)), (3, .int (nI 0)), (4, .int (nI k))] [] Q := by
  intro m
  induction m with
  | zero => intro k hk1 hk2; omega
  | succ m ih =>
    intro k hk1 hk2
    have hz : ∀ j, j < 8 → mset h o (w1 γ P k) 132 j = mset h o P 132 j := fun j hj => by
      rcases ho2 with rfl | z
      · rw [mset_at j (by omega) (by omega), mset_at j (by omega) (by omega), w1_keep (by omega) (by omega)]
      · rw [mset_out (by omega), mset_out (by omega)]
    refine J_iload (pc := 5) dX6_weekOn_5 rfl ?_
    refine J_aload_n (pc := 7) dX6_weekOn_7 rfl ?_
    refine J_getI (pc := 8) dX6_weekOn_8 fX6_148 sh131 rfl (mset_b (by decide) hn) ?_
    refine J_icmp_ge (pc := 11) (tgt := 79) dX6_weekOn_11 (by decide) (fun c11 => ?_) (fun c11 => ?_)
    · skip
      have q11 : n ≤ k := (nI_leI (by omega) (by omega)).mp c11
      have e_k : k = n := by omega
      refine J_ls (ls' := [(0, .ref 131), (1, .int (nI o)), (2, .int (nI w)), (3, .int (nI 0)), (4, .int (nI k))]) ⟨rfl, rfl, rfl, rfl, rfl, trivial⟩ ?_
      rw [e_k]
      exact kx
    · skip
      have q11 : k < n := Nat.lt_of_not_le (fun z => c11 ((nI_leI (by omega) (by omega)).mpr z))
      refine J_aload_n (pc := 14) dX6_weekOn_14 rfl ?_
      refine J_getR (pc := 15) dX6_weekOn_15 fX6_7 sh131 rfl ?_
      refine J_iload_n (pc := 18) dX6_weekOn_18 rfl ?_
      refine J_bipush (pc := 19) (v := nI 8) dX6_weekOn_19 (by decide) ?_
      refine J_iadd (pc := 21) dX6_weekOn_21 (nI_add _ _) ?_
      refine J_iload (pc := 22) dX6_weekOn_22 rfl ?_
      refine J_iadd (pc := 24) dX6_weekOn_24 (nI_add _ _) ?_
      refine J_iald (pc := 25) dX6_weekOn_25 sh132 (rfl) (by omega) (mset_at (8 + k) (by omega) (by omega)) (by decide) ?_
      refine J_aload_n (pc := 26) dX6_weekOn_26 rfl ?_
      refine J_iload (pc := 27) dX6_weekOn_27 rfl ?_
      refine J_iload_n (pc := 29) dX6_weekOn_29 rfl ?_
      refine K_Vi2 (pc := 30) (Y' := YX6_gainOf) dX6_weekOn_30 lX6_172 mX6_gainOf vX6_gainOf ⟨_, _, rfl⟩ sh131 (Nat.le_of_ble_eq_true rfl) (c6_gainOf (p := k) (w := w) (by omega) (by rw [hz k (by omega)]; exact hk k q11) hw) ?_
      rintro x h0 ⟨rfl, rfl⟩
      have eg : mset h o (w1 γ P k) 133 (4 * ix (mset h o (w1 γ P k) 132 k) + w) * mset h o (w1 γ P k) 132 (4 + k) = γ k := by
        rw [hz k (by omega), hz (4 + k) (by omega), ← hγ k q11]
        unfold gM
        rw [mset_ne (b := 133) (by decide), mset_ne (b := 133) (by decide)]
      rw [eg]
      refine J_iadd (pc := 33) dX6_weekOn_33 (rfl) ?_
      refine J_istore (pc := 34) dX6_weekOn_34 (by decide) ?_
      refine J_aload_n (pc := 36) dX6_weekOn_36 rfl ?_
      refine J_getR (pc := 37) dX6_weekOn_37 fX6_7 sh131 rfl ?_
      refine J_iload_n (pc := 40) dX6_weekOn_40 rfl ?_
      refine J_bipush (pc := 41) (v := nI 8) dX6_weekOn_41 (by decide) ?_
      refine J_iadd (pc := 43) dX6_weekOn_43 (nI_add _ _) ?_
      refine J_iload (pc := 44) dX6_weekOn_44 rfl ?_
      refine J_iadd (pc := 46) dX6_weekOn_46 (nI_add _ _) ?_
      refine J_iload (pc := 47) dX6_weekOn_47 rfl ?_
      refine J_joinZ 72 (clampP (w1 γ P k (8 + k) + γ k)) ?_ (fun kj49 => ?_)
      · skip
        refine J_iast (pc := 72) dX6_weekOn_72 sh132 (rfl) (by omega) (by decide) ?_
        rw [mset_up (i := o + 8 + k) (8 + k) (by omega) (by omega)]
        refine J_iinc (pc := 73) dX6_weekOn_73 rfl (v := nI (k + 1)) (by exact nI_add _ _) (by decide) ?_
        refine J_goto (pc := 76) (tgt := 5) dX6_weekOn_76 (by decide) ?_
        exact J_ls (ls' := [(0, .ref 131), (1, .int (nI o)), (2, .int (nI w)), (3, .int (nI 0)), (4, .int (nI (k + 1)))]) ⟨rfl, rfl, rfl, rfl, rfl, trivial⟩ (ih (k + 1) (by omega) (by omega))
      · skip
        refine J_if_ge (pc := 49) (tgt := 56) dX6_weekOn_49 (by decide) (fun c49 => ?_) (fun c49 => ?_)
        · skip
          refine J_iload (pc := 56) dX6_weekOn_56 rfl ?_
          refine J_sipush (pc := 58) (v := nI 999) dX6_weekOn_58 (by decide) ?_
          refine J_icmp_le (pc := 61) (tgt := 70) dX6_weekOn_61 (by decide) (fun c61 => ?_) (fun c61 => ?_)
          · skip
            refine J_iload (pc := 70) dX6_weekOn_70 rfl ?_
            rw [clampP, if_pos c49, if_pos c61] at kj49
            exact kj49
          · skip
            refine J_sipush (pc := 64) (v := nI 999) dX6_weekOn_64 (by decide) ?_
            refine J_goto (pc := 67) (tgt := 72) dX6_weekOn_67 (by decide) ?_
            rw [clampP, if_pos c49, if_neg c61] at kj49
            exact kj49
        · skip
          refine J_iconst (pc := 52) (v := nI 0) dX6_weekOn_52 (by decide) ?_
          refine J_goto (pc := 53) (tgt := 72) dX6_weekOn_53 (by decide) ?_
          rw [clampP, if_neg c49] at kj49
          exact kj49
set_option maxHeartbeats 4000000 in
theorem l6_week2 {g : jG} {d : Nat} {h : jH} {Q : kQ} {o w : Nat} {P : Nat → Int32} (ho : o + 69 ≤ 414) (hw : w < 4) (hc : cvOK P) (kx : K g (d + 1) YX6_weekOn (mset h o (cvF w P (ix (P 37))).1) 208 [(0, .ref 131), (1, .int (nI o)), (2, .int (nI w)), (3, .int (cvF w P (ix (P 37))).2), (4, .int (nI (ix (P 37))))] [] Q) : ∀ m k : Nat, k ≤ (ix (P 37)) → (ix (P 37)) < k + m → K g (d + 1) YX6_weekOn (mset h o (cvF w P k).1) 82 [(0, .ref 131), (1, .int (nI o)), (2, .int (nI w)), (3, .int (cvF w P k).2), (4, .int (nI k))] [] Q := by
  intro m
  induction m with
  | zero => intro k hk1 hk2; omega
  | succ m ih =>
    intro k hk1 hk2
    have h6 := hc.1.2
    have e37 : (cvF w P k).1 37 = nI (ix (P 37)) := (cvF_keep hc (by omega) hk1).trans hc.1.1
    refine J_iload (pc := 82) dX6_weekOn_82 rfl ?_
    refine J_aload_n (pc := 84) dX6_weekOn_84 rfl ?_
    refine J_getR (pc := 85) dX6_weekOn_85 fX6_7 sh131 rfl ?_
    refine J_iload_n (pc := 88) dX6_weekOn_88 rfl ?_
    refine J_bipush (pc := 89) (v := nI 37) dX6_weekOn_89 (by decide) ?_
    refine J_iadd (pc := 91) dX6_weekOn_91 (nI_add _ _) ?_
    refine J_iald (pc := 92) dX6_weekOn_92 sh132 (rfl) (by omega) ((mset_at 37 (by omega) (by omega)).trans e37) (by decide) ?_
    refine J_icmp_ge (pc := 93) (tgt := 208) dX6_weekOn_93 (by decide) (fun c93 => ?_) (fun c93 => ?_)
    · skip
      have q93 : (ix (P 37)) ≤ k := (nI_leI (by omega) (by omega)).mp c93
      have e_k : k = (ix (P 37)) := by omega
      refine J_ls (ls' := [(0, .ref 131), (1, .int (nI o)), (2, .int (nI w)), (3, .int (cvF w P k).2), (4, .int (nI k))]) ⟨rfl, rfl, rfl, rfl, rfl, trivial⟩ ?_
      rw [e_k]
      exact kx
    · skip
      have q93 : k < (ix (P 37)) := Nat.lt_of_not_le (fun z => c93 ((nI_leI (by omega) (by omega)).mpr z))
      obtain ⟨n1, n2⟩ := hc.2 k q93
      have na : nb 4 ((cvF w P k).1 (12 + 5 * k)) := by rw [cvF_keep hc (by omega) hk1]; exact n1
      have nc : nb 4 ((cvF w P k).1 (12 + 5 * k + 1)) := by rw [cvF_keep hc (by omega) hk1]; exact n2
      have ea := cvA_keep (w := w) hc (k := 12 + 5 * k) (by omega) q93
      have eb := cvA_keep (w := w) hc (k := 12 + 5 * k + 1) (by omega) q93
      obtain ⟨SA, eSA⟩ : ∃ SA, cvA w k (cvF w P k) = SA := ⟨_, rfl⟩
      rw [eSA] at ea eb
      have nd : nb 4 (SA.1 (12 + 5 * k + 1)) := by rw [eb]; exact n2
      have ne : nb 4 (SA.1 (12 + 5 * k)) := by rw [ea]; exact n1
      refine J_iload_n (pc := 96) dX6_weekOn_96 rfl ?_
      refine J_bipush (pc := 97) (v := nI 12) dX6_weekOn_97 (by decide) ?_
      refine J_iadd (pc := 99) dX6_weekOn_99 (nI_add _ _) ?_
      refine J_iconst (pc := 100) (v := nI 5) dX6_weekOn_100 (by decide) ?_
      refine J_iload (pc := 101) dX6_weekOn_101 rfl ?_
      refine J_imul (pc := 103) dX6_weekOn_103 (pk_mul _ _) ?_
      refine J_iadd (pc := 104) dX6_weekOn_104 (nI_add _ _) ?_
      refine J_istore (pc := 105) dX6_weekOn_105 (by decide) ?_
      refine J_iload_n (pc := 107) dX6_weekOn_107 rfl ?_
      refine J_aload_n (pc := 108) dX6_weekOn_108 rfl ?_
      refine J_getR (pc := 109) dX6_weekOn_109 fX6_7 sh131 rfl ?_
      refine J_iload (pc := 112) dX6_weekOn_112 rfl ?_
      refine J_iconst (pc := 114) (v := nI 2) dX6_weekOn_114 (by decide) ?_
      refine J_iadd (pc := 115) dX6_weekOn_115 (nI_add _ _) ?_
      refine J_iald (pc := 116) dX6_weekOn_116 sh132 (rfl) (by omega) ((mset_at (12 + 5 * k + 2) (by omega) (by omega))) (by decide) ?_
      refine J_iload_n (pc := 117) dX6_weekOn_117 rfl ?_
      refine J_icmp_ne (pc := 118) (tgt := 158) dX6_weekOn_118 (by decide) (fun c118 => ?_) (fun c118 => ?_)
      · skip
        have hSA : SA = ((cvF w P k).1, (cvF w P k).2 + nI 0) := by rw [← eSA, cvA, if_neg c118]
        subst hSA
        refine J_iconst (pc := 158) (v := nI 0) dX6_weekOn_158 (by decide) ?_
        refine J_iadd (pc := 159) dX6_weekOn_159 (rfl) ?_
        refine J_istore_n (pc := 160) dX6_weekOn_160 (by decide) ?_
        refine J_iload_n (pc := 161) dX6_weekOn_161 rfl ?_
        refine J_aload_n (pc := 162) dX6_weekOn_162 rfl ?_
        refine J_iload_n (pc := 163) dX6_weekOn_163 rfl ?_
        refine J_aload_n (pc := 164) dX6_weekOn_164 rfl ?_
        refine J_getR (pc := 165) dX6_weekOn_165 fX6_7 sh131 rfl ?_
        refine J_iload (pc := 168) dX6_weekOn_168 rfl ?_
        refine J_iconst (pc := 170) (v := nI 1) dX6_weekOn_170 (by decide) ?_
        refine J_iadd (pc := 171) dX6_weekOn_171 (nI_add _ _) ?_
        refine J_iald (pc := 172) dX6_weekOn_172 sh132 (rfl) (by omega) ((mset_at (12 + 5 * k + 1) (by omega) (by omega)).trans nd.1) (by decide) ?_
        refine J_aload_n (pc := 173) dX6_weekOn_173 rfl ?_
        refine J_getR (pc := 174) dX6_weekOn_174 fX6_7 sh131 rfl ?_
        refine J_iload (pc := 177) dX6_weekOn_177 rfl ?_
        refine J_iald (pc := 179) dX6_weekOn_179 sh132 (rfl) (by omega) ((mset_at (12 + 5 * k) (by omega) (by omega)).trans ne.1) (by decide) ?_
        refine J_aload_n (pc := 180) dX6_weekOn_180 rfl ?_
        refine J_getR (pc := 181) dX6_weekOn_181 fX6_7 sh131 rfl ?_
        refine J_iload (pc := 184) dX6_weekOn_184 rfl ?_
        refine J_iconst (pc := 186) (v := nI 4) dX6_weekOn_186 (by decide) ?_
        refine J_iadd (pc := 187) dX6_weekOn_187 (nI_add _ _) ?_
        refine J_iald (pc := 188) dX6_weekOn_188 sh132 (rfl) (by omega) ((mset_at (12 + 5 * k + 4) (by omega) (by omega))) (by decide) ?_
        refine K_Vi4 (pc := 189) (Y' := YX6_paysOn) dX6_weekOn_189 lX6_202 mX6_paysOn vX6_paysOn ⟨_, _, rfl⟩ sh131 (Nat.le_of_ble_eq_true rfl) (c6_paysOn ho nd.2 ne.2) ?_
        rintro x h0 ⟨rfl, ⟨rfl, b189⟩ | ⟨rfl, b189⟩⟩
        · skip
          have el := payK_1 b189
          refine J_if_eq (pc := 192) (tgt := 199) dX6_weekOn_192 (by decide) (fun c => absurd c (by decide)) (fun _ => ?_)
          refine J_iconst (pc := 195) (v := nI 1) dX6_weekOn_195 (by decide) ?_
          refine J_goto (pc := 196) (tgt := 200) dX6_weekOn_196 (by decide) ?_
          refine J_iadd (pc := 200) dX6_weekOn_200 (rfl) ?_
          refine J_istore_n (pc := 201) dX6_weekOn_201 (by decide) ?_
          refine J_iinc (pc := 202) dX6_weekOn_202 rfl (v := nI (k + 1)) (by exact nI_add _ _) (by decide) ?_
          refine J_goto (pc := 205) (tgt := 82) dX6_weekOn_205 (by decide) ?_
          have i := ih (k + 1) (by omega) (by omega)
          rw [show cvF w P (k + 1) = cvB k (cvA w k (cvF w P k)) from rfl, eSA] at i
          dsimp only [cvB] at i el
          rw [el] at i
          refine J_ls ?_ i
          exact ⟨rfl, rfl, rfl, rfl, rfl, trivial⟩
        · skip
          have el := payK_0 b189
          refine J_if_eq (pc := 192) (tgt := 199) dX6_weekOn_192 (by decide) (fun _ => ?_) (fun c => absurd c (by decide))
          refine J_iconst (pc := 199) (v := nI 0) dX6_weekOn_199 (by decide) ?_
          refine J_iadd (pc := 200) dX6_weekOn_200 (rfl) ?_
          refine J_istore_n (pc := 201) dX6_weekOn_201 (by decide) ?_
          refine J_iinc (pc := 202) dX6_weekOn_202 rfl (v := nI (k + 1)) (by exact nI_add _ _) (by decide) ?_
          refine J_goto (pc := 205) (tgt := 82) dX6_weekOn_205 (by decide) ?_
          have i := ih (k + 1) (by omega) (by omega)
          rw [show cvF w P (k + 1) = cvB k (cvA w k (cvF w P k)) from rfl, eSA] at i
          dsimp only [cvB] at i el
          rw [el] at i
          refine J_ls ?_ i
          exact ⟨rfl, rfl, rfl, rfl, rfl, trivial⟩
      · skip
        have eq118 : (cvF w P k).1 (12 + 5 * k + 2) = nI w := by first | exact c118 | exact Classical.not_not.mp c118
        refine J_aload_n (pc := 121) dX6_weekOn_121 rfl ?_
        refine J_iload_n (pc := 122) dX6_weekOn_122 rfl ?_
        refine J_aload_n (pc := 123) dX6_weekOn_123 rfl ?_
        refine J_getR (pc := 124) dX6_weekOn_124 fX6_7 sh131 rfl ?_
        refine J_iload (pc := 127) dX6_weekOn_127 rfl ?_
        refine J_iald (pc := 129) dX6_weekOn_129 sh132 (rfl) (by omega) ((mset_at (12 + 5 * k) (by omega) (by omega)).trans na.1) (by decide) ?_
        refine J_aload_n (pc := 130) dX6_weekOn_130 rfl ?_
        refine J_getR (pc := 131) dX6_weekOn_131 fX6_7 sh131 rfl ?_
        refine J_iload (pc := 134) dX6_weekOn_134 rfl ?_
        refine J_iconst (pc := 136) (v := nI 1) dX6_weekOn_136 (by decide) ?_
        refine J_iadd (pc := 137) dX6_weekOn_137 (nI_add _ _) ?_
        refine J_iald (pc := 138) dX6_weekOn_138 sh132 (rfl) (by omega) ((mset_at (12 + 5 * k + 1) (by omega) (by omega)).trans nc.1) (by decide) ?_
        refine J_aload_n (pc := 139) dX6_weekOn_139 rfl ?_
        refine J_getR (pc := 140) dX6_weekOn_140 fX6_7 sh131 rfl ?_
        refine J_iload (pc := 143) dX6_weekOn_143 rfl ?_
        refine J_iconst (pc := 145) (v := nI 3) dX6_weekOn_145 (by decide) ?_
        refine J_iadd (pc := 146) dX6_weekOn_146 (nI_add _ _) ?_
        refine J_iald (pc := 147) dX6_weekOn_147 sh132 (rfl) (by omega) ((mset_at (12 + 5 * k + 3) (by omega) (by omega))) (by decide) ?_
        refine K_Vi4 (pc := 148) (Y' := YX6_paysOn) dX6_weekOn_148 lX6_202 mX6_paysOn vX6_paysOn ⟨_, _, rfl⟩ sh131 (Nat.le_of_ble_eq_true rfl) (c6_paysOn ho na.2 nc.2) ?_
        rintro x h0 ⟨rfl, ⟨rfl, b148⟩ | ⟨rfl, b148⟩⟩
        · skip
          have hSA : SA = (payP (ix ((cvF w P k).1 (12 + 5 * k))) (ix ((cvF w P k).1 (12 + 5 * k + 1))) ((cvF w P k).1 (12 + 5 * k + 3)) (cvF w P k).1, (cvF w P k).2 + nI 1) := by rw [← eSA, cvA, if_pos eq118, payK_1 b148]
          subst hSA
          refine J_if_eq (pc := 151) (tgt := 158) dX6_weekOn_151 (by decide) (fun c => absurd c (by decide)) (fun _ => ?_)
          refine J_iconst (pc := 154) (v := nI 1) dX6_weekOn_154 (by decide) ?_
          refine J_goto (pc := 155) (tgt := 159) dX6_weekOn_155 (by decide) ?_
          refine J_iadd (pc := 159) dX6_weekOn_159 (rfl) ?_
          refine J_istore_n (pc := 160) dX6_weekOn_160 (by decide) ?_
          refine J_iload_n (pc := 161) dX6_weekOn_161 rfl ?_
          refine J_aload_n (pc := 162) dX6_weekOn_162 rfl ?_
          refine J_iload_n (pc := 163) dX6_weekOn_163 rfl ?_
          refine J_aload_n (pc := 164) dX6_weekOn_164 rfl ?_
          refine J_getR (pc := 165) dX6_weekOn_165 fX6_7 sh131 rfl ?_
          refine J_iload (pc := 168) dX6_weekOn_168 rfl ?_
          refine J_iconst (pc := 170) (v := nI 1) dX6_weekOn_170 (by decide) ?_
          refine J_iadd (pc := 171) dX6_weekOn_171 (nI_add _ _) ?_
          refine J_iald (pc := 172) dX6_weekOn_172 sh132 (rfl) (by omega) ((mset_at (12 + 5 * k + 1) (by omega) (by omega)).trans nd.1) (by decide) ?_
          refine J_aload_n (pc := 173) dX6_weekOn_173 rfl ?_
          refine J_getR (pc := 174) dX6_weekOn_174 fX6_7 sh131 rfl ?_
          refine J_iload (pc := 177) dX6_weekOn_177 rfl ?_
          refine J_iald (pc := 179) dX6_weekOn_179 sh132 (rfl) (by omega) ((mset_at (12 + 5 * k) (by omega) (by omega)).trans ne.1) (by decide) ?_
          refine J_aload_n (pc := 180) dX6_weekOn_180 rfl ?_
          refine J_getR (pc := 181) dX6_weekOn_181 fX6_7 sh131 rfl ?_
          refine J_iload (pc := 184) dX6_weekOn_184 rfl ?_
          refine J_iconst (pc := 186) (v := nI 4) dX6_weekOn_186 (by decide) ?_
          refine J_iadd (pc := 187) dX6_weekOn_187 (nI_add _ _) ?_
          refine J_iald (pc := 188) dX6_weekOn_188 sh132 (rfl) (by omega) ((mset_at (12 + 5 * k + 4) (by omega) (by omega))) (by decide) ?_
          refine K_Vi4 (pc := 189) (Y' := YX6_paysOn) dX6_weekOn_189 lX6_202 mX6_paysOn vX6_paysOn ⟨_, _, rfl⟩ sh131 (Nat.le_of_ble_eq_true rfl) (c6_paysOn ho nd.2 ne.2) ?_
          rintro x h0 ⟨rfl, ⟨rfl, b189⟩ | ⟨rfl, b189⟩⟩
          · skip
            have el := payK_1 b189
            refine J_if_eq (pc := 192) (tgt := 199) dX6_weekOn_192 (by decide) (fun c => absurd c (by decide)) (fun _ => ?_)
            refine J_iconst (pc := 195) (v := nI 1) dX6_weekOn_195 (by decide) ?_
            refine J_goto (pc := 196) (tgt := 200) dX6_weekOn_196 (by decide) ?_
            refine J_iadd (pc := 200) dX6_weekOn_200 (rfl) ?_
            refine J_istore_n (pc := 201) dX6_weekOn_201 (by decide) ?_
            refine J_iinc (pc := 202) dX6_weekOn_202 rfl (v := nI (k + 1)) (by exact nI_add _ _) (by decide) ?_
            refine J_goto (pc := 205) (tgt := 82) dX6_weekOn_205 (by decide) ?_
            have i := ih (k + 1) (by omega) (by omega)
            rw [show cvF w P (k + 1) = cvB k (cvA w k (cvF w P k)) from rfl, eSA] at i
            dsimp only [cvB] at i el
            rw [el] at i
            refine J_ls ?_ i
            exact ⟨rfl, rfl, rfl, rfl, rfl, trivial⟩
          · skip
            have el := payK_0 b189
            refine J_if_eq (pc := 192) (tgt := 199) dX6_weekOn_192 (by decide) (fun _ => ?_) (fun c => absurd c (by decide))
            refine J_iconst (pc := 199) (v := nI 0) dX6_weekOn_199 (by decide) ?_
            refine J_iadd (pc := 200) dX6_weekOn_200 (rfl) ?_
            refine J_istore_n (pc := 201) dX6_weekOn_201 (by decide) ?_
            refine J_iinc (pc := 202) dX6_weekOn_202 rfl (v := nI (k + 1)) (by exact nI_add _ _) (by decide) ?_
            refine J_goto (pc := 205) (tgt := 82) dX6_weekOn_205 (by decide) ?_
            have i := ih (k + 1) (by omega) (by omega)
            rw [show cvF w P (k + 1) = cvB k (cvA w k (cvF w P k)) from rfl, eSA] at i
            dsimp only [cvB] at i el
            rw [el] at i
            refine J_ls ?_ i
            exact ⟨rfl, rfl, rfl, rfl, rfl, trivial⟩
        · skip
          have hSA : SA = (payP (ix ((cvF w P k).1 (12 + 5 * k))) (ix ((cvF w P k).1 (12 + 5 * k + 1))) ((cvF w P k).1 (12 + 5 * k + 3)) (cvF w P k).1, (cvF w P k).2 + nI 0) := by rw [← eSA, cvA, if_pos eq118, payK_0 b148]
          subst hSA
          refine J_if_eq (pc := 151) (tgt := 158) dX6_weekOn_151 (by decide) (fun _ => ?_) (fun c => absurd c (by decide))
          refine J_iconst (pc := 158) (v := nI 0) dX6_weekOn_158 (by decide) ?_
          refine J_iadd (pc := 159) dX6_weekOn_159 (rfl) ?_
          refine J_istore_n (pc := 160) dX6_weekOn_160 (by decide) ?_
          refine J_iload_n (pc := 161) dX6_weekOn_161 rfl ?_
          refine J_aload_n (pc := 162) dX6_weekOn_162 rfl ?_
          refine J_iload_n (pc := 163) dX6_weekOn_163 rfl ?_
          refine J_aload_n (pc := 164) dX6_weekOn_164 rfl ?_
          refine J_getR (pc := 165) dX6_weekOn_165 fX6_7 sh131 rfl ?_
          refine J_iload (pc := 168) dX6_weekOn_168 rfl ?_
          refine J_iconst (pc := 170) (v := nI 1) dX6_weekOn_170 (by decide) ?_
          refine J_iadd (pc := 171) dX6_weekOn_171 (nI_add _ _) ?_
          refine J_iald (pc := 172) dX6_weekOn_172 sh132 (rfl) (by omega) ((mset_at (12 + 5 * k + 1) (by omega) (by omega)).trans nd.1) (by decide) ?_
          refine J_aload_n (pc := 173) dX6_weekOn_173 rfl ?_
          refine J_getR (pc := 174) dX6_weekOn_174 fX6_7 sh131 rfl ?_
          refine J_iload (pc := 177) dX6_weekOn_177 rfl ?_
          refine J_iald (pc := 179) dX6_weekOn_179 sh132 (rfl) (by omega) ((mset_at (12 + 5 * k) (by omega) (by omega)).trans ne.1) (by decide) ?_
          refine J_aload_n (pc := 180) dX6_weekOn_180 rfl ?_
          refine J_getR (pc := 181) dX6_weekOn_181 fX6_7 sh131 rfl ?_
          refine J_iload (pc := 184) dX6_weekOn_184 rfl ?_
          refine J_iconst (pc := 186) (v := nI 4) dX6_weekOn_186 (by decide) ?_
          refine J_iadd (pc := 187) dX6_weekOn_187 (nI_add _ _) ?_
          refine J_iald (pc := 188) dX6_weekOn_188 sh132 (rfl) (by omega) ((mset_at (12 + 5 * k + 4) (by omega) (by omega))) (by decide) ?_
          refine K_Vi4 (pc := 189) (Y' := YX6_paysOn) dX6_weekOn_189 lX6_202 mX6_paysOn vX6_paysOn ⟨_, _, rfl⟩ sh131 (Nat.le_of_ble_eq_true rfl) (c6_paysOn ho nd.2 ne.2) ?_
          rintro x h0 ⟨rfl, ⟨rfl, b189⟩ | ⟨rfl, b189⟩⟩
          · skip
            have el := payK_1 b189
            refine J_if_eq (pc := 192) (tgt := 199) dX6_weekOn_192 (by decide) (fun c => absurd c (by decide)) (fun _ => ?_)
            refine J_iconst (pc := 195) (v := nI 1) dX6_weekOn_195 (by decide) ?_
            refine J_goto (pc := 196) (tgt := 200) dX6_weekOn_196 (by decide) ?_
            refine J_iadd (pc := 200) dX6_weekOn_200 (rfl) ?_
            refine J_istore_n (pc := 201) dX6_weekOn_201 (by decide) ?_
            refine J_iinc (pc := 202) dX6_weekOn_202 rfl (v := nI (k + 1)) (by exact nI_add _ _) (by decide) ?_
            refine J_goto (pc := 205) (tgt := 82) dX6_weekOn_205 (by decide) ?_
            have i := ih (k + 1) (by omega) (by omega)
            rw [show cvF w P (k + 1) = cvB k (cvA w k (cvF w P k)) from rfl, eSA] at i
            dsimp only [cvB] at i el
            rw [el] at i
            refine J_ls ?_ i
            exact ⟨rfl, rfl, rfl, rfl, rfl, trivial⟩
          · skip
            have el := payK_0 b189
            refine J_if_eq (pc := 192) (tgt := 199) dX6_weekOn_192 (by decide) (fun _ => ?_) (fun c => absurd c (by decide))
            refine J_iconst (pc := 199) (v := nI 0) dX6_weekOn_199 (by decide) ?_
            refine J_iadd (pc := 200) dX6_weekOn_200 (rfl) ?_
            refine J_istore_n (pc := 201) dX6_weekOn_201 (by decide) ?_
            refine J_iinc (pc := 202) dX6_weekOn_202 rfl (v := nI (k + 1)) (by exact nI_add _ _) (by decide) ?_
            refine J_goto (pc := 205) (tgt := 82) dX6_weekOn_205 (by decide) ?_
            have i := ih (k + 1) (by omega) (by omega)
            rw [show cvF w P (k + 1) = cvB k (cvA w k (cvF w P k)) from rfl, eSA] at i
            dsimp only [cvB] at i el
            rw [el] at i
            refine J_ls ?_ i
            exact ⟨rfl, rfl, rfl, rfl, rfl, trivial⟩
set_option maxHeartbeats 4000000 in
theorem c6_weekOn {g : jG} {d : Nat} {h : jH} {o n w : Nat} {P γ : Nat → Int32} (ho : o + 69 ≤ 414) (ho2 : o = 0 ∨ 69 ≤ o) (hn : h 131 2 = nI n) (hn4 : n ≤ 4) (hw : w < 4) (hk : ∀ p, p < n → nb 4 (mset h o P 132 p)) (hγ : ∀ p, p < n → gM (mset h o P) p w = γ p) (hc : cvOK P) : Mi g (d + 1) YX6_weekOn (mset h o P) [.ref 131, .int (nI o), .int (nI w)] (fun x h' => h' = mset h o (weekP n γ w P).1 ∧ x = (weekP n γ w P).2) := by
  refine M.of (by decide) rfl (Nat.le_of_ble_eq_true rfl) ?_
  refine J_iconst (pc := 0) (v := nI 0) dX6_weekOn_0 (by decide) ?_
  refine J_istore_n (pc := 1) dX6_weekOn_1 (by decide) ?_
  refine J_iconst (pc := 2) (v := nI 0) dX6_weekOn_2 (by decide) ?_
  refine J_istore (pc := 3) dX6_weekOn_3 (by decide) ?_
  refine J_ls (ls' := [(0, .ref 131), (1, .int (nI o)), (2, .int (nI w)), (3, .int (nI 0)), (4, .int (nI 0))]) ⟨rfl, rfl, rfl, rfl, rfl, trivial⟩ ?_
  refine l6_week1 ho ho2 hn hn4 hw hk hγ ?_ (n + 1) 0 (Nat.zero_le _) (by omega)
  refine J_iconst (pc := 79) (v := nI 0) dX6_weekOn_79 (by decide) ?_
  refine J_istore (pc := 80) dX6_weekOn_80 (by decide) ?_
  have hc1 := w1_cvOK (γ := γ) hn4 hc
  have e37 : w1 γ P n 37 = P 37 := w1_keep hn4 (by omega)
  refine J_ls (ls' := [(0, .ref 131), (1, .int (nI o)), (2, .int (nI w)), (3, .int (nI 0)), (4, .int (nI 0))]) ⟨rfl, rfl, rfl, rfl, rfl, trivial⟩ ?_
  refine l6_week2 (P := w1 γ P n) ho hw hc1 ?_ (ix (w1 γ P n 37) + 1) 0 (Nat.zero_le _) (by omega)
  rw [e37]
  refine J_aload_n (pc := 208) dX6_weekOn_208 rfl ?_
  refine J_getR (pc := 209) dX6_weekOn_209 fX6_7 sh131 rfl ?_
  refine J_iload_n (pc := 212) dX6_weekOn_212 rfl ?_
  refine J_bipush (pc := 213) (v := nI 52) dX6_weekOn_213 (by decide) ?_
  refine J_iadd (pc := 215) dX6_weekOn_215 (nI_add _ _) ?_
  refine J_dup2 (pc := 216) dX6_weekOn_216 rfl rfl ?_
  refine J_iald (pc := 217) dX6_weekOn_217 sh132 (rfl) (by omega) (mset_at 52 (by omega) (by omega)) (by decide) ?_
  refine J_iconst (pc := 218) (v := nI 1) dX6_weekOn_218 (by decide) ?_
  refine J_iadd (pc := 219) dX6_weekOn_219 (rfl) ?_
  refine J_iast (pc := 220) dX6_weekOn_220 sh132 (rfl) (by omega) (by decide) ?_
  rw [mset_up (i := o + 52) 52 (by omega) (by omega)]
  refine J_iload_n (pc := 221) dX6_weekOn_221 rfl ?_
  refine K_iret (pc := 222) dX6_weekOn_222 rfl ?_
  exact ⟨rfl, rfl⟩
