/-! ===== the model: SHEETS, SLOTS (3) ===== -/
theorem lp_Mcopy1 {d L : Nat} {xs : Nat → Int32} {I : Nat → Nat → Int32} {Q : Option Value → mj_H → Prop} {f t pl at_ m : Nat} (hf : f < 4) (ht : t < 4) (hp : pl + m ≤ 24) (hQ : mj_Ev (d + 2) 206 137 [.ref 127, .int (nI f), .int (nI pl), .int (nI t), .int (nI at_), .int (nI m), .int (nI m)] [] (mg_h L xs (mw I 147 (fun q => if q < m then I 142 (24 * f + pl + q) else I 147 q))) Q) : ∀ k : Nat, k ≤ m → mj_Ev (d + 2) 206 103 [.ref 127, .int (nI f), .int (nI pl), .int (nI t), .int (nI at_), .int (nI m), .int (nI k)] [] (mg_h L xs (mw I 147 (fun q => if q < k then I 142 (24 * f + pl + q) else I 147 q))) Q := by
  refine loop_ind (n := m) (fun k hk ih => ?_)
  refine me_iload (p' := 105) k206_103 rfl rfl ?_
  refine me_iload (p' := 107) k206_105 rfl rfl ?_
  refine me_ic_ge (p' := 110) k206_107 rfl (fun c1 => ?_) (fun c1 => ?_)
  · skip
    rw [cI_le (a := m) (b := k) (by omega) (by omega)] at c1
    obtain rfl : k = m := by omega
    exact hQ
  · skip
    rw [cI_le (a := m) (b := k) (by omega) (by omega)] at c1
    refine me_aload_n (p' := 111) k206_110 rfl rfl ?_
    refine me_gfr (p' := 114) k206_111 rfl (by decide) rfl (b := 147) rfl ?_
    refine me_iload (p' := 116) k206_114 rfl rfl ?_
    refine me_aload_n (p' := 117) k206_116 rfl rfl ?_
    refine me_gfr (p' := 120) k206_117 rfl (by decide) rfl (b := 142) rfl ?_
    refine me_bipush (p' := 122) k206_120 rfl (v := nI 24) (by decide) ?_
    refine me_iload_n (p' := 123) k206_122 rfl rfl ?_
    refine me_imul (p' := 124) k206_123 rfl (v := nI (24 * f)) (mI_mul _ _) ?_
    refine me_iload_n (p' := 125) k206_124 rfl rfl ?_
    refine me_iadd (p' := 126) k206_125 rfl (v := nI ((24 * f) + pl)) (mI_add _ _) ?_
    refine me_iload (p' := 128) k206_126 rfl rfl ?_
    refine me_iadd (p' := 129) k206_128 rfl (v := nI (((24 * f) + pl) + k)) (mI_add _ _) ?_
    refine me_iald (p' := 130) k206_129 rfl (by decide) rfl (j := ((24 * f) + pl) + k) rfl (by omega) (by decide) rfl ?_
    rw [mw_ne (by decide)]
    refine me_iast (p' := 131) k206_130 rfl (by decide) rfl (j := k) rfl (by omega) (by decide) rfl ?_
    refine me_iinc (p' := 134) k206_131 rfl rfl rfl (v := nI (k + 1)) (mI_inc (by decide)) rfl ?_
    refine me_goto k206_134 ?_
    rw [mw_u, show up (fun q => if q < k then I 142 (24 * f + pl + q) else I 147 q) k (I 142 (24 * f + pl + k)) = (fun q => if q < k + 1 then I 142 (24 * f + pl + q) else I 147 q) from by
      funext q
      unfold up
      dsimp only
      by_cases e : q = k
      · subst e; rw [if_pos rfl, if_pos (by omega)]
      · rw [if_neg e]
        by_cases e2 : q < k
        · rw [if_pos e2, if_pos (by omega)]
        · rw [if_neg e2, if_neg (by omega)]]
    exact ih (by omega)
theorem lp_Mcopy2 {d L : Nat} {xs : Nat → Int32} {J : Nat → Nat → Int32} {Q : Option Value → mj_H → Prop} {f t pl at_ m : Nat} (hf : f < 4) (ht : t < 4) (hp : at_ + m ≤ 24) (hQ : Q (some (.int (nI m))) (mg_h L xs (mw J 142 (fun q => if 24 * t + at_ ≤ q ∧ q < 24 * t + at_ + m then J 147 (q - (24 * t + at_)) else J 142 q)))) : ∀ k : Nat, k ≤ m → mj_Ev (d + 2) 206 140 [.ref 127, .int (nI f), .int (nI pl), .int (nI t), .int (nI at_), .int (nI m), .int (nI k)] [] (mg_h L xs (mw J 142 (fun q => if 24 * t + at_ ≤ q ∧ q < 24 * t + at_ + k then J 147 (q - (24 * t + at_)) else J 142 q))) Q := by
  refine loop_ind (n := m) (fun k hk ih => ?_)
  refine me_iload (p' := 142) k206_140 rfl rfl ?_
  refine me_iload (p' := 144) k206_142 rfl rfl ?_
  refine me_ic_ge (p' := 147) k206_144 rfl (fun c1 => ?_) (fun c1 => ?_)
  · skip
    rw [cI_le (a := m) (b := k) (by omega) (by omega)] at c1
    refine me_iload (p' := 177) k206_175 rfl rfl ?_
    refine me_reti k206_177 rt_206 rfl ?_
    obtain rfl : k = m := by omega
    exact hQ
  · skip
    rw [cI_le (a := m) (b := k) (by omega) (by omega)] at c1
    refine me_aload_n (p' := 148) k206_147 rfl rfl ?_
    refine me_gfr (p' := 151) k206_148 rfl (by decide) rfl (b := 142) rfl ?_
    refine me_bipush (p' := 153) k206_151 rfl (v := nI 24) (by decide) ?_
    refine me_iload_n (p' := 154) k206_153 rfl rfl ?_
    refine me_imul (p' := 155) k206_154 rfl (v := nI (24 * t)) (mI_mul _ _) ?_
    refine me_iload (p' := 157) k206_155 rfl rfl ?_
    refine me_iadd (p' := 158) k206_157 rfl (v := nI ((24 * t) + at_)) (mI_add _ _) ?_
    refine me_iload (p' := 160) k206_158 rfl rfl ?_
    refine me_iadd (p' := 161) k206_160 rfl (v := nI (((24 * t) + at_) + k)) (mI_add _ _) ?_
    refine me_aload_n (p' := 162) k206_161 rfl rfl ?_
    refine me_gfr (p' := 165) k206_162 rfl (by decide) rfl (b := 147) rfl ?_
    refine me_iload (p' := 167) k206_165 rfl rfl ?_
    refine me_iald (p' := 168) k206_167 rfl (by decide) rfl (j := k) rfl (by omega) (by decide) rfl ?_
    rw [mw_ne (by decide)]
    refine me_iast (p' := 169) k206_168 rfl (by decide) rfl (j := ((24 * t) + at_) + k) rfl (by omega) (by decide) rfl ?_
    refine me_iinc (p' := 172) k206_169 rfl rfl rfl (v := nI (k + 1)) (mI_inc (by decide)) rfl ?_
    refine me_goto k206_172 ?_
    rw [mw_u, show up (fun q => if 24 * t + at_ ≤ q ∧ q < 24 * t + at_ + k then J 147 (q - (24 * t + at_)) else J 142 q) (24 * t + at_ + k) (J 147 k) = (fun q => if 24 * t + at_ ≤ q ∧ q < 24 * t + at_ + (k + 1) then J 147 (q - (24 * t + at_)) else J 142 q) from by
      funext q
      unfold up
      dsimp only
      by_cases e : q = 24 * t + at_ + k
      · subst e; rw [if_pos rfl, if_pos (by omega), show 24 * t + at_ + k - (24 * t + at_) = k by omega]
      · rw [if_neg e]
        by_cases e2 : 24 * t + at_ ≤ q ∧ q < 24 * t + at_ + k
        · rw [if_pos e2, if_pos (by omega)]
        · rw [if_neg e2, if_neg (by omega)]]
    exact ih (by omega)
theorem mw_c0 {I : Nat → Nat → Int32} {i a : Nat} {f : Nat → Int32} : mw I i (fun q => if a ≤ q ∧ q < a + 0 then f q else I i q) = I := by
  funext q r
  by_cases e : q = i
  · subst e
    rw [mw_eq]
    exact if_neg (by omega)
  · exact mw_ne e
theorem mw_c1 {I : Nat → Nat → Int32} {i : Nat} {f : Nat → Int32} : mw I i (fun q => if q < 0 then f q else I i q) = I := by
  funext q r
  by_cases e : q = i
  · subst e
    rw [mw_eq]
    exact if_neg (by omega)
  · exact mw_ne e
theorem mI_room {p m : Int32} {N : Nat} (h0 : 0 ≤ p) (h1 : 0 ≤ m) (hN : N ≤ 24) : p ≤ nI N - m ↔ p.toNatClampNeg + m.toNatClampNeg ≤ N := by
  obtain ⟨a, rfl, ha⟩ := mI_of h0
  obtain ⟨b, rfl, hb⟩ := mI_of h1
  rw [nI_clamp ha, nI_clamp hb, Int32.le_iff_toInt_le, Int32.toInt_sub, nI_toInt ha, nI_toInt (by omega), nI_toInt hb, Int.bmod_eq_of_le_mul_two (by omega) (by omega)]
  omega
theorem ct_Mcopy {d L : Nat} {xs : Nat → Int32} {I : Nat → Nat → Int32} {Q : Option Value → mj_H → Prop} {W : Nat → Nat → Int32} (hW : mW I = W) (hwk : mWk W) {f pl t at_ m : Int32} (hQ : ∀ I2, mFr [140, 141, 142, 143, 144, 145, 146, 147] I I2 → mW I2 = (sp_copy W f pl t at_ m).2 → Q (some (.int (sp_copy W f pl t at_ m).1)) (mg_h L xs I2)) : mj_Cl (d + 2) 206 [.ref 127, .int f, .int pl, .int t, .int at_, .int m] (mg_h L xs I) Q := by
  refine cl_start mx_206 (ls := [.ref 127, .int f, .int pl, .int t, .int at_, .int m, mj_no]) rfl ?_
  refine me_iload_n (p' := 1) k206_0 rfl rfl ?_
  refine me_cs (p' := 4) k206_1 rfl rfl rfl rfl rfl (cl_le mx_182 rfl) (by decide) (cl_sum rfl) (ct_MisSheet (fun k361 hk362 he => ?_) (fun hz363 => ?_))
  · skip
    subst he
    refine me_if_eq (p' := 7) k206_4 rfl (fun h => absurd h (by decide)) (fun _ => ?_)
    refine me_iload_n (p' := 8) k206_7 rfl rfl ?_
    refine me_cs (p' := 11) k206_8 rfl rfl rfl rfl rfl (cl_le mx_182 rfl) (by decide) (cl_sum rfl) (ct_MisSheet (fun k364 hk365 he => ?_) (fun hz366 => ?_))
    · skip
      subst he
      refine me_if_ne (p' := 14) k206_11 rfl (fun h => absurd h (by decide)) (fun _ => ?_)
      refine me_aload_n (p' := 18) k206_17 rfl rfl ?_
      refine me_gfr (p' := 21) k206_18 rfl (by decide) rfl (b := 140) rfl ?_
      refine me_iload_n (p' := 22) k206_21 rfl rfl ?_
      refine me_iald (p' := 23) k206_22 rfl (by decide) rfl (j := k361) rfl (by omega) (by decide) rfl ?_
      rw [show I 140 k361 = W 0 k361 from by rw [← hW]; rfl]
      rcases hwk.so (j := k361) (by omega) with hs1 | hs1 | hs1
      · skip
        rw [hs1]
        refine me_if_lt (p' := 26) k206_23 rfl (fun c1 => ?_) (fun c1 => ?_)
        · skip
          refine me_ldc (p' := 37) k206_35 rfl (v := (-1000000011)) (by decide) ?_
          refine me_reti k206_37 rt_206 rfl ?_
          simp only [sp_copy, sp_rg_s hk362 (by omega), sp_rg_s hk365 (by omega), hs1, (show (-1 : Int32) < 0 by decide), if_true, if_false, true_and, and_true, and_self] at hQ
          exact hQ _ mFr.rf hW
        · skip
          exact absurd (by decide) c1
      · skip
        rw [hs1]
        refine me_if_lt (p' := 26) k206_23 rfl (fun h => absurd h (by decide)) (fun _ => ?_)
        refine me_aload_n (p' := 27) k206_26 rfl rfl ?_
        refine me_gfr (p' := 30) k206_27 rfl (by decide) rfl (b := 140) rfl ?_
        refine me_iload_n (p' := 31) k206_30 rfl rfl ?_
        refine me_iald (p' := 32) k206_31 rfl (by decide) rfl (j := k364) rfl (by omega) (by decide) rfl ?_
        rw [show I 140 k364 = W 0 k364 from by rw [← hW]; rfl]
        rcases hwk.so (j := k364) (by omega) with hs2 | hs2 | hs2
        · skip
          rw [hs2]
          refine me_if_ge (p' := 35) k206_32 rfl (fun c2 => ?_) (fun c2 => ?_)
          · skip
            exact absurd c2 (by decide)
          · skip
            refine me_ldc (p' := 37) k206_35 rfl (v := (-1000000011)) (by decide) ?_
            refine me_reti k206_37 rt_206 rfl ?_
            simp only [sp_copy, sp_rg_s hk362 (by omega), sp_rg_s hk365 (by omega), hs1, (show ¬ (nI 0 : Int32) < 0 by decide), hs2, (show (-1 : Int32) < 0 by decide), if_true, if_false, true_and, and_true, and_self] at hQ
            exact hQ _ mFr.rf hW
        · skip
          rw [hs2]
          refine me_if_ge (p' := 35) k206_32 rfl (fun _ => ?_) (fun h => absurd (by decide) h)
          refine me_aload_n (p' := 39) k206_38 rfl rfl ?_
          refine me_gfr (p' := 42) k206_39 rfl (by decide) rfl (b := 140) rfl ?_
          refine me_iload_n (p' := 43) k206_42 rfl rfl ?_
          refine me_iald (p' := 44) k206_43 rfl (by decide) rfl (j := k361) rfl (by omega) (by decide) rfl ?_
          rw [show I 140 k361 = W 0 k361 from by rw [← hW]; rfl]
          rw [hs1]
          refine me_aload_n (p' := 45) k206_44 rfl rfl ?_
          refine me_gfr (p' := 48) k206_45 rfl (by decide) rfl (b := 140) rfl ?_
          refine me_iload_n (p' := 49) k206_48 rfl rfl ?_
          refine me_iald (p' := 50) k206_49 rfl (by decide) rfl (j := k364) rfl (by omega) (by decide) rfl ?_
          rw [show I 140 k364 = W 0 k364 from by rw [← hW]; rfl]
          rw [hs2]
          refine me_ic_eq (p' := 53) k206_50 rfl (fun _ => ?_) (fun h => absurd (by decide) h)
          refine me_iload_n (p' := 57) k206_56 rfl rfl ?_
          refine me_if_lt (p' := 60) k206_57 rfl (fun c3 => ?_) (fun c3 => ?_)
          · skip
            refine me_ldc (p' := 99) k206_97 rfl (v := (-1000000013)) (by decide) ?_
            refine me_reti k206_99 rt_206 rfl ?_
            have hfit : ¬ ((0 ≤ pl ∧ 0 ≤ m ∧ pl.toNatClampNeg + m.toNatClampNeg ≤ sN W k361) ∧ (0 ≤ at_ ∧ at_.toNatClampNeg + m.toNatClampNeg ≤ sN W k364)) := by
              rintro ⟨⟨q1, q2, q3⟩, q4, q5⟩
              exact absurd q1 (Int32.not_le.mpr c3)
            simp only [sp_copy, sp_rg_s hk362 (by omega), sp_rg_s hk365 (by omega), hs1, (show ¬ (nI 0 : Int32) < 0 by decide), hs2, (show ¬ (nI 0 : Int32) < 0 by decide), if_neg hfit, if_true, if_false, true_and, and_true, and_self] at hQ
            exact hQ _ mFr.rf hW
          · skip
            refine me_iload (p' := 62) k206_60 rfl rfl ?_
            refine me_if_lt (p' := 65) k206_62 rfl (fun c4 => ?_) (fun c4 => ?_)
            · skip
              refine me_ldc (p' := 99) k206_97 rfl (v := (-1000000013)) (by decide) ?_
              refine me_reti k206_99 rt_206 rfl ?_
              have hfit : ¬ ((0 ≤ pl ∧ 0 ≤ m ∧ pl.toNatClampNeg + m.toNatClampNeg ≤ sN W k361) ∧ (0 ≤ at_ ∧ at_.toNatClampNeg + m.toNatClampNeg ≤ sN W k364)) := by
                rintro ⟨⟨q1, q2, q3⟩, q4, q5⟩
                exact absurd q4 (Int32.not_le.mpr c4)
              simp only [sp_copy, sp_rg_s hk362 (by omega), sp_rg_s hk365 (by omega), hs1, (show ¬ (nI 0 : Int32) < 0 by decide), hs2, (show ¬ (nI 0 : Int32) < 0 by decide), if_neg hfit, if_true, if_false, true_and, and_true, and_self] at hQ
              exact hQ _ mFr.rf hW
            · skip
              refine me_iload (p' := 67) k206_65 rfl rfl ?_
              refine me_if_lt (p' := 70) k206_67 rfl (fun c5 => ?_) (fun c5 => ?_)
              · skip
                refine me_ldc (p' := 99) k206_97 rfl (v := (-1000000013)) (by decide) ?_
                refine me_reti k206_99 rt_206 rfl ?_
                have hfit : ¬ ((0 ≤ pl ∧ 0 ≤ m ∧ pl.toNatClampNeg + m.toNatClampNeg ≤ sN W k361) ∧ (0 ≤ at_ ∧ at_.toNatClampNeg + m.toNatClampNeg ≤ sN W k364)) := by
                  rintro ⟨⟨q1, q2, q3⟩, q4, q5⟩
                  exact absurd q2 (Int32.not_le.mpr c5)
                simp only [sp_copy, sp_rg_s hk362 (by omega), sp_rg_s hk365 (by omega), hs1, (show ¬ (nI 0 : Int32) < 0 by decide), hs2, (show ¬ (nI 0 : Int32) < 0 by decide), if_neg hfit, if_true, if_false, true_and, and_true, and_self] at hQ
                exact hQ _ mFr.rf hW
              · skip
                refine me_iload_n (p' := 71) k206_70 rfl rfl ?_
                refine me_aload_n (p' := 72) k206_71 rfl rfl ?_
                refine me_gfr (p' := 75) k206_72 rfl (by decide) rfl (b := 141) rfl ?_
                refine me_iload_n (p' := 76) k206_75 rfl rfl ?_
                refine me_iald (p' := 77) k206_76 rfl (by decide) rfl (j := k361) rfl (by omega) (by decide) rfl ?_
                rw [show I 141 k361 = W 1 k361 from by rw [← hW]; rfl]
                rw [hwk.sz (j := k361) (by omega)]
                have hszF := hwk.le (j := k361) (by omega)
                refine me_iload (p' := 79) k206_77 rfl rfl ?_
                refine me_isub (p' := 80) k206_79 rfl rfl ?_
                refine me_ic_gt (p' := 83) k206_80 rfl (fun c6 => ?_) (fun c6 => ?_)
                · skip
                  refine me_ldc (p' := 99) k206_97 rfl (v := (-1000000013)) (by decide) ?_
                  refine me_reti k206_99 rt_206 rfl ?_
                  have hfit : ¬ ((0 ≤ pl ∧ 0 ≤ m ∧ pl.toNatClampNeg + m.toNatClampNeg ≤ sN W k361) ∧ (0 ≤ at_ ∧ at_.toNatClampNeg + m.toNatClampNeg ≤ sN W k364)) := by
                    rintro ⟨⟨q1, q2, q3⟩, q4, q5⟩
                    exact absurd c6 (Int32.not_lt.mpr ((mI_room q1 q2 hszF).mpr q3))
                  simp only [sp_copy, sp_rg_s hk362 (by omega), sp_rg_s hk365 (by omega), hs1, (show ¬ (nI 0 : Int32) < 0 by decide), hs2, (show ¬ (nI 0 : Int32) < 0 by decide), if_neg hfit, if_true, if_false, true_and, and_true, and_self] at hQ
                  exact hQ _ mFr.rf hW
                · skip
                  refine me_iload (p' := 85) k206_83 rfl rfl ?_
                  refine me_aload_n (p' := 86) k206_85 rfl rfl ?_
                  refine me_gfr (p' := 89) k206_86 rfl (by decide) rfl (b := 141) rfl ?_
                  refine me_iload_n (p' := 90) k206_89 rfl rfl ?_
                  refine me_iald (p' := 91) k206_90 rfl (by decide) rfl (j := k364) rfl (by omega) (by decide) rfl ?_
                  rw [show I 141 k364 = W 1 k364 from by rw [← hW]; rfl]
                  rw [hwk.sz (j := k364) (by omega)]
                  have hszT := hwk.le (j := k364) (by omega)
                  refine me_iload (p' := 93) k206_91 rfl rfl ?_
                  refine me_isub (p' := 94) k206_93 rfl rfl ?_
                  refine me_ic_le (p' := 97) k206_94 rfl (fun c7 => ?_) (fun c7 => ?_)
                  · skip
                    refine me_iconst (p' := 101) k206_100 rfl (v := nI 0) (by decide) ?_
                    refine me_istore (p' := 103) k206_101 rfl ⟨Nat.le_of_ble_eq_true rfl, rfl⟩ rfl ?_
                    have q1 := Int32.not_lt.mp c3
                    have q4 := Int32.not_lt.mp c4
                    have q2 := Int32.not_lt.mp c5
                    have q3 := (mI_room q1 q2 hszF).mp (Int32.not_lt.mp c6)
                    have q5 := (mI_room q4 q2 hszT).mp c7
                    have hfit : (0 ≤ pl ∧ 0 ≤ m ∧ pl.toNatClampNeg + m.toNatClampNeg ≤ sN W k361) ∧ (0 ≤ at_ ∧ at_.toNatClampNeg + m.toNatClampNeg ≤ sN W k364) := ⟨⟨q1, q2, q3⟩, q4, q5⟩
                    simp only [sp_copy, sp_rg_s hk362 (by omega), sp_rg_s hk365 (by omega), hs1, (show ¬ (nI 0 : Int32) < 0 by decide), hs2, (show ¬ (nI 0 : Int32) < 0 by decide), if_pos hfit, if_true, if_false, true_and, and_true, and_self] at hQ
                    obtain ⟨pl, rfl, hpl⟩ := mI_of q1
                    obtain ⟨at_, rfl, hat⟩ := mI_of q4
                    obtain ⟨m, rfl, hm⟩ := mI_of q2
                    rw [nI_clamp hpl, nI_clamp hm] at q3
                    rw [nI_clamp hat, nI_clamp hm] at q5
                    rw [nI_clamp hpl, nI_clamp hat, nI_clamp hm] at hQ
                    have e1 := lp_Mcopy1 (d := d) (L := L) (xs := xs) (Q := Q) (I := I) (f := k361) (t := k364) (pl := pl) (at_ := at_) (m := m) (by omega) (by omega) (by omega) ?_ 0 (Nat.zero_le _)
                    · rw [mw_c1] at e1
                      exact e1
                    · refine me_iconst (p' := 138) k206_137 rfl (v := nI 0) (by decide) ?_
                      refine me_istore (p' := 140) k206_138 rfl ⟨Nat.le_of_ble_eq_true rfl, rfl⟩ rfl ?_
                      have e2 := lp_Mcopy2 (d := d) (L := L) (xs := xs) (Q := Q) (J := (mw I 147 (fun q => if q < m then I 142 (24 * k361 + pl + q) else I 147 q))) (f := k361) (t := k364) (pl := pl) (at_ := at_) (m := m) (by omega) (by omega) (by omega) ?_ 0 (Nat.zero_le _)
                      · rw [mw_c0] at e2
                        exact e2
                      · refine hQ _ ((mFr.w (by decide)).tr (mFr.w (by decide))) ?_
                        rw [mW_w (i := 2) (by decide), mW_fr (S := [147]) (mFr.w (by decide)) (by decide), hW]
                        unfold sp_cpW
                        congr 1
                        funext q
                        by_cases e : 24 * k364 + at_ ≤ q ∧ q < 24 * k364 + at_ + m
                        · rw [if_pos e, if_pos e, mw_eq, if_pos (by omega), ← hW]
                          rfl
                        · rw [if_neg e, if_neg e, mw_ne (by decide), ← hW]
                          rfl
                  · skip
                    refine me_ldc (p' := 99) k206_97 rfl (v := (-1000000013)) (by decide) ?_
                    refine me_reti k206_99 rt_206 rfl ?_
                    have hfit : ¬ ((0 ≤ pl ∧ 0 ≤ m ∧ pl.toNatClampNeg + m.toNatClampNeg ≤ sN W k361) ∧ (0 ≤ at_ ∧ at_.toNatClampNeg + m.toNatClampNeg ≤ sN W k364)) := by
                      rintro ⟨⟨q1, q2, q3⟩, q4, q5⟩
                      exact c7 ((mI_room q4 q2 hszT).mpr q5)
                    simp only [sp_copy, sp_rg_s hk362 (by omega), sp_rg_s hk365 (by omega), hs1, (show ¬ (nI 0 : Int32) < 0 by decide), hs2, (show ¬ (nI 0 : Int32) < 0 by decide), if_neg hfit, if_true, if_false, true_and, and_true, and_self] at hQ
                    exact hQ _ mFr.rf hW
        · skip
          rw [hs2]
          refine me_if_ge (p' := 35) k206_32 rfl (fun _ => ?_) (fun h => absurd (by decide) h)
          refine me_aload_n (p' := 39) k206_38 rfl rfl ?_
          refine me_gfr (p' := 42) k206_39 rfl (by decide) rfl (b := 140) rfl ?_
          refine me_iload_n (p' := 43) k206_42 rfl rfl ?_
          refine me_iald (p' := 44) k206_43 rfl (by decide) rfl (j := k361) rfl (by omega) (by decide) rfl ?_
          rw [show I 140 k361 = W 0 k361 from by rw [← hW]; rfl]
          rw [hs1]
          refine me_aload_n (p' := 45) k206_44 rfl rfl ?_
          refine me_gfr (p' := 48) k206_45 rfl (by decide) rfl (b := 140) rfl ?_
          refine me_iload_n (p' := 49) k206_48 rfl rfl ?_
          refine me_iald (p' := 50) k206_49 rfl (by decide) rfl (j := k364) rfl (by omega) (by decide) rfl ?_
          rw [show I 140 k364 = W 0 k364 from by rw [← hW]; rfl]
          rw [hs2]
          refine me_ic_eq (p' := 53) k206_50 rfl (fun h => absurd h (by decide)) (fun _ => ?_)
          refine me_ldc (p' := 55) k206_53 rfl (v := (-1000000012)) (by decide) ?_
          refine me_reti k206_55 rt_206 rfl ?_
          simp only [sp_copy, sp_rg_s hk362 (by omega), sp_rg_s hk365 (by omega), hs1, (show ¬ (nI 0 : Int32) < 0 by decide), hs2, (show ¬ (nI 1 : Int32) < 0 by decide), (show ¬ nI 0 = nI 1 by decide), if_true, if_false, true_and, and_true, and_self] at hQ
          exact hQ _ mFr.rf hW
      · skip
        rw [hs1]
        refine me_if_lt (p' := 26) k206_23 rfl (fun h => absurd h (by decide)) (fun _ => ?_)
        refine me_aload_n (p' := 27) k206_26 rfl rfl ?_
        refine me_gfr (p' := 30) k206_27 rfl (by decide) rfl (b := 140) rfl ?_
        refine me_iload_n (p' := 31) k206_30 rfl rfl ?_
        refine me_iald (p' := 32) k206_31 rfl (by decide) rfl (j := k364) rfl (by omega) (by decide) rfl ?_
        rw [show I 140 k364 = W 0 k364 from by rw [← hW]; rfl]
        rcases hwk.so (j := k364) (by omega) with hs2 | hs2 | hs2
        · skip
          rw [hs2]
          refine me_if_ge (p' := 35) k206_32 rfl (fun c8 => ?_) (fun c8 => ?_)
          · skip
            exact absurd c8 (by decide)
          · skip
            refine me_ldc (p' := 37) k206_35 rfl (v := (-1000000011)) (by decide) ?_
            refine me_reti k206_37 rt_206 rfl ?_
            simp only [sp_copy, sp_rg_s hk362 (by omega), sp_rg_s hk365 (by omega), hs1, (show ¬ (nI 1 : Int32) < 0 by decide), hs2, (show (-1 : Int32) < 0 by decide), if_true, if_false, true_and, and_true, and_self] at hQ
            exact hQ _ mFr.rf hW
        · skip
          rw [hs2]
          refine me_if_ge (p' := 35) k206_32 rfl (fun _ => ?_) (fun h => absurd (by decide) h)
          refine me_aload_n (p' := 39) k206_38 rfl rfl ?_
          refine me_gfr (p' := 42) k206_39 rfl (by decide) rfl (b := 140) rfl ?_
          refine me_iload_n (p' := 43) k206_42 rfl rfl ?_
          refine me_iald (p' := 44) k206_43 rfl (by decide) rfl (j := k361) rfl (by omega) (by decide) rfl ?_
          rw [show I 140 k361 = W 0 k361 from by rw [← hW]; rfl]
          rw [hs1]
          refine me_aload_n (p' := 45) k206_44 rfl rfl ?_
          refine me_gfr (p' := 48) k206_45 rfl (by decide) rfl (b := 140) rfl ?_
          refine me_iload_n (p' := 49) k206_48 rfl rfl ?_
          refine me_iald (p' := 50) k206_49 rfl (by decide) rfl (j := k364) rfl (by omega) (by decide) rfl ?_
          rw [show I 140 k364 = W 0 k364 from by rw [← hW]; rfl]
          rw [hs2]
          refine me_ic_eq (p' := 53) k206_50 rfl (fun h => absurd h (by decide)) (fun _ => ?_)
          refine me_ldc (p' := 55) k206_53 rfl (v := (-1000000012)) (by decide) ?_
          refine me_reti k206_55 rt_206 rfl ?_
          simp only [sp_copy, sp_rg_s hk362 (by omega), sp_rg_s hk365 (by omega), hs1, (show ¬ (nI 1 : Int32) < 0 by decide), hs2, (show ¬ (nI 0 : Int32) < 0 by decide), (show ¬ nI 1 = nI 0 by decide), if_true, if_false, true_and, and_true, and_self] at hQ
          exact hQ _ mFr.rf hW
        · skip
          rw [hs2]
          refine me_if_ge (p' := 35) k206_32 rfl (fun _ => ?_) (fun h => absurd (by decide) h)
          refine me_aload_n (p' := 39) k206_38 rfl rfl ?_
          refine me_gfr (p' := 42) k206_39 rfl (by decide) rfl (b := 140) rfl ?_
          refine me_iload_n (p' := 43) k206_42 rfl rfl ?_
          refine me_iald (p' := 44) k206_43 rfl (by decide) rfl (j := k361) rfl (by omega) (by decide) rfl ?_
          rw [show I 140 k361 = W 0 k361 from by rw [← hW]; rfl]
          rw [hs1]
          refine me_aload_n (p' := 45) k206_44 rfl rfl ?_
          refine me_gfr (p' := 48) k206_45 rfl (by decide) rfl (b := 140) rfl ?_
          refine me_iload_n (p' := 49) k206_48 rfl rfl ?_
          refine me_iald (p' := 50) k206_49 rfl (by decide) rfl (j := k364) rfl (by omega) (by decide) rfl ?_
          rw [show I 140 k364 = W 0 k364 from by rw [← hW]; rfl]
          rw [hs2]
          refine me_ic_eq (p' := 53) k206_50 rfl (fun _ => ?_) (fun h => absurd (by decide) h)
          refine me_iload_n (p' := 57) k206_56 rfl rfl ?_
          refine me_if_lt (p' := 60) k206_57 rfl (fun c9 => ?_) (fun c9 => ?_)
          · skip
            refine me_ldc (p' := 99) k206_97 rfl (v := (-1000000013)) (by decide) ?_
            refine me_reti k206_99 rt_206 rfl ?_
            have hfit : ¬ ((0 ≤ pl ∧ 0 ≤ m ∧ pl.toNatClampNeg + m.toNatClampNeg ≤ sN W k361) ∧ (0 ≤ at_ ∧ at_.toNatClampNeg + m.toNatClampNeg ≤ sN W k364)) := by
              rintro ⟨⟨q1, q2, q3⟩, q4, q5⟩
              exact absurd q1 (Int32.not_le.mpr c9)
            simp only [sp_copy, sp_rg_s hk362 (by omega), sp_rg_s hk365 (by omega), hs1, (show ¬ (nI 1 : Int32) < 0 by decide), hs2, (show ¬ (nI 1 : Int32) < 0 by decide), if_neg hfit, if_true, if_false, true_and, and_true, and_self] at hQ
            exact hQ _ mFr.rf hW
          · skip
            refine me_iload (p' := 62) k206_60 rfl rfl ?_
            refine me_if_lt (p' := 65) k206_62 rfl (fun c10 => ?_) (fun c10 => ?_)
            · skip
              refine me_ldc (p' := 99) k206_97 rfl (v := (-1000000013)) (by decide) ?_
              refine me_reti k206_99 rt_206 rfl ?_
              have hfit : ¬ ((0 ≤ pl ∧ 0 ≤ m ∧ pl.toNatClampNeg + m.toNatClampNeg ≤ sN W k361) ∧ (0 ≤ at_ ∧ at_.toNatClampNeg + m.toNatClampNeg ≤ sN W k364)) := by
                rintro ⟨⟨q1, q2, q3⟩, q4, q5⟩
                exact absurd q4 (Int32.not_le.mpr c10)
              simp only [sp_copy, sp_rg_s hk362 (by omega), sp_rg_s hk365 (by omega), hs1, (show ¬ (nI 1 : Int32) < 0 by decide), hs2, (show ¬ (nI 1 : Int32) < 0 by decide), if_neg hfit, if_true, if_false, true_and, and_true, and_self] at hQ
              exact hQ _ mFr.rf hW
            · skip
              refine me_iload (p' := 67) k206_65 rfl rfl ?_
              refine me_if_lt (p' := 70) k206_67 rfl (fun c11 => ?_) (fun c11 => ?_)
              · skip
                refine me_ldc (p' := 99) k206_97 rfl (v := (-1000000013)) (by decide) ?_
                refine me_reti k206_99 rt_206 rfl ?_
                have hfit : ¬ ((0 ≤ pl ∧ 0 ≤ m ∧ pl.toNatClampNeg + m.toNatClampNeg ≤ sN W k361) ∧ (0 ≤ at_ ∧ at_.toNatClampNeg + m.toNatClampNeg ≤ sN W k364)) := by
                  rintro ⟨⟨q1, q2, q3⟩, q4, q5⟩
                  exact absurd q2 (Int32.not_le.mpr c11)
                simp only [sp_copy, sp_rg_s hk362 (by omega), sp_rg_s hk365 (by omega), hs1, (show ¬ (nI 1 : Int32) < 0 by decide), hs2, (show ¬ (nI 1 : Int32) < 0 by decide), if_neg hfit, if_true, if_false, true_and, and_true, and_self] at hQ
                exact hQ _ mFr.rf hW
              · skip
                refine me_iload_n (p' := 71) k206_70 rfl rfl ?_
                refine me_aload_n (p' := 72) k206_71 rfl rfl ?_
                refine me_gfr (p' := 75) k206_72 rfl (by decide) rfl (b := 141) rfl ?_
                refine me_iload_n (p' := 76) k206_75 rfl rfl ?_
                refine me_iald (p' := 77) k206_76 rfl (by decide) rfl (j := k361) rfl (by omega) (by decide) rfl ?_
                rw [show I 141 k361 = W 1 k361 from by rw [← hW]; rfl]
                rw [hwk.sz (j := k361) (by omega)]
                have hszF := hwk.le (j := k361) (by omega)
                refine me_iload (p' := 79) k206_77 rfl rfl ?_
                refine me_isub (p' := 80) k206_79 rfl rfl ?_
                refine me_ic_gt (p' := 83) k206_80 rfl (fun c12 => ?_) (fun c12 => ?_)
                · skip
                  refine me_ldc (p' := 99) k206_97 rfl (v := (-1000000013)) (by decide) ?_
                  refine me_reti k206_99 rt_206 rfl ?_
                  have hfit : ¬ ((0 ≤ pl ∧ 0 ≤ m ∧ pl.toNatClampNeg + m.toNatClampNeg ≤ sN W k361) ∧ (0 ≤ at_ ∧ at_.toNatClampNeg + m.toNatClampNeg ≤ sN W k364)) := by
                    rintro ⟨⟨q1, q2, q3⟩, q4, q5⟩
                    exact absurd c12 (Int32.not_lt.mpr ((mI_room q1 q2 hszF).mpr q3))
                  simp only [sp_copy, sp_rg_s hk362 (by omega), sp_rg_s hk365 (by omega), hs1, (show ¬ (nI 1 : Int32) < 0 by decide), hs2, (show ¬ (nI 1 : Int32) < 0 by decide), if_neg hfit, if_true, if_false, true_and, and_true, and_self] at hQ
                  exact hQ _ mFr.rf hW
                · skip
                  refine me_iload (p' := 85) k206_83 rfl rfl ?_
                  refine me_aload_n (p' := 86) k206_85 rfl rfl ?_
                  refine me_gfr (p' := 89) k206_86 rfl (by decide) rfl (b := 141) rfl ?_
                  refine me_iload_n (p' := 90) k206_89 rfl rfl ?_
                  refine me_iald (p' := 91) k206_90 rfl (by decide) rfl (j := k364) rfl (by omega) (by decide) rfl ?_
                  rw [show I 141 k364 = W 1 k364 from by rw [← hW]; rfl]
                  rw [hwk.sz (j := k364) (by omega)]
                  have hszT := hwk.le (j := k364) (by omega)
                  refine me_iload (p' := 93) k206_91 rfl rfl ?_
                  refine me_isub (p' := 94) k206_93 rfl rfl ?_
                  refine me_ic_le (p' := 97) k206_94 rfl (fun c13 => ?_) (fun c13 => ?_)
                  · skip
                    refine me_iconst (p' := 101) k206_100 rfl (v := nI 0) (by decide) ?_
                    refine me_istore (p' := 103) k206_101 rfl ⟨Nat.le_of_ble_eq_true rfl, rfl⟩ rfl ?_
                    have q1 := Int32.not_lt.mp c9
                    have q4 := Int32.not_lt.mp c10
                    have q2 := Int32.not_lt.mp c11
                    have q3 := (mI_room q1 q2 hszF).mp (Int32.not_lt.mp c12)
                    have q5 := (mI_room q4 q2 hszT).mp c13
                    have hfit : (0 ≤ pl ∧ 0 ≤ m ∧ pl.toNatClampNeg + m.toNatClampNeg ≤ sN W k361) ∧ (0 ≤ at_ ∧ at_.toNatClampNeg + m.toNatClampNeg ≤ sN W k364) := ⟨⟨q1, q2, q3⟩, q4, q5⟩
                    simp only [sp_copy, sp_rg_s hk362 (by omega), sp_rg_s hk365 (by omega), hs1, (show ¬ (nI 1 : Int32) < 0 by decide), hs2, (show ¬ (nI 1 : Int32) < 0 by decide), if_pos hfit, if_true, if_false, true_and, and_true, and_self] at hQ
                    obtain ⟨pl, rfl, hpl⟩ := mI_of q1
                    obtain ⟨at_, rfl, hat⟩ := mI_of q4
                    obtain ⟨m, rfl, hm⟩ := mI_of q2
                    rw [nI_clamp hpl, nI_clamp hm] at q3
                    rw [nI_clamp hat, nI_clamp hm] at q5
                    rw [nI_clamp hpl, nI_clamp hat, nI_clamp hm] at hQ
                    have e1 := lp_Mcopy1 (d := d) (L := L) (xs := xs) (Q := Q) (I := I) (f := k361) (t := k364) (pl := pl) (at_ := at_) (m := m) (by omega) (by omega) (by omega) ?_ 0 (Nat.zero_le _)
                    · rw [mw_c1] at e1
                      exact e1
                    · refine me_iconst (p' := 138) k206_137 rfl (v := nI 0) (by decide) ?_
                      refine me_istore (p' := 140) k206_138 rfl ⟨Nat.le_of_ble_eq_true rfl, rfl⟩ rfl ?_
                      have e2 := lp_Mcopy2 (d := d) (L := L) (xs := xs) (Q := Q) (J := (mw I 147 (fun q => if q < m then I 142 (24 * k361 + pl + q) else I 147 q))) (f := k361) (t := k364) (pl := pl) (at_ := at_) (m := m) (by omega) (by omega) (by omega) ?_ 0 (Nat.zero_le _)
                      · rw [mw_c0] at e2
                        exact e2
                      · refine hQ _ ((mFr.w (by decide)).tr (mFr.w (by decide))) ?_
                        rw [mW_w (i := 2) (by decide), mW_fr (S := [147]) (mFr.w (by decide)) (by decide), hW]
                        unfold sp_cpW
                        congr 1
                        funext q
                        by_cases e : 24 * k364 + at_ ≤ q ∧ q < 24 * k364 + at_ + m
                        · rw [if_pos e, if_pos e, mw_eq, if_pos (by omega), ← hW]
                          rfl
                        · rw [if_neg e, if_neg e, mw_ne (by decide), ← hW]
                          rfl
                  · skip
                    refine me_ldc (p' := 99) k206_97 rfl (v := (-1000000013)) (by decide) ?_
                    refine me_reti k206_99 rt_206 rfl ?_
                    have hfit : ¬ ((0 ≤ pl ∧ 0 ≤ m ∧ pl.toNatClampNeg + m.toNatClampNeg ≤ sN W k361) ∧ (0 ≤ at_ ∧ at_.toNatClampNeg + m.toNatClampNeg ≤ sN W k364)) := by
                      rintro ⟨⟨q1, q2, q3⟩, q4, q5⟩
                      exact c13 ((mI_room q4 q2 hszT).mpr q5)
                    simp only [sp_copy, sp_rg_s hk362 (by omega), sp_rg_s hk365 (by omega), hs1, (show ¬ (nI 1 : Int32) < 0 by decide), hs2, (show ¬ (nI 1 : Int32) < 0 by decide), if_neg hfit, if_true, if_false, true_and, and_true, and_self] at hQ
                    exact hQ _ mFr.rf hW
    · skip
      refine me_if_ne (p' := 14) k206_11 rfl (fun _ => ?_) (fun h => absurd (by decide) h)
      refine me_ldc (p' := 16) k206_14 rfl (v := (-1000000001)) (by decide) ?_
      refine me_reti k206_16 rt_206 rfl ?_
      simp only [sp_copy, sp_rg_s hk362 (by omega), sp_rg_n (by omega) hz366, if_true, if_false, true_and, and_true, and_self] at hQ
      exact hQ _ mFr.rf hW
  · skip
    refine me_if_eq (p' := 7) k206_4 rfl (fun _ => ?_) (fun h => absurd (by decide) h)
    refine me_ldc (p' := 16) k206_14 rfl (v := (-1000000001)) (by decide) ?_
    refine me_reti k206_16 rt_206 rfl ?_
    simp only [sp_copy, sp_rg_n (by omega) hz363, if_true, if_false, true_and, and_true, and_self] at hQ
    exact hQ _ mFr.rf hW
