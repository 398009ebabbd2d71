/-! ===== the model: lay, feed ===== -/
theorem lp_Mlay {d L : Nat} {xs : Nat → Int32} {J : Nat → Nat → Int32} {Q : Option Value → mj_H → Prop} {l j : Nat} {was : Int32} (hl : l < 5) (hj : j < 4) (hQ : Q (some (.int was)) (mg_h L xs (mw J 146 (fun q => if 24 * l ≤ q ∧ q < 24 * l + 24 then J 142 (24 * j + (q - 24 * l)) else J 146 q)))) : ∀ k : Nat, k ≤ 24 → mj_Ev (d + 2) 207 134 [.ref 127, .int (nI l), .int (nI 2), .int (nI j), .int was, .int (nI k)] [] (mg_h L xs (mw J 146 (fun q => if 24 * l ≤ q ∧ q < 24 * l + k then J 142 (24 * j + (q - 24 * l)) else J 146 q))) Q := by
  refine loop_ind (n := 24) (fun k hk ih => ?_)
  refine me_iload (p' := 136) k207_134 rfl rfl ?_
  refine me_bipush (p' := 138) k207_136 rfl (v := nI 24) (by decide) ?_
  refine me_ic_ge (p' := 141) k207_138 rfl (fun c1 => ?_) (fun c1 => ?_)
  · skip
    rw [cI_le (a := 24) (b := k) (by omega) (by omega)] at c1
    refine me_iload (p' := 178) k207_176 rfl rfl ?_
    refine me_reti k207_178 rt_207 rfl ?_
    obtain rfl : k = 24 := by omega
    exact hQ
  · skip
    rw [cI_le (a := 24) (b := k) (by omega) (by omega)] at c1
    refine me_iload_n (p' := 142) k207_141 rfl rfl ?_
    refine me_iconst (p' := 143) k207_142 rfl (v := nI 2) (by decide) ?_
    refine me_ic_ne (p' := 146) k207_143 rfl (fun _ => ?_) (fun h => absurd (by decide) h)
    refine me_aload_n (p' := 147) k207_146 rfl rfl ?_
    refine me_gfr (p' := 150) k207_147 rfl (by decide) rfl (b := 146) rfl ?_
    refine me_bipush (p' := 152) k207_150 rfl (v := nI 24) (by decide) ?_
    refine me_iload_n (p' := 153) k207_152 rfl rfl ?_
    refine me_imul (p' := 154) k207_153 rfl (v := nI (24 * l)) (mI_mul _ _) ?_
    refine me_iload (p' := 156) k207_154 rfl rfl ?_
    refine me_iadd (p' := 157) k207_156 rfl (v := nI ((24 * l) + k)) (mI_add _ _) ?_
    refine me_aload_n (p' := 158) k207_157 rfl rfl ?_
    refine me_gfr (p' := 161) k207_158 rfl (by decide) rfl (b := 142) rfl ?_
    refine me_bipush (p' := 163) k207_161 rfl (v := nI 24) (by decide) ?_
    refine me_iload_n (p' := 164) k207_163 rfl rfl ?_
    refine me_imul (p' := 165) k207_164 rfl (v := nI (24 * j)) (mI_mul _ _) ?_
    refine me_iload (p' := 167) k207_165 rfl rfl ?_
    refine me_iadd (p' := 168) k207_167 rfl (v := nI ((24 * j) + k)) (mI_add _ _) ?_
    refine me_iald (p' := 169) k207_168 rfl (by decide) rfl (j := (24 * j) + k) rfl (by omega) (by decide) rfl ?_
    rw [mw_ne (by decide)]
    refine me_iast (p' := 170) k207_169 rfl (by decide) rfl (j := (24 * l) + k) rfl (by omega) (by decide) rfl ?_
    refine me_iinc (p' := 173) k207_170 rfl rfl rfl (v := nI (k + 1)) (mI_inc (by decide)) rfl ?_
    refine me_goto k207_173 ?_
    rw [mw_u, show up (fun q => if 24 * l ≤ q ∧ q < 24 * l + k then J 142 (24 * j + (q - 24 * l)) else J 146 q) (24 * l + k) (J 142 (24 * j + k)) = (fun q => if 24 * l ≤ q ∧ q < 24 * l + (k + 1) then J 142 (24 * j + (q - 24 * l)) else J 146 q) from by
      funext q
      unfold up
      dsimp only
      by_cases e : q = 24 * l + k
      · subst e; rw [if_pos rfl, if_pos (by omega), show 24 * l + k - 24 * l = k by omega]
      · rw [if_neg e]
        by_cases e2 : 24 * l ≤ q ∧ q < 24 * l + k
        · rw [if_pos e2, if_pos (by omega)]
        · rw [if_neg e2, if_neg (by omega)]]
    exact ih (by omega)
theorem ct_Mlay {d L : Nat} {xs : Nat → Int32} {I : Nat → Nat → Int32} {Q : Option Value → mj_H → Prop} {W : Nat → Nat → Int32} (hW : mW I = W) (hwk : mWk W) {n : Nat} (hk : mOk (I 128) n) {sl th k : Int32} (hQ : ∀ I2, mFr [140, 141, 142, 143, 144, 145, 146, 147] I I2 → mW I2 = (sp_lay W (I 128) n sl th k).2 → Q (some (.int (sp_lay W (I 128) n sl th k).1)) (mg_h L xs I2)) : mj_Cl (d + 2) 207 [.ref 127, .int sl, .int th, .int k] (mg_h L xs I) Q := by
  have hn8 := hk.hn.2
  refine cl_start mx_207 (ls := [.ref 127, .int sl, .int th, .int k, mj_no, mj_no]) rfl ?_
  refine me_iload_n (p' := 1) k207_0 rfl rfl ?_
  refine me_cs (p' := 4) k207_1 rfl rfl rfl rfl rfl (cl_le mx_208 rfl) (by decide) (cl_sum rfl) (ct_MisSlot (fun k367 hk368 he => ?_) (fun hz369 => ?_))
  · skip
    subst he
    refine me_if_eq (p' := 7) k207_4 rfl (fun h => absurd h (by decide)) (fun _ => ?_)
    refine me_iload_n (p' := 8) k207_7 rfl rfl ?_
    refine me_iconst (p' := 9) k207_8 rfl (v := nI 0) (by decide) ?_
    refine me_iconst (p' := 10) k207_9 rfl (v := nI 3) (by decide) ?_
    refine me_cs (p' := 13) k207_10 rfl rfl rfl rfl rfl (cl_le mx_134 rfl) (by decide) (cl_sum rfl) (ct_in (fun e370 => ?_) (fun e370 => ?_))
    · skip
      obtain ⟨k371, hk372, rfl⟩ := mI_in1 (n := 3) (by omega) e370
      have hk372 : k371 < 4 := by omega
      refine me_if_eq (p' := 16) k207_13 rfl (fun h => absurd h (by decide)) (fun _ => ?_)
      rcases (show k371 = 0 ∨ k371 = 1 ∨ k371 = 2 ∨ k371 = 3 by omega) with rfl | rfl | rfl | rfl
      · skip
        refine me_iload_n (p' := 17) k207_16 rfl rfl ?_
        refine me_iconst (p' := 18) k207_17 rfl (v := nI 1) (by decide) ?_
        refine me_ic_ne (p' := 21) k207_18 rfl (fun h => absurd h (by decide)) (fun _ => ?_)
        refine me_iload_n (p' := 30) k207_29 rfl rfl ?_
        refine me_iconst (p' := 31) k207_30 rfl (v := nI 2) (by decide) ?_
        refine me_ic_ne (p' := 34) k207_31 rfl (fun h => absurd h (by decide)) (fun _ => ?_)
        refine me_iload_n (p' := 45) k207_44 rfl rfl ?_
        refine me_iconst (p' := 46) k207_45 rfl (v := nI 2) (by decide) ?_
        refine me_ic_ne (p' := 49) k207_46 rfl (fun h => absurd h (by decide)) (fun _ => ?_)
        refine me_aload_n (p' := 62) k207_61 rfl rfl ?_
        refine me_gfr (p' := 65) k207_62 rfl (by decide) rfl (b := 143) rfl ?_
        refine me_iload_n (p' := 66) k207_65 rfl rfl ?_
        refine me_iald (p' := 67) k207_66 rfl (by decide) rfl (j := k367) rfl (by omega) (by decide) rfl ?_
        rw [show I 143 k367 = W 3 k367 from by rw [← hW]; rfl]
        refine me_istore (p' := 69) k207_67 rfl ⟨Nat.le_of_ble_eq_true rfl, rfl⟩ rfl ?_
        refine me_aload_n (p' := 70) k207_69 rfl rfl ?_
        refine me_gfr (p' := 73) k207_70 rfl (by decide) rfl (b := 143) rfl ?_
        refine me_iload_n (p' := 74) k207_73 rfl rfl ?_
        refine me_iload_n (p' := 75) k207_74 rfl rfl ?_
        refine me_iast (p' := 76) k207_75 rfl (by decide) rfl (j := k367) rfl (by omega) (by decide) rfl ?_
        refine me_aload_n (p' := 77) k207_76 rfl rfl ?_
        refine me_gfr (p' := 80) k207_77 rfl (by decide) rfl (b := 144) rfl ?_
        refine me_iload_n (p' := 81) k207_80 rfl rfl ?_
        refine me_iload_n (p' := 82) k207_81 rfl rfl ?_
        refine me_iconst (p' := 83) k207_82 rfl (v := nI 1) (by decide) ?_
        refine me_ic_ne (p' := 86) k207_83 rfl (fun h => absurd h (by decide)) (fun _ => ?_)
        refine me_iload_n (p' := 96) k207_95 rfl rfl ?_
        refine me_iconst (p' := 97) k207_96 rfl (v := nI 2) (by decide) ?_
        refine me_ic_ne (p' := 100) k207_97 rfl (fun h => absurd h (by decide)) (fun _ => ?_)
        refine me_iload_n (p' := 110) k207_109 rfl rfl ?_
        refine me_iast (p' := 111) k207_110 rfl (by decide) rfl (j := k367) rfl (by omega) (by decide) rfl ?_
        refine me_aload_n (p' := 112) k207_111 rfl rfl ?_
        refine me_gfr (p' := 115) k207_112 rfl (by decide) rfl (b := 145) rfl ?_
        refine me_iload_n (p' := 116) k207_115 rfl rfl ?_
        refine me_iload_n (p' := 117) k207_116 rfl rfl ?_
        refine me_iconst (p' := 118) k207_117 rfl (v := nI 1) (by decide) ?_
        refine me_ic_ne (p' := 121) k207_118 rfl (fun h => absurd h (by decide)) (fun _ => ?_)
        refine me_iconst (p' := 130) k207_129 rfl (v := nI 0) (by decide) ?_
        refine me_iast (p' := 131) k207_130 rfl (by decide) rfl (j := k367) rfl (by omega) (by decide) rfl ?_
        refine me_iconst (p' := 132) k207_131 rfl (v := nI 0) (by decide) ?_
        refine me_istore (p' := 134) k207_132 rfl ⟨Nat.le_of_ble_eq_true rfl, rfl⟩ rfl ?_
        refine me_iload (p' := 136) k207_134 rfl rfl ?_
        refine me_bipush (p' := 138) k207_136 rfl (v := nI 24) (by decide) ?_
        refine me_ic_ge (p' := 141) k207_138 rfl (fun h => absurd h (by decide)) (fun _ => ?_)
        refine me_iload_n (p' := 142) k207_141 rfl rfl ?_
        refine me_iconst (p' := 143) k207_142 rfl (v := nI 2) (by decide) ?_
        refine me_ic_ne (p' := 146) k207_143 rfl (fun h => absurd h (by decide)) (fun _ => ?_)
        refine me_iload (p' := 178) k207_176 rfl rfl ?_
        refine me_reti k207_178 rt_207 rfl ?_
        simp only [sp_lay, sp_rg_s hk368 (by omega), sp_rg_s (m := 4) hk372 (by omega), sp_rg_s (show 0 < 4 by decide) (by decide), if_true, if_false, true_and, and_true, and_self] at hQ
        refine hQ _ (((mFr.up (by decide)).tr (mFr.up (by decide))).tr (mFr.up (by decide))) ?_
        rw [mW_u (i := 5) (by decide), mW_u (i := 4) (by decide), mW_u (i := 3) (by decide), hW]
        rfl
      · skip
        refine me_iload_n (p' := 17) k207_16 rfl rfl ?_
        refine me_iconst (p' := 18) k207_17 rfl (v := nI 1) (by decide) ?_
        refine me_ic_ne (p' := 21) k207_18 rfl (fun _ => ?_) (fun h => absurd (by decide) h)
        refine me_aload_n (p' := 22) k207_21 rfl rfl ?_
        refine me_iload_n (p' := 23) k207_22 rfl rfl ?_
        refine me_cv (p' := 26) k207_23 rfl rfl (by decide) rfl (by decide) (by decide) dp_137 rfl rfl (cl_le mx_137 rfl) (by decide) (cl_sum rfl) (ct_MisCar hk.hn (fun k374 hk375 he => ?_) (fun hz376 => ?_))
        · skip
          subst he
          refine me_if_eq (p' := 29) k207_26 rfl (fun h => absurd h (by decide)) (fun _ => ?_)
          refine me_iload_n (p' := 30) k207_29 rfl rfl ?_
          refine me_iconst (p' := 31) k207_30 rfl (v := nI 2) (by decide) ?_
          refine me_ic_ne (p' := 34) k207_31 rfl (fun h => absurd h (by decide)) (fun _ => ?_)
          refine me_iload_n (p' := 45) k207_44 rfl rfl ?_
          refine me_iconst (p' := 46) k207_45 rfl (v := nI 2) (by decide) ?_
          refine me_ic_ne (p' := 49) k207_46 rfl (fun h => absurd h (by decide)) (fun _ => ?_)
          refine me_aload_n (p' := 62) k207_61 rfl rfl ?_
          refine me_gfr (p' := 65) k207_62 rfl (by decide) rfl (b := 143) rfl ?_
          refine me_iload_n (p' := 66) k207_65 rfl rfl ?_
          refine me_iald (p' := 67) k207_66 rfl (by decide) rfl (j := k367) rfl (by omega) (by decide) rfl ?_
          rw [show I 143 k367 = W 3 k367 from by rw [← hW]; rfl]
          refine me_istore (p' := 69) k207_67 rfl ⟨Nat.le_of_ble_eq_true rfl, rfl⟩ rfl ?_
          refine me_aload_n (p' := 70) k207_69 rfl rfl ?_
          refine me_gfr (p' := 73) k207_70 rfl (by decide) rfl (b := 143) rfl ?_
          refine me_iload_n (p' := 74) k207_73 rfl rfl ?_
          refine me_iload_n (p' := 75) k207_74 rfl rfl ?_
          refine me_iast (p' := 76) k207_75 rfl (by decide) rfl (j := k367) rfl (by omega) (by decide) rfl ?_
          refine me_aload_n (p' := 77) k207_76 rfl rfl ?_
          refine me_gfr (p' := 80) k207_77 rfl (by decide) rfl (b := 144) rfl ?_
          refine me_iload_n (p' := 81) k207_80 rfl rfl ?_
          refine me_iload_n (p' := 82) k207_81 rfl rfl ?_
          refine me_iconst (p' := 83) k207_82 rfl (v := nI 1) (by decide) ?_
          refine me_ic_ne (p' := 86) k207_83 rfl (fun _ => ?_) (fun h => absurd (by decide) h)
          refine me_aload_n (p' := 87) k207_86 rfl rfl ?_
          refine me_iload_n (p' := 88) k207_87 rfl rfl ?_
          refine me_iconst (p' := 89) k207_88 rfl (v := nI 0) (by decide) ?_
          refine me_cv (p' := 92) k207_89 rfl rfl (by decide) rfl (by decide) (by decide) dp_141 rfl rfl (cl_le mx_141 rfl) (by decide) (cl_sum rfl) (ct_of (by omega) ?_)
          rw [mg_un1 (by decide)]
          refine me_goto k207_92 ?_
          refine me_iast (p' := 111) k207_110 rfl (by decide) rfl (j := k367) rfl (by omega) (by decide) rfl ?_
          refine me_aload_n (p' := 112) k207_111 rfl rfl ?_
          refine me_gfr (p' := 115) k207_112 rfl (by decide) rfl (b := 145) rfl ?_
          refine me_iload_n (p' := 116) k207_115 rfl rfl ?_
          refine me_iload_n (p' := 117) k207_116 rfl rfl ?_
          refine me_iconst (p' := 118) k207_117 rfl (v := nI 1) (by decide) ?_
          refine me_ic_ne (p' := 121) k207_118 rfl (fun _ => ?_) (fun h => absurd (by decide) h)
          refine me_aload_n (p' := 122) k207_121 rfl rfl ?_
          refine me_iload_n (p' := 123) k207_122 rfl rfl ?_
          refine me_cv (p' := 126) k207_123 rfl rfl (by decide) rfl (by decide) (by decide) dp_148 rfl rfl (cl_le mx_148 rfl) (by decide) (cl_sum rfl) (ct_worthOf (q := sQ (I 128) k374) (by omega) (by rw [mg_un1 (by decide), mg_un1 (by decide)]; exact (hk.kd k374 (by omega)).1) (hk.kd k374 (by omega)).2 ?_)
          rw [mg_un1 (by decide), mg_un1 (by decide)]
          refine me_goto k207_126 ?_
          refine me_iast (p' := 131) k207_130 rfl (by decide) rfl (j := k367) rfl (by omega) (by decide) rfl ?_
          refine me_iconst (p' := 132) k207_131 rfl (v := nI 0) (by decide) ?_
          refine me_istore (p' := 134) k207_132 rfl ⟨Nat.le_of_ble_eq_true rfl, rfl⟩ rfl ?_
          refine me_iload (p' := 136) k207_134 rfl rfl ?_
          refine me_bipush (p' := 138) k207_136 rfl (v := nI 24) (by decide) ?_
          refine me_ic_ge (p' := 141) k207_138 rfl (fun h => absurd h (by decide)) (fun _ => ?_)
          refine me_iload_n (p' := 142) k207_141 rfl rfl ?_
          refine me_iconst (p' := 143) k207_142 rfl (v := nI 2) (by decide) ?_
          refine me_ic_ne (p' := 146) k207_143 rfl (fun h => absurd h (by decide)) (fun _ => ?_)
          refine me_iload (p' := 178) k207_176 rfl rfl ?_
          refine me_reti k207_178 rt_207 rfl ?_
          simp only [sp_lay, sp_rg_s hk368 (by omega), sp_rg_s (m := 4) hk372 (by omega), sp_rg_s (show 1 < 4 by decide) (by decide), sp_rg_s hk375 (by omega), if_true, if_false, true_and, and_true, and_self] at hQ
          refine hQ _ (((mFr.up (by decide)).tr (mFr.up (by decide))).tr (mFr.up (by decide))) ?_
          rw [mW_u (i := 5) (by decide), mW_u (i := 4) (by decide), mW_u (i := 3) (by decide), hW]
          rfl
        · skip
          refine me_if_eq (p' := 29) k207_26 rfl (fun _ => ?_) (fun h => absurd (by decide) h)
          refine me_ldc (p' := 43) k207_41 rfl (v := (-1000000001)) (by decide) ?_
          refine me_reti k207_43 rt_207 rfl ?_
          simp only [sp_lay, sp_rg_s hk368 (by omega), sp_rg_s (m := 4) hk372 (by omega), sp_rg_s (show 1 < 4 by decide) (by decide), sp_rg_n (by omega) hz376, if_true, if_false, true_and, and_true, and_self] at hQ
          exact hQ _ mFr.rf hW
      · skip
        refine me_iload_n (p' := 17) k207_16 rfl rfl ?_
        refine me_iconst (p' := 18) k207_17 rfl (v := nI 1) (by decide) ?_
        refine me_ic_ne (p' := 21) k207_18 rfl (fun h => absurd h (by decide)) (fun _ => ?_)
        refine me_iload_n (p' := 30) k207_29 rfl rfl ?_
        refine me_iconst (p' := 31) k207_30 rfl (v := nI 2) (by decide) ?_
        refine me_ic_ne (p' := 34) k207_31 rfl (fun _ => ?_) (fun h => absurd (by decide) h)
        refine me_iload_n (p' := 35) k207_34 rfl rfl ?_
        refine me_cs (p' := 38) k207_35 rfl rfl rfl rfl rfl (cl_le mx_182 rfl) (by decide) (cl_sum rfl) (ct_MisSheet (fun k377 hk378 he => ?_) (fun hz379 => ?_))
        · skip
          subst he
          refine me_if_ne (p' := 41) k207_38 rfl (fun h => absurd h (by decide)) (fun _ => ?_)
          refine me_iload_n (p' := 45) k207_44 rfl rfl ?_
          refine me_iconst (p' := 46) k207_45 rfl (v := nI 2) (by decide) ?_
          refine me_ic_ne (p' := 49) k207_46 rfl (fun _ => ?_) (fun h => absurd (by decide) h)
          refine me_aload_n (p' := 50) k207_49 rfl rfl ?_
          refine me_gfr (p' := 53) k207_50 rfl (by decide) rfl (b := 140) rfl ?_
          refine me_iload_n (p' := 54) k207_53 rfl rfl ?_
          refine me_iald (p' := 55) k207_54 rfl (by decide) rfl (j := k377) rfl (by omega) (by decide) rfl ?_
          rw [show I 140 k377 = W 0 k377 from by rw [← hW]; rfl]
          rcases hwk.so (j := k377) (by omega) with hso | hso | hso
          · skip
            rw [hso]
            refine me_if_ge (p' := 58) k207_55 rfl (fun c1 => ?_) (fun c1 => ?_)
            · skip
              exact absurd c1 (by decide)
            · skip
              refine me_ldc (p' := 60) k207_58 rfl (v := (-1000000011)) (by decide) ?_
              refine me_reti k207_60 rt_207 rfl ?_
              simp only [sp_lay, sp_rg_s hk368 (by omega), sp_rg_s (m := 4) hk372 (by omega), sp_rg_s (show 2 < 4 by decide) (by decide), sp_rg_s hk378 (by omega), hso, (show (-1 : Int32) < 0 by decide), c1, if_true, if_false, true_and, and_true, and_self] at hQ
              exact hQ _ mFr.rf hW
          · skip
            rw [hso]
            refine me_if_ge (p' := 58) k207_55 rfl (fun _ => ?_) (fun h => absurd (by decide) h)
            refine me_aload_n (p' := 62) k207_61 rfl rfl ?_
            refine me_gfr (p' := 65) k207_62 rfl (by decide) rfl (b := 143) rfl ?_
            refine me_iload_n (p' := 66) k207_65 rfl rfl ?_
            refine me_iald (p' := 67) k207_66 rfl (by decide) rfl (j := k367) rfl (by omega) (by decide) rfl ?_
            rw [show I 143 k367 = W 3 k367 from by rw [← hW]; rfl]
            refine me_istore (p' := 69) k207_67 rfl ⟨Nat.le_of_ble_eq_true rfl, rfl⟩ rfl ?_
            refine me_aload_n (p' := 70) k207_69 rfl rfl ?_
            refine me_gfr (p' := 73) k207_70 rfl (by decide) rfl (b := 143) rfl ?_
            refine me_iload_n (p' := 74) k207_73 rfl rfl ?_
            refine me_iload_n (p' := 75) k207_74 rfl rfl ?_
            refine me_iast (p' := 76) k207_75 rfl (by decide) rfl (j := k367) rfl (by omega) (by decide) rfl ?_
            refine me_aload_n (p' := 77) k207_76 rfl rfl ?_
            refine me_gfr (p' := 80) k207_77 rfl (by decide) rfl (b := 144) rfl ?_
            refine me_iload_n (p' := 81) k207_80 rfl rfl ?_
            refine me_iload_n (p' := 82) k207_81 rfl rfl ?_
            refine me_iconst (p' := 83) k207_82 rfl (v := nI 1) (by decide) ?_
            refine me_ic_ne (p' := 86) k207_83 rfl (fun h => absurd h (by decide)) (fun _ => ?_)
            refine me_iload_n (p' := 96) k207_95 rfl rfl ?_
            refine me_iconst (p' := 97) k207_96 rfl (v := nI 2) (by decide) ?_
            refine me_ic_ne (p' := 100) k207_97 rfl (fun _ => ?_) (fun h => absurd (by decide) h)
            refine me_aload_n (p' := 101) k207_100 rfl rfl ?_
            refine me_gfr (p' := 104) k207_101 rfl (by decide) rfl (b := 141) rfl ?_
            refine me_iload_n (p' := 105) k207_104 rfl rfl ?_
            refine me_iald (p' := 106) k207_105 rfl (by decide) rfl (j := k377) rfl (by omega) (by decide) rfl ?_
            rw [mg_un1 (by decide), show I 141 k377 = W 1 k377 from by rw [← hW]; rfl]
            refine me_goto k207_106 ?_
            refine me_iast (p' := 111) k207_110 rfl (by decide) rfl (j := k367) rfl (by omega) (by decide) rfl ?_
            refine me_aload_n (p' := 112) k207_111 rfl rfl ?_
            refine me_gfr (p' := 115) k207_112 rfl (by decide) rfl (b := 145) rfl ?_
            refine me_iload_n (p' := 116) k207_115 rfl rfl ?_
            refine me_iload_n (p' := 117) k207_116 rfl rfl ?_
            refine me_iconst (p' := 118) k207_117 rfl (v := nI 1) (by decide) ?_
            refine me_ic_ne (p' := 121) k207_118 rfl (fun h => absurd h (by decide)) (fun _ => ?_)
            refine me_iconst (p' := 130) k207_129 rfl (v := nI 0) (by decide) ?_
            refine me_iast (p' := 131) k207_130 rfl (by decide) rfl (j := k367) rfl (by omega) (by decide) rfl ?_
            refine me_iconst (p' := 132) k207_131 rfl (v := nI 0) (by decide) ?_
            refine me_istore (p' := 134) k207_132 rfl ⟨Nat.le_of_ble_eq_true rfl, rfl⟩ rfl ?_
            have hE := lp_Mlay (d := d) (L := L) (xs := xs) (Q := Q) (J := (mg_u (mg_u (mg_u I 143 k367 (nI 2)) 144 k367 (W 1 k377)) 145 k367 (nI 0))) (l := k367) (j := k377) (was := W 3 k367) (by omega) (by omega) ?_ 0 (Nat.zero_le _)
            · rw [mw_c0] at hE
              exact hE
            · simp only [sp_lay, sp_rg_s hk368 (by omega), sp_rg_s (m := 4) hk372 (by omega), sp_rg_s (show 2 < 4 by decide) (by decide), sp_rg_s hk378 (by omega), hso, (show ¬ (nI 0 : Int32) < 0 by decide), if_true, if_false, true_and, and_true, and_self] at hQ
              refine hQ _ ((((mFr.up (by decide)).tr (mFr.up (by decide))).tr (mFr.up (by decide))).tr (mFr.w (by decide))) ?_
              rw [mW_w (i := 6) (by decide), mW_u (i := 5) (by decide), mW_u (i := 4) (by decide), mW_u (i := 3) (by decide), hW]
              unfold sp_lyW
              congr 1
              funext q
              rw [mg_un1 (by decide), mg_un1 (by decide), mg_un1 (by decide), mg_un1 (by decide), mg_un1 (by decide), mg_un1 (by decide), ← hW]
              rfl
          · skip
            rw [hso]
            refine me_if_ge (p' := 58) k207_55 rfl (fun _ => ?_) (fun h => absurd (by decide) h)
            refine me_aload_n (p' := 62) k207_61 rfl rfl ?_
            refine me_gfr (p' := 65) k207_62 rfl (by decide) rfl (b := 143) rfl ?_
            refine me_iload_n (p' := 66) k207_65 rfl rfl ?_
            refine me_iald (p' := 67) k207_66 rfl (by decide) rfl (j := k367) rfl (by omega) (by decide) rfl ?_
            rw [show I 143 k367 = W 3 k367 from by rw [← hW]; rfl]
            refine me_istore (p' := 69) k207_67 rfl ⟨Nat.le_of_ble_eq_true rfl, rfl⟩ rfl ?_
            refine me_aload_n (p' := 70) k207_69 rfl rfl ?_
            refine me_gfr (p' := 73) k207_70 rfl (by decide) rfl (b := 143) rfl ?_
            refine me_iload_n (p' := 74) k207_73 rfl rfl ?_
            refine me_iload_n (p' := 75) k207_74 rfl rfl ?_
            refine me_iast (p' := 76) k207_75 rfl (by decide) rfl (j := k367) rfl (by omega) (by decide) rfl ?_
            refine me_aload_n (p' := 77) k207_76 rfl rfl ?_
            refine me_gfr (p' := 80) k207_77 rfl (by decide) rfl (b := 144) rfl ?_
            refine me_iload_n (p' := 81) k207_80 rfl rfl ?_
            refine me_iload_n (p' := 82) k207_81 rfl rfl ?_
            refine me_iconst (p' := 83) k207_82 rfl (v := nI 1) (by decide) ?_
            refine me_ic_ne (p' := 86) k207_83 rfl (fun h => absurd h (by decide)) (fun _ => ?_)
            refine me_iload_n (p' := 96) k207_95 rfl rfl ?_
            refine me_iconst (p' := 97) k207_96 rfl (v := nI 2) (by decide) ?_
            refine me_ic_ne (p' := 100) k207_97 rfl (fun _ => ?_) (fun h => absurd (by decide) h)
            refine me_aload_n (p' := 101) k207_100 rfl rfl ?_
            refine me_gfr (p' := 104) k207_101 rfl (by decide) rfl (b := 141) rfl ?_
            refine me_iload_n (p' := 105) k207_104 rfl rfl ?_
            refine me_iald (p' := 106) k207_105 rfl (by decide) rfl (j := k377) rfl (by omega) (by decide) rfl ?_
            rw [mg_un1 (by decide), show I 141 k377 = W 1 k377 from by rw [← hW]; rfl]
            refine me_goto k207_106 ?_
            refine me_iast (p' := 111) k207_110 rfl (by decide) rfl (j := k367) rfl (by omega) (by decide) rfl ?_
            refine me_aload_n (p' := 112) k207_111 rfl rfl ?_
            refine me_gfr (p' := 115) k207_112 rfl (by decide) rfl (b := 145) rfl ?_
            refine me_iload_n (p' := 116) k207_115 rfl rfl ?_
            refine me_iload_n (p' := 117) k207_116 rfl rfl ?_
            refine me_iconst (p' := 118) k207_117 rfl (v := nI 1) (by decide) ?_
            refine me_ic_ne (p' := 121) k207_118 rfl (fun h => absurd h (by decide)) (fun _ => ?_)
            refine me_iconst (p' := 130) k207_129 rfl (v := nI 0) (by decide) ?_
            refine me_iast (p' := 131) k207_130 rfl (by decide) rfl (j := k367) rfl (by omega) (by decide) rfl ?_
            refine me_iconst (p' := 132) k207_131 rfl (v := nI 0) (by decide) ?_
            refine me_istore (p' := 134) k207_132 rfl ⟨Nat.le_of_ble_eq_true rfl, rfl⟩ rfl ?_
            have hE := lp_Mlay (d := d) (L := L) (xs := xs) (Q := Q) (J := (mg_u (mg_u (mg_u I 143 k367 (nI 2)) 144 k367 (W 1 k377)) 145 k367 (nI 0))) (l := k367) (j := k377) (was := W 3 k367) (by omega) (by omega) ?_ 0 (Nat.zero_le _)
            · rw [mw_c0] at hE
              exact hE
            · simp only [sp_lay, sp_rg_s hk368 (by omega), sp_rg_s (m := 4) hk372 (by omega), sp_rg_s (show 2 < 4 by decide) (by decide), sp_rg_s hk378 (by omega), hso, (show ¬ (nI 1 : Int32) < 0 by decide), (show ¬ nI 1 = nI 0 by decide), if_true, if_false, true_and, and_true, and_self] at hQ
              refine hQ _ ((((mFr.up (by decide)).tr (mFr.up (by decide))).tr (mFr.up (by decide))).tr (mFr.w (by decide))) ?_
              rw [mW_w (i := 6) (by decide), mW_u (i := 5) (by decide), mW_u (i := 4) (by decide), mW_u (i := 3) (by decide), hW]
              unfold sp_lyW
              congr 1
              funext q
              rw [mg_un1 (by decide), mg_un1 (by decide), mg_un1 (by decide), mg_un1 (by decide), mg_un1 (by decide), mg_un1 (by decide), ← hW]
              rfl
        · skip
          refine me_if_ne (p' := 41) k207_38 rfl (fun _ => ?_) (fun h => absurd (by decide) h)
          refine me_ldc (p' := 43) k207_41 rfl (v := (-1000000001)) (by decide) ?_
          refine me_reti k207_43 rt_207 rfl ?_
          simp only [sp_lay, sp_rg_s hk368 (by omega), sp_rg_s (m := 4) hk372 (by omega), sp_rg_s (show 2 < 4 by decide) (by decide), sp_rg_n (by omega) hz379, if_true, if_false, true_and, and_true, and_self] at hQ
          exact hQ _ mFr.rf hW
      · skip
        refine me_iload_n (p' := 17) k207_16 rfl rfl ?_
        refine me_iconst (p' := 18) k207_17 rfl (v := nI 1) (by decide) ?_
        refine me_ic_ne (p' := 21) k207_18 rfl (fun h => absurd h (by decide)) (fun _ => ?_)
        refine me_iload_n (p' := 30) k207_29 rfl rfl ?_
        refine me_iconst (p' := 31) k207_30 rfl (v := nI 2) (by decide) ?_
        refine me_ic_ne (p' := 34) k207_31 rfl (fun h => absurd h (by decide)) (fun _ => ?_)
        refine me_iload_n (p' := 45) k207_44 rfl rfl ?_
        refine me_iconst (p' := 46) k207_45 rfl (v := nI 2) (by decide) ?_
        refine me_ic_ne (p' := 49) k207_46 rfl (fun h => absurd h (by decide)) (fun _ => ?_)
        refine me_aload_n (p' := 62) k207_61 rfl rfl ?_
        refine me_gfr (p' := 65) k207_62 rfl (by decide) rfl (b := 143) rfl ?_
        refine me_iload_n (p' := 66) k207_65 rfl rfl ?_
        refine me_iald (p' := 67) k207_66 rfl (by decide) rfl (j := k367) rfl (by omega) (by decide) rfl ?_
        rw [show I 143 k367 = W 3 k367 from by rw [← hW]; rfl]
        refine me_istore (p' := 69) k207_67 rfl ⟨Nat.le_of_ble_eq_true rfl, rfl⟩ rfl ?_
        refine me_aload_n (p' := 70) k207_69 rfl rfl ?_
        refine me_gfr (p' := 73) k207_70 rfl (by decide) rfl (b := 143) rfl ?_
        refine me_iload_n (p' := 74) k207_73 rfl rfl ?_
        refine me_iload_n (p' := 75) k207_74 rfl rfl ?_
        refine me_iast (p' := 76) k207_75 rfl (by decide) rfl (j := k367) rfl (by omega) (by decide) rfl ?_
        refine me_aload_n (p' := 77) k207_76 rfl rfl ?_
        refine me_gfr (p' := 80) k207_77 rfl (by decide) rfl (b := 144) rfl ?_
        refine me_iload_n (p' := 81) k207_80 rfl rfl ?_
        refine me_iload_n (p' := 82) k207_81 rfl rfl ?_
        refine me_iconst (p' := 83) k207_82 rfl (v := nI 1) (by decide) ?_
        refine me_ic_ne (p' := 86) k207_83 rfl (fun h => absurd h (by decide)) (fun _ => ?_)
        refine me_iload_n (p' := 96) k207_95 rfl rfl ?_
        refine me_iconst (p' := 97) k207_96 rfl (v := nI 2) (by decide) ?_
        refine me_ic_ne (p' := 100) k207_97 rfl (fun h => absurd h (by decide)) (fun _ => ?_)
        refine me_iload_n (p' := 110) k207_109 rfl rfl ?_
        refine me_iast (p' := 111) k207_110 rfl (by decide) rfl (j := k367) rfl (by omega) (by decide) rfl ?_
        refine me_aload_n (p' := 112) k207_111 rfl rfl ?_
        refine me_gfr (p' := 115) k207_112 rfl (by decide) rfl (b := 145) rfl ?_
        refine me_iload_n (p' := 116) k207_115 rfl rfl ?_
        refine me_iload_n (p' := 117) k207_116 rfl rfl ?_
        refine me_iconst (p' := 118) k207_117 rfl (v := nI 1) (by decide) ?_
        refine me_ic_ne (p' := 121) k207_118 rfl (fun h => absurd h (by decide)) (fun _ => ?_)
        refine me_iconst (p' := 130) k207_129 rfl (v := nI 0) (by decide) ?_
        refine me_iast (p' := 131) k207_130 rfl (by decide) rfl (j := k367) rfl (by omega) (by decide) rfl ?_
        refine me_iconst (p' := 132) k207_131 rfl (v := nI 0) (by decide) ?_
        refine me_istore (p' := 134) k207_132 rfl ⟨Nat.le_of_ble_eq_true rfl, rfl⟩ rfl ?_
        refine me_iload (p' := 136) k207_134 rfl rfl ?_
        refine me_bipush (p' := 138) k207_136 rfl (v := nI 24) (by decide) ?_
        refine me_ic_ge (p' := 141) k207_138 rfl (fun h => absurd h (by decide)) (fun _ => ?_)
        refine me_iload_n (p' := 142) k207_141 rfl rfl ?_
        refine me_iconst (p' := 143) k207_142 rfl (v := nI 2) (by decide) ?_
        refine me_ic_ne (p' := 146) k207_143 rfl (fun h => absurd h (by decide)) (fun _ => ?_)
        refine me_iload (p' := 178) k207_176 rfl rfl ?_
        refine me_reti k207_178 rt_207 rfl ?_
        simp only [sp_lay, sp_rg_s hk368 (by omega), sp_rg_s (m := 4) hk372 (by omega), sp_rg_s (show 3 < 4 by decide) (by decide), if_true, if_false, true_and, and_true, and_self] at hQ
        refine hQ _ (((mFr.up (by decide)).tr (mFr.up (by decide))).tr (mFr.up (by decide))) ?_
        rw [mW_u (i := 5) (by decide), mW_u (i := 4) (by decide), mW_u (i := 3) (by decide), hW]
        rfl
    · skip
      have hz373 : ∀ k : Nat, k < 4 → th ≠ nI k := fun k hk => mI_in0 (n := 3) (by omega) e370 (by omega)
      refine me_if_eq (p' := 16) k207_13 rfl (fun _ => ?_) (fun h => absurd (by decide) h)
      refine me_ldc (p' := 43) k207_41 rfl (v := (-1000000001)) (by decide) ?_
      refine me_reti k207_43 rt_207 rfl ?_
      simp only [sp_lay, sp_rg_s hk368 (by omega), sp_rg_n (m := 4) (by omega) hz373, if_true, if_false, true_and, and_true, and_self] at hQ
      exact hQ _ mFr.rf hW
  · skip
    refine me_if_eq (p' := 7) k207_4 rfl (fun _ => ?_) (fun h => absurd (by decide) h)
    refine me_ldc (p' := 43) k207_41 rfl (v := (-1000000001)) (by decide) ?_
    refine me_reti k207_43 rt_207 rfl ?_
    simp only [sp_lay, sp_rg_n (by omega) hz369, if_true, if_false, true_and, and_true, and_self] at hQ
    exact hQ _ mFr.rf hW
/-- the bytes of a number, the highest first -/
def sp_byN (x : Int32) (j : Nat) : Nat := (x.toBitVec.toNat >>> (24 - 8 * j)) % 256
theorem bv_sh (b : BitVec 32) (s : Nat) (hs : s ≤ 24) : b.sshiftRight s &&& 255#32 = b >>> s &&& 255#32 := by
  apply BitVec.eq_of_getLsbD_eq
  intro i hi
  rw [BitVec.getLsbD_and, BitVec.getLsbD_and]
  by_cases h : i < 8
  · rw [BitVec.getLsbD_sshiftRight, BitVec.getLsbD_ushiftRight]
    simp [show ¬ 32 ≤ i by omega, show s + i < 32 by omega]
  · have h2 : ∀ i : Nat, i < 32 → 8 ≤ i → (255#32).getLsbD i = false := by decide
    rw [h2 i hi (by omega), Bool.and_false, Bool.and_false]
theorem bv_by (b : BitVec 32) (s : Nat) : b >>> s &&& 255#32 = BitVec.ofNat 32 ((b.toNat >>> s) % 256) := by
  apply BitVec.eq_of_toNat_eq
  rw [BitVec.toNat_and, BitVec.toNat_ushiftRight]
  show b.toNat >>> s &&& 255 = _
  rw [show (255 : Nat) = 2 ^ 8 - 1 from rfl, Nat.and_two_pow_sub_one_eq_mod]
  have := Nat.mod_lt (b.toNat >>> s) (show 0 < 256 by decide)
  show b.toNat >>> s % 256 = (b.toNat >>> s % 256) % 2 ^ 32
  exact (Nat.mod_eq_of_lt (by omega)).symm
theorem mI_byM (x : Int32) : ∀ j : Nat, j < 4 → ((x >>> ((nI 24 - nI (8 * j)) &&& 31)) &&& nI 255) = nI (sp_byN x j) := by
  intro j hj
  have h : ∀ s : Nat, s ≤ 24 → (Int32.ofBitVec (x.toBitVec.sshiftRight s &&& 255#32)) = nI ((x.toBitVec.toNat >>> s) % 256) := fun s hs => by
    rw [bv_sh _ _ hs, bv_by]
    rfl
  rcases (show j = 0 ∨ j = 1 ∨ j = 2 ∨ j = 3 by omega) with rfl | rfl | rfl | rfl
  · exact h 24 (by decide)
  · exact h 16 (by decide)
  · exact h 8 (by decide)
  · exact h 0 (by decide)
theorem mI_byC (x : Int32) : ∀ j : Nat, j < 4 → ((Int32.toUInt32 x >>> (Int32.toUInt32 (nI (24 - 8 * j)) &&& Int32.toUInt32 31)).toInt32 &&& nI 255) = nI (sp_byN x j) := by
  intro j hj
  have h : ∀ s : Nat, s ≤ 24 → (Int32.ofBitVec (x.toBitVec >>> s &&& 255#32)) = nI ((x.toBitVec.toNat >>> s) % 256) := fun s hs => by
    rw [bv_by]
    rfl
  rcases (show j = 0 ∨ j = 1 ∨ j = 2 ∨ j = 3 by omega) with rfl | rfl | rfl | rfl
  · exact h 24 (by decide)
  · exact h 16 (by decide)
  · exact h 8 (by decide)
  · exact h 0 (by decide)
def sp_fd (a b c : Int32) (k : Nat) : Nat := sp_byN (if k < 4 then a else if k < 8 then b else c) (k % 4)
theorem lp_Mfeed {d L : Nat} {xs : Nat → Int32} {I : Nat → Nat → Int32} {Q : Option Value → mj_H → Prop} {a b c : Int32} {tl : Nat} (ht : I 127 7 = nI tl ∧ tl ≤ 84) (hQ : Q (some (.int (nI (tl + 12)))) (mg_h L xs (mg_u (mw I 132 (fun q => if tl ≤ q ∧ q < tl + 12 then nI (sp_fd a b c (q - tl)) else I 132 q)) 127 7 (nI (tl + 12))))) : ∀ k : Nat, k ≤ 12 → ∀ u5 : Value, mj_Ev d 186 18 [.ref 127, .int a, .int b, .int c, .int (nI k), u5] [] (mg_h L xs (mw I 132 (fun q => if tl ≤ q ∧ q < tl + k then nI (sp_fd a b c (q - tl)) else I 132 q))) Q := by
  have ht2 := ht.2
  refine loop_ind (n := 12) (fun k hk ih => ?_)
  intro u5
  refine me_iload (p' := 20) k186_18 rfl rfl ?_
  refine me_bipush (p' := 22) k186_20 rfl (v := nI 12) (by decide) ?_
  refine me_ic_ge (p' := 25) k186_22 rfl (fun c1 => ?_) (fun c1 => ?_)
  · skip
    rw [cI_le (a := 12) (b := k) (by omega) (by omega)] at c1
    refine me_aload_n (p' := 85) k186_84 rfl rfl ?_
    refine me_dup (p' := 86) k186_85 rfl rfl ?_
    refine me_gfi (p' := 89) k186_86 rfl (by decide) rfl rfl ?_
    rw [mw_ne (by decide), ht.1]
    refine me_bipush (p' := 91) k186_89 rfl (v := nI 12) (by decide) ?_
    refine me_iadd (p' := 92) k186_91 rfl (v := nI (tl + 12)) (mI_add _ _) ?_
    refine me_pfi (p' := 95) k186_92 rfl (by decide) rfl rfl rfl rfl ?_
    refine me_aload_n (p' := 96) k186_95 rfl rfl ?_
    refine me_gfi (p' := 99) k186_96 rfl (by decide) rfl rfl ?_
    rw [mg_ueq]
    refine me_reti k186_99 rt_186 rfl ?_
    obtain rfl : k = 12 := by omega
    exact hQ
  · skip
    rw [cI_le (a := 12) (b := k) (by omega) (by omega)] at c1
    refine me_iload (p' := 27) k186_25 rfl rfl ?_
    refine me_iconst (p' := 28) k186_27 rfl (v := nI 4) (by decide) ?_
    refine me_ic_ge (p' := 31) k186_28 rfl (fun c2 => ?_) (fun c2 => ?_)
    · skip
      rw [cI_le (a := 4) (b := k) (by omega) (by omega)] at c2
      refine me_iload (p' := 37) k186_35 rfl rfl ?_
      refine me_bipush (p' := 39) k186_37 rfl (v := nI 8) (by decide) ?_
      refine me_ic_ge (p' := 42) k186_39 rfl (fun c3 => ?_) (fun c3 => ?_)
      · skip
        rw [cI_le (a := 8) (b := k) (by omega) (by omega)] at c3
        refine me_iload_n (p' := 47) k186_46 rfl rfl ?_
        refine me_istore (p' := 49) k186_47 rfl ⟨Nat.le_of_ble_eq_true rfl, rfl⟩ rfl ?_
        refine me_aload_n (p' := 50) k186_49 rfl rfl ?_
        refine me_gfr (p' := 53) k186_50 rfl (by decide) rfl (b := 132) rfl ?_
        refine me_aload_n (p' := 54) k186_53 rfl rfl ?_
        refine me_gfi (p' := 57) k186_54 rfl (by decide) rfl rfl ?_
        rw [mw_ne (by decide), ht.1]
        refine me_iload (p' := 59) k186_57 rfl rfl ?_
        refine me_iadd (p' := 60) k186_59 rfl (v := nI (tl + k)) (mI_add _ _) ?_
        refine me_iload (p' := 62) k186_60 rfl rfl ?_
        refine me_bipush (p' := 64) k186_62 rfl (v := nI 24) (by decide) ?_
        refine me_bipush (p' := 66) k186_64 rfl (v := nI 8) (by decide) ?_
        refine me_iload (p' := 68) k186_66 rfl rfl ?_
        refine me_iconst (p' := 69) k186_68 rfl (v := nI 4) (by decide) ?_
        refine me_irem (p' := 70) k186_69 rfl (nI_ne0 (by omega) (by omega)) (v := nI (k % 4)) (mI_mod (by omega) (by omega)) ?_
        refine me_imul (p' := 71) k186_70 rfl (v := nI (8 * (k % 4))) (mI_mul _ _) ?_
        refine me_isub (p' := 72) k186_71 rfl rfl ?_
        refine me_ishr (p' := 73) k186_72 rfl rfl ?_
        refine me_sipush (p' := 76) k186_73 rfl (v := nI 255) (by decide) ?_
        refine me_iand (p' := 77) k186_76 rfl rfl ?_
        rw [mI_byM c (k % 4) (by omega), show sp_byN c (k % 4) = sp_fd a b c k from by unfold sp_fd; rw [if_neg (show ¬ k < 4 by omega), if_neg (show ¬ k < 8 by omega)]]
        refine me_iast (p' := 78) k186_77 rfl (by decide) rfl (j := tl + k) rfl (by omega) (by decide) rfl ?_
        refine me_iinc (p' := 81) k186_78 rfl rfl rfl (v := nI (k + 1)) (mI_inc (by decide)) rfl ?_
        refine me_goto k186_81 ?_
        rw [mw_u, show up (fun q => if tl ≤ q ∧ q < tl + k then nI (sp_fd a b c (q - tl)) else I 132 q) (tl + k) (nI (sp_fd a b c k)) = (fun q => if tl ≤ q ∧ q < tl + (k + 1) then nI (sp_fd a b c (q - tl)) else I 132 q) from by
          funext q
          unfold up
          dsimp only
          by_cases e : q = tl + k
          · subst e; rw [if_pos rfl, if_pos (by omega), show tl + k - tl = k by omega]
          · rw [if_neg e]
            by_cases e2 : tl ≤ q ∧ q < tl + k
            · rw [if_pos e2, if_pos (by omega)]
            · rw [if_neg e2, if_neg (by omega)]]
        exact ih (by omega) _
      · skip
        rw [cI_le (a := 8) (b := k) (by omega) (by omega)] at c3
        refine me_iload_n (p' := 43) k186_42 rfl rfl ?_
        refine me_goto k186_43 ?_
        refine me_istore (p' := 49) k186_47 rfl ⟨Nat.le_of_ble_eq_true rfl, rfl⟩ rfl ?_
        refine me_aload_n (p' := 50) k186_49 rfl rfl ?_
        refine me_gfr (p' := 53) k186_50 rfl (by decide) rfl (b := 132) rfl ?_
        refine me_aload_n (p' := 54) k186_53 rfl rfl ?_
        refine me_gfi (p' := 57) k186_54 rfl (by decide) rfl rfl ?_
        rw [mw_ne (by decide), ht.1]
        refine me_iload (p' := 59) k186_57 rfl rfl ?_
        refine me_iadd (p' := 60) k186_59 rfl (v := nI (tl + k)) (mI_add _ _) ?_
        refine me_iload (p' := 62) k186_60 rfl rfl ?_
        refine me_bipush (p' := 64) k186_62 rfl (v := nI 24) (by decide) ?_
        refine me_bipush (p' := 66) k186_64 rfl (v := nI 8) (by decide) ?_
        refine me_iload (p' := 68) k186_66 rfl rfl ?_
        refine me_iconst (p' := 69) k186_68 rfl (v := nI 4) (by decide) ?_
        refine me_irem (p' := 70) k186_69 rfl (nI_ne0 (by omega) (by omega)) (v := nI (k % 4)) (mI_mod (by omega) (by omega)) ?_
        refine me_imul (p' := 71) k186_70 rfl (v := nI (8 * (k % 4))) (mI_mul _ _) ?_
        refine me_isub (p' := 72) k186_71 rfl rfl ?_
        refine me_ishr (p' := 73) k186_72 rfl rfl ?_
        refine me_sipush (p' := 76) k186_73 rfl (v := nI 255) (by decide) ?_
        refine me_iand (p' := 77) k186_76 rfl rfl ?_
        rw [mI_byM b (k % 4) (by omega), show sp_byN b (k % 4) = sp_fd a b c k from by unfold sp_fd; rw [if_neg (show ¬ k < 4 by omega), if_pos (show k < 8 by omega)]]
        refine me_iast (p' := 78) k186_77 rfl (by decide) rfl (j := tl + k) rfl (by omega) (by decide) rfl ?_
        refine me_iinc (p' := 81) k186_78 rfl rfl rfl (v := nI (k + 1)) (mI_inc (by decide)) rfl ?_
        refine me_goto k186_81 ?_
        rw [mw_u, show up (fun q => if tl ≤ q ∧ q < tl + k then nI (sp_fd a b c (q - tl)) else I 132 q) (tl + k) (nI (sp_fd a b c k)) = (fun q => if tl ≤ q ∧ q < tl + (k + 1) then nI (sp_fd a b c (q - tl)) else I 132 q) from by
          funext q
          unfold up
          dsimp only
          by_cases e : q = tl + k
          · subst e; rw [if_pos rfl, if_pos (by omega), show tl + k - tl = k by omega]
          · rw [if_neg e]
            by_cases e2 : tl ≤ q ∧ q < tl + k
            · rw [if_pos e2, if_pos (by omega)]
            · rw [if_neg e2, if_neg (by omega)]]
        exact ih (by omega) _
    · skip
      rw [cI_le (a := 4) (b := k) (by omega) (by omega)] at c2
      refine me_iload_n (p' := 32) k186_31 rfl rfl ?_
      refine me_goto k186_32 ?_
      refine me_istore (p' := 49) k186_47 rfl ⟨Nat.le_of_ble_eq_true rfl, rfl⟩ rfl ?_
      refine me_aload_n (p' := 50) k186_49 rfl rfl ?_
      refine me_gfr (p' := 53) k186_50 rfl (by decide) rfl (b := 132) rfl ?_
      refine me_aload_n (p' := 54) k186_53 rfl rfl ?_
      refine me_gfi (p' := 57) k186_54 rfl (by decide) rfl rfl ?_
      rw [mw_ne (by decide), ht.1]
      refine me_iload (p' := 59) k186_57 rfl rfl ?_
      refine me_iadd (p' := 60) k186_59 rfl (v := nI (tl + k)) (mI_add _ _) ?_
      refine me_iload (p' := 62) k186_60 rfl rfl ?_
      refine me_bipush (p' := 64) k186_62 rfl (v := nI 24) (by decide) ?_
      refine me_bipush (p' := 66) k186_64 rfl (v := nI 8) (by decide) ?_
      refine me_iload (p' := 68) k186_66 rfl rfl ?_
      refine me_iconst (p' := 69) k186_68 rfl (v := nI 4) (by decide) ?_
      refine me_irem (p' := 70) k186_69 rfl (nI_ne0 (by omega) (by omega)) (v := nI (k % 4)) (mI_mod (by omega) (by omega)) ?_
      refine me_imul (p' := 71) k186_70 rfl (v := nI (8 * (k % 4))) (mI_mul _ _) ?_
      refine me_isub (p' := 72) k186_71 rfl rfl ?_
      refine me_ishr (p' := 73) k186_72 rfl rfl ?_
      refine me_sipush (p' := 76) k186_73 rfl (v := nI 255) (by decide) ?_
      refine me_iand (p' := 77) k186_76 rfl rfl ?_
      rw [mI_byM a (k % 4) (by omega), show sp_byN a (k % 4) = sp_fd a b c k from by unfold sp_fd; rw [if_pos (show k < 4 by omega)]]
      refine me_iast (p' := 78) k186_77 rfl (by decide) rfl (j := tl + k) rfl (by omega) (by decide) rfl ?_
      refine me_iinc (p' := 81) k186_78 rfl rfl rfl (v := nI (k + 1)) (mI_inc (by decide)) rfl ?_
      refine me_goto k186_81 ?_
      rw [mw_u, show up (fun q => if tl ≤ q ∧ q < tl + k then nI (sp_fd a b c (q - tl)) else I 132 q) (tl + k) (nI (sp_fd a b c k)) = (fun q => if tl ≤ q ∧ q < tl + (k + 1) then nI (sp_fd a b c (q - tl)) else I 132 q) from by
        funext q
        unfold up
        dsimp only
        by_cases e : q = tl + k
        · subst e; rw [if_pos rfl, if_pos (by omega), show tl + k - tl = k by omega]
        · rw [if_neg e]
          by_cases e2 : tl ≤ q ∧ q < tl + k
          · rw [if_pos e2, if_pos (by omega)]
          · rw [if_neg e2, if_neg (by omega)]]
      exact ih (by omega) _
theorem mw_f0 {I : Nat → Nat → Int32} {i a : Nat} {f : Nat → Int32} : mw I i (fun q => if a ≤ q ∧ q < a + 0 then f q else I i q) = I := mw_c0
theorem ct_Mfeed {d L : Nat} {xs : Nat → Int32} {I : Nat → Nat → Int32} {Q : Option Value → mj_H → Prop} {a b c : Int32} {tl : Nat} (ht : I 127 7 = nI tl ∧ tl ≤ 96) (hQ0 : ¬ tl ≤ 84 → Q (some (.int (-1000000003))) (mg_h L xs I)) (hQ1 : tl ≤ 84 → Q (some (.int (nI (tl + 12)))) (mg_h L xs (mg_u (mw I 132 (fun q => if tl ≤ q ∧ q < tl + 12 then nI (sp_fd a b c (q - tl)) else I 132 q)) 127 7 (nI (tl + 12))))) : mj_Cl d 186 [.ref 127, .int a, .int b, .int c] (mg_h L xs I) Q := by
  refine cl_start mx_186 (ls := [.ref 127, .int a, .int b, .int c, mj_no, mj_no]) rfl ?_
  refine me_aload_n (p' := 1) k186_0 rfl rfl ?_
  refine me_gfi (p' := 4) k186_1 rfl (by decide) rfl rfl ?_
  rw [ht.1]
  have ht2 := ht.2
  refine me_bipush (p' := 6) k186_4 rfl (v := nI 12) (by decide) ?_
  refine me_iadd (p' := 7) k186_6 rfl (v := nI (tl + 12)) (mI_add _ _) ?_
  refine me_bipush (p' := 9) k186_7 rfl (v := nI 96) (by decide) ?_
  refine me_ic_le (p' := 12) k186_9 rfl (fun c1 => ?_) (fun c1 => ?_)
  · skip
    rw [cI_le (a := tl + 12) (b := 96) (by omega) (by omega)] at c1
    refine me_iconst (p' := 16) k186_15 rfl (v := nI 0) (by decide) ?_
    refine me_istore (p' := 18) k186_16 rfl ⟨Nat.le_of_ble_eq_true rfl, rfl⟩ rfl ?_
    have hE := lp_Mfeed (d := d) (L := L) (xs := xs) (Q := Q) (I := I) (a := a) (b := b) (c := c) (tl := tl) ⟨ht.1, by omega⟩ (hQ1 (by omega)) 0 (Nat.zero_le _)
    rw [mw_c0] at hE
    exact hE _
  · skip
    rw [cI_le (a := tl + 12) (b := 96) (by omega) (by omega)] at c1
    refine me_ldc (p' := 14) k186_12 rfl (v := (-1000000003)) (by decide) ?_
    refine me_reti k186_14 rt_186 rfl ?_
    exact hQ0 (by omega)
