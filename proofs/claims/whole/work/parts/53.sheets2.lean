/-! ===== the model: SHEETS, SLOTS (2) ===== -/
theorem ct_Mmark {d L : Nat} {xs : Nat → Int32} {I : Nat → Nat → Int32} {Q : Option Value → mj_H → Prop} {W : Nat → Nat → Int32} (hW : mW I = W) (hwk : mWk W) {a pl v : Int32} (hQ : ∀ I2, mFr [140, 141, 142, 143, 144, 145, 146, 147] I I2 → mW I2 = (sp_mark W a pl v).2 → Q (some (.int (sp_mark W a pl v).1)) (mg_h L xs I2)) : mj_Cl (d + 2) 203 [.ref 127, .int a, .int pl, .int v] (mg_h L xs I) Q := by
  refine cl_start mx_203 (ls := [.ref 127, .int a, .int pl, .int v]) rfl ?_
  refine me_iload_n (p' := 1) k203_0 rfl rfl ?_
  refine me_cs (p' := 4) k203_1 rfl rfl rfl rfl rfl (cl_le mx_182 rfl) (by decide) (cl_sum rfl) (ct_MisSheet (fun k325 hk326 he => ?_) (fun hz327 => ?_))
  · skip
    subst he
    refine me_if_ne (p' := 7) k203_4 rfl (fun h => absurd h (by decide)) (fun _ => ?_)
    refine me_aload_n (p' := 11) k203_10 rfl rfl ?_
    refine me_gfr (p' := 14) k203_11 rfl (by decide) rfl (b := 140) rfl ?_
    refine me_iload_n (p' := 15) k203_14 rfl rfl ?_
    refine me_iald (p' := 16) k203_15 rfl (by decide) rfl (j := k325) rfl (by omega) (by decide) rfl ?_
    rw [show I 140 k325 = W 0 k325 from by rw [← hW]; rfl]
    rcases hwk.so (j := k325) (by omega) with hso | hso | hso
    · skip
      rw [hso]
      refine me_if_ge (p' := 19) k203_16 rfl (fun c1 => ?_) (fun c1 => ?_)
      · skip
        exact absurd c1 (by decide)
      · skip
        refine me_ldc (p' := 21) k203_19 rfl (v := (-1000000011)) (by decide) ?_
        refine me_reti k203_21 rt_203 rfl ?_
        simp only [sp_mark, sp_rg_s hk326 (by omega), hso, (show (-1 : Int32) < 0 by decide), c1, if_true, if_false, true_and, and_true, and_self] at hQ
        exact hQ _ mFr.rf hW
    · skip
      rw [hso]
      refine me_if_ge (p' := 19) k203_16 rfl (fun _ => ?_) (fun h => absurd (by decide) h)
      refine me_iload_n (p' := 23) k203_22 rfl rfl ?_
      refine me_iconst (p' := 24) k203_23 rfl (v := nI 0) (by decide) ?_
      refine me_aload_n (p' := 25) k203_24 rfl rfl ?_
      refine me_gfr (p' := 28) k203_25 rfl (by decide) rfl (b := 141) rfl ?_
      refine me_iload_n (p' := 29) k203_28 rfl rfl ?_
      refine me_iald (p' := 30) k203_29 rfl (by decide) rfl (j := k325) rfl (by omega) (by decide) rfl ?_
      rw [show I 141 k325 = W 1 k325 from by rw [← hW]; rfl]
      rw [hwk.sz (j := k325) (by omega)]
      have hszk325 := hwk.le (j := k325) (by omega)
      refine me_iconst (p' := 31) k203_30 rfl (v := nI 1) (by decide) ?_
      refine me_isub (p' := 32) k203_31 rfl rfl ?_
      refine me_cs (p' := 35) k203_32 rfl rfl rfl rfl rfl (cl_le mx_134 rfl) (by decide) (cl_sum rfl) (ct_in (fun e331 => ?_) (fun e331 => ?_))
      · skip
        obtain ⟨p328, hk329, rfl⟩ := mI_lt1 (by omega) e331
        refine me_if_ne (p' := 38) k203_35 rfl (fun h => absurd h (by decide)) (fun _ => ?_)
        refine me_aload_n (p' := 42) k203_41 rfl rfl ?_
        refine me_gfr (p' := 45) k203_42 rfl (by decide) rfl (b := 140) rfl ?_
        refine me_iload_n (p' := 46) k203_45 rfl rfl ?_
        refine me_iald (p' := 47) k203_46 rfl (by decide) rfl (j := k325) rfl (by omega) (by decide) rfl ?_
        rw [show I 140 k325 = W 0 k325 from by rw [← hW]; rfl]
        rw [hso]
        refine me_if_ne (p' := 50) k203_47 rfl (fun _ => ?_) (fun h => absurd (by decide) h)
        refine me_iload_n (p' := 51) k203_50 rfl rfl ?_
        refine me_ldc (p' := 53) k203_51 rfl (v := (-1000000005)) (by decide) ?_
        refine me_ic_ne (p' := 56) k203_53 rfl (fun c2 => ?_) (fun c2 => ?_)
        · skip
          refine me_ldc (p' := 58) k203_56 rfl (v := (-1000000012)) (by decide) ?_
          refine me_reti k203_58 rt_203 rfl ?_
          simp only [sp_mark, sp_rg_s hk326 (by omega), hso, (show ¬ (nI 0 : Int32) < 0 by decide), sp_rg_s hk329 (by omega), (eq_true c2), if_true, if_false, true_and, and_true, and_self] at hQ
          exact hQ _ mFr.rf hW
        · skip
          refine me_aload_n (p' := 60) k203_59 rfl rfl ?_
          refine me_gfr (p' := 63) k203_60 rfl (by decide) rfl (b := 140) rfl ?_
          refine me_iload_n (p' := 64) k203_63 rfl rfl ?_
          refine me_iald (p' := 65) k203_64 rfl (by decide) rfl (j := k325) rfl (by omega) (by decide) rfl ?_
          rw [show I 140 k325 = W 0 k325 from by rw [← hW]; rfl]
          rw [hso]
          refine me_iconst (p' := 66) k203_65 rfl (v := nI 1) (by decide) ?_
          refine me_ic_ne (p' := 69) k203_66 rfl (fun h => absurd h (by decide)) (fun _ => ?_)
          refine me_aload_n (p' := 90) k203_89 rfl rfl ?_
          refine me_gfr (p' := 93) k203_90 rfl (by decide) rfl (b := 142) rfl ?_
          refine me_bipush (p' := 95) k203_93 rfl (v := nI 24) (by decide) ?_
          refine me_iload_n (p' := 96) k203_95 rfl rfl ?_
          refine me_imul (p' := 97) k203_96 rfl (v := nI (24 * k325)) (mI_mul _ _) ?_
          refine me_iload_n (p' := 98) k203_97 rfl rfl ?_
          refine me_iadd (p' := 99) k203_98 rfl (v := nI ((24 * k325) + p328)) (mI_add _ _) ?_
          refine me_aload_n (p' := 100) k203_99 rfl rfl ?_
          refine me_gfr (p' := 103) k203_100 rfl (by decide) rfl (b := 140) rfl ?_
          refine me_iload_n (p' := 104) k203_103 rfl rfl ?_
          refine me_iald (p' := 105) k203_104 rfl (by decide) rfl (j := k325) rfl (by omega) (by decide) rfl ?_
          rw [show I 140 k325 = W 0 k325 from by rw [← hW]; rfl]
          rw [hso]
          refine me_if_ne (p' := 108) k203_105 rfl (fun _ => ?_) (fun h => absurd (by decide) h)
          refine me_iload_n (p' := 109) k203_108 rfl rfl ?_
          refine me_i2s (p' := 110) k203_109 rfl rfl ?_
          refine me_goto k203_110 ?_
          refine me_iast (p' := 115) k203_114 rfl (by decide) rfl (j := (24 * k325) + p328) rfl (by omega) (by decide) rfl ?_
          refine me_iconst (p' := 116) k203_115 rfl (v := nI 1) (by decide) ?_
          refine me_reti k203_116 rt_203 rfl ?_
          simp only [sp_mark, sp_rg_s hk326 (by omega), hso, (show ¬ (nI 0 : Int32) < 0 by decide), sp_rg_s hk329 (by omega), c2, if_true, if_false, true_and, and_true, and_self] at hQ
          refine hQ _ (mFr.up (by decide)) ?_
          rw [mW_u (i := 2) (by decide), hW]
      · skip
        have hz330 : ∀ k : Nat, k < sN W k325 → pl ≠ nI k := fun k hk => mI_lt0 (by omega) e331 hk
        refine me_if_ne (p' := 38) k203_35 rfl (fun _ => ?_) (fun h => absurd (by decide) h)
        refine me_ldc (p' := 40) k203_38 rfl (v := (-1000000013)) (by decide) ?_
        refine me_reti k203_40 rt_203 rfl ?_
        simp only [sp_mark, sp_rg_s hk326 (by omega), hso, (show ¬ (nI 0 : Int32) < 0 by decide), sp_rg_n (by omega) hz330, if_true, if_false, true_and, and_true, and_self] at hQ
        exact hQ _ mFr.rf hW
    · skip
      rw [hso]
      refine me_if_ge (p' := 19) k203_16 rfl (fun _ => ?_) (fun h => absurd (by decide) h)
      refine me_iload_n (p' := 23) k203_22 rfl rfl ?_
      refine me_iconst (p' := 24) k203_23 rfl (v := nI 0) (by decide) ?_
      refine me_aload_n (p' := 25) k203_24 rfl rfl ?_
      refine me_gfr (p' := 28) k203_25 rfl (by decide) rfl (b := 141) rfl ?_
      refine me_iload_n (p' := 29) k203_28 rfl rfl ?_
      refine me_iald (p' := 30) k203_29 rfl (by decide) rfl (j := k325) rfl (by omega) (by decide) rfl ?_
      rw [show I 141 k325 = W 1 k325 from by rw [← hW]; rfl]
      rw [hwk.sz (j := k325) (by omega)]
      have hszk325 := hwk.le (j := k325) (by omega)
      refine me_iconst (p' := 31) k203_30 rfl (v := nI 1) (by decide) ?_
      refine me_isub (p' := 32) k203_31 rfl rfl ?_
      refine me_cs (p' := 35) k203_32 rfl rfl rfl rfl rfl (cl_le mx_134 rfl) (by decide) (cl_sum rfl) (ct_in (fun e335 => ?_) (fun e335 => ?_))
      · skip
        obtain ⟨p332, hk333, rfl⟩ := mI_lt1 (by omega) e335
        refine me_if_ne (p' := 38) k203_35 rfl (fun h => absurd h (by decide)) (fun _ => ?_)
        refine me_aload_n (p' := 42) k203_41 rfl rfl ?_
        refine me_gfr (p' := 45) k203_42 rfl (by decide) rfl (b := 140) rfl ?_
        refine me_iload_n (p' := 46) k203_45 rfl rfl ?_
        refine me_iald (p' := 47) k203_46 rfl (by decide) rfl (j := k325) rfl (by omega) (by decide) rfl ?_
        rw [show I 140 k325 = W 0 k325 from by rw [← hW]; rfl]
        rw [hso]
        refine me_if_ne (p' := 50) k203_47 rfl (fun h => absurd h (by decide)) (fun _ => ?_)
        refine me_aload_n (p' := 60) k203_59 rfl rfl ?_
        refine me_gfr (p' := 63) k203_60 rfl (by decide) rfl (b := 140) rfl ?_
        refine me_iload_n (p' := 64) k203_63 rfl rfl ?_
        refine me_iald (p' := 65) k203_64 rfl (by decide) rfl (j := k325) rfl (by omega) (by decide) rfl ?_
        rw [show I 140 k325 = W 0 k325 from by rw [← hW]; rfl]
        rw [hso]
        refine me_iconst (p' := 66) k203_65 rfl (v := nI 1) (by decide) ?_
        refine me_ic_ne (p' := 69) k203_66 rfl (fun _ => ?_) (fun h => absurd (by decide) h)
        refine me_iload_n (p' := 70) k203_69 rfl rfl ?_
        refine me_ldc (p' := 72) k203_70 rfl (v := (-1000000005)) (by decide) ?_
        refine me_ic_eq (p' := 75) k203_72 rfl (fun c3 => ?_) (fun c3 => ?_)
        · skip
          refine me_aload_n (p' := 90) k203_89 rfl rfl ?_
          refine me_gfr (p' := 93) k203_90 rfl (by decide) rfl (b := 142) rfl ?_
          refine me_bipush (p' := 95) k203_93 rfl (v := nI 24) (by decide) ?_
          refine me_iload_n (p' := 96) k203_95 rfl rfl ?_
          refine me_imul (p' := 97) k203_96 rfl (v := nI (24 * k325)) (mI_mul _ _) ?_
          refine me_iload_n (p' := 98) k203_97 rfl rfl ?_
          refine me_iadd (p' := 99) k203_98 rfl (v := nI ((24 * k325) + p332)) (mI_add _ _) ?_
          refine me_aload_n (p' := 100) k203_99 rfl rfl ?_
          refine me_gfr (p' := 103) k203_100 rfl (by decide) rfl (b := 140) rfl ?_
          refine me_iload_n (p' := 104) k203_103 rfl rfl ?_
          refine me_iald (p' := 105) k203_104 rfl (by decide) rfl (j := k325) rfl (by omega) (by decide) rfl ?_
          rw [show I 140 k325 = W 0 k325 from by rw [← hW]; rfl]
          rw [hso]
          refine me_if_ne (p' := 108) k203_105 rfl (fun h => absurd h (by decide)) (fun _ => ?_)
          refine me_iload_n (p' := 114) k203_113 rfl rfl ?_
          refine me_iast (p' := 115) k203_114 rfl (by decide) rfl (j := (24 * k325) + p332) rfl (by omega) (by decide) rfl ?_
          refine me_iconst (p' := 116) k203_115 rfl (v := nI 1) (by decide) ?_
          refine me_reti k203_116 rt_203 rfl ?_
          simp only [sp_mark, sp_rg_s hk326 (by omega), hso, (show ¬ (nI 1 : Int32) < 0 by decide), (show ¬ nI 1 = nI 0 by decide), sp_rg_s hk333 (by omega), (eq_true c3), if_true, if_false, true_and, and_true, and_self] at hQ
          refine hQ _ (mFr.up (by decide)) ?_
          rw [mW_u (i := 2) (by decide), hW]
        · skip
          refine me_iload_n (p' := 76) k203_75 rfl rfl ?_
          refine me_ldc (p' := 78) k203_76 rfl (v := (-99999)) (by decide) ?_
          refine me_ldc (p' := 80) k203_78 rfl (v := nI 99999) rfl ?_
          refine me_cs (p' := 83) k203_80 rfl rfl rfl rfl rfl (cl_le mx_134 rfl) (by decide) (cl_sum rfl) (ct_in (fun e336 => ?_) (fun e336 => ?_))
          · skip
            refine me_if_ne (p' := 86) k203_83 rfl (fun h => absurd h (by decide)) (fun _ => ?_)
            refine me_aload_n (p' := 90) k203_89 rfl rfl ?_
            refine me_gfr (p' := 93) k203_90 rfl (by decide) rfl (b := 142) rfl ?_
            refine me_bipush (p' := 95) k203_93 rfl (v := nI 24) (by decide) ?_
            refine me_iload_n (p' := 96) k203_95 rfl rfl ?_
            refine me_imul (p' := 97) k203_96 rfl (v := nI (24 * k325)) (mI_mul _ _) ?_
            refine me_iload_n (p' := 98) k203_97 rfl rfl ?_
            refine me_iadd (p' := 99) k203_98 rfl (v := nI ((24 * k325) + p332)) (mI_add _ _) ?_
            refine me_aload_n (p' := 100) k203_99 rfl rfl ?_
            refine me_gfr (p' := 103) k203_100 rfl (by decide) rfl (b := 140) rfl ?_
            refine me_iload_n (p' := 104) k203_103 rfl rfl ?_
            refine me_iald (p' := 105) k203_104 rfl (by decide) rfl (j := k325) rfl (by omega) (by decide) rfl ?_
            rw [show I 140 k325 = W 0 k325 from by rw [← hW]; rfl]
            rw [hso]
            refine me_if_ne (p' := 108) k203_105 rfl (fun h => absurd h (by decide)) (fun _ => ?_)
            refine me_iload_n (p' := 114) k203_113 rfl rfl ?_
            refine me_iast (p' := 115) k203_114 rfl (by decide) rfl (j := (24 * k325) + p332) rfl (by omega) (by decide) rfl ?_
            refine me_iconst (p' := 116) k203_115 rfl (v := nI 1) (by decide) ?_
            refine me_reti k203_116 rt_203 rfl ?_
            simp only [sp_mark, sp_rg_s hk326 (by omega), hso, (show ¬ (nI 1 : Int32) < 0 by decide), (show ¬ nI 1 = nI 0 by decide), sp_rg_s hk333 (by omega), if_pos e336, c3, if_true, if_false, true_and, and_true, and_self] at hQ
            refine hQ _ (mFr.up (by decide)) ?_
            rw [mW_u (i := 2) (by decide), hW]
          · skip
            refine me_if_ne (p' := 86) k203_83 rfl (fun _ => ?_) (fun h => absurd (by decide) h)
            refine me_ldc (p' := 88) k203_86 rfl (v := (-1000000001)) (by decide) ?_
            refine me_reti k203_88 rt_203 rfl ?_
            simp only [sp_mark, sp_rg_s hk326 (by omega), hso, (show ¬ (nI 1 : Int32) < 0 by decide), (show ¬ nI 1 = nI 0 by decide), sp_rg_s hk333 (by omega), if_neg e336, c3, if_true, if_false, true_and, and_true, and_self] at hQ
            exact hQ _ mFr.rf hW
      · skip
        have hz334 : ∀ k : Nat, k < sN W k325 → pl ≠ nI k := fun k hk => mI_lt0 (by omega) e335 hk
        refine me_if_ne (p' := 38) k203_35 rfl (fun _ => ?_) (fun h => absurd (by decide) h)
        refine me_ldc (p' := 40) k203_38 rfl (v := (-1000000013)) (by decide) ?_
        refine me_reti k203_40 rt_203 rfl ?_
        simp only [sp_mark, sp_rg_s hk326 (by omega), hso, (show ¬ (nI 1 : Int32) < 0 by decide), (show ¬ nI 1 = nI 0 by decide), sp_rg_n (by omega) hz334, if_true, if_false, true_and, and_true, and_self] at hQ
        exact hQ _ mFr.rf hW
  · skip
    refine me_if_ne (p' := 7) k203_4 rfl (fun _ => ?_) (fun h => absurd (by decide) h)
    refine me_ldc (p' := 9) k203_7 rfl (v := (-1000000001)) (by decide) ?_
    refine me_reti k203_9 rt_203 rfl ?_
    simp only [sp_mark, sp_rg_n (by omega) hz327, if_true, if_false, true_and, and_true, and_self] at hQ
    exact hQ _ mFr.rf hW
theorem lp_Mreads {d L : Nat} {xs : Nat → Int32} {I : Nat → Nat → Int32} {Q : Option Value → mj_H → Prop} {W : Nat → Nat → Int32} (hW : mW I = W) (hwk : mWk W) {n a : Nat} (hk : mOk (I 128) n) (ha : a < 4) : ∀ m : Nat, m ≤ sN W a → (hQ : Q (some (.int (sp_rds W (I 128) n a (sN W a) m))) (mg_h L xs I)) → ∀ (k : Nat) (u3 : Value), k = sN W a - m → mj_Ev (d + 2) 205 24 [.ref 127, .int (nI a), .int (nI k), u3] [] (mg_h L xs I) Q := by
  have hn8 := hk.hn.2
  have hsz := hwk.le ha
  intro m
  induction m with
  | zero =>
    intro hm hQ k u3 hkm
    refine me_iload_n (p' := 25) k205_24 rfl rfl ?_
    refine me_aload_n (p' := 26) k205_25 rfl rfl ?_
    refine me_gfr (p' := 29) k205_26 rfl (by decide) rfl (b := 141) rfl ?_
    refine me_iload_n (p' := 30) k205_29 rfl rfl ?_
    refine me_iald (p' := 31) k205_30 rfl (by decide) rfl (j := a) rfl (by omega) (by decide) rfl ?_
    rw [show I 141 a = W 1 a from by rw [← hW]; rfl]
    rw [hwk.sz (j := a) (by omega)]
    have hsza := hwk.le (j := a) (by omega)
    refine me_ic_ge (p' := 34) k205_31 rfl (fun c1 => ?_) (fun c1 => ?_)
    · skip
      rw [cI_le (a := sN W a) (b := k) (by omega) (by omega)] at c1
      refine me_ldc (p' := 80) k205_78 rfl (v := (-1000000005)) (by decide) ?_
      refine me_reti k205_80 rt_205 rfl ?_
      exact hQ
    · skip
      rw [cI_le (a := sN W a) (b := k) (by omega) (by omega)] at c1
      exfalso
      omega
  | succ m ih =>
    intro hm hQ k u3 hkm
    refine me_iload_n (p' := 25) k205_24 rfl rfl ?_
    refine me_aload_n (p' := 26) k205_25 rfl rfl ?_
    refine me_gfr (p' := 29) k205_26 rfl (by decide) rfl (b := 141) rfl ?_
    refine me_iload_n (p' := 30) k205_29 rfl rfl ?_
    refine me_iald (p' := 31) k205_30 rfl (by decide) rfl (j := a) rfl (by omega) (by decide) rfl ?_
    rw [show I 141 a = W 1 a from by rw [← hW]; rfl]
    rw [hwk.sz (j := a) (by omega)]
    have hsza := hwk.le (j := a) (by omega)
    refine me_ic_ge (p' := 34) k205_31 rfl (fun c1 => ?_) (fun c1 => ?_)
    · skip
      rw [cI_le (a := sN W a) (b := k) (by omega) (by omega)] at c1
      exfalso
      omega
    · skip
      rw [cI_le (a := sN W a) (b := k) (by omega) (by omega)] at c1
      refine me_aload_n (p' := 35) k205_34 rfl rfl ?_
      refine me_gfr (p' := 38) k205_35 rfl (by decide) rfl (b := 142) rfl ?_
      refine me_bipush (p' := 40) k205_38 rfl (v := nI 24) (by decide) ?_
      refine me_iload_n (p' := 41) k205_40 rfl rfl ?_
      refine me_imul (p' := 42) k205_41 rfl (v := nI (24 * a)) (mI_mul _ _) ?_
      refine me_iload_n (p' := 43) k205_42 rfl rfl ?_
      refine me_iadd (p' := 44) k205_43 rfl (v := nI ((24 * a) + k)) (mI_add _ _) ?_
      refine me_iald (p' := 45) k205_44 rfl (by decide) rfl (j := (24 * a) + k) rfl (by omega) (by decide) rfl ?_
      rw [show I 142 ((24 * a) + k) = W 2 ((24 * a) + k) from by rw [← hW]; rfl]
      refine me_istore_n (p' := 46) k205_45 rfl ⟨Nat.le_of_ble_eq_true rfl, rfl⟩ rfl ?_
      refine me_iload_n (p' := 47) k205_46 rfl rfl ?_
      refine me_ldc (p' := 49) k205_47 rfl (v := (-1000000005)) (by decide) ?_
      refine me_ic_eq (p' := 52) k205_49 rfl (fun c2 => ?_) (fun c2 => ?_)
      · skip
        refine me_iinc (p' := 75) k205_72 rfl rfl rfl (v := nI (k + 1)) (mI_inc (by decide)) rfl ?_
        refine me_goto k205_75 ?_
        refine ih (by omega) ?_ _ _ (by omega)
        rw [sp_rds, ← hkm] at hQ
        simp only [c1, (eq_true c2), if_true, if_false, true_and, and_true, and_self] at hQ
        exact hQ
      · skip
        refine me_aload_n (p' := 53) k205_52 rfl rfl ?_
        refine me_iload_n (p' := 54) k205_53 rfl rfl ?_
        refine me_cv (p' := 57) k205_54 rfl rfl (by decide) rfl (by decide) (by decide) dp_137 rfl rfl (cl_le mx_137 rfl) (by decide) (cl_sum rfl) (ct_MisCar hk.hn (fun k9 hk9 he9 => ?_) (fun hz9 => ?_))
        · skip
          have hkn : k < n := by have := (cI_eq (by omega) (by omega)).mp he9; omega
          refine me_if_eq (p' := 60) k205_57 rfl (fun h => absurd h (by decide)) (fun _ => ?_)
          refine me_iload_n (p' := 61) k205_60 rfl rfl ?_
          refine me_aload_n (p' := 62) k205_61 rfl rfl ?_
          refine me_iload_n (p' := 63) k205_62 rfl rfl ?_
          refine me_iconst (p' := 64) k205_63 rfl (v := nI 1) (by decide) ?_
          refine me_cv (p' := 67) k205_64 rfl rfl (by decide) rfl (by decide) (by decide) dp_141 rfl rfl (cl_le mx_141 rfl) (by decide) (cl_sum rfl) (ct_of (by omega) ?_)
          refine me_ic_eq (p' := 70) k205_67 rfl (fun c3 => ?_) (fun c3 => ?_)
          · skip
            refine me_iinc (p' := 75) k205_72 rfl rfl rfl (v := nI (k + 1)) (mI_inc (by decide)) rfl ?_
            refine me_goto k205_75 ?_
            refine ih (by omega) ?_ _ _ (by omega)
            rw [sp_rds, ← hkm] at hQ
            simp only [hkn, c1, c2, (eq_true c3), if_true, if_false, true_and, and_true, and_self] at hQ
            exact hQ
          · skip
            refine me_iload_n (p' := 71) k205_70 rfl rfl ?_
            refine me_reti k205_71 rt_205 rfl ?_
            rw [sp_rds, ← hkm] at hQ
            simp only [hkn, c1, c2, c3, if_true, if_false, true_and, and_true, and_self] at hQ
            exact hQ
        · skip
          have hkn : ¬ k < n := fun z => hz9 k z rfl
          refine me_if_eq (p' := 60) k205_57 rfl (fun _ => ?_) (fun h => absurd (by decide) h)
          refine me_iload_n (p' := 71) k205_70 rfl rfl ?_
          refine me_reti k205_71 rt_205 rfl ?_
          rw [sp_rds, ← hkm] at hQ
          simp only [hkn, c1, c2, if_true, if_false, true_and, and_true, and_self] at hQ
          exact hQ
theorem ct_Mreads {d L : Nat} {xs : Nat → Int32} {I : Nat → Nat → Int32} {Q : Option Value → mj_H → Prop} {W : Nat → Nat → Int32} (hW : mW I = W) (hwk : mWk W) {n : Nat} (hk : mOk (I 128) n) {a : Int32} (hQ : Q (some (.int (sp_reads W (I 128) n a))) (mg_h L xs I)) : mj_Cl (d + 2) 205 [.ref 127, .int a] (mg_h L xs I) Q := by
  have hn8 := hk.hn.2
  refine cl_start mx_205 (ls := [.ref 127, .int a, mj_no, mj_no]) rfl ?_
  refine me_iload_n (p' := 1) k205_0 rfl rfl ?_
  refine me_cs (p' := 4) k205_1 rfl rfl rfl rfl rfl (cl_le mx_182 rfl) (by decide) (cl_sum rfl) (ct_MisSheet (fun k337 hk338 he => ?_) (fun hz339 => ?_))
  · skip
    subst he
    refine me_if_ne (p' := 7) k205_4 rfl (fun h => absurd h (by decide)) (fun _ => ?_)
    refine me_aload_n (p' := 11) k205_10 rfl rfl ?_
    refine me_gfr (p' := 14) k205_11 rfl (by decide) rfl (b := 140) rfl ?_
    refine me_iload_n (p' := 15) k205_14 rfl rfl ?_
    refine me_iald (p' := 16) k205_15 rfl (by decide) rfl (j := k337) rfl (by omega) (by decide) rfl ?_
    rw [show I 140 k337 = W 0 k337 from by rw [← hW]; rfl]
    rcases hwk.so (j := k337) (by omega) with hso | hso | hso
    · skip
      rw [hso]
      refine me_if_ge (p' := 19) k205_16 rfl (fun c1 => ?_) (fun c1 => ?_)
      · skip
        exact absurd c1 (by decide)
      · skip
        refine me_ldc (p' := 21) k205_19 rfl (v := (-1000000011)) (by decide) ?_
        refine me_reti k205_21 rt_205 rfl ?_
        simp only [sp_reads, sp_rg_s hk338 (by omega), hso, (show (-1 : Int32) < 0 by decide), c1, if_true, if_false, true_and, and_true, and_self] at hQ
        exact hQ
    · skip
      rw [hso]
      refine me_if_ge (p' := 19) k205_16 rfl (fun _ => ?_) (fun h => absurd (by decide) h)
      refine me_iconst (p' := 23) k205_22 rfl (v := nI 0) (by decide) ?_
      refine me_istore_n (p' := 24) k205_23 rfl ⟨Nat.le_of_ble_eq_true rfl, rfl⟩ rfl ?_
      simp only [sp_reads, sp_rg_s hk338 (by omega), hso, (show ¬ (nI 0 : Int32) < 0 by decide), if_true, if_false, true_and, and_true, and_self] at hQ
      exact lp_Mreads hW hwk hk (by omega) _ (Nat.le_refl _) hQ 0 _ (by omega)
    · skip
      rw [hso]
      refine me_if_ge (p' := 19) k205_16 rfl (fun _ => ?_) (fun h => absurd (by decide) h)
      refine me_iconst (p' := 23) k205_22 rfl (v := nI 0) (by decide) ?_
      refine me_istore_n (p' := 24) k205_23 rfl ⟨Nat.le_of_ble_eq_true rfl, rfl⟩ rfl ?_
      simp only [sp_reads, sp_rg_s hk338 (by omega), hso, (show ¬ (nI 1 : Int32) < 0 by decide), (show ¬ nI 1 = nI 0 by decide), if_true, if_false, true_and, and_true, and_self] at hQ
      exact lp_Mreads hW hwk hk (by omega) _ (Nat.le_refl _) hQ 0 _ (by omega)
  · skip
    refine me_if_ne (p' := 7) k205_4 rfl (fun _ => ?_) (fun h => absurd (by decide) h)
    refine me_ldc (p' := 9) k205_7 rfl (v := (-1000000001)) (by decide) ?_
    refine me_reti k205_9 rt_205 rfl ?_
    simp only [sp_reads, sp_rg_n (by omega) hz339, if_true, if_false, true_and, and_true, and_self] at hQ
    exact hQ
theorem sp_prS_ne {W : Nat → Nat → Int32} {s : Nat → Int32} {j q : Nat} : ∀ p : Nat, p ≤ q → sp_prS W s j p (5 + q) = s (5 + q)
  | 0, _ => rfl
  | p + 1, h => by
    unfold sp_prS
    rw [up_ne (by omega)]
    exact sp_prS_ne p (by omega)
theorem lp_Mpour {d L : Nat} {xs : Nat → Int32} {I : Nat → Nat → Int32} {Q : Option Value → mj_H → Prop} {W : Nat → Nat → Int32} (hW : mW I = W) (hwk : mWk W) {a : Nat} (ha : a < 4) (hQ : ∀ I2, mFr [128] I I2 → I2 128 = sp_prS W (I 128) a (min (sN W a) 12) → Q (some (.int (sp_prC W (I 128) a (min (sN W a) 12)))) (mg_h L xs I2)) : ∀ p : Nat, p ≤ min (sN W a) 12 → ∀ I1, mFr [128] I I1 → I1 128 = sp_prS W (I 128) a p → ∀ u4 u5 : Value, mj_Ev (d + 2) 204 26 [.ref 127, .int (nI a), .int (sp_prC W (I 128) a p), .int (nI p), u4, u5] [] (mg_h L xs I1) Q := by
  have hsz := hwk.le ha
  refine loop_ind (n := min (sN W a) 12) (fun p hpn ih => ?_)
  intro I1 hfr e1 u4 u5
  refine me_iload_n (p' := 27) k204_26 rfl rfl ?_
  refine me_aload_n (p' := 28) k204_27 rfl rfl ?_
  refine me_gfr (p' := 31) k204_28 rfl (by decide) rfl (b := 141) rfl ?_
  refine me_iload_n (p' := 32) k204_31 rfl rfl ?_
  refine me_iald (p' := 33) k204_32 rfl (by decide) rfl (j := a) rfl (by omega) (by decide) rfl ?_
  rw [show I1 141 a = W 1 a from by rw [hfr 141 a (by decide), ← hW]; rfl]
  rw [hwk.sz (j := a) (by omega)]
  have hsza := hwk.le (j := a) (by omega)
  refine me_ic_ge (p' := 36) k204_33 rfl (fun c1 => ?_) (fun c1 => ?_)
  · skip
    rw [cI_le (a := sN W a) (b := p) (by omega) (by omega)] at c1
    refine me_iload_n (p' := 113) k204_112 rfl rfl ?_
    refine me_reti k204_113 rt_204 rfl ?_
    obtain rfl : p = min (sN W a) 12 := by omega
    exact hQ _ hfr e1
  · skip
    rw [cI_le (a := sN W a) (b := p) (by omega) (by omega)] at c1
    refine me_iload_n (p' := 37) k204_36 rfl rfl ?_
    refine me_bipush (p' := 39) k204_37 rfl (v := nI 12) (by decide) ?_
    refine me_ic_ge (p' := 42) k204_39 rfl (fun c2 => ?_) (fun c2 => ?_)
    · skip
      rw [cI_le (a := 12) (b := p) (by omega) (by omega)] at c2
      refine me_iload_n (p' := 113) k204_112 rfl rfl ?_
      refine me_reti k204_113 rt_204 rfl ?_
      obtain rfl : p = min (sN W a) 12 := by omega
      exact hQ _ hfr e1
    · skip
      rw [cI_le (a := 12) (b := p) (by omega) (by omega)] at c2
      refine me_aload_n (p' := 43) k204_42 rfl rfl ?_
      refine me_gfr (p' := 46) k204_43 rfl (by decide) rfl (b := 142) rfl ?_
      refine me_bipush (p' := 48) k204_46 rfl (v := nI 24) (by decide) ?_
      refine me_iload_n (p' := 49) k204_48 rfl rfl ?_
      refine me_imul (p' := 50) k204_49 rfl (v := nI (24 * a)) (mI_mul _ _) ?_
      refine me_iload_n (p' := 51) k204_50 rfl rfl ?_
      refine me_iadd (p' := 52) k204_51 rfl (v := nI ((24 * a) + p)) (mI_add _ _) ?_
      refine me_iald (p' := 53) k204_52 rfl (by decide) rfl (j := (24 * a) + p) rfl (by omega) (by decide) rfl ?_
      rw [show I1 142 ((24 * a) + p) = W 2 ((24 * a) + p) from by rw [hfr 142 ((24 * a) + p) (by decide), ← hW]; rfl]
      refine me_istore (p' := 55) k204_53 rfl ⟨Nat.le_of_ble_eq_true rfl, rfl⟩ rfl ?_
      refine me_iload (p' := 57) k204_55 rfl rfl ?_
      refine me_ldc (p' := 59) k204_57 rfl (v := (-1000000005)) (by decide) ?_
      refine me_ic_ne (p' := 62) k204_59 rfl (fun c3 => ?_) (fun c3 => ?_)
      · skip
        refine me_aload_n (p' := 63) k204_62 rfl rfl ?_
        refine me_gfr (p' := 66) k204_63 rfl (by decide) rfl (b := 128) rfl ?_
        refine me_iconst (p' := 67) k204_66 rfl (v := nI 5) (by decide) ?_
        refine me_iload_n (p' := 68) k204_67 rfl rfl ?_
        refine me_iadd (p' := 69) k204_68 rfl (v := nI (5 + p)) (mI_add _ _) ?_
        refine me_iald (p' := 70) k204_69 rfl (by decide) rfl (j := 5 + p) rfl (by omega) (by decide) rfl ?_
        rw [show I1 128 (5 + p) = I 128 (5 + p) from by rw [e1]; exact sp_prS_ne p (Nat.le_refl _)]
        refine me_goto k204_70 ?_
        rw [show (I 128 (5 + p)) = sp_prv W (I 128) a p from by unfold sp_prv; rw [if_pos c3]]
        refine me_istore (p' := 84) k204_82 rfl ⟨Nat.le_of_ble_eq_true rfl, rfl⟩ rfl ?_
        refine me_iload_n (p' := 85) k204_84 rfl rfl ?_
        refine me_aload_n (p' := 86) k204_85 rfl rfl ?_
        refine me_iconst (p' := 87) k204_86 rfl (v := nI 5) (by decide) ?_
        refine me_iload_n (p' := 88) k204_87 rfl rfl ?_
        refine me_iadd (p' := 89) k204_88 rfl (v := nI (5 + p)) (mI_add _ _) ?_
        refine me_iload (p' := 91) k204_89 rfl rfl ?_
        refine me_cv (p' := 94) k204_91 rfl rfl (by decide) rfl (by decide) (by decide) dp_152 rfl rfl (cl_le mx_152 rfl) (by decide) (cl_sum rfl) (ct_becomes (by omega) ?_)
        rw [show I1 128 (5 + p) = I 128 (5 + p) from by rw [e1]; exact sp_prS_ne p (Nat.le_refl _)]
        refine me_iload (p' := 96) k204_94 rfl rfl ?_
        refine me_ic_ne (p' := 99) k204_96 rfl (fun c4 => ?_) (fun c4 => ?_)
        · skip
          refine me_iconst (p' := 100) k204_99 rfl (v := nI 0) (by decide) ?_
          refine me_goto k204_100 ?_
          refine me_iadd (p' := 105) k204_104 rfl rfl ?_
          refine me_istore_n (p' := 106) k204_105 rfl ⟨Nat.le_of_ble_eq_true rfl, rfl⟩ rfl ?_
          refine me_iinc (p' := 109) k204_106 rfl rfl rfl (v := nI (p + 1)) (mI_inc (by decide)) rfl ?_
          refine me_goto k204_109 ?_
          rw [show ((sp_prC W (I 128) a p) + nI 0) = sp_prC W (I 128) a (p + 1) from by rw [sp_prC, if_pos c4]]
          exact ih (by omega) _ (hfr.tr (mFr.up (by decide))) (by rw [mg_ui, e1, sp_prS]) _ _
        · skip
          refine me_iconst (p' := 104) k204_103 rfl (v := nI 1) (by decide) ?_
          refine me_iadd (p' := 105) k204_104 rfl rfl ?_
          refine me_istore_n (p' := 106) k204_105 rfl ⟨Nat.le_of_ble_eq_true rfl, rfl⟩ rfl ?_
          refine me_iinc (p' := 109) k204_106 rfl rfl rfl (v := nI (p + 1)) (mI_inc (by decide)) rfl ?_
          refine me_goto k204_109 ?_
          rw [show ((sp_prC W (I 128) a p) + nI 1) = sp_prC W (I 128) a (p + 1) from by rw [sp_prC, if_neg c4]]
          exact ih (by omega) _ (hfr.tr (mFr.up (by decide))) (by rw [mg_ui, e1, sp_prS]) _ _
      · skip
        refine me_iload (p' := 75) k204_73 rfl rfl ?_
        refine me_bipush (p' := 77) k204_75 rfl (v := (-9)) (by decide) ?_
        refine me_bipush (p' := 79) k204_77 rfl (v := nI 9) (by decide) ?_
        refine me_cs (p' := 82) k204_79 rfl rfl rfl rfl rfl (cl_le mx_144 rfl) (by decide) (cl_sum rfl) (ct_within ?_)
        rw [show (sp_within (W 2 (24 * a + p)) (-9) (nI 9)) = sp_prv W (I 128) a p from by unfold sp_prv; rw [if_neg c3]]
        refine me_istore (p' := 84) k204_82 rfl ⟨Nat.le_of_ble_eq_true rfl, rfl⟩ rfl ?_
        refine me_iload_n (p' := 85) k204_84 rfl rfl ?_
        refine me_aload_n (p' := 86) k204_85 rfl rfl ?_
        refine me_iconst (p' := 87) k204_86 rfl (v := nI 5) (by decide) ?_
        refine me_iload_n (p' := 88) k204_87 rfl rfl ?_
        refine me_iadd (p' := 89) k204_88 rfl (v := nI (5 + p)) (mI_add _ _) ?_
        refine me_iload (p' := 91) k204_89 rfl rfl ?_
        refine me_cv (p' := 94) k204_91 rfl rfl (by decide) rfl (by decide) (by decide) dp_152 rfl rfl (cl_le mx_152 rfl) (by decide) (cl_sum rfl) (ct_becomes (by omega) ?_)
        rw [show I1 128 (5 + p) = I 128 (5 + p) from by rw [e1]; exact sp_prS_ne p (Nat.le_refl _)]
        refine me_iload (p' := 96) k204_94 rfl rfl ?_
        refine me_ic_ne (p' := 99) k204_96 rfl (fun c5 => ?_) (fun c5 => ?_)
        · skip
          refine me_iconst (p' := 100) k204_99 rfl (v := nI 0) (by decide) ?_
          refine me_goto k204_100 ?_
          refine me_iadd (p' := 105) k204_104 rfl rfl ?_
          refine me_istore_n (p' := 106) k204_105 rfl ⟨Nat.le_of_ble_eq_true rfl, rfl⟩ rfl ?_
          refine me_iinc (p' := 109) k204_106 rfl rfl rfl (v := nI (p + 1)) (mI_inc (by decide)) rfl ?_
          refine me_goto k204_109 ?_
          rw [show ((sp_prC W (I 128) a p) + nI 0) = sp_prC W (I 128) a (p + 1) from by rw [sp_prC, if_pos c5]]
          exact ih (by omega) _ (hfr.tr (mFr.up (by decide))) (by rw [mg_ui, e1, sp_prS]) _ _
        · skip
          refine me_iconst (p' := 104) k204_103 rfl (v := nI 1) (by decide) ?_
          refine me_iadd (p' := 105) k204_104 rfl rfl ?_
          refine me_istore_n (p' := 106) k204_105 rfl ⟨Nat.le_of_ble_eq_true rfl, rfl⟩ rfl ?_
          refine me_iinc (p' := 109) k204_106 rfl rfl rfl (v := nI (p + 1)) (mI_inc (by decide)) rfl ?_
          refine me_goto k204_109 ?_
          rw [show ((sp_prC W (I 128) a p) + nI 1) = sp_prC W (I 128) a (p + 1) from by rw [sp_prC, if_neg c5]]
          exact ih (by omega) _ (hfr.tr (mFr.up (by decide))) (by rw [mg_ui, e1, sp_prS]) _ _
theorem ct_Mpour {d L : Nat} {xs : Nat → Int32} {I : Nat → Nat → Int32} {Q : Option Value → mj_H → Prop} {W : Nat → Nat → Int32} (hW : mW I = W) (hwk : mWk W) {a : Int32} (hQ : ∀ I2, mFr [128] I I2 → I2 128 = (sp_pour W (I 128) a).2 → Q (some (.int (sp_pour W (I 128) a).1)) (mg_h L xs I2)) : mj_Cl (d + 2) 204 [.ref 127, .int a] (mg_h L xs I) Q := by
  refine cl_start mx_204 (ls := [.ref 127, .int a, mj_no, mj_no, mj_no, mj_no]) rfl ?_
  refine me_iload_n (p' := 1) k204_0 rfl rfl ?_
  refine me_cs (p' := 4) k204_1 rfl rfl rfl rfl rfl (cl_le mx_182 rfl) (by decide) (cl_sum rfl) (ct_MisSheet (fun k340 hk341 he => ?_) (fun hz342 => ?_))
  · skip
    subst he
    refine me_if_ne (p' := 7) k204_4 rfl (fun h => absurd h (by decide)) (fun _ => ?_)
    refine me_aload_n (p' := 11) k204_10 rfl rfl ?_
    refine me_gfr (p' := 14) k204_11 rfl (by decide) rfl (b := 140) rfl ?_
    refine me_iload_n (p' := 15) k204_14 rfl rfl ?_
    refine me_iald (p' := 16) k204_15 rfl (by decide) rfl (j := k340) rfl (by omega) (by decide) rfl ?_
    rw [show I 140 k340 = W 0 k340 from by rw [← hW]; rfl]
    rcases hwk.so (j := k340) (by omega) with hso | hso | hso
    · skip
      rw [hso]
      refine me_if_ge (p' := 19) k204_16 rfl (fun c1 => ?_) (fun c1 => ?_)
      · skip
        exact absurd c1 (by decide)
      · skip
        refine me_ldc (p' := 21) k204_19 rfl (v := (-1000000011)) (by decide) ?_
        refine me_reti k204_21 rt_204 rfl ?_
        simp only [sp_pour, sp_rg_s hk341 (by omega), hso, (show (-1 : Int32) < 0 by decide), c1, if_true, if_false, true_and, and_true, and_self] at hQ
        exact hQ _ mFr.rf rfl
    · skip
      rw [hso]
      refine me_if_ge (p' := 19) k204_16 rfl (fun _ => ?_) (fun h => absurd (by decide) h)
      refine me_iconst (p' := 23) k204_22 rfl (v := nI 0) (by decide) ?_
      refine me_istore_n (p' := 24) k204_23 rfl ⟨Nat.le_of_ble_eq_true rfl, rfl⟩ rfl ?_
      refine me_iconst (p' := 25) k204_24 rfl (v := nI 0) (by decide) ?_
      refine me_istore_n (p' := 26) k204_25 rfl ⟨Nat.le_of_ble_eq_true rfl, rfl⟩ rfl ?_
      simp only [sp_pour, sp_rg_s hk341 (by omega), hso, (show ¬ (nI 0 : Int32) < 0 by decide), if_true, if_false, true_and, and_true, and_self] at hQ
      exact lp_Mpour hW hwk (by omega) hQ 0 (Nat.zero_le _) I mFr.rf rfl _ _
    · skip
      rw [hso]
      refine me_if_ge (p' := 19) k204_16 rfl (fun _ => ?_) (fun h => absurd (by decide) h)
      refine me_iconst (p' := 23) k204_22 rfl (v := nI 0) (by decide) ?_
      refine me_istore_n (p' := 24) k204_23 rfl ⟨Nat.le_of_ble_eq_true rfl, rfl⟩ rfl ?_
      refine me_iconst (p' := 25) k204_24 rfl (v := nI 0) (by decide) ?_
      refine me_istore_n (p' := 26) k204_25 rfl ⟨Nat.le_of_ble_eq_true rfl, rfl⟩ rfl ?_
      simp only [sp_pour, sp_rg_s hk341 (by omega), hso, (show ¬ (nI 1 : Int32) < 0 by decide), (show ¬ nI 1 = nI 0 by decide), if_true, if_false, true_and, and_true, and_self] at hQ
      exact lp_Mpour hW hwk (by omega) hQ 0 (Nat.zero_le _) I mFr.rf rfl _ _
  · skip
    refine me_if_ne (p' := 7) k204_4 rfl (fun _ => ?_) (fun h => absurd (by decide) h)
    refine me_ldc (p' := 9) k204_7 rfl (v := (-1000000001)) (by decide) ?_
    refine me_reti k204_9 rt_204 rfl ?_
    simp only [sp_pour, sp_rg_n (by omega) hz342, if_true, if_false, true_and, and_true, and_self] at hQ
    exact hQ _ mFr.rf rfl
theorem ct_Mask {d L : Nat} {xs : Nat → Int32} {I : Nat → Nat → Int32} {Q : Option Value → mj_H → Prop} {W : Nat → Nat → Int32} (hW : mW I = W) (hwk : mWk W) {sl kd : Int32} (hQ : Q (some (.int (sp_ask W sl kd))) (mg_h L xs I)) : mj_Cl (d + 2) 209 [.ref 127, .int sl, .int kd] (mg_h L xs I) Q := by
  refine cl_start mx_209 (ls := [.ref 127, .int sl, .int kd]) rfl ?_
  refine me_iload_n (p' := 1) k209_0 rfl rfl ?_
  refine me_cs (p' := 4) k209_1 rfl rfl rfl rfl rfl (cl_le mx_208 rfl) (by decide) (cl_sum rfl) (ct_MisSlot (fun k343 hk344 he => ?_) (fun hz345 => ?_))
  · skip
    subst he
    refine me_if_eq (p' := 7) k209_4 rfl (fun h => absurd h (by decide)) (fun _ => ?_)
    refine me_iload_n (p' := 8) k209_7 rfl rfl ?_
    refine me_iconst (p' := 9) k209_8 rfl (v := nI 0) (by decide) ?_
    refine me_iconst (p' := 10) k209_9 rfl (v := nI 5) (by decide) ?_
    refine me_cs (p' := 13) k209_10 rfl rfl rfl rfl rfl (cl_le mx_134 rfl) (by decide) (cl_sum rfl) (ct_in (fun e346 => ?_) (fun e346 => ?_))
    · skip
      obtain ⟨k347, hk348, rfl⟩ := mI_in1 (n := 5) (by omega) e346
      have hk348 : k347 < 6 := by omega
      refine me_if_ne (p' := 16) k209_13 rfl (fun h => absurd h (by decide)) (fun _ => ?_)
      refine me_aload_n (p' := 20) k209_19 rfl rfl ?_
      refine me_gfr (p' := 23) k209_20 rfl (by decide) rfl (b := 143) rfl ?_
      refine me_iload_n (p' := 24) k209_23 rfl rfl ?_
      refine me_iald (p' := 25) k209_24 rfl (by decide) rfl (j := k343) rfl (by omega) (by decide) rfl ?_
      rw [show I 143 k343 = W 3 k343 from by rw [← hW]; rfl]
      obtain ⟨t9, htg, ht4, htk, hts⟩ := hwk.tg (j := k343) (by omega)
      rcases (show t9 = 0 ∨ t9 = 1 ∨ t9 = 2 ∨ t9 = 3 by omega) with rfl | rfl | rfl | rfl
      · skip
        rw [htg]
        refine me_if_ne (p' := 28) k209_25 rfl (fun _ => ?_) (fun h => absurd (by decide) h)
        refine me_ldc (p' := 30) k209_28 rfl (v := (-1000000011)) (by decide) ?_
        refine me_reti k209_30 rt_209 rfl ?_
        simp only [sp_ask, sp_rg_s hk344 (by omega), sp_rg_s (m := 6) hk348 (by omega), htg, (show ¬ nI 0 = nI 1 by decide), (show ¬ nI 0 = nI 2 by decide), (show ¬ nI 0 = nI 3 by decide), if_true, if_false, true_and, and_true, and_self] at hQ
        exact hQ
      · skip
        rw [htg]
        refine me_if_ne (p' := 28) k209_25 rfl (fun h => absurd h (by decide)) (fun _ => ?_)
        refine me_aload_n (p' := 32) k209_31 rfl rfl ?_
        refine me_gfr (p' := 35) k209_32 rfl (by decide) rfl (b := 143) rfl ?_
        refine me_iload_n (p' := 36) k209_35 rfl rfl ?_
        refine me_iald (p' := 37) k209_36 rfl (by decide) rfl (j := k343) rfl (by omega) (by decide) rfl ?_
        rw [show I 143 k343 = W 3 k343 from by rw [← hW]; rfl]
        rw [htg]
        refine me_iconst (p' := 38) k209_37 rfl (v := nI 1) (by decide) ?_
        refine me_ic_ne (p' := 41) k209_38 rfl (fun _ => ?_) (fun h => absurd (by decide) h)
        refine me_aload_n (p' := 42) k209_41 rfl rfl ?_
        refine me_gfr (p' := 45) k209_42 rfl (by decide) rfl (b := 144) rfl ?_
        refine me_iload_n (p' := 46) k209_45 rfl rfl ?_
        refine me_iald (p' := 47) k209_46 rfl (by decide) rfl (j := k343) rfl (by omega) (by decide) rfl ?_
        rw [show I 144 k343 = W 4 k343 from by rw [← hW]; rfl]
        rw [(htk rfl).1]
        have hq6 := (htk rfl).2
        refine me_iload_n (p' := 48) k209_47 rfl rfl ?_
        refine me_cs (p' := 51) k209_48 rfl rfl rfl rfl rfl (cl_le mx_150 rfl) (by decide) (cl_sum rfl) (ct_MisUnder (by omega) (by omega) (fun e350 => ?_) (fun e350 => ?_))
        · skip
          refine me_if_eq (p' := 54) k209_51 rfl (fun h => absurd h (by decide)) (fun _ => ?_)
          refine me_aload_n (p' := 55) k209_54 rfl rfl ?_
          refine me_gfr (p' := 58) k209_55 rfl (by decide) rfl (b := 145) rfl ?_
          refine me_iload_n (p' := 59) k209_58 rfl rfl ?_
          refine me_iald (p' := 60) k209_59 rfl (by decide) rfl (j := k343) rfl (by omega) (by decide) rfl ?_
          rw [show I 145 k343 = W 5 k343 from by rw [← hW]; rfl]
          refine me_goto k209_60 ?_
          refine me_reti k209_65 rt_209 rfl ?_
          simp only [sp_ask, sp_rg_s hk344 (by omega), sp_rg_s (m := 6) hk348 (by omega), htg, (show ¬ nI 1 = nI 0 by decide), (show ¬ nI 1 = nI 2 by decide), (show ¬ nI 1 = nI 3 by decide), if_pos e350, if_true, if_false, true_and, and_true, and_self] at hQ
          exact hQ
        · skip
          refine me_if_eq (p' := 54) k209_51 rfl (fun _ => ?_) (fun h => absurd (by decide) h)
          refine me_ldc (p' := 65) k209_63 rfl (v := (-1000000012)) (by decide) ?_
          refine me_reti k209_65 rt_209 rfl ?_
          simp only [sp_ask, sp_rg_s hk344 (by omega), sp_rg_s (m := 6) hk348 (by omega), htg, (show ¬ nI 1 = nI 0 by decide), (show ¬ nI 1 = nI 2 by decide), (show ¬ nI 1 = nI 3 by decide), if_neg e350, if_true, if_false, true_and, and_true, and_self] at hQ
          exact hQ
      · skip
        rw [htg]
        refine me_if_ne (p' := 28) k209_25 rfl (fun h => absurd h (by decide)) (fun _ => ?_)
        refine me_aload_n (p' := 32) k209_31 rfl rfl ?_
        refine me_gfr (p' := 35) k209_32 rfl (by decide) rfl (b := 143) rfl ?_
        refine me_iload_n (p' := 36) k209_35 rfl rfl ?_
        refine me_iald (p' := 37) k209_36 rfl (by decide) rfl (j := k343) rfl (by omega) (by decide) rfl ?_
        rw [show I 143 k343 = W 3 k343 from by rw [← hW]; rfl]
        rw [htg]
        refine me_iconst (p' := 38) k209_37 rfl (v := nI 1) (by decide) ?_
        refine me_ic_ne (p' := 41) k209_38 rfl (fun h => absurd h (by decide)) (fun _ => ?_)
        refine me_ldc (p' := 65) k209_63 rfl (v := (-1000000012)) (by decide) ?_
        refine me_reti k209_65 rt_209 rfl ?_
        simp only [sp_ask, sp_rg_s hk344 (by omega), sp_rg_s (m := 6) hk348 (by omega), htg, (show ¬ nI 2 = nI 0 by decide), (show ¬ nI 2 = nI 1 by decide), (show ¬ nI 2 = nI 3 by decide), if_true, if_false, true_and, and_true, and_self] at hQ
        exact hQ
      · skip
        rw [htg]
        refine me_if_ne (p' := 28) k209_25 rfl (fun h => absurd h (by decide)) (fun _ => ?_)
        refine me_aload_n (p' := 32) k209_31 rfl rfl ?_
        refine me_gfr (p' := 35) k209_32 rfl (by decide) rfl (b := 143) rfl ?_
        refine me_iload_n (p' := 36) k209_35 rfl rfl ?_
        refine me_iald (p' := 37) k209_36 rfl (by decide) rfl (j := k343) rfl (by omega) (by decide) rfl ?_
        rw [show I 143 k343 = W 3 k343 from by rw [← hW]; rfl]
        rw [htg]
        refine me_iconst (p' := 38) k209_37 rfl (v := nI 1) (by decide) ?_
        refine me_ic_ne (p' := 41) k209_38 rfl (fun h => absurd h (by decide)) (fun _ => ?_)
        refine me_ldc (p' := 65) k209_63 rfl (v := (-1000000012)) (by decide) ?_
        refine me_reti k209_65 rt_209 rfl ?_
        simp only [sp_ask, sp_rg_s hk344 (by omega), sp_rg_s (m := 6) hk348 (by omega), htg, (show ¬ nI 3 = nI 0 by decide), (show ¬ nI 3 = nI 1 by decide), (show ¬ nI 3 = nI 2 by decide), if_true, if_false, true_and, and_true, and_self] at hQ
        exact hQ
    · skip
      have hz349 : ∀ k : Nat, k < 6 → kd ≠ nI k := fun k hk => mI_in0 (n := 5) (by omega) e346 (by omega)
      refine me_if_ne (p' := 16) k209_13 rfl (fun _ => ?_) (fun h => absurd (by decide) h)
      refine me_ldc (p' := 18) k209_16 rfl (v := (-1000000001)) (by decide) ?_
      refine me_reti k209_18 rt_209 rfl ?_
      simp only [sp_ask, sp_rg_s hk344 (by omega), sp_rg_n (m := 6) (by omega) hz349, if_true, if_false, true_and, and_true, and_self] at hQ
      exact hQ
  · skip
    refine me_if_eq (p' := 7) k209_4 rfl (fun _ => ?_) (fun h => absurd (by decide) h)
    refine me_ldc (p' := 18) k209_16 rfl (v := (-1000000001)) (by decide) ?_
    refine me_reti k209_18 rt_209 rfl ?_
    simp only [sp_ask, sp_rg_n (by omega) hz345, if_true, if_false, true_and, and_true, and_self] at hQ
    exact hQ
theorem ct_Mitem {d L : Nat} {xs : Nat → Int32} {I : Nat → Nat → Int32} {Q : Option Value → mj_H → Prop} {W : Nat → Nat → Int32} (hW : mW I = W) (hwk : mWk W) {sl pl : Int32} (hQ : Q (some (.int (sp_item W sl pl))) (mg_h L xs I)) : mj_Cl (d + 2) 210 [.ref 127, .int sl, .int pl] (mg_h L xs I) Q := by
  refine cl_start mx_210 (ls := [.ref 127, .int sl, .int pl, mj_no]) rfl ?_
  refine me_iload_n (p' := 1) k210_0 rfl rfl ?_
  refine me_cs (p' := 4) k210_1 rfl rfl rfl rfl rfl (cl_le mx_208 rfl) (by decide) (cl_sum rfl) (ct_MisSlot (fun k351 hk352 he => ?_) (fun hz353 => ?_))
  · skip
    subst he
    refine me_if_ne (p' := 7) k210_4 rfl (fun h => absurd h (by decide)) (fun _ => ?_)
    refine me_aload_n (p' := 11) k210_10 rfl rfl ?_
    refine me_gfr (p' := 14) k210_11 rfl (by decide) rfl (b := 143) rfl ?_
    refine me_iload_n (p' := 15) k210_14 rfl rfl ?_
    refine me_iald (p' := 16) k210_15 rfl (by decide) rfl (j := k351) rfl (by omega) (by decide) rfl ?_
    rw [show I 143 k351 = W 3 k351 from by rw [← hW]; rfl]
    obtain ⟨t9, htg, ht4, htk, hts⟩ := hwk.tg (j := k351) (by omega)
    rcases (show t9 = 0 ∨ t9 = 1 ∨ t9 = 2 ∨ t9 = 3 by omega) with rfl | rfl | rfl | rfl
    · skip
      rw [htg]
      refine me_if_ne (p' := 19) k210_16 rfl (fun _ => ?_) (fun h => absurd (by decide) h)
      refine me_ldc (p' := 21) k210_19 rfl (v := (-1000000011)) (by decide) ?_
      refine me_reti k210_21 rt_210 rfl ?_
      simp only [sp_item, sp_rg_s hk352 (by omega), htg, (show ¬ nI 0 = nI 1 by decide), (show ¬ nI 0 = nI 2 by decide), (show ¬ nI 0 = nI 3 by decide), if_true, if_false, true_and, and_true, and_self] at hQ
      exact hQ
    · skip
      rw [htg]
      refine me_if_ne (p' := 19) k210_16 rfl (fun h => absurd h (by decide)) (fun _ => ?_)
      refine me_aload_n (p' := 23) k210_22 rfl rfl ?_
      refine me_gfr (p' := 26) k210_23 rfl (by decide) rfl (b := 143) rfl ?_
      refine me_iload_n (p' := 27) k210_26 rfl rfl ?_
      refine me_iald (p' := 28) k210_27 rfl (by decide) rfl (j := k351) rfl (by omega) (by decide) rfl ?_
      rw [show I 143 k351 = W 3 k351 from by rw [← hW]; rfl]
      rw [htg]
      refine me_iconst (p' := 29) k210_28 rfl (v := nI 2) (by decide) ?_
      refine me_ic_eq (p' := 32) k210_29 rfl (fun h => absurd h (by decide)) (fun _ => ?_)
      refine me_ldc (p' := 34) k210_32 rfl (v := (-1000000012)) (by decide) ?_
      refine me_reti k210_34 rt_210 rfl ?_
      simp only [sp_item, sp_rg_s hk352 (by omega), htg, (show ¬ nI 1 = nI 0 by decide), (show ¬ nI 1 = nI 2 by decide), (show ¬ nI 1 = nI 3 by decide), if_true, if_false, true_and, and_true, and_self] at hQ
      exact hQ
    · skip
      rw [htg]
      refine me_if_ne (p' := 19) k210_16 rfl (fun h => absurd h (by decide)) (fun _ => ?_)
      refine me_aload_n (p' := 23) k210_22 rfl rfl ?_
      refine me_gfr (p' := 26) k210_23 rfl (by decide) rfl (b := 143) rfl ?_
      refine me_iload_n (p' := 27) k210_26 rfl rfl ?_
      refine me_iald (p' := 28) k210_27 rfl (by decide) rfl (j := k351) rfl (by omega) (by decide) rfl ?_
      rw [show I 143 k351 = W 3 k351 from by rw [← hW]; rfl]
      rw [htg]
      refine me_iconst (p' := 29) k210_28 rfl (v := nI 2) (by decide) ?_
      refine me_ic_eq (p' := 32) k210_29 rfl (fun _ => ?_) (fun h => absurd (by decide) h)
      refine me_iload_n (p' := 36) k210_35 rfl rfl ?_
      refine me_iconst (p' := 37) k210_36 rfl (v := nI 0) (by decide) ?_
      refine me_aload_n (p' := 38) k210_37 rfl rfl ?_
      refine me_gfr (p' := 41) k210_38 rfl (by decide) rfl (b := 144) rfl ?_
      refine me_iload_n (p' := 42) k210_41 rfl rfl ?_
      refine me_iald (p' := 43) k210_42 rfl (by decide) rfl (j := k351) rfl (by omega) (by decide) rfl ?_
      rw [show I 144 k351 = W 4 k351 from by rw [← hW]; rfl]
      rw [(hts rfl).1]
      have hs24 := (hts rfl).2
      refine me_iconst (p' := 44) k210_43 rfl (v := nI 1) (by decide) ?_
      refine me_isub (p' := 45) k210_44 rfl rfl ?_
      refine me_cs (p' := 48) k210_45 rfl rfl rfl rfl rfl (cl_le mx_134 rfl) (by decide) (cl_sum rfl) (ct_in (fun e357 => ?_) (fun e357 => ?_))
      · skip
        obtain ⟨p354, hk355, rfl⟩ := mI_lt1 (by omega) e357
        refine me_if_ne (p' := 51) k210_48 rfl (fun h => absurd h (by decide)) (fun _ => ?_)
        refine me_aload_n (p' := 55) k210_54 rfl rfl ?_
        refine me_gfr (p' := 58) k210_55 rfl (by decide) rfl (b := 146) rfl ?_
        refine me_bipush (p' := 60) k210_58 rfl (v := nI 24) (by decide) ?_
        refine me_iload_n (p' := 61) k210_60 rfl rfl ?_
        refine me_imul (p' := 62) k210_61 rfl (v := nI (24 * k351)) (mI_mul _ _) ?_
        refine me_iload_n (p' := 63) k210_62 rfl rfl ?_
        refine me_iadd (p' := 64) k210_63 rfl (v := nI ((24 * k351) + p354)) (mI_add _ _) ?_
        refine me_iald (p' := 65) k210_64 rfl (by decide) rfl (j := (24 * k351) + p354) rfl (by omega) (by decide) rfl ?_
        rw [show I 146 ((24 * k351) + p354) = W 6 ((24 * k351) + p354) from by rw [← hW]; rfl]
        refine me_istore_n (p' := 66) k210_65 rfl ⟨Nat.le_of_ble_eq_true rfl, rfl⟩ rfl ?_
        refine me_iload_n (p' := 67) k210_66 rfl rfl ?_
        refine me_ldc (p' := 69) k210_67 rfl (v := (-1000000005)) (by decide) ?_
        refine me_ic_ne (p' := 72) k210_69 rfl (fun c1 => ?_) (fun c1 => ?_)
        · skip
          refine me_ldc (p' := 74) k210_72 rfl (v := (-1000000012)) (by decide) ?_
          refine me_goto k210_74 ?_
          refine me_reti k210_78 rt_210 rfl ?_
          simp only [sp_item, sp_rg_s hk352 (by omega), htg, (show ¬ nI 2 = nI 0 by decide), (show ¬ nI 2 = nI 1 by decide), (show ¬ nI 2 = nI 3 by decide), sp_rg_s hk355 (by omega), (eq_true c1), if_true, if_false, true_and, and_true, and_self] at hQ
          exact hQ
        · skip
          refine me_iload_n (p' := 78) k210_77 rfl rfl ?_
          refine me_reti k210_78 rt_210 rfl ?_
          simp only [sp_item, sp_rg_s hk352 (by omega), htg, (show ¬ nI 2 = nI 0 by decide), (show ¬ nI 2 = nI 1 by decide), (show ¬ nI 2 = nI 3 by decide), sp_rg_s hk355 (by omega), c1, if_true, if_false, true_and, and_true, and_self] at hQ
          exact hQ
      · skip
        have hz356 : ∀ k : Nat, k < sN2 W k351 → pl ≠ nI k := fun k hk => mI_lt0 (by omega) e357 hk
        refine me_if_ne (p' := 51) k210_48 rfl (fun _ => ?_) (fun h => absurd (by decide) h)
        refine me_ldc (p' := 53) k210_51 rfl (v := (-1000000013)) (by decide) ?_
        refine me_reti k210_53 rt_210 rfl ?_
        simp only [sp_item, sp_rg_s hk352 (by omega), htg, (show ¬ nI 2 = nI 0 by decide), (show ¬ nI 2 = nI 1 by decide), (show ¬ nI 2 = nI 3 by decide), sp_rg_n (by omega) hz356, if_true, if_false, true_and, and_true, and_self] at hQ
        exact hQ
    · skip
      rw [htg]
      refine me_if_ne (p' := 19) k210_16 rfl (fun h => absurd h (by decide)) (fun _ => ?_)
      refine me_aload_n (p' := 23) k210_22 rfl rfl ?_
      refine me_gfr (p' := 26) k210_23 rfl (by decide) rfl (b := 143) rfl ?_
      refine me_iload_n (p' := 27) k210_26 rfl rfl ?_
      refine me_iald (p' := 28) k210_27 rfl (by decide) rfl (j := k351) rfl (by omega) (by decide) rfl ?_
      rw [show I 143 k351 = W 3 k351 from by rw [← hW]; rfl]
      rw [htg]
      refine me_iconst (p' := 29) k210_28 rfl (v := nI 2) (by decide) ?_
      refine me_ic_eq (p' := 32) k210_29 rfl (fun h => absurd h (by decide)) (fun _ => ?_)
      refine me_ldc (p' := 34) k210_32 rfl (v := (-1000000012)) (by decide) ?_
      refine me_reti k210_34 rt_210 rfl ?_
      simp only [sp_item, sp_rg_s hk352 (by omega), htg, (show ¬ nI 3 = nI 0 by decide), (show ¬ nI 3 = nI 1 by decide), (show ¬ nI 3 = nI 2 by decide), if_true, if_false, true_and, and_true, and_self] at hQ
      exact hQ
  · skip
    refine me_if_ne (p' := 7) k210_4 rfl (fun _ => ?_) (fun h => absurd (by decide) h)
    refine me_ldc (p' := 9) k210_7 rfl (v := (-1000000001)) (by decide) ?_
    refine me_reti k210_9 rt_210 rfl ?_
    simp only [sp_item, sp_rg_n (by omega) hz353, if_true, if_false, true_and, and_true, and_self] at hQ
    exact hQ
theorem ct_Mrest {d L : Nat} {xs : Nat → Int32} {I : Nat → Nat → Int32} {Q : Option Value → mj_H → Prop} {W : Nat → Nat → Int32} (hW : mW I = W) (hwk : mWk W) {sl v : Int32} (hQ : Q (some (.int (sp_rest W sl v))) (mg_h L xs I)) : mj_Cl (d + 2) 211 [.ref 127, .int sl, .int v] (mg_h L xs I) Q := by
  refine cl_start mx_211 (ls := [.ref 127, .int sl, .int v]) rfl ?_
  refine me_iload_n (p' := 1) k211_0 rfl rfl ?_
  refine me_cs (p' := 4) k211_1 rfl rfl rfl rfl rfl (cl_le mx_208 rfl) (by decide) (cl_sum rfl) (ct_MisSlot (fun k358 hk359 he => ?_) (fun hz360 => ?_))
  · skip
    subst he
    refine me_if_ne (p' := 7) k211_4 rfl (fun h => absurd h (by decide)) (fun _ => ?_)
    refine me_aload_n (p' := 11) k211_10 rfl rfl ?_
    refine me_gfr (p' := 14) k211_11 rfl (by decide) rfl (b := 143) rfl ?_
    refine me_iload_n (p' := 15) k211_14 rfl rfl ?_
    refine me_iald (p' := 16) k211_15 rfl (by decide) rfl (j := k358) rfl (by assumption) (by decide) rfl ?_
    rw [show I 143 k358 = W 3 k358 from by rw [← hW]; rfl]
    obtain ⟨t9, htg, ht4, htk, hts⟩ := hwk.tg (j := k358) (by omega)
    rcases (show t9 = 0 ∨ t9 = 1 ∨ t9 = 2 ∨ t9 = 3 by omega) with rfl | rfl | rfl | rfl
    · skip
      rw [htg]
      refine me_if_ne (p' := 19) k211_16 rfl (fun _ => ?_) (fun h => absurd (by decide) h)
      refine me_ldc (p' := 21) k211_19 rfl (v := (-1000000011)) (by decide) ?_
      refine me_reti k211_21 rt_211 rfl ?_
      simp only [sp_rest, sp_rg_s hk359 (by omega), htg, (show ¬ nI 0 = nI 1 by decide), (show ¬ nI 0 = nI 2 by decide), (show ¬ nI 0 = nI 3 by decide), if_true, if_false, true_and, and_true, and_self] at hQ
      exact hQ
    · skip
      rw [htg]
      refine me_if_ne (p' := 19) k211_16 rfl (fun h => absurd h (by decide)) (fun _ => ?_)
      refine me_aload_n (p' := 23) k211_22 rfl rfl ?_
      refine me_gfr (p' := 26) k211_23 rfl (by decide) rfl (b := 143) rfl ?_
      refine me_iload_n (p' := 27) k211_26 rfl rfl ?_
      refine me_iald (p' := 28) k211_27 rfl (by decide) rfl (j := k358) rfl (by assumption) (by decide) rfl ?_
      rw [show I 143 k358 = W 3 k358 from by rw [← hW]; rfl]
      rw [htg]
      refine me_iconst (p' := 29) k211_28 rfl (v := nI 3) (by decide) ?_
      refine me_ic_eq (p' := 32) k211_29 rfl (fun h => absurd h (by decide)) (fun _ => ?_)
      refine me_ldc (p' := 34) k211_32 rfl (v := (-1000000012)) (by decide) ?_
      refine me_reti k211_34 rt_211 rfl ?_
      simp only [sp_rest, sp_rg_s hk359 (by omega), htg, (show ¬ nI 1 = nI 0 by decide), (show ¬ nI 1 = nI 2 by decide), (show ¬ nI 1 = nI 3 by decide), if_true, if_false, true_and, and_true, and_self] at hQ
      exact hQ
    · skip
      rw [htg]
      refine me_if_ne (p' := 19) k211_16 rfl (fun h => absurd h (by decide)) (fun _ => ?_)
      refine me_aload_n (p' := 23) k211_22 rfl rfl ?_
      refine me_gfr (p' := 26) k211_23 rfl (by decide) rfl (b := 143) rfl ?_
      refine me_iload_n (p' := 27) k211_26 rfl rfl ?_
      refine me_iald (p' := 28) k211_27 rfl (by decide) rfl (j := k358) rfl (by assumption) (by decide) rfl ?_
      rw [show I 143 k358 = W 3 k358 from by rw [← hW]; rfl]
      rw [htg]
      refine me_iconst (p' := 29) k211_28 rfl (v := nI 3) (by decide) ?_
      refine me_ic_eq (p' := 32) k211_29 rfl (fun h => absurd h (by decide)) (fun _ => ?_)
      refine me_ldc (p' := 34) k211_32 rfl (v := (-1000000012)) (by decide) ?_
      refine me_reti k211_34 rt_211 rfl ?_
      simp only [sp_rest, sp_rg_s hk359 (by omega), htg, (show ¬ nI 2 = nI 0 by decide), (show ¬ nI 2 = nI 1 by decide), (show ¬ nI 2 = nI 3 by decide), if_true, if_false, true_and, and_true, and_self] at hQ
      exact hQ
    · skip
      rw [htg]
      refine me_if_ne (p' := 19) k211_16 rfl (fun h => absurd h (by decide)) (fun _ => ?_)
      refine me_aload_n (p' := 23) k211_22 rfl rfl ?_
      refine me_gfr (p' := 26) k211_23 rfl (by decide) rfl (b := 143) rfl ?_
      refine me_iload_n (p' := 27) k211_26 rfl rfl ?_
      refine me_iald (p' := 28) k211_27 rfl (by decide) rfl (j := k358) rfl (by assumption) (by decide) rfl ?_
      rw [show I 143 k358 = W 3 k358 from by rw [← hW]; rfl]
      rw [htg]
      refine me_iconst (p' := 29) k211_28 rfl (v := nI 3) (by decide) ?_
      refine me_ic_eq (p' := 32) k211_29 rfl (fun _ => ?_) (fun h => absurd (by decide) h)
      refine me_iload_n (p' := 36) k211_35 rfl rfl ?_
      refine me_if_ne (p' := 39) k211_36 rfl (fun c1 => ?_) (fun c1 => ?_)
      · skip
        refine me_ldc (p' := 41) k211_39 rfl (v := (-1000000002)) (by decide) ?_
        refine me_goto k211_41 ?_
        refine me_reti k211_61 rt_211 rfl ?_
        simp only [sp_rest, sp_rg_s hk359 (by omega), htg, (show ¬ nI 3 = nI 0 by decide), (show ¬ nI 3 = nI 1 by decide), (show ¬ nI 3 = nI 2 by decide), (eq_true c1), if_true, if_false, true_and, and_true, and_self] at hQ
        exact hQ
      · skip
        refine me_iload_n (p' := 45) k211_44 rfl rfl ?_
        refine me_iconst (p' := 46) k211_45 rfl (v := (-1)) (by decide) ?_
        refine me_ic_ne (p' := 49) k211_46 rfl (fun c2 => ?_) (fun c2 => ?_)
        · skip
          refine me_iconst (p' := 50) k211_49 rfl (v := nI 0) (by decide) ?_
          refine me_goto k211_50 ?_
          refine me_reti k211_61 rt_211 rfl ?_
          simp only [sp_rest, sp_rg_s hk359 (by omega), htg, (show ¬ nI 3 = nI 0 by decide), (show ¬ nI 3 = nI 1 by decide), (show ¬ nI 3 = nI 2 by decide), c1, (eq_true c2), if_true, if_false, true_and, and_true, and_self] at hQ
          exact hQ
        · skip
          refine me_aload_n (p' := 54) k211_53 rfl rfl ?_
          refine me_gfr (p' := 57) k211_54 rfl (by decide) rfl (b := 144) rfl ?_
          refine me_iload_n (p' := 58) k211_57 rfl rfl ?_
          refine me_iald (p' := 59) k211_58 rfl (by decide) rfl (j := k358) rfl (by assumption) (by decide) rfl ?_
          rw [show I 144 k358 = W 4 k358 from by rw [← hW]; rfl]
          refine me_iload_n (p' := 60) k211_59 rfl rfl ?_
          refine me_irem (p' := 61) k211_60 rfl (by assumption) rfl ?_
          refine me_reti k211_61 rt_211 rfl ?_
          simp only [sp_rest, sp_rg_s hk359 (by omega), htg, (show ¬ nI 3 = nI 0 by decide), (show ¬ nI 3 = nI 1 by decide), (show ¬ nI 3 = nI 2 by decide), c1, c2, if_true, if_false, true_and, and_true, and_self] at hQ
          exact hQ
  · skip
    refine me_if_ne (p' := 7) k211_4 rfl (fun _ => ?_) (fun h => absurd (by decide) h)
    refine me_ldc (p' := 9) k211_7 rfl (v := (-1000000001)) (by decide) ?_
    refine me_reti k211_9 rt_211 rfl ?_
    simp only [sp_rest, sp_rg_n (by omega) hz360, if_true, if_false, true_and, and_true, and_self] at hQ
    exact hQ
