/-! ===== the class: SHEETS (2) ===== -/
theorem cW.put {I W : Nat → Nat → Int32} {j p : Nat} {v : Int32} (h : cW I W) (hwk : mWk W) (hj : j < 4) (hp : p < sN W j) : cW (mg_u I (105 + 2 * j) p v) (mg_u W 2 (24 * j + p) v) := by
  have h24 := hwk.le hj
  refine ⟨fun i hi => ?_, fun i hi => ?_⟩
  · obtain ⟨h1, h2, h3⟩ := h.1 i hi
    have h24i := hwk.le hi
    refine ⟨by rw [mg_un1 (by omega), mg_un1 (by omega)]; exact h1, by rw [mg_un1 (by omega), mg_un1 (by omega)]; exact h2, fun k hk => ?_⟩
    have hk2 : k < sN W i := by
      unfold sN at hk ⊢
      rw [mg_un1 (by omega)] at hk
      exact hk
    by_cases e : i = j ∧ k = p
    · obtain ⟨rfl, rfl⟩ := e
      rw [mg_ueq, mg_ueq]
    · rw [mg_une (by omega), mg_une (by omega)]
      exact h3 k hk2
  · obtain ⟨h1, h2, h3, h4⟩ := h.2 i hi
    have n2 : sN2 (mg_u W 2 (24 * j + p) v) i = sN2 W i := by unfold sN2; rw [mg_un1 (by omega)]
    rw [mg_un1 (show (3 : Nat) ≠ 2 by decide), mg_un1 (show (4 : Nat) ≠ 2 by decide), mg_un1 (show (5 : Nat) ≠ 2 by decide), n2]
    refine ⟨by rw [mg_un1 (by omega)]; exact h1, fun z => ?_, fun z => ?_, fun z => ?_⟩
    · rw [mg_un1 (by omega), mg_un1 (by omega)]; exact h2 z
    · refine ⟨by rw [mg_un1 (by omega)]; exact (h3 z).1, fun k hk => ?_⟩
      rw [mg_un1 (by omega), mg_un1 (by omega)]
      exact (h3 z).2 k hk
    · rw [mg_un1 (by omega)]; exact h4 z
theorem cW.cpy {I W : Nat → Nat → Int32} {f t pl at_ m : Nat} (h : cW I W) (hwk : mWk W) (hf : f < 4) (ht : t < 4) (hp : pl + m ≤ sN W f) (ha : at_ + m ≤ sN W t) : cW (mg_c I (105 + 2 * f) pl (105 + 2 * t) at_ m) (sp_cpW W f t pl at_ m) := by
  have h24f := hwk.le hf
  have h24t := hwk.le ht
  have w0 : ∀ q i, q ≠ 2 → sp_cpW W f t pl at_ m q i = W q i := fun q i hq => by unfold sp_cpW; rw [mw_ne hq]
  have c0 : ∀ q i, q ≠ 105 + 2 * t → mg_c I (105 + 2 * f) pl (105 + 2 * t) at_ m q i = I q i := fun q i hq => mc_ne hq
  refine ⟨fun i hi => ?_, fun i hi => ?_⟩
  · obtain ⟨h1, h2, h3⟩ := h.1 i hi
    have h24i := hwk.le hi
    rw [w0 0 _ (by decide), w0 1 _ (by decide), c0 _ _ (by omega), c0 _ _ (by omega)]
    refine ⟨h1, h2, fun k hk => ?_⟩
    have hk2 : k < sN W i := by
      unfold sN at hk ⊢
      rw [w0 1 _ (by decide)] at hk
      exact hk
    unfold sp_cpW
    rw [mw_eq]
    by_cases e : i = t
    · subst e
      by_cases e2 : at_ ≤ k ∧ k < at_ + m
      · rw [mc_eq e2.1 e2.2, if_pos (by omega), (h.1 f hf).2.2 _ (by omega)]
        congr 1
        omega
      · rw [if_neg (by omega), ← h3 k hk2]
        unfold mg_c
        rw [if_neg (by omega)]
    · rw [c0 _ _ (by omega), if_neg (by omega)]
      exact h3 k hk2
  · obtain ⟨h1, h2, h3, h4⟩ := h.2 i hi
    have n2 : sN2 (sp_cpW W f t pl at_ m) i = sN2 W i := by unfold sN2; rw [w0 4 _ (by decide)]
    rw [w0 3 _ (by decide), w0 4 _ (by decide), w0 5 _ (by decide), n2, c0 _ _ (by omega), c0 _ _ (by omega), c0 _ _ (by omega), c0 _ _ (by omega), c0 _ _ (by omega)]
    refine ⟨h1, h2, fun z => ⟨(h3 z).1, fun k hk => ?_⟩, h4⟩
    rw [w0 6 _ (by decide), c0 _ _ (by omega)]
    exact (h3 z).2 k hk
theorem ct_Cmark {d L : Nat} {xs : Nat → Int32} {I : Nat → Nat → Int32} {Q : Option Value → mj_H → Prop} {W : Nat → Nat → Int32} (hc : cW I W) (hwk : mWk W) {a pl v : Int32} (hQ : ∀ I2, mFr mShL I I2 → cW I2 (sp_mark W a pl v).2 → Q (some (.int (sp_mark W a pl v).1)) (mg_h L xs I2)) : mj_Cl (d + 1) 115 [.ref 0, .int a, .int pl, .int v] (mg_h L xs I) Q := by
  refine cl_start mx_115 (ls := [.ref 0, .int a, .int pl, .int v, mj_no]) rfl ?_
  refine me_iload_n (p' := 1) k115_0 rfl rfl ?_
  refine me_cs (p' := 4) k115_1 rfl rfl rfl rfl rfl (cl_le mx_84 rfl) (by decide) (cl_sum rfl) (ct_CisSheet (fun k404 hk405 he => ?_) (fun hz406 => ?_))
  · skip
    subst he
    refine me_if_ne (p' := 7) k115_4 rfl (fun h => absurd h (by decide)) (fun _ => ?_)
    refine me_aload_n (p' := 11) k115_10 rfl rfl ?_
    refine me_gfr (p' := 14) k115_11 rfl (by decide) rfl (b := 56) rfl ?_
    refine me_iload_n (p' := 15) k115_14 rfl rfl ?_
    refine me_aald (p' := 16) k115_15 rfl (by decide) rfl ⟨by decide, by decide⟩ (j := k404) rfl (by omega) (by decide) (b := 104 + 2 * k404) (rc_56 k404 (by omega)) ?_
    refine me_astore (p' := 18) k115_16 rfl ⟨Nat.le_of_ble_eq_true rfl, rfl⟩ rfl ?_
    rcases hwk.so (j := k404) (by omega) with hso | hso | hso
    · skip
      refine me_aload (p' := 20) k115_18 rfl rfl ?_
      refine me_cv (p' := 23) k115_20 rfl rfl (hs_S k404 (by omega)).1 (congrArg Prod.fst (hs_S k404 (by omega)).2.1) (by decide) (by decide) dp_85 rfl rfl (cl_le mx_85 rfl) (by decide) (cl_sum rfl) (ct_isMissing (hs_S k404 (by omega)) (fun _ => ?_) (fun z => absurd ((hc.so (by omega)).trans hso) z))
      refine me_if_eq (p' := 26) k115_23 rfl (fun h => absurd h (by decide)) (fun _ => ?_)
      refine me_ldc (p' := 28) k115_26 rfl (v := (-1000000011)) (by decide) ?_
      refine me_reti k115_28 rt_115 rfl ?_
      simp only [sp_mark, sp_rg_s hk405 (by omega), hso, (show (-1 : Int32) < 0 by decide), if_true, if_false, true_and, and_true, and_self] at hQ
      exact hQ _ mFr.rf hc
    · skip
      refine me_aload (p' := 20) k115_18 rfl rfl ?_
      refine me_cv (p' := 23) k115_20 rfl rfl (hs_S k404 (by omega)).1 (congrArg Prod.fst (hs_S k404 (by omega)).2.1) (by decide) (by decide) dp_85 rfl rfl (cl_le mx_85 rfl) (by decide) (cl_sum rfl) (ct_isMissing (hs_S k404 (by omega)) (fun z => absurd (z.symm.trans ((hc.so (by omega)).trans hso)) (by decide)) (fun _ => ?_))
      refine me_if_eq (p' := 26) k115_23 rfl (fun _ => ?_) (fun h => absurd (by decide) h)
      refine me_aload (p' := 31) k115_29 rfl rfl ?_
      refine me_iload_n (p' := 32) k115_31 rfl rfl ?_
      refine me_iconst (p' := 33) k115_32 rfl (v := nI 1) (by decide) ?_
      refine me_cv (p' := 36) k115_33 rfl rfl (hs_S k404 (by omega)).1 (congrArg Prod.fst (hs_S k404 (by omega)).2.1) (by decide) (by decide) dp_116 rfl rfl (cl_le mx_116 rfl) (by decide) (cl_sum rfl) (ct_has (N := sN W k404) (hs_S k404 (by omega)) ⟨hc.sz hwk (by omega), hwk.le (by omega)⟩ (fun e407 => ?_) (fun e407 => ?_))
      · skip
        have hszk404 := hwk.le (j := k404) (by omega)
        obtain ⟨p408, hk409, rfl⟩ := (sp_has1 hszk404).mp e407
        refine me_if_ne (p' := 39) k115_36 rfl (fun h => absurd h (by decide)) (fun _ => ?_)
        refine me_aload (p' := 44) k115_42 rfl rfl ?_
        refine me_gfi (p' := 47) k115_44 rfl (hs_S k404 (by omega)).1 (congrArg Prod.fst (hs_S k404 (by omega)).2.1) (hs_S k404 (by omega)).2.2.2.1 ?_
        rw [hc.so (j := k404) (by omega), hso]
        refine me_if_ne (p' := 50) k115_47 rfl (fun _ => ?_) (fun h => absurd (by decide) h)
        refine me_iload_n (p' := 51) k115_50 rfl rfl ?_
        refine me_ldc (p' := 53) k115_51 rfl (v := (-1000000005)) (by decide) ?_
        refine me_ic_ne (p' := 56) k115_53 rfl (fun c1 => ?_) (fun c1 => ?_)
        · skip
          refine me_ldc (p' := 58) k115_56 rfl (v := (-1000000012)) (by decide) ?_
          refine me_reti k115_58 rt_115 rfl ?_
          simp only [sp_mark, sp_rg_s hk405 (by omega), hso, (show ¬ (nI 0 : Int32) < 0 by decide), sp_rg_s hk409 (by omega), (eq_true c1), if_true, if_false, true_and, and_true, and_self] at hQ
          exact hQ _ mFr.rf hc
        · skip
          refine me_aload (p' := 61) k115_59 rfl rfl ?_
          refine me_gfi (p' := 64) k115_61 rfl (hs_S k404 (by omega)).1 (congrArg Prod.fst (hs_S k404 (by omega)).2.1) (hs_S k404 (by omega)).2.2.2.1 ?_
          rw [hc.so (j := k404) (by omega), hso]
          refine me_iconst (p' := 65) k115_64 rfl (v := nI 1) (by decide) ?_
          refine me_ic_ne (p' := 68) k115_65 rfl (fun h => absurd h (by decide)) (fun _ => ?_)
          refine me_aload (p' := 90) k115_88 rfl rfl ?_
          refine me_gfr (p' := 93) k115_90 rfl (hs_S k404 (by omega)).1 (congrArg Prod.fst (hs_S k404 (by omega)).2.1) (b := 105 + 2 * k404) (hs_S k404 (by omega)).2.2.1 ?_
          refine me_iload_n (p' := 94) k115_93 rfl rfl ?_
          refine me_aload (p' := 96) k115_94 rfl rfl ?_
          refine me_gfi (p' := 99) k115_96 rfl (hs_S k404 (by omega)).1 (congrArg Prod.fst (hs_S k404 (by omega)).2.1) (hs_S k404 (by omega)).2.2.2.1 ?_
          rw [hc.so (j := k404) (by omega), hso]
          refine me_if_ne (p' := 102) k115_99 rfl (fun _ => ?_) (fun h => absurd (by decide) h)
          refine me_iload_n (p' := 103) k115_102 rfl rfl ?_
          refine me_i2s (p' := 104) k115_103 rfl rfl ?_
          refine me_goto k115_104 ?_
          refine me_iast (p' := 109) k115_108 rfl (hs_S k404 (by omega)).2.2.2.2.2.1 (hs_S k404 (by omega)).2.2.2.2.2.2.1 (j := p408) rfl (by omega) (by decide) (rc_nil _ (Nat.lt_of_lt_of_le (hs_S k404 (by omega)).2.2.2.2.2.1 (by decide)) (hs_S k404 (by omega)).2.2.2.2.2.2.2 _) ?_
          refine me_iconst (p' := 110) k115_109 rfl (v := nI 1) (by decide) ?_
          refine me_reti k115_110 rt_115 rfl ?_
          simp only [sp_mark, sp_rg_s hk405 (by omega), hso, (show ¬ (nI 0 : Int32) < 0 by decide), sp_rg_s hk409 (by omega), c1, if_true, if_false, true_and, and_true, and_self] at hQ
          exact hQ _ (mFr.up (ml_S k404 (by omega)).2) (hc.put hwk (by omega) (by omega))
      · skip
        have hszk404 := hwk.le (j := k404) (by omega)
        have hz410 : ∀ k : Nat, k < sN W k404 → pl ≠ nI k := fun k hk hp => e407 ((sp_has1 hszk404).mpr ⟨k, hk, hp⟩)
        refine me_if_ne (p' := 39) k115_36 rfl (fun _ => ?_) (fun h => absurd (by decide) h)
        refine me_ldc (p' := 41) k115_39 rfl (v := (-1000000013)) (by decide) ?_
        refine me_reti k115_41 rt_115 rfl ?_
        simp only [sp_mark, sp_rg_s hk405 (by omega), hso, (show ¬ (nI 0 : Int32) < 0 by decide), sp_rg_n (by omega) hz410, if_true, if_false, true_and, and_true, and_self] at hQ
        exact hQ _ mFr.rf hc
    · skip
      refine me_aload (p' := 20) k115_18 rfl rfl ?_
      refine me_cv (p' := 23) k115_20 rfl rfl (hs_S k404 (by omega)).1 (congrArg Prod.fst (hs_S k404 (by omega)).2.1) (by decide) (by decide) dp_85 rfl rfl (cl_le mx_85 rfl) (by decide) (cl_sum rfl) (ct_isMissing (hs_S k404 (by omega)) (fun z => absurd (z.symm.trans ((hc.so (by omega)).trans hso)) (by decide)) (fun _ => ?_))
      refine me_if_eq (p' := 26) k115_23 rfl (fun _ => ?_) (fun h => absurd (by decide) h)
      refine me_aload (p' := 31) k115_29 rfl rfl ?_
      refine me_iload_n (p' := 32) k115_31 rfl rfl ?_
      refine me_iconst (p' := 33) k115_32 rfl (v := nI 1) (by decide) ?_
      refine me_cv (p' := 36) k115_33 rfl rfl (hs_S k404 (by omega)).1 (congrArg Prod.fst (hs_S k404 (by omega)).2.1) (by decide) (by decide) dp_116 rfl rfl (cl_le mx_116 rfl) (by decide) (cl_sum rfl) (ct_has (N := sN W k404) (hs_S k404 (by omega)) ⟨hc.sz hwk (by omega), hwk.le (by omega)⟩ (fun e411 => ?_) (fun e411 => ?_))
      · skip
        have hszk404 := hwk.le (j := k404) (by omega)
        obtain ⟨p412, hk413, rfl⟩ := (sp_has1 hszk404).mp e411
        refine me_if_ne (p' := 39) k115_36 rfl (fun h => absurd h (by decide)) (fun _ => ?_)
        refine me_aload (p' := 44) k115_42 rfl rfl ?_
        refine me_gfi (p' := 47) k115_44 rfl (hs_S k404 (by omega)).1 (congrArg Prod.fst (hs_S k404 (by omega)).2.1) (hs_S k404 (by omega)).2.2.2.1 ?_
        rw [hc.so (j := k404) (by omega), hso]
        refine me_if_ne (p' := 50) k115_47 rfl (fun h => absurd h (by decide)) (fun _ => ?_)
        refine me_aload (p' := 61) k115_59 rfl rfl ?_
        refine me_gfi (p' := 64) k115_61 rfl (hs_S k404 (by omega)).1 (congrArg Prod.fst (hs_S k404 (by omega)).2.1) (hs_S k404 (by omega)).2.2.2.1 ?_
        rw [hc.so (j := k404) (by omega), hso]
        refine me_iconst (p' := 65) k115_64 rfl (v := nI 1) (by decide) ?_
        refine me_ic_ne (p' := 68) k115_65 rfl (fun _ => ?_) (fun h => absurd (by decide) h)
        refine me_iload_n (p' := 69) k115_68 rfl rfl ?_
        refine me_ldc (p' := 71) k115_69 rfl (v := (-1000000005)) (by decide) ?_
        refine me_ic_eq (p' := 74) k115_71 rfl (fun c2 => ?_) (fun c2 => ?_)
        · skip
          refine me_aload (p' := 90) k115_88 rfl rfl ?_
          refine me_gfr (p' := 93) k115_90 rfl (hs_S k404 (by omega)).1 (congrArg Prod.fst (hs_S k404 (by omega)).2.1) (b := 105 + 2 * k404) (hs_S k404 (by omega)).2.2.1 ?_
          refine me_iload_n (p' := 94) k115_93 rfl rfl ?_
          refine me_aload (p' := 96) k115_94 rfl rfl ?_
          refine me_gfi (p' := 99) k115_96 rfl (hs_S k404 (by omega)).1 (congrArg Prod.fst (hs_S k404 (by omega)).2.1) (hs_S k404 (by omega)).2.2.2.1 ?_
          rw [hc.so (j := k404) (by omega), hso]
          refine me_if_ne (p' := 102) k115_99 rfl (fun h => absurd h (by decide)) (fun _ => ?_)
          refine me_iload_n (p' := 108) k115_107 rfl rfl ?_
          refine me_iast (p' := 109) k115_108 rfl (hs_S k404 (by omega)).2.2.2.2.2.1 (hs_S k404 (by omega)).2.2.2.2.2.2.1 (j := p412) rfl (by omega) (by decide) (rc_nil _ (Nat.lt_of_lt_of_le (hs_S k404 (by omega)).2.2.2.2.2.1 (by decide)) (hs_S k404 (by omega)).2.2.2.2.2.2.2 _) ?_
          refine me_iconst (p' := 110) k115_109 rfl (v := nI 1) (by decide) ?_
          refine me_reti k115_110 rt_115 rfl ?_
          simp only [sp_mark, sp_rg_s hk405 (by omega), hso, (show ¬ (nI 1 : Int32) < 0 by decide), (show ¬ nI 1 = nI 0 by decide), sp_rg_s hk413 (by omega), (eq_true c2), if_true, if_false, true_and, and_true, and_self] at hQ
          exact hQ _ (mFr.up (ml_S k404 (by omega)).2) (hc.put hwk (by omega) (by omega))
        · skip
          refine me_iload_n (p' := 75) k115_74 rfl rfl ?_
          refine me_ldc (p' := 77) k115_75 rfl (v := (-99999)) (by decide) ?_
          refine me_ldc (p' := 79) k115_77 rfl (v := nI 99999) rfl ?_
          refine me_cs (p' := 82) k115_79 rfl rfl rfl rfl rfl (cl_le mx_16 rfl) (by decide) (cl_sum rfl) (ct_isWithin (fun e415 => ?_) (fun e415 => ?_))
          · skip
            refine me_if_ne (p' := 85) k115_82 rfl (fun h => absurd h (by decide)) (fun _ => ?_)
            refine me_aload (p' := 90) k115_88 rfl rfl ?_
            refine me_gfr (p' := 93) k115_90 rfl (hs_S k404 (by omega)).1 (congrArg Prod.fst (hs_S k404 (by omega)).2.1) (b := 105 + 2 * k404) (hs_S k404 (by omega)).2.2.1 ?_
            refine me_iload_n (p' := 94) k115_93 rfl rfl ?_
            refine me_aload (p' := 96) k115_94 rfl rfl ?_
            refine me_gfi (p' := 99) k115_96 rfl (hs_S k404 (by omega)).1 (congrArg Prod.fst (hs_S k404 (by omega)).2.1) (hs_S k404 (by omega)).2.2.2.1 ?_
            rw [hc.so (j := k404) (by omega), hso]
            refine me_if_ne (p' := 102) k115_99 rfl (fun h => absurd h (by decide)) (fun _ => ?_)
            refine me_iload_n (p' := 108) k115_107 rfl rfl ?_
            refine me_iast (p' := 109) k115_108 rfl (hs_S k404 (by omega)).2.2.2.2.2.1 (hs_S k404 (by omega)).2.2.2.2.2.2.1 (j := p412) rfl (by omega) (by decide) (rc_nil _ (Nat.lt_of_lt_of_le (hs_S k404 (by omega)).2.2.2.2.2.1 (by decide)) (hs_S k404 (by omega)).2.2.2.2.2.2.2 _) ?_
            refine me_iconst (p' := 110) k115_109 rfl (v := nI 1) (by decide) ?_
            refine me_reti k115_110 rt_115 rfl ?_
            simp only [sp_mark, sp_rg_s hk405 (by omega), hso, (show ¬ (nI 1 : Int32) < 0 by decide), (show ¬ nI 1 = nI 0 by decide), sp_rg_s hk413 (by omega), if_pos e415, c2, if_true, if_false, true_and, and_true, and_self] at hQ
            exact hQ _ (mFr.up (ml_S k404 (by omega)).2) (hc.put hwk (by omega) (by omega))
          · skip
            refine me_if_ne (p' := 85) k115_82 rfl (fun _ => ?_) (fun h => absurd (by decide) h)
            refine me_ldc (p' := 87) k115_85 rfl (v := (-1000000001)) (by decide) ?_
            refine me_reti k115_87 rt_115 rfl ?_
            simp only [sp_mark, sp_rg_s hk405 (by omega), hso, (show ¬ (nI 1 : Int32) < 0 by decide), (show ¬ nI 1 = nI 0 by decide), sp_rg_s hk413 (by omega), if_neg e415, c2, if_true, if_false, true_and, and_true, and_self] at hQ
            exact hQ _ mFr.rf hc
      · skip
        have hszk404 := hwk.le (j := k404) (by omega)
        have hz414 : ∀ k : Nat, k < sN W k404 → pl ≠ nI k := fun k hk hp => e411 ((sp_has1 hszk404).mpr ⟨k, hk, hp⟩)
        refine me_if_ne (p' := 39) k115_36 rfl (fun _ => ?_) (fun h => absurd (by decide) h)
        refine me_ldc (p' := 41) k115_39 rfl (v := (-1000000013)) (by decide) ?_
        refine me_reti k115_41 rt_115 rfl ?_
        simp only [sp_mark, sp_rg_s hk405 (by omega), hso, (show ¬ (nI 1 : Int32) < 0 by decide), (show ¬ nI 1 = nI 0 by decide), sp_rg_n (by omega) hz414, if_true, if_false, true_and, and_true, and_self] at hQ
        exact hQ _ mFr.rf hc
  · skip
    refine me_if_ne (p' := 7) k115_4 rfl (fun _ => ?_) (fun h => absurd (by decide) h)
    refine me_ldc (p' := 9) k115_7 rfl (v := (-1000000001)) (by decide) ?_
    refine me_reti k115_9 rt_115 rfl ?_
    simp only [sp_mark, sp_rg_n (by omega) hz406, if_true, if_false, true_and, and_true, and_self] at hQ
    exact hQ _ mFr.rf hc
theorem lp_Creads {d L : Nat} {xs : Nat → Int32} {I : Nat → Nat → Int32} {Q : Option Value → mj_H → Prop} {W : Nat → Nat → Int32} (hc : cW I W) (hwk : mWk W) {n a : Nat} (hk : mOk (mSg 11 128 I) n) (ha : a < 4) : ∀ m : Nat, m ≤ sN W a → (hQ : Q (some (.int (sp_rds W (mSg 11 128 I) n a (sN W a) m))) (mg_h L xs I)) → ∀ (k : Nat) (u4 : Value), k = sN W a - m → mj_Ev (d + 1) 118 29 [.ref 0, .int (nI a), .ref (104 + 2 * a), .int (nI k), u4] [] (mg_h L xs I) Q := by
  have hn8 := hk.hn.2
  have hsz := hwk.le ha
  intro m
  induction m with
  | zero =>
    intro hm hQ k u4 hkm
    refine me_iload_n (p' := 30) k118_29 rfl rfl ?_
    refine me_aload_n (p' := 31) k118_30 rfl rfl ?_
    refine me_gfi (p' := 34) k118_31 rfl (hs_S a (by omega)).1 (congrArg Prod.fst (hs_S a (by omega)).2.1) (hs_S a (by omega)).2.2.2.2.1 ?_
    rw [hc.sz hwk (j := a) (by omega)]
    have hsza := hwk.le (j := a) (by omega)
    refine me_ic_ge (p' := 37) k118_34 rfl (fun c1 => ?_) (fun c1 => ?_)
    · skip
      rw [cI_le (a := sN W a) (b := k) (by omega) (by omega)] at c1
      refine me_ldc (p' := 95) k118_93 rfl (v := (-1000000005)) (by decide) ?_
      refine me_reti k118_95 rt_118 rfl ?_
      exact hQ
    · skip
      rw [cI_le (a := sN W a) (b := k) (by omega) (by omega)] at c1
      exfalso
      omega
  | succ m ih =>
    intro hm hQ k u4 hkm
    refine me_iload_n (p' := 30) k118_29 rfl rfl ?_
    refine me_aload_n (p' := 31) k118_30 rfl rfl ?_
    refine me_gfi (p' := 34) k118_31 rfl (hs_S a (by omega)).1 (congrArg Prod.fst (hs_S a (by omega)).2.1) (hs_S a (by omega)).2.2.2.2.1 ?_
    rw [hc.sz hwk (j := a) (by omega)]
    have hsza := hwk.le (j := a) (by omega)
    refine me_ic_ge (p' := 37) k118_34 rfl (fun c1 => ?_) (fun c1 => ?_)
    · skip
      rw [cI_le (a := sN W a) (b := k) (by omega) (by omega)] at c1
      exfalso
      omega
    · skip
      rw [cI_le (a := sN W a) (b := k) (by omega) (by omega)] at c1
      refine me_aload_n (p' := 38) k118_37 rfl rfl ?_
      refine me_iload_n (p' := 39) k118_38 rfl rfl ?_
      refine me_cv (p' := 42) k118_39 rfl rfl (by decide) rfl (by decide) (by decide) dp_19 rfl rfl (cl_le mx_19 rfl) (by decide) (cl_sum rfl) (ct_CisCar hk (fun k9 hk9 he9 => ?_) (fun hz9 => ?_))
      · skip
        have hkn : k < n := by have := (cI_eq (by omega) (by omega)).mp he9; omega
        refine me_if_eq (p' := 45) k118_42 rfl (fun h => absurd h (by decide)) (fun _ => ?_)
        refine me_aload_n (p' := 46) k118_45 rfl rfl ?_
        refine me_gfr (p' := 49) k118_46 rfl (hs_S a (by omega)).1 (congrArg Prod.fst (hs_S a (by omega)).2.1) (b := 105 + 2 * a) (hs_S a (by omega)).2.2.1 ?_
        refine me_iload_n (p' := 50) k118_49 rfl rfl ?_
        refine me_iald (p' := 51) k118_50 rfl (hs_S a (by omega)).2.2.2.2.2.1 (hs_S a (by omega)).2.2.2.2.2.2.1 (j := k) rfl (by omega) (by decide) (rc_nil _ (Nat.lt_of_lt_of_le (hs_S a (by omega)).2.2.2.2.2.1 (by decide)) (hs_S a (by omega)).2.2.2.2.2.2.2 _) ?_
        rw [hc.vl (j := a) (k := k) (by omega) (by omega)]
        refine me_aload_n (p' := 52) k118_51 rfl rfl ?_
        refine me_gfr (p' := 55) k118_52 rfl (by decide) rfl (b := 11) rfl ?_
        refine me_gfr (p' := 58) k118_55 rfl (by decide) rfl (b := 17) rfl ?_
        refine me_iconst (p' := 59) k118_58 rfl (v := nI 1) (by decide) ?_
        refine me_aald (p' := 60) k118_59 rfl (by decide) rfl ⟨by decide, by decide⟩ (j := 1) rfl (by omega) (by decide) (b := 19) rfl ?_
        refine me_iload_n (p' := 61) k118_60 rfl rfl ?_
        refine me_iald (p' := 62) k118_61 rfl (by decide) rfl (j := k) rfl (by omega) (by decide) rfl ?_
        rw [sgR11c1 (I := I) (c := k) (by omega)]
        refine me_ic_ne (p' := 65) k118_62 rfl (fun c2 => ?_) (fun c2 => ?_)
        · skip
          refine me_iconst (p' := 66) k118_65 rfl (v := nI 1) (by decide) ?_
          refine me_goto k118_66 ?_
          refine me_istore (p' := 72) k118_70 rfl ⟨Nat.le_of_ble_eq_true rfl, rfl⟩ rfl ?_
          refine me_aload_n (p' := 73) k118_72 rfl rfl ?_
          refine me_iload_n (p' := 74) k118_73 rfl rfl ?_
          refine me_cv (p' := 77) k118_74 rfl rfl (hs_S a (by omega)).1 (congrArg Prod.fst (hs_S a (by omega)).2.1) (by decide) (by decide) dp_87 rfl rfl (cl_le mx_87 rfl) (by decide) (cl_sum rfl) (ct_isNumber (hs_S a (by omega)) (by omega) (fun e9 => ?_) (fun e9 => ?_))
          · skip
            rw [hc.vl (by omega) (by omega)] at e9
            refine me_if_eq (p' := 80) k118_77 rfl (fun h => absurd h (by decide)) (fun _ => ?_)
            refine me_iload (p' := 82) k118_80 rfl rfl ?_
            refine me_if_ne (p' := 85) k118_82 rfl (fun h => absurd h (by decide)) (fun _ => ?_)
            refine me_iinc (p' := 90) k118_87 rfl rfl rfl (v := nI (k + 1)) (mI_inc (by decide)) rfl ?_
            refine me_goto k118_90 ?_
            refine ih (by omega) ?_ _ _ (by omega)
            rw [sp_rds, ← hkm] at hQ
            simp only [hkn, e9, c1, (eq_true c2), if_true, if_false, true_and, and_true, and_self] at hQ
            exact hQ
          · skip
            rw [hc.vl (by omega) (by omega)] at e9
            refine me_if_eq (p' := 80) k118_77 rfl (fun _ => ?_) (fun h => absurd (by decide) h)
            refine me_iinc (p' := 90) k118_87 rfl rfl rfl (v := nI (k + 1)) (mI_inc (by decide)) rfl ?_
            refine me_goto k118_90 ?_
            refine ih (by omega) ?_ _ _ (by omega)
            rw [sp_rds, ← hkm] at hQ
            simp only [hkn, (eq_true e9), c1, (eq_true c2), if_true, if_false, true_and, and_true, and_self] at hQ
            exact hQ
        · skip
          refine me_iconst (p' := 70) k118_69 rfl (v := nI 0) (by decide) ?_
          refine me_istore (p' := 72) k118_70 rfl ⟨Nat.le_of_ble_eq_true rfl, rfl⟩ rfl ?_
          refine me_aload_n (p' := 73) k118_72 rfl rfl ?_
          refine me_iload_n (p' := 74) k118_73 rfl rfl ?_
          refine me_cv (p' := 77) k118_74 rfl rfl (hs_S a (by omega)).1 (congrArg Prod.fst (hs_S a (by omega)).2.1) (by decide) (by decide) dp_87 rfl rfl (cl_le mx_87 rfl) (by decide) (cl_sum rfl) (ct_isNumber (hs_S a (by omega)) (by omega) (fun e9 => ?_) (fun e9 => ?_))
          · skip
            rw [hc.vl (by omega) (by omega)] at e9
            refine me_if_eq (p' := 80) k118_77 rfl (fun h => absurd h (by decide)) (fun _ => ?_)
            refine me_iload (p' := 82) k118_80 rfl rfl ?_
            refine me_if_ne (p' := 85) k118_82 rfl (fun _ => ?_) (fun h => absurd (by decide) h)
            refine me_iload_n (p' := 86) k118_85 rfl rfl ?_
            refine me_reti k118_86 rt_118 rfl ?_
            rw [sp_rds, ← hkm] at hQ
            simp only [hkn, e9, c1, c2, if_true, if_false, true_and, and_true, and_self] at hQ
            exact hQ
          · skip
            rw [hc.vl (by omega) (by omega)] at e9
            refine me_if_eq (p' := 80) k118_77 rfl (fun _ => ?_) (fun h => absurd (by decide) h)
            refine me_iinc (p' := 90) k118_87 rfl rfl rfl (v := nI (k + 1)) (mI_inc (by decide)) rfl ?_
            refine me_goto k118_90 ?_
            refine ih (by omega) ?_ _ _ (by omega)
            rw [sp_rds, ← hkm] at hQ
            simp only [hkn, (eq_true e9), c1, c2, if_true, if_false, true_and, and_true, and_self] at hQ
            exact hQ
      · skip
        have hkn : ¬ k < n := fun z => hz9 k z rfl
        refine me_if_eq (p' := 45) k118_42 rfl (fun _ => ?_) (fun h => absurd (by decide) h)
        refine me_iconst (p' := 70) k118_69 rfl (v := nI 0) (by decide) ?_
        refine me_istore (p' := 72) k118_70 rfl ⟨Nat.le_of_ble_eq_true rfl, rfl⟩ rfl ?_
        refine me_aload_n (p' := 73) k118_72 rfl rfl ?_
        refine me_iload_n (p' := 74) k118_73 rfl rfl ?_
        refine me_cv (p' := 77) k118_74 rfl rfl (hs_S a (by omega)).1 (congrArg Prod.fst (hs_S a (by omega)).2.1) (by decide) (by decide) dp_87 rfl rfl (cl_le mx_87 rfl) (by decide) (cl_sum rfl) (ct_isNumber (hs_S a (by omega)) (by omega) (fun e9 => ?_) (fun e9 => ?_))
        · skip
          rw [hc.vl (by omega) (by omega)] at e9
          refine me_if_eq (p' := 80) k118_77 rfl (fun h => absurd h (by decide)) (fun _ => ?_)
          refine me_iload (p' := 82) k118_80 rfl rfl ?_
          refine me_if_ne (p' := 85) k118_82 rfl (fun _ => ?_) (fun h => absurd (by decide) h)
          refine me_iload_n (p' := 86) k118_85 rfl rfl ?_
          refine me_reti k118_86 rt_118 rfl ?_
          rw [sp_rds, ← hkm] at hQ
          simp only [hkn, e9, c1, if_true, if_false, true_and, and_true, and_self] at hQ
          exact hQ
        · skip
          rw [hc.vl (by omega) (by omega)] at e9
          refine me_if_eq (p' := 80) k118_77 rfl (fun _ => ?_) (fun h => absurd (by decide) h)
          refine me_iinc (p' := 90) k118_87 rfl rfl rfl (v := nI (k + 1)) (mI_inc (by decide)) rfl ?_
          refine me_goto k118_90 ?_
          refine ih (by omega) ?_ _ _ (by omega)
          rw [sp_rds, ← hkm] at hQ
          simp only [hkn, (eq_true e9), c1, if_true, if_false, true_and, and_true, and_self] at hQ
          exact hQ
theorem ct_Creads {d L : Nat} {xs : Nat → Int32} {I : Nat → Nat → Int32} {Q : Option Value → mj_H → Prop} {W : Nat → Nat → Int32} (hc : cW I W) (hwk : mWk W) {n : Nat} (hk : mOk (mSg 11 128 I) n) {a : Int32} (hQ : Q (some (.int (sp_reads W (mSg 11 128 I) n a))) (mg_h L xs I)) : mj_Cl (d + 1) 118 [.ref 0, .int a] (mg_h L xs I) Q := by
  have hn8 := hk.hn.2
  refine cl_start mx_118 (ls := [.ref 0, .int a, mj_no, mj_no, mj_no]) rfl ?_
  refine me_iload_n (p' := 1) k118_0 rfl rfl ?_
  refine me_cs (p' := 4) k118_1 rfl rfl rfl rfl rfl (cl_le mx_84 rfl) (by decide) (cl_sum rfl) (ct_CisSheet (fun k416 hk417 he => ?_) (fun hz418 => ?_))
  · skip
    subst he
    refine me_if_ne (p' := 7) k118_4 rfl (fun h => absurd h (by decide)) (fun _ => ?_)
    refine me_aload_n (p' := 11) k118_10 rfl rfl ?_
    refine me_gfr (p' := 14) k118_11 rfl (by decide) rfl (b := 56) rfl ?_
    refine me_iload_n (p' := 15) k118_14 rfl rfl ?_
    refine me_aald (p' := 16) k118_15 rfl (by decide) rfl ⟨by decide, by decide⟩ (j := k416) rfl (by omega) (by decide) (b := 104 + 2 * k416) (rc_56 k416 (by omega)) ?_
    refine me_astore_n (p' := 17) k118_16 rfl ⟨Nat.le_of_ble_eq_true rfl, rfl⟩ rfl ?_
    rcases hwk.so (j := k416) (by omega) with hso | hso | hso
    · skip
      refine me_aload_n (p' := 18) k118_17 rfl rfl ?_
      refine me_cv (p' := 21) k118_18 rfl rfl (hs_S k416 (by omega)).1 (congrArg Prod.fst (hs_S k416 (by omega)).2.1) (by decide) (by decide) dp_85 rfl rfl (cl_le mx_85 rfl) (by decide) (cl_sum rfl) (ct_isMissing (hs_S k416 (by omega)) (fun _ => ?_) (fun z => absurd ((hc.so (by omega)).trans hso) z))
      refine me_if_eq (p' := 24) k118_21 rfl (fun h => absurd h (by decide)) (fun _ => ?_)
      refine me_ldc (p' := 26) k118_24 rfl (v := (-1000000011)) (by decide) ?_
      refine me_reti k118_26 rt_118 rfl ?_
      simp only [sp_reads, sp_rg_s hk417 (by omega), hso, (show (-1 : Int32) < 0 by decide), if_true, if_false, true_and, and_true, and_self] at hQ
      exact hQ
    · skip
      refine me_aload_n (p' := 18) k118_17 rfl rfl ?_
      refine me_cv (p' := 21) k118_18 rfl rfl (hs_S k416 (by omega)).1 (congrArg Prod.fst (hs_S k416 (by omega)).2.1) (by decide) (by decide) dp_85 rfl rfl (cl_le mx_85 rfl) (by decide) (cl_sum rfl) (ct_isMissing (hs_S k416 (by omega)) (fun z => absurd (z.symm.trans ((hc.so (by omega)).trans hso)) (by decide)) (fun _ => ?_))
      refine me_if_eq (p' := 24) k118_21 rfl (fun _ => ?_) (fun h => absurd (by decide) h)
      refine me_iconst (p' := 28) k118_27 rfl (v := nI 0) (by decide) ?_
      refine me_istore_n (p' := 29) k118_28 rfl ⟨Nat.le_of_ble_eq_true rfl, rfl⟩ rfl ?_
      simp only [sp_reads, sp_rg_s hk417 (by omega), hso, (show ¬ (nI 0 : Int32) < 0 by decide), if_true, if_false, true_and, and_true, and_self] at hQ
      exact lp_Creads hc hwk hk (by omega) _ (Nat.le_refl _) hQ 0 _ (by omega)
    · skip
      refine me_aload_n (p' := 18) k118_17 rfl rfl ?_
      refine me_cv (p' := 21) k118_18 rfl rfl (hs_S k416 (by omega)).1 (congrArg Prod.fst (hs_S k416 (by omega)).2.1) (by decide) (by decide) dp_85 rfl rfl (cl_le mx_85 rfl) (by decide) (cl_sum rfl) (ct_isMissing (hs_S k416 (by omega)) (fun z => absurd (z.symm.trans ((hc.so (by omega)).trans hso)) (by decide)) (fun _ => ?_))
      refine me_if_eq (p' := 24) k118_21 rfl (fun _ => ?_) (fun h => absurd (by decide) h)
      refine me_iconst (p' := 28) k118_27 rfl (v := nI 0) (by decide) ?_
      refine me_istore_n (p' := 29) k118_28 rfl ⟨Nat.le_of_ble_eq_true rfl, rfl⟩ rfl ?_
      simp only [sp_reads, sp_rg_s hk417 (by omega), hso, (show ¬ (nI 1 : Int32) < 0 by decide), (show ¬ nI 1 = nI 0 by decide), if_true, if_false, true_and, and_true, and_self] at hQ
      exact lp_Creads hc hwk hk (by omega) _ (Nat.le_refl _) hQ 0 _ (by omega)
  · skip
    refine me_if_ne (p' := 7) k118_4 rfl (fun _ => ?_) (fun h => absurd (by decide) h)
    refine me_ldc (p' := 9) k118_7 rfl (v := (-1000000001)) (by decide) ?_
    refine me_reti k118_9 rt_118 rfl ?_
    simp only [sp_reads, sp_rg_n (by omega) hz418, if_true, if_false, true_and, and_true, and_self] at hQ
    exact hQ
theorem lp_Cpour {d L : Nat} {xs : Nat → Int32} {I : Nat → Nat → Int32} {Q : Option Value → mj_H → Prop} {W : Nat → Nat → Int32} (hc : cW I W) (hwk : mWk W) {a : Nat} (ha : a < 4) (hQ : ∀ I2, mFr [13] I I2 → mSg 11 128 I2 = sp_prS W (mSg 11 128 I) a (min (sN W a) 12) → Q (some (.int (sp_prC W (mSg 11 128 I) a (min (sN W a) 12)))) (mg_h L xs I2)) : ∀ p : Nat, p ≤ min (sN W a) 12 → ∀ I1, mFr [13] I I1 → mSg 11 128 I1 = sp_prS W (mSg 11 128 I) a p → ∀ u5 : Value, mj_Ev (d + 1) 117 32 [.ref 0, .int (nI a), .ref (104 + 2 * a), .int (sp_prC W (mSg 11 128 I) a p), .int (nI p), u5] [] (mg_h L xs I1) Q := by
  have hsz := hwk.le ha
  refine loop_ind (n := min (sN W a) 12) (fun p hpn ih => ?_)
  intro I1 hfr e1 u5
  have hc1 : cW I1 W := hc.fr hfr (by decide)
  refine me_iload (p' := 34) k117_32 rfl rfl ?_
  refine me_bipush (p' := 36) k117_34 rfl (v := nI 12) (by decide) ?_
  refine me_ic_ge (p' := 39) k117_36 rfl (fun c1 => ?_) (fun c1 => ?_)
  · skip
    rw [cI_le (a := 12) (b := p) (by omega) (by omega)] at c1
    refine me_iload_n (p' := 114) k117_113 rfl rfl ?_
    refine me_reti k117_114 rt_117 rfl ?_
    obtain rfl : p = min (sN W a) 12 := by omega
    exact hQ _ hfr e1
  · skip
    rw [cI_le (a := 12) (b := p) (by omega) (by omega)] at c1
    refine me_iload (p' := 41) k117_39 rfl rfl ?_
    refine me_aload_n (p' := 42) k117_41 rfl rfl ?_
    refine me_gfi (p' := 45) k117_42 rfl (hs_S a (by omega)).1 (congrArg Prod.fst (hs_S a (by omega)).2.1) (hs_S a (by omega)).2.2.2.2.1 ?_
    rw [hc1.sz hwk (j := a) (by omega)]
    refine me_ic_ge (p' := 48) k117_45 rfl (fun c2 => ?_) (fun c2 => ?_)
    · skip
      rw [cI_le (a := sN W a) (b := p) (by omega) (by omega)] at c2
      refine me_iload_n (p' := 114) k117_113 rfl rfl ?_
      refine me_reti k117_114 rt_117 rfl ?_
      obtain rfl : p = min (sN W a) 12 := by omega
      exact hQ _ hfr e1
    · skip
      rw [cI_le (a := sN W a) (b := p) (by omega) (by omega)] at c2
      refine me_aload_n (p' := 49) k117_48 rfl rfl ?_
      refine me_gfr (p' := 52) k117_49 rfl (hs_S a (by omega)).1 (congrArg Prod.fst (hs_S a (by omega)).2.1) (b := 105 + 2 * a) (hs_S a (by omega)).2.2.1 ?_
      refine me_iload (p' := 54) k117_52 rfl rfl ?_
      refine me_iald (p' := 55) k117_54 rfl (hs_S a (by omega)).2.2.2.2.2.1 (hs_S a (by omega)).2.2.2.2.2.2.1 (j := p) rfl (by omega) (by decide) (rc_nil _ (Nat.lt_of_lt_of_le (hs_S a (by omega)).2.2.2.2.2.1 (by decide)) (hs_S a (by omega)).2.2.2.2.2.2.2 _) ?_
      rw [hc1.vl (j := a) (k := p) (by omega) (by omega)]
      refine me_bipush (p' := 57) k117_55 rfl (v := (-9)) (by decide) ?_
      refine me_bipush (p' := 59) k117_57 rfl (v := nI 9) (by decide) ?_
      refine me_cs (p' := 62) k117_59 rfl rfl rfl rfl rfl (cl_le mx_25 rfl) (by decide) (cl_sum rfl) (ct_held (by decide) ?_)
      refine me_istore (p' := 64) k117_62 rfl ⟨Nat.le_of_ble_eq_true rfl, rfl⟩ rfl ?_
      refine me_aload_n (p' := 65) k117_64 rfl rfl ?_
      refine me_iload (p' := 67) k117_65 rfl rfl ?_
      refine me_cv (p' := 70) k117_67 rfl rfl (hs_S a (by omega)).1 (congrArg Prod.fst (hs_S a (by omega)).2.1) (by decide) (by decide) dp_87 rfl rfl (cl_le mx_87 rfl) (by decide) (cl_sum rfl) (ct_isNumber (hs_S a (by omega)) (by omega) (fun e9 => ?_) (fun e9 => ?_))
      · skip
        rw [hc1.vl (by omega) (by omega)] at e9
        refine me_if_eq (p' := 73) k117_70 rfl (fun h => absurd h (by decide)) (fun _ => ?_)
        refine me_aload_n (p' := 74) k117_73 rfl rfl ?_
        refine me_gfr (p' := 77) k117_74 rfl (by decide) rfl (b := 11) rfl ?_
        refine me_gfr (p' := 80) k117_77 rfl (by decide) rfl (b := 12) rfl ?_
        refine me_iconst (p' := 81) k117_80 rfl (v := nI 0) (by decide) ?_
        refine me_aald (p' := 82) k117_81 rfl (by decide) rfl ⟨by decide, by decide⟩ (j := 0) rfl (by omega) (by decide) (b := 13) rfl ?_
        refine me_iload (p' := 84) k117_82 rfl rfl ?_
        refine me_iald (p' := 85) k117_84 rfl (by decide) rfl (j := p) rfl (by omega) (by decide) rfl ?_
        rw [sgR11p0 (I := I1) (c := p) (by omega), e1, sp_prS_ne p (Nat.le_refl _)]
        refine me_iload (p' := 87) k117_85 rfl rfl ?_
        refine me_ic_eq (p' := 90) k117_87 rfl (fun c3 => ?_) (fun c3 => ?_)
        · skip
          refine me_iinc (p' := 110) k117_107 rfl rfl rfl (v := nI (p + 1)) (mI_inc (by decide)) rfl ?_
          refine me_goto k117_110 ?_
          have ev : sp_prv W (mSg 11 128 I) a p = (sp_within (W 2 (24 * a + p)) (-9) (nI 9)) := by unfold sp_prv; rw [if_neg e9]
          have e9c : sp_prC W (mSg 11 128 I) a p = sp_prC W (mSg 11 128 I) a (p + 1) := by rw [sp_prC, ev, if_pos c3, mI_z]
          rw [e9c]
          refine ih (by omega) _ hfr ?_ _
          rw [e1, sp_prS, ev]
          exact (up_self ((sp_prS_ne p (Nat.le_refl _)).trans c3)).symm
        · skip
          refine me_aload_n (p' := 91) k117_90 rfl rfl ?_
          refine me_gfr (p' := 94) k117_91 rfl (by decide) rfl (b := 11) rfl ?_
          refine me_gfr (p' := 97) k117_94 rfl (by decide) rfl (b := 12) rfl ?_
          refine me_iconst (p' := 98) k117_97 rfl (v := nI 0) (by decide) ?_
          refine me_aald (p' := 99) k117_98 rfl (by decide) rfl ⟨by decide, by decide⟩ (j := 0) rfl (by omega) (by decide) (b := 13) rfl ?_
          refine me_iload (p' := 101) k117_99 rfl rfl ?_
          refine me_iload (p' := 103) k117_101 rfl rfl ?_
          refine me_iast (p' := 104) k117_103 rfl (by decide) rfl (j := p) rfl (by omega) (by decide) rfl ?_
          refine me_iinc (p' := 107) k117_104 rfl rfl rfl rfl rfl ?_
          refine me_iinc (p' := 110) k117_107 rfl rfl rfl (v := nI (p + 1)) (mI_inc (by decide)) rfl ?_
          refine me_goto k117_110 ?_
          have ev : sp_prv W (mSg 11 128 I) a p = (sp_within (W 2 (24 * a + p)) (-9) (nI 9)) := by unfold sp_prv; rw [if_neg e9]
          have e9c : ((sp_prC W (mSg 11 128 I) a p) + Int32.ofInt (1)) = sp_prC W (mSg 11 128 I) a (p + 1) := by rw [sp_prC, ev, if_neg c3]; rfl
          rw [e9c]
          refine ih (by omega) _ (hfr.tr (mFr.up (by decide))) ?_ _
          rw [sgU11p0 (by omega), e1, sp_prS, ev]
      · skip
        rw [hc1.vl (by omega) (by omega)] at e9
        refine me_if_eq (p' := 73) k117_70 rfl (fun _ => ?_) (fun h => absurd (by decide) h)
        refine me_iinc (p' := 110) k117_107 rfl rfl rfl (v := nI (p + 1)) (mI_inc (by decide)) rfl ?_
        refine me_goto k117_110 ?_
        have ev : sp_prv W (mSg 11 128 I) a p = (mSg 11 128 I) (5 + p) := by unfold sp_prv; rw [if_pos e9]
        have e9c : sp_prC W (mSg 11 128 I) a p = sp_prC W (mSg 11 128 I) a (p + 1) := by rw [sp_prC, ev, if_pos rfl, mI_z]
        rw [e9c]
        refine ih (by omega) _ hfr ?_ _
        rw [e1, sp_prS, ev]
        exact (up_self (sp_prS_ne p (Nat.le_refl _))).symm
theorem ct_Cpour {d L : Nat} {xs : Nat → Int32} {I : Nat → Nat → Int32} {Q : Option Value → mj_H → Prop} {W : Nat → Nat → Int32} (hc : cW I W) (hwk : mWk W) {a : Int32} (hQ : ∀ I2, mFr (mRg 11) I I2 → mSg 11 128 I2 = (sp_pour W (mSg 11 128 I) a).2 → Q (some (.int (sp_pour W (mSg 11 128 I) a).1)) (mg_h L xs I2)) : mj_Cl (d + 1) 117 [.ref 0, .int a] (mg_h L xs I) Q := by
  refine cl_start mx_117 (ls := [.ref 0, .int a, mj_no, mj_no, mj_no, mj_no]) rfl ?_
  refine me_iload_n (p' := 1) k117_0 rfl rfl ?_
  refine me_cs (p' := 4) k117_1 rfl rfl rfl rfl rfl (cl_le mx_84 rfl) (by decide) (cl_sum rfl) (ct_CisSheet (fun k419 hk420 he => ?_) (fun hz421 => ?_))
  · skip
    subst he
    refine me_if_ne (p' := 7) k117_4 rfl (fun h => absurd h (by decide)) (fun _ => ?_)
    refine me_aload_n (p' := 11) k117_10 rfl rfl ?_
    refine me_gfr (p' := 14) k117_11 rfl (by decide) rfl (b := 56) rfl ?_
    refine me_iload_n (p' := 15) k117_14 rfl rfl ?_
    refine me_aald (p' := 16) k117_15 rfl (by decide) rfl ⟨by decide, by decide⟩ (j := k419) rfl (by omega) (by decide) (b := 104 + 2 * k419) (rc_56 k419 (by omega)) ?_
    refine me_astore_n (p' := 17) k117_16 rfl ⟨Nat.le_of_ble_eq_true rfl, rfl⟩ rfl ?_
    rcases hwk.so (j := k419) (by omega) with hso | hso | hso
    · skip
      refine me_aload_n (p' := 18) k117_17 rfl rfl ?_
      refine me_cv (p' := 21) k117_18 rfl rfl (hs_S k419 (by omega)).1 (congrArg Prod.fst (hs_S k419 (by omega)).2.1) (by decide) (by decide) dp_85 rfl rfl (cl_le mx_85 rfl) (by decide) (cl_sum rfl) (ct_isMissing (hs_S k419 (by omega)) (fun _ => ?_) (fun z => absurd ((hc.so (by omega)).trans hso) z))
      refine me_if_eq (p' := 24) k117_21 rfl (fun h => absurd h (by decide)) (fun _ => ?_)
      refine me_ldc (p' := 26) k117_24 rfl (v := (-1000000011)) (by decide) ?_
      refine me_reti k117_26 rt_117 rfl ?_
      simp only [sp_pour, sp_rg_s hk420 (by omega), hso, (show (-1 : Int32) < 0 by decide), if_true, if_false, true_and, and_true, and_self] at hQ
      exact hQ _ mFr.rf rfl
    · skip
      refine me_aload_n (p' := 18) k117_17 rfl rfl ?_
      refine me_cv (p' := 21) k117_18 rfl rfl (hs_S k419 (by omega)).1 (congrArg Prod.fst (hs_S k419 (by omega)).2.1) (by decide) (by decide) dp_85 rfl rfl (cl_le mx_85 rfl) (by decide) (cl_sum rfl) (ct_isMissing (hs_S k419 (by omega)) (fun z => absurd (z.symm.trans ((hc.so (by omega)).trans hso)) (by decide)) (fun _ => ?_))
      refine me_if_eq (p' := 24) k117_21 rfl (fun _ => ?_) (fun h => absurd (by decide) h)
      refine me_iconst (p' := 28) k117_27 rfl (v := nI 0) (by decide) ?_
      refine me_istore_n (p' := 29) k117_28 rfl ⟨Nat.le_of_ble_eq_true rfl, rfl⟩ rfl ?_
      refine me_iconst (p' := 30) k117_29 rfl (v := nI 0) (by decide) ?_
      refine me_istore (p' := 32) k117_30 rfl ⟨Nat.le_of_ble_eq_true rfl, rfl⟩ rfl ?_
      simp only [sp_pour, sp_rg_s hk420 (by omega), hso, (show ¬ (nI 0 : Int32) < 0 by decide), if_true, if_false, true_and, and_true, and_self] at hQ
      exact lp_Cpour hc hwk (by omega) (fun I2 h1 h2 => hQ I2 (h1.sub (by decide)) h2) 0 (Nat.zero_le _) I mFr.rf rfl _
    · skip
      refine me_aload_n (p' := 18) k117_17 rfl rfl ?_
      refine me_cv (p' := 21) k117_18 rfl rfl (hs_S k419 (by omega)).1 (congrArg Prod.fst (hs_S k419 (by omega)).2.1) (by decide) (by decide) dp_85 rfl rfl (cl_le mx_85 rfl) (by decide) (cl_sum rfl) (ct_isMissing (hs_S k419 (by omega)) (fun z => absurd (z.symm.trans ((hc.so (by omega)).trans hso)) (by decide)) (fun _ => ?_))
      refine me_if_eq (p' := 24) k117_21 rfl (fun _ => ?_) (fun h => absurd (by decide) h)
      refine me_iconst (p' := 28) k117_27 rfl (v := nI 0) (by decide) ?_
      refine me_istore_n (p' := 29) k117_28 rfl ⟨Nat.le_of_ble_eq_true rfl, rfl⟩ rfl ?_
      refine me_iconst (p' := 30) k117_29 rfl (v := nI 0) (by decide) ?_
      refine me_istore (p' := 32) k117_30 rfl ⟨Nat.le_of_ble_eq_true rfl, rfl⟩ rfl ?_
      simp only [sp_pour, sp_rg_s hk420 (by omega), hso, (show ¬ (nI 1 : Int32) < 0 by decide), (show ¬ nI 1 = nI 0 by decide), if_true, if_false, true_and, and_true, and_self] at hQ
      exact lp_Cpour hc hwk (by omega) (fun I2 h1 h2 => hQ I2 (h1.sub (by decide)) h2) 0 (Nat.zero_le _) I mFr.rf rfl _
  · skip
    refine me_if_ne (p' := 7) k117_4 rfl (fun _ => ?_) (fun h => absurd (by decide) h)
    refine me_ldc (p' := 9) k117_7 rfl (v := (-1000000001)) (by decide) ?_
    refine me_reti k117_9 rt_117 rfl ?_
    simp only [sp_pour, sp_rg_n (by omega) hz421, if_true, if_false, true_and, and_true, and_self] at hQ
    exact hQ _ mFr.rf rfl
theorem ct_Ccopy {d L : Nat} {xs : Nat → Int32} {I : Nat → Nat → Int32} {Q : Option Value → mj_H → Prop} {W : Nat → Nat → Int32} (hc : cW I W) (hwk : mWk W) {f pl t at_ m : Int32} (hQ : ∀ I2, mFr mShL I I2 → cW I2 (sp_copy W f pl t at_ m).2 → Q (some (.int (sp_copy W f pl t at_ m).1)) (mg_h L xs I2)) : mj_Cl (d + 1) 119 [.ref 0, .int f, .int pl, .int t, .int at_, .int m] (mg_h L xs I) Q := by
  refine cl_start mx_119 (ls := [.ref 0, .int f, .int pl, .int t, .int at_, .int m, mj_no, mj_no]) rfl ?_
  refine me_iload_n (p' := 1) k119_0 rfl rfl ?_
  refine me_cs (p' := 4) k119_1 rfl rfl rfl rfl rfl (cl_le mx_84 rfl) (by decide) (cl_sum rfl) (ct_CisSheet (fun k422 hk423 he => ?_) (fun hz424 => ?_))
  · skip
    subst he
    refine me_if_eq (p' := 7) k119_4 rfl (fun h => absurd h (by decide)) (fun _ => ?_)
    refine me_iload_n (p' := 8) k119_7 rfl rfl ?_
    refine me_cs (p' := 11) k119_8 rfl rfl rfl rfl rfl (cl_le mx_84 rfl) (by decide) (cl_sum rfl) (ct_CisSheet (fun k425 hk426 he => ?_) (fun hz427 => ?_))
    · skip
      subst he
      refine me_if_ne (p' := 14) k119_11 rfl (fun h => absurd h (by decide)) (fun _ => ?_)
      refine me_aload_n (p' := 18) k119_17 rfl rfl ?_
      refine me_gfr (p' := 21) k119_18 rfl (by decide) rfl (b := 56) rfl ?_
      refine me_iload_n (p' := 22) k119_21 rfl rfl ?_
      refine me_aald (p' := 23) k119_22 rfl (by decide) rfl ⟨by decide, by decide⟩ (j := k422) rfl (by omega) (by decide) (b := 104 + 2 * k422) (rc_56 k422 (by omega)) ?_
      refine me_astore (p' := 25) k119_23 rfl ⟨Nat.le_of_ble_eq_true rfl, rfl⟩ rfl ?_
      refine me_aload_n (p' := 26) k119_25 rfl rfl ?_
      refine me_gfr (p' := 29) k119_26 rfl (by decide) rfl (b := 56) rfl ?_
      refine me_iload_n (p' := 30) k119_29 rfl rfl ?_
      refine me_aald (p' := 31) k119_30 rfl (by decide) rfl ⟨by decide, by decide⟩ (j := k425) rfl (by omega) (by decide) (b := 104 + 2 * k425) (rc_56 k425 (by omega)) ?_
      refine me_astore (p' := 33) k119_31 rfl ⟨Nat.le_of_ble_eq_true rfl, rfl⟩ rfl ?_
      rcases hwk.so (j := k422) (by omega) with hs1 | hs1 | hs1
      · skip
        refine me_aload (p' := 35) k119_33 rfl rfl ?_
        refine me_cv (p' := 38) k119_35 rfl rfl (hs_S k422 (by omega)).1 (congrArg Prod.fst (hs_S k422 (by omega)).2.1) (by decide) (by decide) dp_85 rfl rfl (cl_le mx_85 rfl) (by decide) (cl_sum rfl) (ct_isMissing (hs_S k422 (by omega)) (fun _ => ?_) (fun z => absurd ((hc.so (by omega)).trans hs1) z))
        refine me_if_ne (p' := 41) k119_38 rfl (fun h => absurd h (by decide)) (fun _ => ?_)
        refine me_ldc (p' := 51) k119_49 rfl (v := (-1000000011)) (by decide) ?_
        refine me_reti k119_51 rt_119 rfl ?_
        simp only [sp_copy, sp_rg_s hk423 (by omega), sp_rg_s hk426 (by omega), hs1, (show (-1 : Int32) < 0 by decide), if_true, if_false, true_and, and_true, and_self] at hQ
        exact hQ _ mFr.rf hc
      · skip
        refine me_aload (p' := 35) k119_33 rfl rfl ?_
        refine me_cv (p' := 38) k119_35 rfl rfl (hs_S k422 (by omega)).1 (congrArg Prod.fst (hs_S k422 (by omega)).2.1) (by decide) (by decide) dp_85 rfl rfl (cl_le mx_85 rfl) (by decide) (cl_sum rfl) (ct_isMissing (hs_S k422 (by omega)) (fun z => absurd (z.symm.trans ((hc.so (by omega)).trans hs1)) (by decide)) (fun _ => ?_))
        refine me_if_ne (p' := 41) k119_38 rfl (fun _ => ?_) (fun h => absurd (by decide) h)
        rcases hwk.so (j := k425) (by omega) with hs2 | hs2 | hs2
        · skip
          refine me_aload (p' := 43) k119_41 rfl rfl ?_
          refine me_cv (p' := 46) k119_43 rfl rfl (hs_S k425 (by omega)).1 (congrArg Prod.fst (hs_S k425 (by omega)).2.1) (by decide) (by decide) dp_85 rfl rfl (cl_le mx_85 rfl) (by decide) (cl_sum rfl) (ct_isMissing (hs_S k425 (by omega)) (fun _ => ?_) (fun z => absurd ((hc.so (by omega)).trans hs2) z))
          refine me_if_eq (p' := 49) k119_46 rfl (fun h => absurd h (by decide)) (fun _ => ?_)
          refine me_ldc (p' := 51) k119_49 rfl (v := (-1000000011)) (by decide) ?_
          refine me_reti k119_51 rt_119 rfl ?_
          simp only [sp_copy, sp_rg_s hk423 (by omega), sp_rg_s hk426 (by omega), hs1, (show ¬ (nI 0 : Int32) < 0 by decide), hs2, (show (-1 : Int32) < 0 by decide), if_true, if_false, true_and, and_true, and_self] at hQ
          exact hQ _ mFr.rf hc
        · skip
          refine me_aload (p' := 43) k119_41 rfl rfl ?_
          refine me_cv (p' := 46) k119_43 rfl rfl (hs_S k425 (by omega)).1 (congrArg Prod.fst (hs_S k425 (by omega)).2.1) (by decide) (by decide) dp_85 rfl rfl (cl_le mx_85 rfl) (by decide) (cl_sum rfl) (ct_isMissing (hs_S k425 (by omega)) (fun z => absurd (z.symm.trans ((hc.so (by omega)).trans hs2)) (by decide)) (fun _ => ?_))
          refine me_if_eq (p' := 49) k119_46 rfl (fun _ => ?_) (fun h => absurd (by decide) h)
          refine me_aload (p' := 54) k119_52 rfl rfl ?_
          refine me_gfi (p' := 57) k119_54 rfl (hs_S k422 (by omega)).1 (congrArg Prod.fst (hs_S k422 (by omega)).2.1) (hs_S k422 (by omega)).2.2.2.1 ?_
          rw [hc.so (j := k422) (by omega), hs1]
          refine me_aload (p' := 59) k119_57 rfl rfl ?_
          refine me_gfi (p' := 62) k119_59 rfl (hs_S k425 (by omega)).1 (congrArg Prod.fst (hs_S k425 (by omega)).2.1) (hs_S k425 (by omega)).2.2.2.1 ?_
          rw [hc.so (j := k425) (by omega), hs2]
          refine me_ic_eq (p' := 65) k119_62 rfl (fun _ => ?_) (fun h => absurd (by decide) h)
          refine me_aload (p' := 70) k119_68 rfl rfl ?_
          refine me_iload_n (p' := 71) k119_70 rfl rfl ?_
          refine me_iload (p' := 73) k119_71 rfl rfl ?_
          refine me_cv (p' := 76) k119_73 rfl rfl (hs_S k422 (by omega)).1 (congrArg Prod.fst (hs_S k422 (by omega)).2.1) (by decide) (by decide) dp_116 rfl rfl (cl_le mx_116 rfl) (by decide) (cl_sum rfl) (ct_has (N := sN W k422) (hs_S k422 (by omega)) ⟨hc.sz hwk (by omega), hwk.le (by omega)⟩ (fun e428 => ?_) (fun e428 => ?_))
          · skip
            refine me_if_eq (p' := 79) k119_76 rfl (fun h => absurd h (by decide)) (fun _ => ?_)
            refine me_aload (p' := 81) k119_79 rfl rfl ?_
            refine me_iload (p' := 83) k119_81 rfl rfl ?_
            refine me_iload (p' := 85) k119_83 rfl rfl ?_
            refine me_cv (p' := 88) k119_85 rfl rfl (hs_S k425 (by omega)).1 (congrArg Prod.fst (hs_S k425 (by omega)).2.1) (by decide) (by decide) dp_116 rfl rfl (cl_le mx_116 rfl) (by decide) (cl_sum rfl) (ct_has (N := sN W k425) (hs_S k425 (by omega)) ⟨hc.sz hwk (by omega), hwk.le (by omega)⟩ (fun e429 => ?_) (fun e429 => ?_))
            · skip
              refine me_if_ne (p' := 91) k119_88 rfl (fun h => absurd h (by decide)) (fun _ => ?_)
              have hfit : (0 ≤ pl ∧ 0 ≤ m ∧ pl.toNatClampNeg + m.toNatClampNeg ≤ sN W k422) ∧ (0 ≤ at_ ∧ at_.toNatClampNeg + m.toNatClampNeg ≤ sN W k425) := ⟨e428, e429.1, e429.2.2⟩
              simp only [sp_copy, sp_rg_s hk423 (by omega), sp_rg_s hk426 (by omega), hs1, (show ¬ (nI 0 : Int32) < 0 by decide), hs2, (show ¬ (nI 0 : Int32) < 0 by decide), if_pos hfit, if_true, if_false, true_and, and_true, and_self] at hQ
              have hszF := hwk.le (j := k422) (by omega)
              have hszT := hwk.le (j := k425) (by omega)
              obtain ⟨⟨q1, q2, q3⟩, q4, q5⟩ := hfit
              obtain ⟨pl, rfl, hpl⟩ := mI_of q1
              obtain ⟨at_, rfl, hat⟩ := mI_of q4
              obtain ⟨m, rfl, hm⟩ := mI_of q2
              rw [nI_clamp hpl, nI_clamp hm] at q3
              rw [nI_clamp hat, nI_clamp hm] at q5
              rw [nI_clamp hpl, nI_clamp hat, nI_clamp hm] at hQ
              refine me_aload (p' := 96) k119_94 rfl rfl ?_
              refine me_gfr (p' := 99) k119_96 rfl (hs_S k422 (by omega)).1 (congrArg Prod.fst (hs_S k422 (by omega)).2.1) (b := 105 + 2 * k422) (hs_S k422 (by omega)).2.2.1 ?_
              refine me_iload_n (p' := 100) k119_99 rfl rfl ?_
              refine me_aload (p' := 102) k119_100 rfl rfl ?_
              refine me_gfr (p' := 105) k119_102 rfl (hs_S k425 (by omega)).1 (congrArg Prod.fst (hs_S k425 (by omega)).2.1) (b := 105 + 2 * k425) (hs_S k425 (by omega)).2.2.1 ?_
              refine me_iload (p' := 107) k119_105 rfl rfl ?_
              refine me_iload (p' := 109) k119_107 rfl rfl ?_
              refine me_acp (p' := 112) k119_109 rfl (hs_S k422 (by omega)).2.2.2.2.2.1 (hs_S k425 (by omega)).2.2.2.2.2.1 (hs_S k422 (by omega)).2.2.2.2.2.2.1 (hs_S k425 (by omega)).2.2.2.2.2.2.1 (n := m) (dp := at_) (sp := pl) rfl rfl rfl (by omega) (by omega) ⟨by decide, by decide⟩ (rc_nil _ (Nat.lt_of_lt_of_le (hs_S k422 (by omega)).2.2.2.2.2.1 (by decide)) (hs_S k422 (by omega)).2.2.2.2.2.2.2) (rc_nil _ (Nat.lt_of_lt_of_le (hs_S k425 (by omega)).2.2.2.2.2.1 (by decide)) (hs_S k425 (by omega)).2.2.2.2.2.2.2) (cl_sum rfl) ?_
              refine me_iload (p' := 114) k119_112 rfl rfl ?_
              refine me_reti k119_114 rt_119 rfl ?_
              exact hQ _ (mFr.cp (ml_S k425 (by omega)).2) (hc.cpy hwk (by omega) (by omega) q3 q5)
            · skip
              refine me_if_ne (p' := 91) k119_88 rfl (fun _ => ?_) (fun h => absurd (by decide) h)
              refine me_ldc (p' := 93) k119_91 rfl (v := (-1000000013)) (by decide) ?_
              refine me_reti k119_93 rt_119 rfl ?_
              have hfit : ¬ ((0 ≤ pl ∧ 0 ≤ m ∧ pl.toNatClampNeg + m.toNatClampNeg ≤ sN W k422) ∧ (0 ≤ at_ ∧ at_.toNatClampNeg + m.toNatClampNeg ≤ sN W k425)) := (fun z => e429 ⟨z.2.1, z.1.2.1, z.2.2⟩)
              simp only [sp_copy, sp_rg_s hk423 (by omega), sp_rg_s hk426 (by omega), hs1, (show ¬ (nI 0 : Int32) < 0 by decide), hs2, (show ¬ (nI 0 : Int32) < 0 by decide), if_neg hfit, if_true, if_false, true_and, and_true, and_self] at hQ
              exact hQ _ mFr.rf hc
          · skip
            refine me_if_eq (p' := 79) k119_76 rfl (fun _ => ?_) (fun h => absurd (by decide) h)
            refine me_ldc (p' := 93) k119_91 rfl (v := (-1000000013)) (by decide) ?_
            refine me_reti k119_93 rt_119 rfl ?_
            have hfit : ¬ ((0 ≤ pl ∧ 0 ≤ m ∧ pl.toNatClampNeg + m.toNatClampNeg ≤ sN W k422) ∧ (0 ≤ at_ ∧ at_.toNatClampNeg + m.toNatClampNeg ≤ sN W k425)) := (fun z => e428 z.1)
            simp only [sp_copy, sp_rg_s hk423 (by omega), sp_rg_s hk426 (by omega), hs1, (show ¬ (nI 0 : Int32) < 0 by decide), hs2, (show ¬ (nI 0 : Int32) < 0 by decide), if_neg hfit, if_true, if_false, true_and, and_true, and_self] at hQ
            exact hQ _ mFr.rf hc
        · skip
          refine me_aload (p' := 43) k119_41 rfl rfl ?_
          refine me_cv (p' := 46) k119_43 rfl rfl (hs_S k425 (by omega)).1 (congrArg Prod.fst (hs_S k425 (by omega)).2.1) (by decide) (by decide) dp_85 rfl rfl (cl_le mx_85 rfl) (by decide) (cl_sum rfl) (ct_isMissing (hs_S k425 (by omega)) (fun z => absurd (z.symm.trans ((hc.so (by omega)).trans hs2)) (by decide)) (fun _ => ?_))
          refine me_if_eq (p' := 49) k119_46 rfl (fun _ => ?_) (fun h => absurd (by decide) h)
          refine me_aload (p' := 54) k119_52 rfl rfl ?_
          refine me_gfi (p' := 57) k119_54 rfl (hs_S k422 (by omega)).1 (congrArg Prod.fst (hs_S k422 (by omega)).2.1) (hs_S k422 (by omega)).2.2.2.1 ?_
          rw [hc.so (j := k422) (by omega), hs1]
          refine me_aload (p' := 59) k119_57 rfl rfl ?_
          refine me_gfi (p' := 62) k119_59 rfl (hs_S k425 (by omega)).1 (congrArg Prod.fst (hs_S k425 (by omega)).2.1) (hs_S k425 (by omega)).2.2.2.1 ?_
          rw [hc.so (j := k425) (by omega), hs2]
          refine me_ic_eq (p' := 65) k119_62 rfl (fun h => absurd h (by decide)) (fun _ => ?_)
          refine me_ldc (p' := 67) k119_65 rfl (v := (-1000000012)) (by decide) ?_
          refine me_reti k119_67 rt_119 rfl ?_
          simp only [sp_copy, sp_rg_s hk423 (by omega), sp_rg_s hk426 (by omega), hs1, (show ¬ (nI 0 : Int32) < 0 by decide), hs2, (show ¬ (nI 1 : Int32) < 0 by decide), (show ¬ nI 1 = nI 0 by decide), (show ¬ nI 0 = nI 1 by decide), if_true, if_false, true_and, and_true, and_self] at hQ
          exact hQ _ mFr.rf hc
      · skip
        refine me_aload (p' := 35) k119_33 rfl rfl ?_
        refine me_cv (p' := 38) k119_35 rfl rfl (hs_S k422 (by omega)).1 (congrArg Prod.fst (hs_S k422 (by omega)).2.1) (by decide) (by decide) dp_85 rfl rfl (cl_le mx_85 rfl) (by decide) (cl_sum rfl) (ct_isMissing (hs_S k422 (by omega)) (fun z => absurd (z.symm.trans ((hc.so (by omega)).trans hs1)) (by decide)) (fun _ => ?_))
        refine me_if_ne (p' := 41) k119_38 rfl (fun _ => ?_) (fun h => absurd (by decide) h)
        rcases hwk.so (j := k425) (by omega) with hs2 | hs2 | hs2
        · skip
          refine me_aload (p' := 43) k119_41 rfl rfl ?_
          refine me_cv (p' := 46) k119_43 rfl rfl (hs_S k425 (by omega)).1 (congrArg Prod.fst (hs_S k425 (by omega)).2.1) (by decide) (by decide) dp_85 rfl rfl (cl_le mx_85 rfl) (by decide) (cl_sum rfl) (ct_isMissing (hs_S k425 (by omega)) (fun _ => ?_) (fun z => absurd ((hc.so (by omega)).trans hs2) z))
          refine me_if_eq (p' := 49) k119_46 rfl (fun h => absurd h (by decide)) (fun _ => ?_)
          refine me_ldc (p' := 51) k119_49 rfl (v := (-1000000011)) (by decide) ?_
          refine me_reti k119_51 rt_119 rfl ?_
          simp only [sp_copy, sp_rg_s hk423 (by omega), sp_rg_s hk426 (by omega), hs1, (show ¬ (nI 1 : Int32) < 0 by decide), (show ¬ nI 1 = nI 0 by decide), hs2, (show (-1 : Int32) < 0 by decide), if_true, if_false, true_and, and_true, and_self] at hQ
          exact hQ _ mFr.rf hc
        · skip
          refine me_aload (p' := 43) k119_41 rfl rfl ?_
          refine me_cv (p' := 46) k119_43 rfl rfl (hs_S k425 (by omega)).1 (congrArg Prod.fst (hs_S k425 (by omega)).2.1) (by decide) (by decide) dp_85 rfl rfl (cl_le mx_85 rfl) (by decide) (cl_sum rfl) (ct_isMissing (hs_S k425 (by omega)) (fun z => absurd (z.symm.trans ((hc.so (by omega)).trans hs2)) (by decide)) (fun _ => ?_))
          refine me_if_eq (p' := 49) k119_46 rfl (fun _ => ?_) (fun h => absurd (by decide) h)
          refine me_aload (p' := 54) k119_52 rfl rfl ?_
          refine me_gfi (p' := 57) k119_54 rfl (hs_S k422 (by omega)).1 (congrArg Prod.fst (hs_S k422 (by omega)).2.1) (hs_S k422 (by omega)).2.2.2.1 ?_
          rw [hc.so (j := k422) (by omega), hs1]
          refine me_aload (p' := 59) k119_57 rfl rfl ?_
          refine me_gfi (p' := 62) k119_59 rfl (hs_S k425 (by omega)).1 (congrArg Prod.fst (hs_S k425 (by omega)).2.1) (hs_S k425 (by omega)).2.2.2.1 ?_
          rw [hc.so (j := k425) (by omega), hs2]
          refine me_ic_eq (p' := 65) k119_62 rfl (fun h => absurd h (by decide)) (fun _ => ?_)
          refine me_ldc (p' := 67) k119_65 rfl (v := (-1000000012)) (by decide) ?_
          refine me_reti k119_67 rt_119 rfl ?_
          simp only [sp_copy, sp_rg_s hk423 (by omega), sp_rg_s hk426 (by omega), hs1, (show ¬ (nI 1 : Int32) < 0 by decide), (show ¬ nI 1 = nI 0 by decide), hs2, (show ¬ (nI 0 : Int32) < 0 by decide), (show ¬ nI 1 = nI 0 by decide), if_true, if_false, true_and, and_true, and_self] at hQ
          exact hQ _ mFr.rf hc
        · skip
          refine me_aload (p' := 43) k119_41 rfl rfl ?_
          refine me_cv (p' := 46) k119_43 rfl rfl (hs_S k425 (by omega)).1 (congrArg Prod.fst (hs_S k425 (by omega)).2.1) (by decide) (by decide) dp_85 rfl rfl (cl_le mx_85 rfl) (by decide) (cl_sum rfl) (ct_isMissing (hs_S k425 (by omega)) (fun z => absurd (z.symm.trans ((hc.so (by omega)).trans hs2)) (by decide)) (fun _ => ?_))
          refine me_if_eq (p' := 49) k119_46 rfl (fun _ => ?_) (fun h => absurd (by decide) h)
          refine me_aload (p' := 54) k119_52 rfl rfl ?_
          refine me_gfi (p' := 57) k119_54 rfl (hs_S k422 (by omega)).1 (congrArg Prod.fst (hs_S k422 (by omega)).2.1) (hs_S k422 (by omega)).2.2.2.1 ?_
          rw [hc.so (j := k422) (by omega), hs1]
          refine me_aload (p' := 59) k119_57 rfl rfl ?_
          refine me_gfi (p' := 62) k119_59 rfl (hs_S k425 (by omega)).1 (congrArg Prod.fst (hs_S k425 (by omega)).2.1) (hs_S k425 (by omega)).2.2.2.1 ?_
          rw [hc.so (j := k425) (by omega), hs2]
          refine me_ic_eq (p' := 65) k119_62 rfl (fun _ => ?_) (fun h => absurd (by decide) h)
          refine me_aload (p' := 70) k119_68 rfl rfl ?_
          refine me_iload_n (p' := 71) k119_70 rfl rfl ?_
          refine me_iload (p' := 73) k119_71 rfl rfl ?_
          refine me_cv (p' := 76) k119_73 rfl rfl (hs_S k422 (by omega)).1 (congrArg Prod.fst (hs_S k422 (by omega)).2.1) (by decide) (by decide) dp_116 rfl rfl (cl_le mx_116 rfl) (by decide) (cl_sum rfl) (ct_has (N := sN W k422) (hs_S k422 (by omega)) ⟨hc.sz hwk (by omega), hwk.le (by omega)⟩ (fun e430 => ?_) (fun e430 => ?_))
          · skip
            refine me_if_eq (p' := 79) k119_76 rfl (fun h => absurd h (by decide)) (fun _ => ?_)
            refine me_aload (p' := 81) k119_79 rfl rfl ?_
            refine me_iload (p' := 83) k119_81 rfl rfl ?_
            refine me_iload (p' := 85) k119_83 rfl rfl ?_
            refine me_cv (p' := 88) k119_85 rfl rfl (hs_S k425 (by omega)).1 (congrArg Prod.fst (hs_S k425 (by omega)).2.1) (by decide) (by decide) dp_116 rfl rfl (cl_le mx_116 rfl) (by decide) (cl_sum rfl) (ct_has (N := sN W k425) (hs_S k425 (by omega)) ⟨hc.sz hwk (by omega), hwk.le (by omega)⟩ (fun e431 => ?_) (fun e431 => ?_))
            · skip
              refine me_if_ne (p' := 91) k119_88 rfl (fun h => absurd h (by decide)) (fun _ => ?_)
              have hfit : (0 ≤ pl ∧ 0 ≤ m ∧ pl.toNatClampNeg + m.toNatClampNeg ≤ sN W k422) ∧ (0 ≤ at_ ∧ at_.toNatClampNeg + m.toNatClampNeg ≤ sN W k425) := ⟨e430, e431.1, e431.2.2⟩
              simp only [sp_copy, sp_rg_s hk423 (by omega), sp_rg_s hk426 (by omega), hs1, (show ¬ (nI 1 : Int32) < 0 by decide), (show ¬ nI 1 = nI 0 by decide), hs2, (show ¬ (nI 1 : Int32) < 0 by decide), (show ¬ nI 1 = nI 0 by decide), if_pos hfit, if_true, if_false, true_and, and_true, and_self] at hQ
              have hszF := hwk.le (j := k422) (by omega)
              have hszT := hwk.le (j := k425) (by omega)
              obtain ⟨⟨q1, q2, q3⟩, q4, q5⟩ := hfit
              obtain ⟨pl, rfl, hpl⟩ := mI_of q1
              obtain ⟨at_, rfl, hat⟩ := mI_of q4
              obtain ⟨m, rfl, hm⟩ := mI_of q2
              rw [nI_clamp hpl, nI_clamp hm] at q3
              rw [nI_clamp hat, nI_clamp hm] at q5
              rw [nI_clamp hpl, nI_clamp hat, nI_clamp hm] at hQ
              refine me_aload (p' := 96) k119_94 rfl rfl ?_
              refine me_gfr (p' := 99) k119_96 rfl (hs_S k422 (by omega)).1 (congrArg Prod.fst (hs_S k422 (by omega)).2.1) (b := 105 + 2 * k422) (hs_S k422 (by omega)).2.2.1 ?_
              refine me_iload_n (p' := 100) k119_99 rfl rfl ?_
              refine me_aload (p' := 102) k119_100 rfl rfl ?_
              refine me_gfr (p' := 105) k119_102 rfl (hs_S k425 (by omega)).1 (congrArg Prod.fst (hs_S k425 (by omega)).2.1) (b := 105 + 2 * k425) (hs_S k425 (by omega)).2.2.1 ?_
              refine me_iload (p' := 107) k119_105 rfl rfl ?_
              refine me_iload (p' := 109) k119_107 rfl rfl ?_
              refine me_acp (p' := 112) k119_109 rfl (hs_S k422 (by omega)).2.2.2.2.2.1 (hs_S k425 (by omega)).2.2.2.2.2.1 (hs_S k422 (by omega)).2.2.2.2.2.2.1 (hs_S k425 (by omega)).2.2.2.2.2.2.1 (n := m) (dp := at_) (sp := pl) rfl rfl rfl (by omega) (by omega) ⟨by decide, by decide⟩ (rc_nil _ (Nat.lt_of_lt_of_le (hs_S k422 (by omega)).2.2.2.2.2.1 (by decide)) (hs_S k422 (by omega)).2.2.2.2.2.2.2) (rc_nil _ (Nat.lt_of_lt_of_le (hs_S k425 (by omega)).2.2.2.2.2.1 (by decide)) (hs_S k425 (by omega)).2.2.2.2.2.2.2) (cl_sum rfl) ?_
              refine me_iload (p' := 114) k119_112 rfl rfl ?_
              refine me_reti k119_114 rt_119 rfl ?_
              exact hQ _ (mFr.cp (ml_S k425 (by omega)).2) (hc.cpy hwk (by omega) (by omega) q3 q5)
            · skip
              refine me_if_ne (p' := 91) k119_88 rfl (fun _ => ?_) (fun h => absurd (by decide) h)
              refine me_ldc (p' := 93) k119_91 rfl (v := (-1000000013)) (by decide) ?_
              refine me_reti k119_93 rt_119 rfl ?_
              have hfit : ¬ ((0 ≤ pl ∧ 0 ≤ m ∧ pl.toNatClampNeg + m.toNatClampNeg ≤ sN W k422) ∧ (0 ≤ at_ ∧ at_.toNatClampNeg + m.toNatClampNeg ≤ sN W k425)) := (fun z => e431 ⟨z.2.1, z.1.2.1, z.2.2⟩)
              simp only [sp_copy, sp_rg_s hk423 (by omega), sp_rg_s hk426 (by omega), hs1, (show ¬ (nI 1 : Int32) < 0 by decide), (show ¬ nI 1 = nI 0 by decide), hs2, (show ¬ (nI 1 : Int32) < 0 by decide), (show ¬ nI 1 = nI 0 by decide), if_neg hfit, if_true, if_false, true_and, and_true, and_self] at hQ
              exact hQ _ mFr.rf hc
          · skip
            refine me_if_eq (p' := 79) k119_76 rfl (fun _ => ?_) (fun h => absurd (by decide) h)
            refine me_ldc (p' := 93) k119_91 rfl (v := (-1000000013)) (by decide) ?_
            refine me_reti k119_93 rt_119 rfl ?_
            have hfit : ¬ ((0 ≤ pl ∧ 0 ≤ m ∧ pl.toNatClampNeg + m.toNatClampNeg ≤ sN W k422) ∧ (0 ≤ at_ ∧ at_.toNatClampNeg + m.toNatClampNeg ≤ sN W k425)) := (fun z => e430 z.1)
            simp only [sp_copy, sp_rg_s hk423 (by omega), sp_rg_s hk426 (by omega), hs1, (show ¬ (nI 1 : Int32) < 0 by decide), (show ¬ nI 1 = nI 0 by decide), hs2, (show ¬ (nI 1 : Int32) < 0 by decide), (show ¬ nI 1 = nI 0 by decide), if_neg hfit, if_true, if_false, true_and, and_true, and_self] at hQ
            exact hQ _ mFr.rf hc
    · skip
      refine me_if_ne (p' := 14) k119_11 rfl (fun _ => ?_) (fun h => absurd (by decide) h)
      refine me_ldc (p' := 16) k119_14 rfl (v := (-1000000001)) (by decide) ?_
      refine me_reti k119_16 rt_119 rfl ?_
      simp only [sp_copy, sp_rg_s hk423 (by omega), sp_rg_n (by omega) hz427, if_true, if_false, true_and, and_true, and_self] at hQ
      exact hQ _ mFr.rf hc
  · skip
    refine me_if_eq (p' := 7) k119_4 rfl (fun _ => ?_) (fun h => absurd (by decide) h)
    refine me_ldc (p' := 16) k119_14 rfl (v := (-1000000001)) (by decide) ?_
    refine me_reti k119_16 rt_119 rfl ?_
    simp only [sp_copy, sp_rg_n (by omega) hz424, if_true, if_false, true_and, and_true, and_self] at hQ
    exact hQ _ mFr.rf hc
