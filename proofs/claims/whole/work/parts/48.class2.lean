/-! ===== the class: what is called (2) ===== -/
theorem tbP11 : ∀ w : Nat, w < 4 → mg_tbl.getD (13 + w) (99, 0) = (20, 12) ∧ mg_rc 12 w = (13 + w) + 2 ∧ mg_rt.getD (13 + w) [] = [] := by decide
theorem up_cm {s : Nat → Int32} {a b : Nat} {x y : Int32} (h : a ≠ b) : up (up s a x) b y = up (up s b y) a x := by
  funext k
  unfold up
  by_cases e1 : k = b
  · subst e1
    rw [if_pos rfl, if_neg (fun z => h z.symm), if_pos rfl]
  · by_cases e2 : k = a
    · subst e2
      rw [if_neg e1, if_pos rfl, if_pos rfl]
    · rw [if_neg e1, if_neg e2, if_neg e2, if_neg e1]
theorem ct_Cpart {d L : Nat} {xs : Nat → Int32} {I : Nat → Nat → Int32} {Q : Option Value → mj_H → Prop} {pt wh : Int32} (hQ : Q (some (.int (sp_part (mSg 11 128 I) pt wh))) (mg_h L xs I)) : mj_Cl (d + 1) 55 [.ref 0, .int pt, .int wh] (mg_h L xs I) Q := by
  refine cl_start mx_55 (ls := [.ref 0, .int pt, .int wh]) rfl ?_
  refine me_iload_n (p' := 1) k55_0 rfl rfl ?_
  refine me_cs (p' := 4) k55_1 rfl rfl rfl rfl rfl (cl_le mx_45 rfl) (by decide) (cl_sum rfl) (ct_CisPart (fun k184 hk185 he => ?_) (fun hz186 => ?_))
  · skip
    subst he
    refine me_if_eq (p' := 7) k55_4 rfl (fun h => absurd h (by decide)) (fun _ => ?_)
    refine me_iload_n (p' := 8) k55_7 rfl rfl ?_
    refine me_iconst (p' := 9) k55_8 rfl (v := nI 0) (by decide) ?_
    refine me_iconst (p' := 10) k55_9 rfl (v := nI 3) (by decide) ?_
    refine me_cs (p' := 13) k55_10 rfl rfl rfl rfl rfl (cl_le mx_16 rfl) (by decide) (cl_sum rfl) (ct_isWithin (fun e187 => ?_) (fun e187 => ?_))
    · skip
      obtain ⟨k188, hk189, rfl⟩ := mI_in1 (n := 3) (by omega) e187
      have hk189 : k188 < 4 := by omega
      refine me_if_eq (p' := 16) k55_13 rfl (fun h => absurd h (by decide)) (fun _ => ?_)
      refine me_aload_n (p' := 17) k55_16 rfl rfl ?_
      refine me_gfr (p' := 20) k55_17 rfl (by decide) rfl (b := 11) rfl ?_
      refine me_gfr (p' := 23) k55_20 rfl (by decide) rfl (b := 12) rfl ?_
      refine me_iload_n (p' := 24) k55_23 rfl rfl ?_
      refine me_aald (p' := 25) k55_24 rfl (by decide) rfl ⟨by decide, by decide⟩ (j := k188) rfl (by omega) (by decide) (b := 13 + k188) (tbP11 k188 (by omega)).2.1 ?_
      refine me_iload_n (p' := 26) k55_25 rfl rfl ?_
      refine me_iald (p' := 27) k55_26 rfl (by omega) (tbP11 k188 (by omega)).1 (j := k184) rfl (by omega) (by decide) (rc_nil _ (by omega) (tbP11 k188 (by omega)).2.2 _) ?_
      rw [show I (13 + k188) k184 = (mSg 11 128 I) (5 + 12 * k188 + k184) from (sg_part (r := 11) (by omega) (by omega)).symm]
      refine me_goto k55_27 ?_
      refine me_reti k55_32 rt_55 rfl ?_
      simp only [sp_part, sp_rg_s hk185 (by omega), sp_rg_s (m := 4) hk189 (by omega), if_true, if_false] at hQ
      exact hQ
    · skip
      have hz190 : ∀ k : Nat, k < 4 → wh ≠ nI k := fun k hk => mI_in0 (n := 3) (by omega) e187 (by omega)
      refine me_if_eq (p' := 16) k55_13 rfl (fun _ => ?_) (fun h => absurd (by decide) h)
      refine me_ldc (p' := 32) k55_30 rfl (v := (-1000000001)) (by decide) ?_
      refine me_reti k55_32 rt_55 rfl ?_
      simp only [sp_part, sp_rg_s hk185 (by omega), sp_rg_n (m := 4) (by omega) hz190, if_true, if_false] at hQ
      exact hQ
  · skip
    refine me_if_eq (p' := 7) k55_4 rfl (fun _ => ?_) (fun h => absurd (by decide) h)
    refine me_ldc (p' := 32) k55_30 rfl (v := (-1000000001)) (by decide) ?_
    refine me_reti k55_32 rt_55 rfl ?_
    simp only [sp_part, sp_rg_n (by omega) hz186, if_true, if_false] at hQ
    exact hQ
theorem ct_Clays {d L : Nat} {xs : Nat → Int32} {I : Nat → Nat → Int32} {Q : Option Value → mj_H → Prop} {pt wh v : Int32} (hQ : ∀ I2, mFr (mRg 11) I I2 → mSg 11 128 I2 = (sp_lays (mSg 11 128 I) pt wh v).2 → Q (some (.int (sp_lays (mSg 11 128 I) pt wh v).1)) (mg_h L xs I2)) : mj_Cl (d + 1) 56 [.ref 0, .int pt, .int wh, .int v] (mg_h L xs I) Q := by
  refine cl_start mx_56 (ls := [.ref 0, .int pt, .int wh, .int v, mj_no, mj_no]) rfl ?_
  rcases mI_ex3 wh with rfl | rfl | rfl | hz191
  · skip
    refine me_iload_n (p' := 1) k56_0 rfl rfl ?_
    refine me_if_ne (p' := 4) k56_1 rfl (fun _ => ?_) (fun h => absurd (by decide) h)
    refine me_iload_n (p' := 5) k56_4 rfl rfl ?_
    refine me_bipush (p' := 7) k56_5 rfl (v := (-9)) (by decide) ?_
    refine me_bipush (p' := 9) k56_7 rfl (v := nI 9) (by decide) ?_
    refine me_cs (p' := 12) k56_9 rfl rfl rfl rfl rfl (cl_le mx_16 rfl) (by decide) (cl_sum rfl) (ct_isWithin (fun e192 => ?_) (fun e192 => ?_))
    · skip
      refine me_if_ne (p' := 15) k56_12 rfl (fun h => absurd h (by decide)) (fun _ => ?_)
      refine me_iconst (p' := 46) k56_45 rfl (v := nI 1) (by decide) ?_
      refine me_goto k56_46 ?_
      refine me_istore (p' := 52) k56_50 rfl ⟨Nat.le_of_ble_eq_true rfl, rfl⟩ rfl ?_
      refine me_iload_n (p' := 53) k56_52 rfl rfl ?_
      refine me_cs (p' := 56) k56_53 rfl rfl rfl rfl rfl (cl_le mx_45 rfl) (by decide) (cl_sum rfl) (ct_CisPart (fun k193 hk194 he => ?_) (fun hz195 => ?_))
      · skip
        subst he
        refine me_if_eq (p' := 59) k56_56 rfl (fun h => absurd h (by decide)) (fun _ => ?_)
        refine me_iload (p' := 61) k56_59 rfl rfl ?_
        refine me_if_ne (p' := 64) k56_61 rfl (fun h => absurd h (by decide)) (fun _ => ?_)
        refine me_aload_n (p' := 68) k56_67 rfl rfl ?_
        refine me_gfr (p' := 71) k56_68 rfl (by decide) rfl (b := 11) rfl ?_
        refine me_gfr (p' := 74) k56_71 rfl (by decide) rfl (b := 12) rfl ?_
        refine me_iload_n (p' := 75) k56_74 rfl rfl ?_
        refine me_aald (p' := 76) k56_75 rfl (by decide) rfl ⟨by decide, by decide⟩ (j := 0) rfl (by omega) (by decide) (b := 13) rfl ?_
        refine me_iload_n (p' := 77) k56_76 rfl rfl ?_
        refine me_iald (p' := 78) k56_77 rfl (by decide) rfl (j := k193) rfl (by omega) (by decide) rfl ?_
        rw [sgR11p0 (I := I) (c := k193) (by omega)]
        refine me_istore (p' := 80) k56_78 rfl ⟨Nat.le_of_ble_eq_true rfl, rfl⟩ rfl ?_
        refine me_aload_n (p' := 81) k56_80 rfl rfl ?_
        refine me_gfr (p' := 84) k56_81 rfl (by decide) rfl (b := 11) rfl ?_
        refine me_gfr (p' := 87) k56_84 rfl (by decide) rfl (b := 12) rfl ?_
        refine me_iload_n (p' := 88) k56_87 rfl rfl ?_
        refine me_aald (p' := 89) k56_88 rfl (by decide) rfl ⟨by decide, by decide⟩ (j := 0) rfl (by omega) (by decide) (b := 13) rfl ?_
        refine me_iload_n (p' := 90) k56_89 rfl rfl ?_
        refine me_iload_n (p' := 91) k56_90 rfl rfl ?_
        refine me_iast (p' := 92) k56_91 rfl (by decide) rfl (j := k193) rfl (by omega) (by decide) rfl ?_
        refine me_iload_n (p' := 93) k56_92 rfl rfl ?_
        refine me_iconst (p' := 94) k56_93 rfl (v := nI 2) (by decide) ?_
        refine me_ic_ne (p' := 97) k56_94 rfl (fun h => absurd h (by decide)) (fun _ => ?_)
        refine me_iload (p' := 111) k56_109 rfl rfl ?_
        refine me_reti k56_111 rt_56 rfl ?_
        simp only [sp_lays, sp_rg_s (show 0 < 3 by decide) (by decide), if_pos e192, sp_rg_s hk194 (by omega), if_true, if_false] at hQ
        refine hQ _ (mFr.up (by decide)) ?_
        rw [sgU11p0 (by omega)]
      · skip
        refine me_if_eq (p' := 59) k56_56 rfl (fun _ => ?_) (fun h => absurd (by decide) h)
        refine me_ldc (p' := 66) k56_64 rfl (v := (-1000000001)) (by decide) ?_
        refine me_reti k56_66 rt_56 rfl ?_
        simp only [sp_lays, sp_rg_s (show 0 < 3 by decide) (by decide), if_pos e192, sp_rg_n (by omega) hz195, if_true, if_false] at hQ
        exact hQ _ mFr.rf rfl
    · skip
      refine me_if_ne (p' := 15) k56_12 rfl (fun _ => ?_) (fun h => absurd (by decide) h)
      refine me_iload_n (p' := 16) k56_15 rfl rfl ?_
      refine me_iconst (p' := 17) k56_16 rfl (v := nI 1) (by decide) ?_
      refine me_ic_ne (p' := 20) k56_17 rfl (fun h => absurd h (by decide)) (fun _ => ?_)
      refine me_iload_n (p' := 31) k56_30 rfl rfl ?_
      refine me_iconst (p' := 32) k56_31 rfl (v := nI 2) (by decide) ?_
      refine me_ic_ne (p' := 35) k56_32 rfl (fun h => absurd h (by decide)) (fun _ => ?_)
      refine me_iconst (p' := 50) k56_49 rfl (v := nI 0) (by decide) ?_
      refine me_istore (p' := 52) k56_50 rfl ⟨Nat.le_of_ble_eq_true rfl, rfl⟩ rfl ?_
      refine me_iload_n (p' := 53) k56_52 rfl rfl ?_
      refine me_cs (p' := 56) k56_53 rfl rfl rfl rfl rfl (cl_le mx_45 rfl) (by decide) (cl_sum rfl) (ct_CisPart (fun k196 hk197 he => ?_) (fun hz198 => ?_))
      · skip
        subst he
        refine me_if_eq (p' := 59) k56_56 rfl (fun h => absurd h (by decide)) (fun _ => ?_)
        refine me_iload (p' := 61) k56_59 rfl rfl ?_
        refine me_if_ne (p' := 64) k56_61 rfl (fun _ => ?_) (fun h => absurd (by decide) h)
        refine me_ldc (p' := 66) k56_64 rfl (v := (-1000000001)) (by decide) ?_
        refine me_reti k56_66 rt_56 rfl ?_
        simp only [sp_lays, sp_rg_s (show 0 < 3 by decide) (by decide), if_neg e192, sp_rg_s hk197 (by omega), if_true, if_false] at hQ
        exact hQ _ mFr.rf rfl
      · skip
        refine me_if_eq (p' := 59) k56_56 rfl (fun _ => ?_) (fun h => absurd (by decide) h)
        refine me_ldc (p' := 66) k56_64 rfl (v := (-1000000001)) (by decide) ?_
        refine me_reti k56_66 rt_56 rfl ?_
        simp only [sp_lays, sp_rg_s (show 0 < 3 by decide) (by decide), if_neg e192, sp_rg_n (by omega) hz198, if_true, if_false] at hQ
        exact hQ _ mFr.rf rfl
  · skip
    refine me_iload_n (p' := 1) k56_0 rfl rfl ?_
    refine me_if_ne (p' := 4) k56_1 rfl (fun h => absurd h (by decide)) (fun _ => ?_)
    refine me_iload_n (p' := 16) k56_15 rfl rfl ?_
    refine me_iconst (p' := 17) k56_16 rfl (v := nI 1) (by decide) ?_
    refine me_ic_ne (p' := 20) k56_17 rfl (fun _ => ?_) (fun h => absurd (by decide) h)
    refine me_iload_n (p' := 21) k56_20 rfl rfl ?_
    refine me_iconst (p' := 22) k56_21 rfl (v := nI 0) (by decide) ?_
    refine me_bipush (p' := 24) k56_22 rfl (v := nI 9) (by decide) ?_
    refine me_cs (p' := 27) k56_24 rfl rfl rfl rfl rfl (cl_le mx_16 rfl) (by decide) (cl_sum rfl) (ct_isWithin (fun e199 => ?_) (fun e199 => ?_))
    · skip
      obtain ⟨k200, hk201, rfl⟩ := mI_in1 (n := 9) (by omega) e199
      have hk201 : k200 < 10 := by omega
      refine me_if_ne (p' := 30) k56_27 rfl (fun h => absurd h (by decide)) (fun _ => ?_)
      refine me_iconst (p' := 46) k56_45 rfl (v := nI 1) (by decide) ?_
      refine me_goto k56_46 ?_
      refine me_istore (p' := 52) k56_50 rfl ⟨Nat.le_of_ble_eq_true rfl, rfl⟩ rfl ?_
      refine me_iload_n (p' := 53) k56_52 rfl rfl ?_
      refine me_cs (p' := 56) k56_53 rfl rfl rfl rfl rfl (cl_le mx_45 rfl) (by decide) (cl_sum rfl) (ct_CisPart (fun k203 hk204 he => ?_) (fun hz205 => ?_))
      · skip
        subst he
        refine me_if_eq (p' := 59) k56_56 rfl (fun h => absurd h (by decide)) (fun _ => ?_)
        refine me_iload (p' := 61) k56_59 rfl rfl ?_
        refine me_if_ne (p' := 64) k56_61 rfl (fun h => absurd h (by decide)) (fun _ => ?_)
        refine me_aload_n (p' := 68) k56_67 rfl rfl ?_
        refine me_gfr (p' := 71) k56_68 rfl (by decide) rfl (b := 11) rfl ?_
        refine me_gfr (p' := 74) k56_71 rfl (by decide) rfl (b := 12) rfl ?_
        refine me_iload_n (p' := 75) k56_74 rfl rfl ?_
        refine me_aald (p' := 76) k56_75 rfl (by decide) rfl ⟨by decide, by decide⟩ (j := 1) rfl (by omega) (by decide) (b := 14) rfl ?_
        refine me_iload_n (p' := 77) k56_76 rfl rfl ?_
        refine me_iald (p' := 78) k56_77 rfl (by decide) rfl (j := k203) rfl (by omega) (by decide) rfl ?_
        rw [sgR11p1 (I := I) (c := k203) (by omega)]
        refine me_istore (p' := 80) k56_78 rfl ⟨Nat.le_of_ble_eq_true rfl, rfl⟩ rfl ?_
        refine me_aload_n (p' := 81) k56_80 rfl rfl ?_
        refine me_gfr (p' := 84) k56_81 rfl (by decide) rfl (b := 11) rfl ?_
        refine me_gfr (p' := 87) k56_84 rfl (by decide) rfl (b := 12) rfl ?_
        refine me_iload_n (p' := 88) k56_87 rfl rfl ?_
        refine me_aald (p' := 89) k56_88 rfl (by decide) rfl ⟨by decide, by decide⟩ (j := 1) rfl (by omega) (by decide) (b := 14) rfl ?_
        refine me_iload_n (p' := 90) k56_89 rfl rfl ?_
        refine me_iload_n (p' := 91) k56_90 rfl rfl ?_
        refine me_iast (p' := 92) k56_91 rfl (by decide) rfl (j := k203) rfl (by omega) (by decide) rfl ?_
        refine me_iload_n (p' := 93) k56_92 rfl rfl ?_
        refine me_iconst (p' := 94) k56_93 rfl (v := nI 2) (by decide) ?_
        refine me_ic_ne (p' := 97) k56_94 rfl (fun h => absurd h (by decide)) (fun _ => ?_)
        refine me_iload (p' := 111) k56_109 rfl rfl ?_
        refine me_reti k56_111 rt_56 rfl ?_
        simp only [sp_lays, sp_rg_s (show 1 < 3 by decide) (by decide), sp_rg_s (m := 10) hk201 (by omega), sp_rg_s hk204 (by omega), if_true, if_false] at hQ
        refine hQ _ (mFr.up (by decide)) ?_
        rw [sgU11p1 (by omega)]
      · skip
        refine me_if_eq (p' := 59) k56_56 rfl (fun _ => ?_) (fun h => absurd (by decide) h)
        refine me_ldc (p' := 66) k56_64 rfl (v := (-1000000001)) (by decide) ?_
        refine me_reti k56_66 rt_56 rfl ?_
        simp only [sp_lays, sp_rg_s (show 1 < 3 by decide) (by decide), sp_rg_s (m := 10) hk201 (by omega), sp_rg_n (by omega) hz205, if_true, if_false] at hQ
        exact hQ _ mFr.rf rfl
    · skip
      have hz202 : ∀ k : Nat, k < 10 → v ≠ nI k := fun k hk => mI_in0 (n := 9) (by omega) e199 (by omega)
      refine me_if_ne (p' := 30) k56_27 rfl (fun _ => ?_) (fun h => absurd (by decide) h)
      refine me_iload_n (p' := 31) k56_30 rfl rfl ?_
      refine me_iconst (p' := 32) k56_31 rfl (v := nI 2) (by decide) ?_
      refine me_ic_ne (p' := 35) k56_32 rfl (fun h => absurd h (by decide)) (fun _ => ?_)
      refine me_iconst (p' := 50) k56_49 rfl (v := nI 0) (by decide) ?_
      refine me_istore (p' := 52) k56_50 rfl ⟨Nat.le_of_ble_eq_true rfl, rfl⟩ rfl ?_
      refine me_iload_n (p' := 53) k56_52 rfl rfl ?_
      refine me_cs (p' := 56) k56_53 rfl rfl rfl rfl rfl (cl_le mx_45 rfl) (by decide) (cl_sum rfl) (ct_CisPart (fun k206 hk207 he => ?_) (fun hz208 => ?_))
      · skip
        subst he
        refine me_if_eq (p' := 59) k56_56 rfl (fun h => absurd h (by decide)) (fun _ => ?_)
        refine me_iload (p' := 61) k56_59 rfl rfl ?_
        refine me_if_ne (p' := 64) k56_61 rfl (fun _ => ?_) (fun h => absurd (by decide) h)
        refine me_ldc (p' := 66) k56_64 rfl (v := (-1000000001)) (by decide) ?_
        refine me_reti k56_66 rt_56 rfl ?_
        simp only [sp_lays, sp_rg_s (show 1 < 3 by decide) (by decide), sp_rg_n (m := 10) (by omega) hz202, sp_rg_s hk207 (by omega), if_true, if_false] at hQ
        exact hQ _ mFr.rf rfl
      · skip
        refine me_if_eq (p' := 59) k56_56 rfl (fun _ => ?_) (fun h => absurd (by decide) h)
        refine me_ldc (p' := 66) k56_64 rfl (v := (-1000000001)) (by decide) ?_
        refine me_reti k56_66 rt_56 rfl ?_
        simp only [sp_lays, sp_rg_s (show 1 < 3 by decide) (by decide), sp_rg_n (m := 10) (by omega) hz202, sp_rg_n (by omega) hz208, if_true, if_false] at hQ
        exact hQ _ mFr.rf rfl
  · skip
    refine me_iload_n (p' := 1) k56_0 rfl rfl ?_
    refine me_if_ne (p' := 4) k56_1 rfl (fun h => absurd h (by decide)) (fun _ => ?_)
    refine me_iload_n (p' := 16) k56_15 rfl rfl ?_
    refine me_iconst (p' := 17) k56_16 rfl (v := nI 1) (by decide) ?_
    refine me_ic_ne (p' := 20) k56_17 rfl (fun h => absurd h (by decide)) (fun _ => ?_)
    refine me_iload_n (p' := 31) k56_30 rfl rfl ?_
    refine me_iconst (p' := 32) k56_31 rfl (v := nI 2) (by decide) ?_
    refine me_ic_ne (p' := 35) k56_32 rfl (fun _ => ?_) (fun h => absurd (by decide) h)
    refine me_iload_n (p' := 36) k56_35 rfl rfl ?_
    refine me_iconst (p' := 37) k56_36 rfl (v := nI 0) (by decide) ?_
    refine me_bipush (p' := 39) k56_37 rfl (v := nI 60) (by decide) ?_
    refine me_cs (p' := 42) k56_39 rfl rfl rfl rfl rfl (cl_le mx_16 rfl) (by decide) (cl_sum rfl) (ct_isWithin (fun e209 => ?_) (fun e209 => ?_))
    · skip
      obtain ⟨k210, hk211, rfl⟩ := mI_in1 (n := 60) (by omega) e209
      have hk211 : k210 < 61 := by omega
      refine me_if_eq (p' := 45) k56_42 rfl (fun h => absurd h (by decide)) (fun _ => ?_)
      refine me_iconst (p' := 46) k56_45 rfl (v := nI 1) (by decide) ?_
      refine me_goto k56_46 ?_
      refine me_istore (p' := 52) k56_50 rfl ⟨Nat.le_of_ble_eq_true rfl, rfl⟩ rfl ?_
      refine me_iload_n (p' := 53) k56_52 rfl rfl ?_
      refine me_cs (p' := 56) k56_53 rfl rfl rfl rfl rfl (cl_le mx_45 rfl) (by decide) (cl_sum rfl) (ct_CisPart (fun k213 hk214 he => ?_) (fun hz215 => ?_))
      · skip
        subst he
        refine me_if_eq (p' := 59) k56_56 rfl (fun h => absurd h (by decide)) (fun _ => ?_)
        refine me_iload (p' := 61) k56_59 rfl rfl ?_
        refine me_if_ne (p' := 64) k56_61 rfl (fun h => absurd h (by decide)) (fun _ => ?_)
        refine me_aload_n (p' := 68) k56_67 rfl rfl ?_
        refine me_gfr (p' := 71) k56_68 rfl (by decide) rfl (b := 11) rfl ?_
        refine me_gfr (p' := 74) k56_71 rfl (by decide) rfl (b := 12) rfl ?_
        refine me_iload_n (p' := 75) k56_74 rfl rfl ?_
        refine me_aald (p' := 76) k56_75 rfl (by decide) rfl ⟨by decide, by decide⟩ (j := 2) rfl (by omega) (by decide) (b := 15) rfl ?_
        refine me_iload_n (p' := 77) k56_76 rfl rfl ?_
        refine me_iald (p' := 78) k56_77 rfl (by decide) rfl (j := k213) rfl (by omega) (by decide) rfl ?_
        rw [sgR11p2 (I := I) (c := k213) (by omega)]
        refine me_istore (p' := 80) k56_78 rfl ⟨Nat.le_of_ble_eq_true rfl, rfl⟩ rfl ?_
        refine me_aload_n (p' := 81) k56_80 rfl rfl ?_
        refine me_gfr (p' := 84) k56_81 rfl (by decide) rfl (b := 11) rfl ?_
        refine me_gfr (p' := 87) k56_84 rfl (by decide) rfl (b := 12) rfl ?_
        refine me_iload_n (p' := 88) k56_87 rfl rfl ?_
        refine me_aald (p' := 89) k56_88 rfl (by decide) rfl ⟨by decide, by decide⟩ (j := 2) rfl (by omega) (by decide) (b := 15) rfl ?_
        refine me_iload_n (p' := 90) k56_89 rfl rfl ?_
        refine me_iload_n (p' := 91) k56_90 rfl rfl ?_
        refine me_iast (p' := 92) k56_91 rfl (by decide) rfl (j := k213) rfl (by omega) (by decide) rfl ?_
        refine me_iload_n (p' := 93) k56_92 rfl rfl ?_
        refine me_iconst (p' := 94) k56_93 rfl (v := nI 2) (by decide) ?_
        refine me_ic_ne (p' := 97) k56_94 rfl (fun _ => ?_) (fun h => absurd (by decide) h)
        refine me_aload_n (p' := 98) k56_97 rfl rfl ?_
        refine me_gfr (p' := 101) k56_98 rfl (by decide) rfl (b := 11) rfl ?_
        refine me_gfr (p' := 104) k56_101 rfl (by decide) rfl (b := 12) rfl ?_
        refine me_iconst (p' := 105) k56_104 rfl (v := nI 3) (by decide) ?_
        refine me_aald (p' := 106) k56_105 rfl (by decide) rfl ⟨by decide, by decide⟩ (j := 3) rfl (by omega) (by decide) (b := 16) rfl ?_
        refine me_iload_n (p' := 107) k56_106 rfl rfl ?_
        refine me_iconst (p' := 108) k56_107 rfl (v := nI 0) (by decide) ?_
        refine me_iast (p' := 109) k56_108 rfl (by decide) rfl (j := k213) rfl (by omega) (by decide) rfl ?_
        refine me_iload (p' := 111) k56_109 rfl rfl ?_
        refine me_reti k56_111 rt_56 rfl ?_
        simp only [sp_lays, sp_rg_s (show 2 < 3 by decide) (by decide), sp_rg_s (m := 61) hk211 (by omega), sp_rg_s hk214 (by omega), if_true, if_false] at hQ
        refine hQ _ ((mFr.up (by decide)).tr (mFr.up (by decide))) ?_
        rw [sgU11p3 (by omega), sgU11p2 (by omega), up_cm (by omega)]
      · skip
        refine me_if_eq (p' := 59) k56_56 rfl (fun _ => ?_) (fun h => absurd (by decide) h)
        refine me_ldc (p' := 66) k56_64 rfl (v := (-1000000001)) (by decide) ?_
        refine me_reti k56_66 rt_56 rfl ?_
        simp only [sp_lays, sp_rg_s (show 2 < 3 by decide) (by decide), sp_rg_s (m := 61) hk211 (by omega), sp_rg_n (by omega) hz215, if_true, if_false] at hQ
        exact hQ _ mFr.rf rfl
    · skip
      have hz212 : ∀ k : Nat, k < 61 → v ≠ nI k := fun k hk => mI_in0 (n := 60) (by omega) e209 (by omega)
      refine me_if_eq (p' := 45) k56_42 rfl (fun _ => ?_) (fun h => absurd (by decide) h)
      refine me_iconst (p' := 50) k56_49 rfl (v := nI 0) (by decide) ?_
      refine me_istore (p' := 52) k56_50 rfl ⟨Nat.le_of_ble_eq_true rfl, rfl⟩ rfl ?_
      refine me_iload_n (p' := 53) k56_52 rfl rfl ?_
      refine me_cs (p' := 56) k56_53 rfl rfl rfl rfl rfl (cl_le mx_45 rfl) (by decide) (cl_sum rfl) (ct_CisPart (fun k216 hk217 he => ?_) (fun hz218 => ?_))
      · skip
        subst he
        refine me_if_eq (p' := 59) k56_56 rfl (fun h => absurd h (by decide)) (fun _ => ?_)
        refine me_iload (p' := 61) k56_59 rfl rfl ?_
        refine me_if_ne (p' := 64) k56_61 rfl (fun _ => ?_) (fun h => absurd (by decide) h)
        refine me_ldc (p' := 66) k56_64 rfl (v := (-1000000001)) (by decide) ?_
        refine me_reti k56_66 rt_56 rfl ?_
        simp only [sp_lays, sp_rg_s (show 2 < 3 by decide) (by decide), sp_rg_n (m := 61) (by omega) hz212, sp_rg_s hk217 (by omega), if_true, if_false] at hQ
        exact hQ _ mFr.rf rfl
      · skip
        refine me_if_eq (p' := 59) k56_56 rfl (fun _ => ?_) (fun h => absurd (by decide) h)
        refine me_ldc (p' := 66) k56_64 rfl (v := (-1000000001)) (by decide) ?_
        refine me_reti k56_66 rt_56 rfl ?_
        simp only [sp_lays, sp_rg_s (show 2 < 3 by decide) (by decide), sp_rg_n (m := 61) (by omega) hz212, sp_rg_n (by omega) hz218, if_true, if_false] at hQ
        exact hQ _ mFr.rf rfl
  · skip
    refine me_iload_n (p' := 1) k56_0 rfl rfl ?_
    refine me_if_ne (p' := 4) k56_1 rfl (fun c1 => ?_) (fun c1 => ?_)
    · skip
      exact absurd c1 (hz191 0 (by decide))
    · skip
      refine me_iload_n (p' := 16) k56_15 rfl rfl ?_
      refine me_iconst (p' := 17) k56_16 rfl (v := nI 1) (by decide) ?_
      refine me_ic_ne (p' := 20) k56_17 rfl (fun c2 => ?_) (fun c2 => ?_)
      · skip
        exact absurd c2 (hz191 1 (by decide))
      · skip
        refine me_iload_n (p' := 31) k56_30 rfl rfl ?_
        refine me_iconst (p' := 32) k56_31 rfl (v := nI 2) (by decide) ?_
        refine me_ic_ne (p' := 35) k56_32 rfl (fun c3 => ?_) (fun c3 => ?_)
        · skip
          exact absurd c3 (hz191 2 (by decide))
        · skip
          refine me_iconst (p' := 50) k56_49 rfl (v := nI 0) (by decide) ?_
          refine me_istore (p' := 52) k56_50 rfl ⟨Nat.le_of_ble_eq_true rfl, rfl⟩ rfl ?_
          refine me_iload_n (p' := 53) k56_52 rfl rfl ?_
          refine me_cs (p' := 56) k56_53 rfl rfl rfl rfl rfl (cl_le mx_45 rfl) (by decide) (cl_sum rfl) (ct_CisPart (fun k219 hk220 he => ?_) (fun hz221 => ?_))
          · skip
            subst he
            refine me_if_eq (p' := 59) k56_56 rfl (fun h => absurd h (by decide)) (fun _ => ?_)
            refine me_iload (p' := 61) k56_59 rfl rfl ?_
            refine me_if_ne (p' := 64) k56_61 rfl (fun _ => ?_) (fun h => absurd (by decide) h)
            refine me_ldc (p' := 66) k56_64 rfl (v := (-1000000001)) (by decide) ?_
            refine me_reti k56_66 rt_56 rfl ?_
            simp only [sp_lays, sp_rg_n (m := 3) (by decide) hz191, sp_rg_s hk220 (by omega), if_true, if_false] at hQ
            exact hQ _ mFr.rf rfl
          · skip
            refine me_if_eq (p' := 59) k56_56 rfl (fun _ => ?_) (fun h => absurd (by decide) h)
            refine me_ldc (p' := 66) k56_64 rfl (v := (-1000000001)) (by decide) ?_
            refine me_reti k56_66 rt_56 rfl ?_
            simp only [sp_lays, sp_rg_n (m := 3) (by decide) hz191, sp_rg_n (by omega) hz221, if_true, if_false] at hQ
            exact hQ _ mFr.rf rfl
theorem ct_Cgap {d L : Nat} {xs : Nat → Int32} {I : Nat → Nat → Int32} {Q : Option Value → mj_H → Prop} {v : Int32} (hQ : ∀ I2, mFr (mRg 11) I I2 → mSg 11 128 I2 = (sp_gap (mSg 11 128 I) v).2 → Q (some (.int (sp_gap (mSg 11 128 I) v).1)) (mg_h L xs I2)) : mj_Cl (d + 1) 57 [.ref 0, .int v] (mg_h L xs I) Q := by
  refine cl_start mx_57 (ls := [.ref 0, .int v, mj_no]) rfl ?_
  refine me_iload_n (p' := 1) k57_0 rfl rfl ?_
  refine me_iconst (p' := 2) k57_1 rfl (v := nI 1) (by decide) ?_
  refine me_bipush (p' := 4) k57_2 rfl (v := nI 60) (by decide) ?_
  refine me_cs (p' := 7) k57_4 rfl rfl rfl rfl rfl (cl_le mx_16 rfl) (by decide) (cl_sum rfl) (ct_isWithin (fun e222 => ?_) (fun e222 => ?_))
  · skip
    refine me_if_ne (p' := 10) k57_7 rfl (fun h => absurd h (by decide)) (fun _ => ?_)
    refine me_aload_n (p' := 14) k57_13 rfl rfl ?_
    refine me_gfr (p' := 17) k57_14 rfl (by decide) rfl (b := 11) rfl ?_
    refine me_gfi (p' := 20) k57_17 rfl (by decide) rfl rfl ?_
    rw [show I 11 6 = (mSg 11 128 I) 3 from rfl]
    refine me_istore_n (p' := 21) k57_20 rfl ⟨Nat.le_of_ble_eq_true rfl, rfl⟩ rfl ?_
    refine me_aload_n (p' := 22) k57_21 rfl rfl ?_
    refine me_gfr (p' := 25) k57_22 rfl (by decide) rfl (b := 11) rfl ?_
    refine me_iload_n (p' := 26) k57_25 rfl rfl ?_
    refine me_pfi (p' := 29) k57_26 rfl (by decide) rfl rfl rfl rfl ?_
    refine me_iload_n (p' := 30) k57_29 rfl rfl ?_
    refine me_reti k57_30 rt_57 rfl ?_
    simp only [sp_gap, if_pos e222, if_true, if_false] at hQ
    exact hQ _ (mFr.up (by decide)) (by rw [sgU11f3])
  · skip
    refine me_if_ne (p' := 10) k57_7 rfl (fun _ => ?_) (fun h => absurd (by decide) h)
    refine me_ldc (p' := 12) k57_10 rfl (v := (-1000000001)) (by decide) ?_
    refine me_reti k57_12 rt_57 rfl ?_
    simp only [sp_gap, if_neg e222, if_true, if_false] at hQ
    exact hQ _ mFr.rf rfl
theorem ct_Cseed {d L : Nat} {xs : Nat → Int32} {I : Nat → Nat → Int32} {Q : Option Value → mj_H → Prop} {v : Int32} (hQ : ∀ I2, mFr (mRg 11) I I2 → mSg 11 128 I2 = (sp_seed (mSg 11 128 I) v).2 → Q (some (.int (sp_seed (mSg 11 128 I) v).1)) (mg_h L xs I2)) : mj_Cl d 60 [.ref 0, .int v] (mg_h L xs I) Q := by
  refine cl_start mx_60 (ls := [.ref 0, .int v, mj_no]) rfl ?_
  refine me_aload_n (p' := 1) k60_0 rfl rfl ?_
  refine me_gfr (p' := 4) k60_1 rfl (by decide) rfl (b := 11) rfl ?_
  refine me_gfi (p' := 7) k60_4 rfl (by decide) rfl rfl ?_
  rw [show I 11 8 = (mSg 11 128 I) 0 from rfl]
  refine me_istore_n (p' := 8) k60_7 rfl ⟨Nat.le_of_ble_eq_true rfl, rfl⟩ rfl ?_
  refine me_aload_n (p' := 9) k60_8 rfl rfl ?_
  refine me_gfr (p' := 12) k60_9 rfl (by decide) rfl (b := 11) rfl ?_
  refine me_iload_n (p' := 13) k60_12 rfl rfl ?_
  refine me_pfi (p' := 16) k60_13 rfl (by decide) rfl rfl rfl rfl ?_
  refine me_iload_n (p' := 17) k60_16 rfl rfl ?_
  refine me_reti k60_17 rt_60 rfl ?_
  exact hQ _ (mFr.up (by decide)) (by rw [sgU11f0]; rfl)
theorem lp_Cdeal {d L : Nat} {xs : Nat → Int32} {I : Nat → Nat → Int32} {Q : Option Value → mj_H → Prop} {n m : Nat} (hk : mOk (mSg 11 128 I) n) (hm : m ≤ 8) (hQ : ∀ I2, mFr (mRg 11) I I2 → mSg 11 128 I2 = sp_dls (mSg 11 128 I) n (min m (8 - n)) → Q (some (.int (nI (min m (8 - n))))) (mg_h L xs I2)) : ∀ k : Nat, k ≤ min m (8 - n) → ∀ I1, mFr (mRg 11) I I1 → mSg 11 128 I1 = sp_dls (mSg 11 128 I) n k → ∀ u3 u4 u5 : Value, mj_Ev (d + 1) 58 30 [.ref 0, .int (nI m), .int (nI (min m (8 - n))), .int (nI k), u3, u4, u5] [] (mg_h L xs I1) Q := by
  have hn8 := hk.hn.2
  refine loop_ind (n := min m (8 - n)) (fun k hkn ih => ?_)
  intro I1 hfr e1 u3 u4 u5
  refine me_iload_n (p' := 31) k58_30 rfl rfl ?_
  refine me_iload_n (p' := 32) k58_31 rfl rfl ?_
  refine me_ic_ge (p' := 35) k58_32 rfl (fun c1 => ?_) (fun c1 => ?_)
  · skip
    rw [cI_le (a := min m (8 - n)) (b := k) (by omega) (by omega)] at c1
    refine me_iload_n (p' := 95) k58_94 rfl rfl ?_
    refine me_reti k58_95 rt_58 rfl ?_
    have e8 : k = min m (8 - n) := by omega
    subst e8
    exact hQ _ hfr e1
  · skip
    rw [cI_le (a := min m (8 - n)) (b := k) (by omega) (by omega)] at c1
    refine me_aload_n (p' := 36) k58_35 rfl rfl ?_
    refine me_gfr (p' := 39) k58_36 rfl (by decide) rfl (b := 11) rfl ?_
    refine me_cv (p' := 42) k58_39 rfl rfl (by decide) rfl (by decide) (by decide) dp_59 rfl rfl (cl_le mx_59 rfl) (by decide) (cl_sum rfl) (ct_Cdraw (fun J1 hJf0 hJb0 => ?_))
    have hJa0 : mSg 11 128 J1 = up (sp_dls (mSg 11 128 I) n k) 0 (sp_z ((sp_dls (mSg 11 128 I) n k) 0)) := by rw [hJb0, e1]
    rw [e1]
    have hdv0 := sp_dv_lt (sp_z ((sp_dls (mSg 11 128 I) n k) 0))
    refine me_bipush (p' := 44) k58_42 rfl (v := nI 6) (by decide) ?_
    refine me_irem (p' := 45) k58_44 rfl (nI_ne0 (by omega) (by omega)) (v := nI ((sp_dv (sp_z ((sp_dls (mSg 11 128 I) n k) 0))) % 6)) (mI_mod (by omega) (by omega)) ?_
    refine me_istore (p' := 47) k58_45 rfl ⟨Nat.le_of_ble_eq_true rfl, rfl⟩ rfl ?_
    refine me_aload_n (p' := 48) k58_47 rfl rfl ?_
    refine me_gfr (p' := 51) k58_48 rfl (by decide) rfl (b := 11) rfl ?_
    refine me_cv (p' := 54) k58_51 rfl rfl (by decide) rfl (by decide) (by decide) dp_59 rfl rfl (cl_le mx_59 rfl) (by decide) (cl_sum rfl) (ct_Cdraw (fun J2 hJf1 hJb1 => ?_))
    have hJa1 : mSg 11 128 J2 = up (sp_dls (mSg 11 128 I) n k) 0 (sp_z (sp_z ((sp_dls (mSg 11 128 I) n k) 0))) := by rw [hJb1, hJa0, up_eq, up_up]
    rw [hJa0, up_eq]
    have hdv1 := sp_dv_lt (sp_z (sp_z ((sp_dls (mSg 11 128 I) n k) 0)))
    refine me_sipush (p' := 57) k58_54 rfl (v := nI 240) (by decide) ?_
    refine me_irem (p' := 58) k58_57 rfl (nI_ne0 (by omega) (by omega)) (v := nI ((sp_dv (sp_z (sp_z ((sp_dls (mSg 11 128 I) n k) 0)))) % 240)) (mI_mod (by omega) (by omega)) ?_
    refine me_istore (p' := 60) k58_58 rfl ⟨Nat.le_of_ble_eq_true rfl, rfl⟩ rfl ?_
    refine me_iconst (p' := 61) k58_60 rfl (v := nI 1) (by decide) ?_
    refine me_aload_n (p' := 62) k58_61 rfl rfl ?_
    refine me_gfr (p' := 65) k58_62 rfl (by decide) rfl (b := 11) rfl ?_
    refine me_cv (p' := 68) k58_65 rfl rfl (by decide) rfl (by decide) (by decide) dp_59 rfl rfl (cl_le mx_59 rfl) (by decide) (cl_sum rfl) (ct_Cdraw (fun J3 hJf2 hJb2 => ?_))
    have hJa2 : mSg 11 128 J3 = up (sp_dls (mSg 11 128 I) n k) 0 (sp_z (sp_z (sp_z ((sp_dls (mSg 11 128 I) n k) 0)))) := by rw [hJb2, hJa1, up_eq, up_up]
    rw [hJa1, up_eq]
    have hdv2 := sp_dv_lt (sp_z (sp_z (sp_z ((sp_dls (mSg 11 128 I) n k) 0))))
    refine me_bipush (p' := 70) k58_68 rfl (v := nI 99) (by decide) ?_
    refine me_irem (p' := 71) k58_70 rfl (nI_ne0 (by omega) (by omega)) (v := nI ((sp_dv (sp_z (sp_z (sp_z ((sp_dls (mSg 11 128 I) n k) 0))))) % 99)) (mI_mod (by omega) (by omega)) ?_
    refine me_iadd (p' := 72) k58_71 rfl (v := nI (1 + ((sp_dv (sp_z (sp_z (sp_z ((sp_dls (mSg 11 128 I) n k) 0))))) % 99))) (mI_add _ _) ?_
    refine me_istore (p' := 74) k58_72 rfl ⟨Nat.le_of_ble_eq_true rfl, rfl⟩ rfl ?_
    refine me_aload_n (p' := 75) k58_74 rfl rfl ?_
    refine me_gfr (p' := 78) k58_75 rfl (by decide) rfl (b := 11) rfl ?_
    refine me_iload (p' := 80) k58_78 rfl rfl ?_
    refine me_iload (p' := 82) k58_80 rfl rfl ?_
    refine me_iload (p' := 84) k58_82 rfl rfl ?_
    refine me_cv (p' := 87) k58_84 rfl rfl (by decide) rfl (by decide) (by decide) dp_17 rfl rfl (cl_le mx_17 rfl) (by decide) (cl_sum rfl) (ct_addCar (n := n + k) (by rw [hJa2]; exact ⟨by rw [up_ne (by decide)]; exact sp_dls_1 hk.hn.1 k, by omega⟩) (by omega) (fun J4 hJf3 hJb3 => ?_))
    rw [hJa2] at hJb3
    refine me_pop (p' := 88) k58_87 rfl rfl ?_
    refine me_iinc (p' := 91) k58_88 rfl rfl rfl (v := nI (k + 1)) (mI_inc (by decide)) rfl ?_
    refine me_goto k58_91 ?_
    refine ih (by omega) _ ((((hfr.tr hJf0).tr hJf1).tr hJf2).tr hJf3) ?_ _ _ _
    rw [hJb3]
    rfl
theorem mI_min8 {a b : Nat} (ha : a < 2 ^ 31) (hb : b < 2 ^ 31) : (if nI b < nI a then nI b else nI a) = nI (min a b) := by
  by_cases h : b < a
  · rw [if_pos ((cI_lt hb ha).mpr h), Nat.min_eq_right (by omega)]
  · rw [if_neg (fun z => h ((cI_lt hb ha).mp z)), Nat.min_eq_left (by omega)]
theorem ct_Cdeal {d L : Nat} {xs : Nat → Int32} {I : Nat → Nat → Int32} {Q : Option Value → mj_H → Prop} {n : Nat} (hk : mOk (mSg 11 128 I) n) {v : Int32} (hQ : ∀ I2, mFr (mRg 11) I I2 → mSg 11 128 I2 = (sp_deal (mSg 11 128 I) n v).2 → Q (some (.int (sp_deal (mSg 11 128 I) n v).1)) (mg_h L xs I2)) : mj_Cl (d + 1) 58 [.ref 0, .int v] (mg_h L xs I) Q := by
  have hn8 := hk.hn.2
  refine cl_start mx_58 (ls := [.ref 0, .int v, mj_no, mj_no, mj_no, mj_no, mj_no]) rfl ?_
  refine me_iload_n (p' := 1) k58_0 rfl rfl ?_
  refine me_iconst (p' := 2) k58_1 rfl (v := nI 1) (by decide) ?_
  refine me_bipush (p' := 4) k58_2 rfl (v := nI 8) (by decide) ?_
  refine me_cs (p' := 7) k58_4 rfl rfl rfl rfl rfl (cl_le mx_16 rfl) (by decide) (cl_sum rfl) (ct_isWithin (fun e223 => ?_) (fun e223 => ?_))
  · skip
    refine me_if_ne (p' := 10) k58_7 rfl (fun h => absurd h (by decide)) (fun _ => ?_)
    obtain ⟨m, rfl, hm⟩ : ∃ m : Nat, v = nI m ∧ m ≤ 8 ∧ 1 ≤ m := by
      obtain ⟨m, rfl, hm⟩ := mI_of (Int32.le_trans (nI_pos' (show 1 < 2 ^ 31 by omega)) e223.1)
      exact ⟨m, rfl, (cI_le hm (by decide)).mp e223.2, (cI_le (by decide) hm).mp e223.1⟩
    refine me_iload_n (p' := 14) k58_13 rfl rfl ?_
    refine me_bipush (p' := 16) k58_14 rfl (v := nI 8) (by decide) ?_
    refine me_aload_n (p' := 17) k58_16 rfl rfl ?_
    refine me_gfr (p' := 20) k58_17 rfl (by decide) rfl (b := 11) rfl ?_
    refine me_gfi (p' := 23) k58_20 rfl (by decide) rfl rfl ?_
    rw [show I 11 5 = nI n from hk.hn.1]
    refine me_isub (p' := 24) k58_23 rfl rfl ?_
    rw [mI_sub (by omega)]
    refine me_min (p' := 27) k58_24 rfl (cl_sum rfl) rfl ?_
    rw [mI_min8 (by omega) (by omega)]
    refine me_istore_n (p' := 28) k58_27 rfl ⟨Nat.le_of_ble_eq_true rfl, rfl⟩ rfl ?_
    refine me_iconst (p' := 29) k58_28 rfl (v := nI 0) (by decide) ?_
    refine me_istore_n (p' := 30) k58_29 rfl ⟨Nat.le_of_ble_eq_true rfl, rfl⟩ rfl ?_
    simp only [sp_deal, if_pos e223, nI_clamp (show m < 2 ^ 31 by omega), if_true, if_false] at hQ
    exact lp_Cdeal hk hm.1 hQ 0 (Nat.zero_le _) I mFr.rf rfl _ _ _
  · skip
    refine me_if_ne (p' := 10) k58_7 rfl (fun _ => ?_) (fun h => absurd (by decide) h)
    refine me_ldc (p' := 12) k58_10 rfl (v := (-1000000001)) (by decide) ?_
    refine me_reti k58_12 rt_58 rfl ?_
    simp only [sp_deal, if_neg e223, if_true, if_false] at hQ
    exact hQ _ mFr.rf rfl
theorem ct_Cseconds {d L : Nat} {xs : Nat → Int32} {I : Nat → Nat → Int32} {Q : Option Value → mj_H → Prop} {T : mT} {n : Nat} (hx : cTx I T) (hcg : cCg I 11 T) (hk : mOk (mSg 11 128 I) n) {t : Nat} (ht : (mSg 11 128 I) 2 = nI t ∧ t ≤ 9999) {v : Int32} (hQ : ∀ I2, mFr (mRg 11 ++ mSk) I I2 → mSg 11 128 I2 = (sp_seconds T (mSg 11 128 I) n v).2 → Q (some (.int (sp_seconds T (mSg 11 128 I) n v).1)) (mg_h L xs I2)) : mj_Cl (d + 5) 61 [.ref 0, .int v] (mg_h L xs I) Q := by
  have hn8 := hk.hn.2
  refine cl_start mx_61 (ls := [.ref 0, .int v, mj_no]) rfl ?_
  refine me_iload_n (p' := 1) k61_0 rfl rfl ?_
  refine me_iconst (p' := 2) k61_1 rfl (v := nI 1) (by decide) ?_
  refine me_sipush (p' := 5) k61_2 rfl (v := nI 300) (by decide) ?_
  refine me_cs (p' := 8) k61_5 rfl rfl rfl rfl rfl (cl_le mx_16 rfl) (by decide) (cl_sum rfl) (ct_isWithin (fun e224 => ?_) (fun e224 => ?_))
  · skip
    refine me_if_ne (p' := 11) k61_8 rfl (fun h => absurd h (by decide)) (fun _ => ?_)
    obtain ⟨m, rfl, hm⟩ : ∃ m : Nat, v = nI m ∧ m ≤ 300 ∧ 1 ≤ m := by
      obtain ⟨m, rfl, hm⟩ := mI_of (Int32.le_trans (nI_pos' (show 1 < 2 ^ 31 by omega)) e224.1)
      exact ⟨m, rfl, (cI_le hm (by decide)).mp e224.2, (cI_le (by decide) hm).mp e224.1⟩
    refine me_aload_n (p' := 15) k61_14 rfl rfl ?_
    refine me_gfr (p' := 18) k61_15 rfl (by decide) rfl (b := 11) rfl ?_
    refine me_iconst (p' := 19) k61_18 rfl (v := nI 3) (by decide) ?_
    refine me_cv (p' := 22) k61_19 rfl rfl (by decide) rfl (by decide) (by decide) dp_62 rfl rfl (cl_le mx_62 rfl) (by decide) (cl_sum rfl) (ct_totalOf11 hk (by decide) ?_)
    refine me_istore_n (p' := 23) k61_22 rfl ⟨Nat.le_of_ble_eq_true rfl, rfl⟩ rfl ?_
    refine me_aload_n (p' := 24) k61_23 rfl rfl ?_
    refine me_gfr (p' := 27) k61_24 rfl (by decide) rfl (b := 11) rfl ?_
    refine me_iload_n (p' := 28) k61_27 rfl rfl ?_
    refine me_sipush (p' := 31) k61_28 rfl (v := nI 9999) (by decide) ?_
    refine me_aload_n (p' := 32) k61_31 rfl rfl ?_
    refine me_gfr (p' := 35) k61_32 rfl (by decide) rfl (b := 11) rfl ?_
    refine me_gfi (p' := 38) k61_35 rfl (by decide) rfl rfl ?_
    rw [show I 11 7 = nI t from ht.1]
    have ht2 := ht.2
    refine me_isub (p' := 39) k61_38 rfl rfl ?_
    rw [mI_sub ht2]
    refine me_min (p' := 42) k61_39 rfl (cl_sum rfl) rfl ?_
    rw [mI_min8 (by omega) (by omega)]
    refine me_cv (p' := 45) k61_42 rfl rfl (by decide) rfl (by decide) (by decide) dp_63 rfl rfl (cl_le mx_63 rfl) (by decide) (cl_sum rfl) (ct_passSeconds11 (by omega) hx hcg hk (fun I1 hI1 hI2 => ?_))
    have h1 : mOk (mSg 11 128 I1) n := by rw [hI2]; exact hk.secs _
    refine me_aload_n (p' := 46) k61_45 rfl rfl ?_
    refine me_gfr (p' := 49) k61_46 rfl (by decide) rfl (b := 11) rfl ?_
    refine me_iconst (p' := 50) k61_49 rfl (v := nI 3) (by decide) ?_
    refine me_cv (p' := 53) k61_50 rfl rfl (by decide) rfl (by decide) (by decide) dp_62 rfl rfl (cl_le mx_62 rfl) (by decide) (cl_sum rfl) (ct_totalOf11 h1 (by decide) ?_)
    rw [hI2]
    refine me_iload_n (p' := 54) k61_53 rfl rfl ?_
    refine me_isub (p' := 55) k61_54 rfl rfl ?_
    refine me_reti k61_55 rt_61 rfl ?_
    simp only [sp_seconds, if_pos e224, nI_clamp (show m < 2 ^ 31 by omega), ht.1, nI_clamp (show t < 2 ^ 31 by have := ht.2; omega), if_true, if_false] at hQ
    exact hQ _ hI1 hI2
  · skip
    refine me_if_ne (p' := 11) k61_8 rfl (fun _ => ?_) (fun h => absurd (by decide) h)
    refine me_ldc (p' := 13) k61_11 rfl (v := (-1000000001)) (by decide) ?_
    refine me_reti k61_13 rt_61 rfl ?_
    simp only [sp_seconds, if_neg e224, if_true, if_false] at hQ
    exact hQ _ mFr.rf rfl
theorem ct_Cride {d L : Nat} {xs : Nat → Int32} {I : Nat → Nat → Int32} {Q : Option Value → mj_H → Prop} {n : Nat} (hk : mOk (mSg 11 128 I) n) {v : Int32} (hQ : Q (some (.int (sp_ride (mSg 11 128 I) n v))) (mg_h L xs I)) : mj_Cl (d + 2) 66 [.ref 0, .int v] (mg_h L xs I) Q := by
  have hn8 := hk.hn.2
  refine cl_start mx_66 (ls := [.ref 0, .int v]) rfl ?_
  refine me_iload_n (p' := 1) k66_0 rfl rfl ?_
  rcases mI_ex 6 (by decide) v with ⟨k226, hk9, rfl⟩ | hz225
  rotate_left
  · refine me_tsw (p' := 94) k66_1 (by rw [if_pos (show (v).toInt < 0 ∨ 5 < (v).toInt from by have := mI_tout (m := 6) (by decide) hz225; omega)]; rfl) ?_
    refine me_ldc (p' := 96) k66_94 rfl (v := (-1000000001)) (by decide) ?_
    refine me_reti k66_96 rt_66 rfl ?_
    simp only [sp_ride, sp_rg_n (m := 6) (by omega) hz225, if_true, if_false] at hQ
    exact hQ
  rcases (show k226 = 0 ∨ k226 = 1 ∨ k226 = 2 ∨ k226 = 3 ∨ k226 = 4 ∨ k226 = 5 by omega) with rfl | rfl | rfl | rfl | rfl | rfl
  · skip
    refine me_tsw (p' := 40) k66_1 (by decide) ?_
    refine me_aload_n (p' := 41) k66_40 rfl rfl ?_
    refine me_gfr (p' := 44) k66_41 rfl (by decide) rfl (b := 11) rfl ?_
    refine me_iconst (p' := 45) k66_44 rfl (v := nI 3) (by decide) ?_
    refine me_cv (p' := 48) k66_45 rfl rfl (by decide) rfl (by decide) (by decide) dp_62 rfl rfl (cl_le mx_62 rfl) (by decide) (cl_sum rfl) (ct_totalOf11 hk (by decide) ?_)
    refine me_reti k66_48 rt_66 rfl ?_
    simp only [sp_ride, sp_rg_s (show 0 < 6 by decide) (by decide), if_true, if_false] at hQ
    exact hQ
  · skip
    refine me_tsw (p' := 49) k66_1 (by decide) ?_
    refine me_aload_n (p' := 50) k66_49 rfl rfl ?_
    refine me_gfr (p' := 53) k66_50 rfl (by decide) rfl (b := 11) rfl ?_
    refine me_iconst (p' := 54) k66_53 rfl (v := nI 4) (by decide) ?_
    refine me_cv (p' := 57) k66_54 rfl rfl (by decide) rfl (by decide) (by decide) dp_62 rfl rfl (cl_le mx_62 rfl) (by decide) (cl_sum rfl) (ct_totalOf11 hk (by decide) ?_)
    refine me_reti k66_57 rt_66 rfl ?_
    simp only [sp_ride, sp_rg_s (show 1 < 6 by decide) (by decide), if_true, if_false] at hQ
    exact hQ
  · skip
    refine me_tsw (p' := 58) k66_1 (by decide) ?_
    refine me_aload_n (p' := 59) k66_58 rfl rfl ?_
    refine me_gfr (p' := 62) k66_59 rfl (by decide) rfl (b := 11) rfl ?_
    refine me_iconst (p' := 63) k66_62 rfl (v := nI 5) (by decide) ?_
    refine me_cv (p' := 66) k66_63 rfl rfl (by decide) rfl (by decide) (by decide) dp_62 rfl rfl (cl_le mx_62 rfl) (by decide) (cl_sum rfl) (ct_totalOf11 hk (by decide) ?_)
    refine me_reti k66_66 rt_66 rfl ?_
    simp only [sp_ride, sp_rg_s (show 2 < 6 by decide) (by decide), if_true, if_false] at hQ
    exact hQ
  · skip
    refine me_tsw (p' := 67) k66_1 (by decide) ?_
    refine me_aload_n (p' := 68) k66_67 rfl rfl ?_
    refine me_gfr (p' := 71) k66_68 rfl (by decide) rfl (b := 11) rfl ?_
    refine me_bipush (p' := 73) k66_71 rfl (v := nI 6) (by decide) ?_
    refine me_cv (p' := 76) k66_73 rfl rfl (by decide) rfl (by decide) (by decide) dp_62 rfl rfl (cl_le mx_62 rfl) (by decide) (cl_sum rfl) (ct_totalOf11 hk (by decide) ?_)
    refine me_reti k66_76 rt_66 rfl ?_
    simp only [sp_ride, sp_rg_s (show 3 < 6 by decide) (by decide), if_true, if_false] at hQ
    exact hQ
  · skip
    refine me_tsw (p' := 77) k66_1 (by decide) ?_
    refine me_aload_n (p' := 78) k66_77 rfl rfl ?_
    refine me_gfr (p' := 81) k66_78 rfl (by decide) rfl (b := 11) rfl ?_
    refine me_iconst (p' := 82) k66_81 rfl (v := nI 1) (by decide) ?_
    refine me_cv (p' := 85) k66_82 rfl rfl (by decide) rfl (by decide) (by decide) dp_62 rfl rfl (cl_le mx_62 rfl) (by decide) (cl_sum rfl) (ct_totalOf11 hk (by decide) ?_)
    refine me_reti k66_85 rt_66 rfl ?_
    simp only [sp_ride, sp_rg_s (show 4 < 6 by decide) (by decide), if_true, if_false] at hQ
    exact hQ
  · skip
    refine me_tsw (p' := 86) k66_1 (by decide) ?_
    refine me_aload_n (p' := 87) k66_86 rfl rfl ?_
    refine me_gfr (p' := 90) k66_87 rfl (by decide) rfl (b := 11) rfl ?_
    refine me_cv (p' := 93) k66_90 rfl rfl (by decide) rfl (by decide) (by decide) dp_67 rfl rfl (cl_le mx_67 rfl) (by decide) (cl_sum rfl) (ct_near11 hk ?_)
    refine me_reti k66_93 rt_66 rfl ?_
    simp only [sp_ride, sp_rg_s (show 5 < 6 by decide) (by decide), if_true, if_false] at hQ
    exact hQ
theorem lp_Clamps {d L : Nat} {xs : Nat → Int32} {I : Nat → Nat → Int32} {Q : Option Value → mj_H → Prop} {n : Nat} (hk : mOk (mSg 11 128 I) n) (hQ : Q (some (.int (sp_lm (mSg 11 128 I) n))) (mg_h L xs I)) : ∀ k : Nat, k ≤ n → mj_Ev (d + 1) 68 4 [.ref 0, .int (sp_lm (mSg 11 128 I) k), .int (nI k)] [] (mg_h L xs I) Q := by
  have hn8 := hk.hn.2
  refine loop_ind (n := n) (fun k hkn ih => ?_)
  refine me_iload_n (p' := 5) k68_4 rfl rfl ?_
  refine me_aload_n (p' := 6) k68_5 rfl rfl ?_
  refine me_gfr (p' := 9) k68_6 rfl (by decide) rfl (b := 11) rfl ?_
  refine me_gfi (p' := 12) k68_9 rfl (by decide) rfl rfl ?_
  rw [show I 11 5 = nI n from hk.hn.1]
  refine me_ic_ge (p' := 15) k68_12 rfl (fun c1 => ?_) (fun c1 => ?_)
  · skip
    rw [cI_le (a := n) (b := k) (by omega) (by omega)] at c1
    refine me_iload_n (p' := 35) k68_34 rfl rfl ?_
    refine me_reti k68_35 rt_68 rfl ?_
    have e8 : k = n := by omega
    subst e8
    exact hQ
  · skip
    rw [cI_le (a := n) (b := k) (by omega) (by omega)] at c1
    refine me_iload_n (p' := 16) k68_15 rfl rfl ?_
    refine me_iconst (p' := 17) k68_16 rfl (v := nI 1) (by decide) ?_
    refine me_aload_n (p' := 18) k68_17 rfl rfl ?_
    refine me_gfr (p' := 21) k68_18 rfl (by decide) rfl (b := 11) rfl ?_
    refine me_iload_n (p' := 22) k68_21 rfl rfl ?_
    refine me_cv (p' := 25) k68_22 rfl rfl (by decide) rfl (by decide) (by decide) dp_20 rfl rfl (cl_le mx_20 rfl) (by decide) (cl_sum rfl) (ct_partOf11 hk (by omega) ?_)
    have hF0 := (hk.ft k (by omega)).2
    refine me_ishl (p' := 26) k68_25 rfl rfl ?_
    refine me_ior (p' := 27) k68_26 rfl rfl ?_
    refine me_istore_n (p' := 28) k68_27 rfl ⟨Nat.le_of_ble_eq_true rfl, rfl⟩ rfl ?_
    refine me_iinc (p' := 31) k68_28 rfl rfl rfl (v := nI (k + 1)) (mI_inc (by decide)) rfl ?_
    refine me_goto k68_31 ?_
    exact ih (by omega)
theorem ct_Clamps {d L : Nat} {xs : Nat → Int32} {I : Nat → Nat → Int32} {Q : Option Value → mj_H → Prop} {n : Nat} (hk : mOk (mSg 11 128 I) n) (hQ : Q (some (.int (sp_lm (mSg 11 128 I) n))) (mg_h L xs I)) : mj_Cl (d + 1) 68 [.ref 0] (mg_h L xs I) Q := by
  refine cl_start mx_68 (ls := [.ref 0, mj_no, mj_no]) rfl ?_
  refine me_iconst (p' := 1) k68_0 rfl (v := nI 0) (by decide) ?_
  refine me_istore_n (p' := 2) k68_1 rfl ⟨Nat.le_of_ble_eq_true rfl, rfl⟩ rfl ?_
  refine me_iconst (p' := 3) k68_2 rfl (v := nI 0) (by decide) ?_
  refine me_istore_n (p' := 4) k68_3 rfl ⟨Nat.le_of_ble_eq_true rfl, rfl⟩ rfl ?_
  exact lp_Clamps hk hQ 0 (Nat.zero_le _)
theorem ct_Cwhy {d L : Nat} {xs : Nat → Int32} {I : Nat → Nat → Int32} {Q : Option Value → mj_H → Prop} {T : mT} (hcg : cCg I 11 T) {v : Int32} (hQ : Q (some (.int (sp_why T v))) (mg_h L xs I)) : mj_Cl (d + 1) 112 [.ref 0, .int v] (mg_h L xs I) Q := by
  refine cl_start mx_112 (ls := [.ref 0, .int v]) rfl ?_
  refine me_iload_n (p' := 1) k112_0 rfl rfl ?_
  refine me_iconst (p' := 2) k112_1 rfl (v := nI 0) (by decide) ?_
  refine me_iconst (p' := 3) k112_2 rfl (v := nI 2) (by decide) ?_
  refine me_cs (p' := 6) k112_3 rfl rfl rfl rfl rfl (cl_le mx_16 rfl) (by decide) (cl_sum rfl) (ct_isWithin (fun e227 => ?_) (fun e227 => ?_))
  · skip
    obtain ⟨k228, hk229, rfl⟩ := mI_in1 (n := 2) (by omega) e227
    have hk229 : k228 < 3 := by omega
    refine me_if_ne (p' := 9) k112_6 rfl (fun h => absurd h (by decide)) (fun _ => ?_)
    refine me_aload_n (p' := 13) k112_12 rfl rfl ?_
    refine me_gfr (p' := 16) k112_13 rfl (by decide) rfl (b := 11) rfl ?_
    refine me_gfr (p' := 19) k112_16 rfl (by decide) rfl (b := 25) rfl ?_
    refine me_iload_n (p' := 20) k112_19 rfl rfl ?_
    refine me_iald (p' := 21) k112_20 rfl (by decide) rfl (j := k228) rfl (by omega) (by decide) rfl ?_
    rw [show I 25 k228 = oI (sp_counts T.kf k228 T.nt) from hcg k228 (by omega)]
    refine me_if_ge (p' := 24) k112_21 rfl (fun c1 => ?_) (fun c1 => ?_)
    · skip
      refine me_aload_n (p' := 30) k112_29 rfl rfl ?_
      refine me_gfr (p' := 33) k112_30 rfl (by decide) rfl (b := 11) rfl ?_
      refine me_gfr (p' := 36) k112_33 rfl (by decide) rfl (b := 25) rfl ?_
      refine me_iload_n (p' := 37) k112_36 rfl rfl ?_
      refine me_iald (p' := 38) k112_37 rfl (by decide) rfl (j := k228) rfl (by omega) (by decide) rfl ?_
      rw [show I 25 k228 = oI (sp_counts T.kf k228 T.nt) from hcg k228 (by omega)]
      refine me_reti k112_38 rt_112 rfl ?_
      simp only [sp_why, sp_rg_s (m := 3) hk229 (by omega), if_neg (Int32.not_lt.mpr c1), if_true, if_false] at hQ
      exact hQ
    · skip
      refine me_ldc (p' := 26) k112_24 rfl (v := (-1000000005)) (by decide) ?_
      refine me_goto k112_26 ?_
      refine me_reti k112_38 rt_112 rfl ?_
      simp only [sp_why, sp_rg_s (m := 3) hk229 (by omega), if_pos (Int32.not_le.mp c1), if_true, if_false] at hQ
      exact hQ
  · skip
    have hz230 : ∀ k : Nat, k < 3 → v ≠ nI k := fun k hk => mI_in0 (n := 2) (by omega) e227 (by omega)
    refine me_if_ne (p' := 9) k112_6 rfl (fun _ => ?_) (fun h => absurd (by decide) h)
    refine me_ldc (p' := 11) k112_9 rfl (v := (-1000000001)) (by decide) ?_
    refine me_reti k112_11 rt_112 rfl ?_
    simp only [sp_why, sp_rg_n (m := 3) (by omega) hz230, if_true, if_false] at hQ
    exact hQ
theorem ct_CtextTold {d L : Nat} {xs : Nat → Int32} {I : Nat → Nat → Int32} {Q : Option Value → mj_H → Prop} {T : mT} (hx : cTx I T) (hnt : I 11 9 = nI T.nt) {t wh : Int32} (hQ : Q (some (.int (sp_ttold T t wh))) (mg_h L xs I)) : mj_Cl (d + 1) 111 [.ref 0, .int t, .int wh] (mg_h L xs I) Q := by
  refine cl_start mx_111 (ls := [.ref 0, .int t, .int wh]) rfl ?_
  refine me_iload_n (p' := 1) k111_0 rfl rfl ?_
  refine me_iconst (p' := 2) k111_1 rfl (v := nI 0) (by decide) ?_
  refine me_aload_n (p' := 3) k111_2 rfl rfl ?_
  refine me_gfr (p' := 6) k111_3 rfl (by decide) rfl (b := 11) rfl ?_
  refine me_gfi (p' := 9) k111_6 rfl (by decide) rfl rfl ?_
  rw [hnt]
  have hnt2 := hx.1
  refine me_iconst (p' := 10) k111_9 rfl (v := nI 1) (by decide) ?_
  refine me_isub (p' := 11) k111_10 rfl rfl ?_
  refine me_cs (p' := 14) k111_11 rfl rfl rfl rfl rfl (cl_le mx_16 rfl) (by decide) (cl_sum rfl) (ct_isWithin (fun e234 => ?_) (fun e234 => ?_))
  · skip
    obtain ⟨k231, hk232, rfl⟩ := mI_lt1 (by omega) e234
    have htx := hx.2 k231 hk232
    refine me_if_eq (p' := 17) k111_14 rfl (fun h => absurd h (by decide)) (fun _ => ?_)
    refine me_iload_n (p' := 18) k111_17 rfl rfl ?_
    refine me_iconst (p' := 19) k111_18 rfl (v := nI 0) (by decide) ?_
    refine me_iconst (p' := 20) k111_19 rfl (v := nI 1) (by decide) ?_
    refine me_cs (p' := 23) k111_20 rfl rfl rfl rfl rfl (cl_le mx_16 rfl) (by decide) (cl_sum rfl) (ct_isWithin (fun e235 => ?_) (fun e235 => ?_))
    · skip
      obtain ⟨k236, hk237, rfl⟩ := mI_in1 (n := 1) (by omega) e235
      have hk237 : k236 < 2 := by omega
      refine me_if_ne (p' := 26) k111_23 rfl (fun h => absurd h (by decide)) (fun _ => ?_)
      refine me_iload_n (p' := 30) k111_29 rfl rfl ?_
      refine me_if_ne (p' := 33) k111_30 rfl (fun c1 => ?_) (fun c1 => ?_)
      · skip
        rw [cI_eq0 (a := k236) (by omega)] at c1
        refine me_aload_n (p' := 34) k111_33 rfl rfl ?_
        refine me_gfr (p' := 37) k111_34 rfl (by decide) rfl (b := 8) rfl ?_
        refine me_iload_n (p' := 38) k111_37 rfl rfl ?_
        refine me_aald (p' := 39) k111_38 rfl (by decide) rfl ⟨by decide, by decide⟩ (j := k231) rfl (by omega) (by decide) (b := 59 + 3 * k231) (rc_8 k231 (by omega)) ?_
        refine me_gfi (p' := 42) k111_39 rfl (by omega) (congrArg Prod.fst (tb_T k231 (by omega))) (rc_Ti k231 (by omega) 3 (by decide) (by decide)) ?_
        rw [htx.2.2.2.2.1]
        refine me_goto k111_42 ?_
        refine me_reti k111_54 rt_111 rfl ?_
        simp only [sp_ttold, sp_rg_s hk232 (by omega), sp_rg_s (m := 2) hk237 (by omega), c1, if_true, if_false] at hQ
        exact hQ
      · skip
        rw [cI_eq0 (a := k236) (by omega)] at c1
        refine me_aload_n (p' := 46) k111_45 rfl rfl ?_
        refine me_gfr (p' := 49) k111_46 rfl (by decide) rfl (b := 8) rfl ?_
        refine me_iload_n (p' := 50) k111_49 rfl rfl ?_
        refine me_aald (p' := 51) k111_50 rfl (by decide) rfl ⟨by decide, by decide⟩ (j := k231) rfl (by omega) (by decide) (b := 59 + 3 * k231) (rc_8 k231 (by omega)) ?_
        refine me_gfi (p' := 54) k111_51 rfl (by omega) (congrArg Prod.fst (tb_T k231 (by omega))) (rc_Ti k231 (by omega) 4 (by decide) (by decide)) ?_
        rw [htx.2.2.2.2.2.1]
        refine me_reti k111_54 rt_111 rfl ?_
        simp only [sp_ttold, sp_rg_s hk232 (by omega), sp_rg_s (m := 2) hk237 (by omega), c1, if_true, if_false] at hQ
        exact hQ
    · skip
      have hz238 : ∀ k : Nat, k < 2 → wh ≠ nI k := fun k hk => mI_in0 (n := 1) (by omega) e235 (by omega)
      refine me_if_ne (p' := 26) k111_23 rfl (fun _ => ?_) (fun h => absurd (by decide) h)
      refine me_ldc (p' := 28) k111_26 rfl (v := (-1000000001)) (by decide) ?_
      refine me_reti k111_28 rt_111 rfl ?_
      simp only [sp_ttold, sp_rg_s hk232 (by omega), sp_rg_n (m := 2) (by omega) hz238, if_true, if_false] at hQ
      exact hQ
  · skip
    have hz233 : ∀ k : Nat, k < T.nt → t ≠ nI k := fun k hk => mI_lt0 (by omega) e234 hk
    refine me_if_eq (p' := 17) k111_14 rfl (fun _ => ?_) (fun h => absurd (by decide) h)
    refine me_ldc (p' := 28) k111_26 rfl (v := (-1000000001)) (by decide) ?_
    refine me_reti k111_28 rt_111 rfl ?_
    simp only [sp_ttold, sp_rg_n (by omega) hz233, if_true, if_false] at hQ
    exact hQ
theorem ct_Cfee {d L : Nat} {xs : Nat → Int32} {I : Nat → Nat → Int32} {Q : Option Value → mj_H → Prop} {T : mT} {n : Nat} (hx : cTx I T) (hcg : cCg I 11 T) (hk : mOk (mSg 11 128 I) n) (hQ : ∀ I2, mFr mSk I I2 → Q (some (.int (sp_fee T (mSg 11 128 I) n))) (mg_h L xs I2)) : mj_Cl (d + 2) 88 [.ref 0] (mg_h L xs I) Q := by
  have hn8 := hk.hn.2
  refine cl_start mx_88 (ls := [.ref 0, mj_no, mj_no]) rfl ?_
  refine me_aload_n (p' := 1) k88_0 rfl rfl ?_
  refine me_gfr (p' := 4) k88_1 rfl (by decide) rfl (b := 11) rfl ?_
  refine me_iconst (p' := 5) k88_4 rfl (v := nI 3) (by decide) ?_
  refine me_cv (p' := 8) k88_5 rfl rfl (by decide) rfl (by decide) (by decide) dp_62 rfl rfl (cl_le mx_62 rfl) (by decide) (cl_sum rfl) (ct_totalOf11 hk (by decide) ?_)
  refine me_istore_n (p' := 9) k88_8 rfl ⟨Nat.le_of_ble_eq_true rfl, rfl⟩ rfl ?_
  refine me_aload_n (p' := 10) k88_9 rfl rfl ?_
  refine me_gfr (p' := 13) k88_10 rfl (by decide) rfl (b := 11) rfl ?_
  refine me_gfr (p' := 16) k88_13 rfl (by decide) rfl (b := 25) rfl ?_
  refine me_iconst (p' := 17) k88_16 rfl (v := nI 1) (by decide) ?_
  refine me_iald (p' := 18) k88_17 rfl (by decide) rfl (j := 1) rfl (by omega) (by decide) rfl ?_
  rw [show I 25 1 = oI (sp_counts T.kf 1 T.nt) from hcg 1 (by decide)]
  refine me_istore_n (p' := 19) k88_18 rfl ⟨Nat.le_of_ble_eq_true rfl, rfl⟩ rfl ?_
  refine me_iload_n (p' := 20) k88_19 rfl rfl ?_
  refine me_if_ge (p' := 23) k88_20 rfl (fun c1 => ?_) (fun c1 => ?_)
  · skip
    obtain ⟨t, hct, htn, htk⟩ := sp_counts_some (Int32.not_lt.mpr c1)
    obtain ⟨ht1, ht2, ht3, ht4, ht5, ht6, ht7, ht8⟩ := hx.2 t htn
    have hnt := hx.1
    rw [hct]
    simp only [oI]
    refine me_aload_n (p' := 28) k88_27 rfl rfl ?_
    refine me_gfr (p' := 31) k88_28 rfl (by decide) rfl (b := 8) rfl ?_
    refine me_iload_n (p' := 32) k88_31 rfl rfl ?_
    refine me_aald (p' := 33) k88_32 rfl (by decide) rfl ⟨by decide, by decide⟩ (j := t) rfl (by omega) (by decide) (b := 59 + 3 * t) (rc_8 t (by omega)) ?_
    refine me_iload_n (p' := 34) k88_33 rfl rfl ?_
    refine me_aload_n (p' := 35) k88_34 rfl rfl ?_
    refine me_gfr (p' := 38) k88_35 rfl (by decide) rfl (b := 11) rfl ?_
    refine me_gfi (p' := 41) k88_38 rfl (by decide) rfl rfl ?_
    rw [show I 11 7 = (mSg 11 128 I) 2 from rfl]
    refine me_iconst (p' := 42) k88_41 rfl (v := nI 0) (by decide) ?_
    refine me_cv (p' := 45) k88_42 rfl rfl (by omega) (congrArg Prod.fst (tb_T t (by omega))) (by decide) (by decide) dp_22 rfl rfl (cl_le mx_22 rfl) (by decide) (cl_sum rfl) (ct_gives (by omega) ht4 rfl ht2 ht3 ht7 (fun I2 hI2 => ?_))
    rw [show nI 0 = (0 : Int32) from rfl, ← sp_val_some (dflt := (sp_sum (mSg 11 128 I) (-1) 3 n)) hct]
    have hfr2 : mFr mSk I I2 := hI2.mono (fun x hx => by rw [List.mem_singleton.mp hx]; exact sk_mem t (by omega))
    refine me_reti k88_45 rt_88 rfl ?_
    exact hQ _ hfr2
  · skip
    refine me_iload_n (p' := 24) k88_23 rfl rfl ?_
    refine me_goto k88_24 ?_
    refine me_reti k88_45 rt_88 rfl ?_
    have := hQ I mFr.rf
    rw [sp_fee, sp_val_none (Int32.not_le.mp c1) hx.1] at this
    exact this
theorem ct_Cfine {d L : Nat} {xs : Nat → Int32} {I : Nat → Nat → Int32} {Q : Option Value → mj_H → Prop} {T : mT} {n : Nat} (hx : cTx I T) (hcg : cCg I 11 T) (hk : mOk (mSg 11 128 I) n) {car : Int32} (hQ : ∀ I2, mFr mSk I I2 → Q (some (.int (sp_fine T (mSg 11 128 I) n car))) (mg_h L xs I2)) : mj_Cl (d + 2) 89 [.ref 0, .int car] (mg_h L xs I) Q := by
  have hn8 := hk.hn.2
  refine cl_start mx_89 (ls := [.ref 0, .int car, mj_no, mj_no]) rfl ?_
  refine me_aload_n (p' := 1) k89_0 rfl rfl ?_
  refine me_iload_n (p' := 2) k89_1 rfl rfl ?_
  refine me_cv (p' := 5) k89_2 rfl rfl (by decide) rfl (by decide) (by decide) dp_19 rfl rfl (cl_le mx_19 rfl) (by decide) (cl_sum rfl) (ct_CisCar hk (fun k239 hk240 he => ?_) (fun hz241 => ?_))
  · skip
    subst he
    refine me_if_ne (p' := 8) k89_5 rfl (fun h => absurd h (by decide)) (fun _ => ?_)
    refine me_aload_n (p' := 12) k89_11 rfl rfl ?_
    refine me_gfr (p' := 15) k89_12 rfl (by decide) rfl (b := 11) rfl ?_
    refine me_gfr (p' := 18) k89_15 rfl (by decide) rfl (b := 17) rfl ?_
    refine me_iconst (p' := 19) k89_18 rfl (v := nI 4) (by decide) ?_
    refine me_aald (p' := 20) k89_19 rfl (by decide) rfl ⟨by decide, by decide⟩ (j := 4) rfl (by omega) (by decide) (b := 22) rfl ?_
    refine me_iload_n (p' := 21) k89_20 rfl rfl ?_
    refine me_iald (p' := 22) k89_21 rfl (by decide) rfl (j := k239) rfl (by omega) (by decide) rfl ?_
    rw [sgR11c4 (I := I) (c := k239) (by omega)]
    refine me_istore_n (p' := 23) k89_22 rfl ⟨Nat.le_of_ble_eq_true rfl, rfl⟩ rfl ?_
    refine me_aload_n (p' := 24) k89_23 rfl rfl ?_
    refine me_gfr (p' := 27) k89_24 rfl (by decide) rfl (b := 11) rfl ?_
    refine me_gfr (p' := 30) k89_27 rfl (by decide) rfl (b := 25) rfl ?_
    refine me_iconst (p' := 31) k89_30 rfl (v := nI 2) (by decide) ?_
    refine me_iald (p' := 32) k89_31 rfl (by decide) rfl (j := 2) rfl (by omega) (by decide) rfl ?_
    rw [show I 25 2 = oI (sp_counts T.kf 2 T.nt) from hcg 2 (by decide)]
    refine me_istore_n (p' := 33) k89_32 rfl ⟨Nat.le_of_ble_eq_true rfl, rfl⟩ rfl ?_
    refine me_iload_n (p' := 34) k89_33 rfl rfl ?_
    refine me_if_ge (p' := 37) k89_34 rfl (fun c1 => ?_) (fun c1 => ?_)
    · skip
      obtain ⟨t, hct, htn, htk⟩ := sp_counts_some (Int32.not_lt.mpr c1)
      obtain ⟨ht1, ht2, ht3, ht4, ht5, ht6, ht7, ht8⟩ := hx.2 t htn
      have hnt := hx.1
      rw [hct]
      simp only [oI]
      refine me_aload_n (p' := 42) k89_41 rfl rfl ?_
      refine me_gfr (p' := 45) k89_42 rfl (by decide) rfl (b := 8) rfl ?_
      refine me_iload_n (p' := 46) k89_45 rfl rfl ?_
      refine me_aald (p' := 47) k89_46 rfl (by decide) rfl ⟨by decide, by decide⟩ (j := t) rfl (by omega) (by decide) (b := 59 + 3 * t) (rc_8 t (by omega)) ?_
      refine me_aload_n (p' := 48) k89_47 rfl rfl ?_
      refine me_gfr (p' := 51) k89_48 rfl (by decide) rfl (b := 11) rfl ?_
      refine me_gfr (p' := 54) k89_51 rfl (by decide) rfl (b := 17) rfl ?_
      refine me_iconst (p' := 55) k89_54 rfl (v := nI 1) (by decide) ?_
      refine me_aald (p' := 56) k89_55 rfl (by decide) rfl ⟨by decide, by decide⟩ (j := 1) rfl (by omega) (by decide) (b := 19) rfl ?_
      refine me_iload_n (p' := 57) k89_56 rfl rfl ?_
      refine me_iald (p' := 58) k89_57 rfl (by decide) rfl (j := k239) rfl (by omega) (by decide) rfl ?_
      rw [sgR11c1 (I := I) (c := k239) (by omega)]
      refine me_iload_n (p' := 59) k89_58 rfl rfl ?_
      refine me_iconst (p' := 60) k89_59 rfl (v := nI 0) (by decide) ?_
      refine me_cv (p' := 63) k89_60 rfl rfl (by omega) (congrArg Prod.fst (tb_T t (by omega))) (by decide) (by decide) dp_22 rfl rfl (cl_le mx_22 rfl) (by decide) (cl_sum rfl) (ct_gives (by omega) ht4 rfl ht2 ht3 ht7 (fun I2 hI2 => ?_))
      rw [show nI 0 = (0 : Int32) from rfl, ← sp_val_some (dflt := ((mSg 11 128 I) (53 + 7 * k239 + 4))) hct]
      have hfr2 : mFr mSk I I2 := hI2.mono (fun x hx => by rw [List.mem_singleton.mp hx]; exact sk_mem t (by omega))
      refine me_reti k89_63 rt_89 rfl ?_
      simp only [sp_fine, sp_rg_s hk240 (by omega), if_true, if_false] at hQ
      exact hQ _ hfr2
    · skip
      refine me_iload_n (p' := 38) k89_37 rfl rfl ?_
      refine me_goto k89_38 ?_
      refine me_reti k89_63 rt_89 rfl ?_
      simp only [sp_fine, sp_rg_s hk240 (by omega), if_true, if_false] at hQ
      rw [sp_val_none (Int32.not_le.mp c1) hx.1] at hQ
      exact hQ _ mFr.rf
  · skip
    refine me_if_ne (p' := 8) k89_5 rfl (fun _ => ?_) (fun h => absurd (by decide) h)
    refine me_ldc (p' := 10) k89_8 rfl (v := (-1000000001)) (by decide) ?_
    refine me_reti k89_10 rt_89 rfl ?_
    simp only [sp_fine, sp_rg_n (by omega) hz241, if_true, if_false] at hQ
    exact hQ _ mFr.rf
