/-! ===== the class: behind ===== -/
theorem ct_Cbehind {d L : Nat} {xs : Nat → Int32} {I : Nat → Nat → Int32} {Q : Option Value → mj_H → Prop} {T : mT} {n : Nat} (hx : cTx I T) (hcg : cCg I 11 T) (hk : mOk (mSg 11 128 I) n) {v wh : Int32} (hQ : ∀ I2, mFr (mRc 26 ++ mSk) I I2 → Q (some (.int (sp_behind T (mSg 11 128 I) n v wh))) (mg_h L xs I2)) : mj_Cl (d + 5) 69 [.ref 0, .int v, .int wh] (mg_h L xs I) Q := by
  have hn8 := hk.hn.2
  refine cl_start mx_69 (ls := [.ref 0, .int v, .int wh, mj_no, mj_no]) rfl ?_
  refine me_iload_n (p' := 1) k69_0 rfl rfl ?_
  refine me_iconst (p' := 2) k69_1 rfl (v := nI 0) (by decide) ?_
  refine me_iconst (p' := 3) k69_2 rfl (v := nI 3) (by decide) ?_
  refine me_cs (p' := 6) k69_3 rfl rfl rfl rfl rfl (cl_le mx_16 rfl) (by decide) (cl_sum rfl) (ct_isWithin (fun e => ?_) (fun e => ?_))
  · skip
    obtain ⟨j, rfl, hj⟩ : ∃ j : Nat, wh = nI j ∧ j < 4 := by
      obtain ⟨j, rfl, hj⟩ := mI_of e.1
      exact ⟨j, rfl, by have := (cI_le hj (by decide)).mp e.2; omega⟩
    refine me_istore_n (p' := 7) k69_6 rfl ⟨Nat.le_of_ble_eq_true rfl, rfl⟩ rfl ?_
    refine me_iload_n (p' := 8) k69_7 rfl rfl ?_
    refine me_iconst (p' := 9) k69_8 rfl (v := nI 4) (by decide) ?_
    refine me_ic_lt (p' := 12) k69_9 rfl (fun c1 => ?_) (fun c1 => ?_)
    · skip
      rw [cI_lt (a := j) (b := 4) (by omega) (by omega)] at c1
      refine me_iconst (p' := 27) k69_26 rfl (v := nI 0) (by decide) ?_
      refine me_istore (p' := 29) k69_27 rfl ⟨Nat.le_of_ble_eq_true rfl, rfl⟩ rfl ?_
      refine me_iload_n (p' := 30) k69_29 rfl rfl ?_
      refine me_iconst (p' := 31) k69_30 rfl (v := nI 0) (by decide) ?_
      refine me_sipush (p' := 34) k69_31 rfl (v := nI 300) (by decide) ?_
      refine me_cs (p' := 37) k69_34 rfl rfl rfl rfl rfl (cl_le mx_16 rfl) (by decide) (cl_sum rfl) (ct_isWithin (fun e2 => ?_) (fun e2 => ?_))
      · skip
        obtain ⟨m, rfl, hm⟩ : ∃ m : Nat, v = nI m ∧ m < 301 := by
          obtain ⟨m, rfl, hm⟩ := mI_of e2.1
          exact ⟨m, rfl, by have := (cI_le hm (by decide)).mp e2.2; omega⟩
        refine me_if_eq (p' := 40) k69_37 rfl (fun h => absurd h (by decide)) (fun _ => ?_)
        refine me_iload_n (p' := 41) k69_40 rfl rfl ?_
        refine me_if_ne (p' := 44) k69_41 rfl (fun h => absurd h (by decide)) (fun _ => ?_)
        refine me_aload_n (p' := 53) k69_52 rfl rfl ?_
        refine me_gfr (p' := 56) k69_53 rfl (by decide) rfl (b := 26) rfl ?_
        refine me_aload_n (p' := 57) k69_56 rfl rfl ?_
        refine me_gfr (p' := 60) k69_57 rfl (by decide) rfl (b := 11) rfl ?_
        refine me_cv (p' := 63) k69_60 rfl rfl (by decide) rfl (by decide) (by decide) dp_70 rfl rfl (cl_le mx_70 rfl) (by decide) (cl_sum rfl) (ct_bec mFr.rf hcg (fun K542 hK543 => ?_))
        refine me_aload_n (p' := 64) k69_63 rfl rfl ?_
        refine me_gfr (p' := 67) k69_64 rfl (by decide) rfl (b := 26) rfl ?_
        refine me_iload_n (p' := 68) k69_67 rfl rfl ?_
        refine me_cv (p' := 71) k69_68 rfl rfl (by decide) rfl (by decide) (by decide) dp_63 rfl rfl (cl_le mx_63 rfl) (by decide) (cl_sum rfl) (ct_pass hK543 hx hk (by omega) (fun K544 hK545 => ?_))
        refine me_iload_n (p' := 72) k69_71 rfl rfl ?_
        refine me_if_eq (p' := 75) k69_72 rfl (fun h => absurd h (by decide)) (fun _ => ?_)
        refine me_aload_n (p' := 76) k69_75 rfl rfl ?_
        refine me_gfr (p' := 79) k69_76 rfl (by decide) rfl (b := 26) rfl ?_
        refine me_iconst (p' := 80) k69_79 rfl (v := nI 3) (by decide) ?_
        refine me_iload_n (p' := 81) k69_80 rfl rfl ?_
        refine me_iadd (p' := 82) k69_81 rfl (v := nI (3 + j)) (mI_add _ _) ?_
        refine me_cv (p' := 85) k69_82 rfl rfl (by decide) rfl (by decide) (by decide) dp_62 rfl rfl (cl_le mx_62 rfl) (by decide) (cl_sum rfl) (ct_tot hK545 (mOk.secs (T := T) (aw := -1) hk m) (by omega) ?_)
        refine me_goto k69_85 ?_
        refine me_reti k69_101 rt_69 rfl ?_
        simp only [sp_behind, sp_rg_s hj (by decide), sp_rg_s hm (by decide), if_true, if_false] at hQ
        exact hQ _ hK545.fr
      · skip
        have hnm : ∀ k : Nat, k < 301 → v ≠ nI k := by
          rintro k hk rfl
          exact e2 ⟨nI_pos' (by omega), (cI_le (by omega) (by decide)).mpr (by omega)⟩
        refine me_if_eq (p' := 40) k69_37 rfl (fun _ => ?_) (fun h => absurd (by decide) h)
        refine me_ldc (p' := 51) k69_49 rfl (v := (-1000000001)) (by decide) ?_
        refine me_reti k69_51 rt_69 rfl ?_
        simp only [sp_behind, sp_rg_s hj (by decide), sp_rg_n (m := 301) (by decide) hnm, if_true, if_false] at hQ
        exact hQ _ mFr.rf
    · skip
      rw [cI_lt (a := j) (b := 4) (by omega) (by omega)] at c1
      exfalso
      omega
  · skip
    have h4 : ∀ k : Nat, k < 4 → wh ≠ nI k := by
      rintro k hk rfl
      exact e ⟨nI_pos' (by omega), (cI_le (by omega) (by decide)).mpr (by omega)⟩
    refine me_istore_n (p' := 7) k69_6 rfl ⟨Nat.le_of_ble_eq_true rfl, rfl⟩ rfl ?_
    refine me_iload_n (p' := 8) k69_7 rfl rfl ?_
    refine me_iconst (p' := 9) k69_8 rfl (v := nI 4) (by decide) ?_
    refine me_ic_lt (p' := 12) k69_9 rfl (fun c2 => ?_) (fun c2 => ?_)
    · skip
      refine me_iconst (p' := 27) k69_26 rfl (v := nI 0) (by decide) ?_
      refine me_istore (p' := 29) k69_27 rfl ⟨Nat.le_of_ble_eq_true rfl, rfl⟩ rfl ?_
      refine me_iload_n (p' := 30) k69_29 rfl rfl ?_
      refine me_iconst (p' := 31) k69_30 rfl (v := nI 0) (by decide) ?_
      refine me_sipush (p' := 34) k69_31 rfl (v := nI 300) (by decide) ?_
      refine me_cs (p' := 37) k69_34 rfl rfl rfl rfl rfl (cl_le mx_16 rfl) (by decide) (cl_sum rfl) (ct_isWithin (fun e2 => ?_) (fun e2 => ?_))
      · skip
        obtain ⟨m, rfl, hm⟩ : ∃ m : Nat, v = nI m ∧ m < 301 := by
          obtain ⟨m, rfl, hm⟩ := mI_of e2.1
          exact ⟨m, rfl, by have := (cI_le hm (by decide)).mp e2.2; omega⟩
        refine me_if_eq (p' := 40) k69_37 rfl (fun h => absurd h (by decide)) (fun _ => ?_)
        refine me_iload_n (p' := 41) k69_40 rfl rfl ?_
        refine me_if_ne (p' := 44) k69_41 rfl (fun _ => ?_) (fun h => absurd (by decide) h)
        refine me_iload (p' := 46) k69_44 rfl rfl ?_
        refine me_if_ne (p' := 49) k69_46 rfl (fun _ => ?_) (fun h => absurd (by decide) h)
        refine me_ldc (p' := 51) k69_49 rfl (v := (-1000000001)) (by decide) ?_
        refine me_reti k69_51 rt_69 rfl ?_
        have h5 : ∀ k : Nat, k < n → wh - nI 4 ≠ nI k := by
          intro k hk z
          have : wh = nI (k + 4) := by
            rw [← mI_add, ← z]
            simp
          subst this
          exact absurd ((cI_lt (by omega) (by decide)).mp c2) (by omega)
        simp only [sp_behind, sp_rg_s hm (by decide), sp_rg_n (m := 4) (by decide) h4, sp_rg_n (m := n) (by omega) h5, if_true, if_false] at hQ
        exact hQ _ mFr.rf
      · skip
        have hnm : ∀ k : Nat, k < 301 → v ≠ nI k := by
          rintro k hk rfl
          exact e2 ⟨nI_pos' (by omega), (cI_le (by omega) (by decide)).mpr (by omega)⟩
        refine me_if_eq (p' := 40) k69_37 rfl (fun _ => ?_) (fun h => absurd (by decide) h)
        refine me_ldc (p' := 51) k69_49 rfl (v := (-1000000001)) (by decide) ?_
        refine me_reti k69_51 rt_69 rfl ?_
        simp only [sp_behind, sp_rg_n (m := 301) (by decide) hnm, if_true, if_false] at hQ
        exact hQ _ mFr.rf
    · skip
      refine me_aload_n (p' := 13) k69_12 rfl rfl ?_
      refine me_iload_n (p' := 14) k69_13 rfl rfl ?_
      refine me_iconst (p' := 15) k69_14 rfl (v := nI 4) (by decide) ?_
      refine me_isub (p' := 16) k69_15 rfl rfl ?_
      refine me_cv (p' := 19) k69_16 rfl rfl (by decide) rfl (by decide) (by decide) dp_19 rfl rfl (cl_le mx_19 rfl) (by decide) (cl_sum rfl) (ct_CisCar hk (fun kC hkC heC => ?_) (fun hzC => ?_))
      · skip
        obtain rfl : wh = nI (kC + 4) := by
          rw [← mI_add, ← heC]
          simp
        refine me_if_eq (p' := 22) k69_19 rfl (fun h => absurd h (by decide)) (fun _ => ?_)
        refine me_iconst (p' := 23) k69_22 rfl (v := nI 1) (by decide) ?_
        refine me_goto k69_23 ?_
        refine me_istore (p' := 29) k69_27 rfl ⟨Nat.le_of_ble_eq_true rfl, rfl⟩ rfl ?_
        refine me_iload_n (p' := 30) k69_29 rfl rfl ?_
        refine me_iconst (p' := 31) k69_30 rfl (v := nI 0) (by decide) ?_
        refine me_sipush (p' := 34) k69_31 rfl (v := nI 300) (by decide) ?_
        refine me_cs (p' := 37) k69_34 rfl rfl rfl rfl rfl (cl_le mx_16 rfl) (by decide) (cl_sum rfl) (ct_isWithin (fun e2 => ?_) (fun e2 => ?_))
        · skip
          obtain ⟨m, rfl, hm⟩ : ∃ m : Nat, v = nI m ∧ m < 301 := by
            obtain ⟨m, rfl, hm⟩ := mI_of e2.1
            exact ⟨m, rfl, by have := (cI_le hm (by decide)).mp e2.2; omega⟩
          refine me_if_eq (p' := 40) k69_37 rfl (fun h => absurd h (by decide)) (fun _ => ?_)
          refine me_iload_n (p' := 41) k69_40 rfl rfl ?_
          refine me_if_ne (p' := 44) k69_41 rfl (fun _ => ?_) (fun h => absurd (by decide) h)
          refine me_iload (p' := 46) k69_44 rfl rfl ?_
          refine me_if_ne (p' := 49) k69_46 rfl (fun h => absurd h (by decide)) (fun _ => ?_)
          refine me_aload_n (p' := 53) k69_52 rfl rfl ?_
          refine me_gfr (p' := 56) k69_53 rfl (by decide) rfl (b := 26) rfl ?_
          refine me_aload_n (p' := 57) k69_56 rfl rfl ?_
          refine me_gfr (p' := 60) k69_57 rfl (by decide) rfl (b := 11) rfl ?_
          refine me_cv (p' := 63) k69_60 rfl rfl (by decide) rfl (by decide) (by decide) dp_70 rfl rfl (cl_le mx_70 rfl) (by decide) (cl_sum rfl) (ct_bec mFr.rf hcg (fun K546 hK547 => ?_))
          refine me_aload_n (p' := 64) k69_63 rfl rfl ?_
          refine me_gfr (p' := 67) k69_64 rfl (by decide) rfl (b := 26) rfl ?_
          refine me_iload_n (p' := 68) k69_67 rfl rfl ?_
          refine me_cv (p' := 71) k69_68 rfl rfl (by decide) rfl (by decide) (by decide) dp_63 rfl rfl (cl_le mx_63 rfl) (by decide) (cl_sum rfl) (ct_pass hK547 hx hk (by omega) (fun K548 hK549 => ?_))
          refine me_iload_n (p' := 72) k69_71 rfl rfl ?_
          refine me_if_eq (p' := 75) k69_72 rfl (fun _ => ?_) (fun h => absurd (by decide) h)
          refine me_aload_n (p' := 89) k69_88 rfl rfl ?_
          refine me_gfr (p' := 92) k69_89 rfl (by decide) rfl (b := 26) rfl ?_
          refine me_gfr (p' := 95) k69_92 rfl (by decide) rfl (b := 32) rfl ?_
          refine me_iconst (p' := 96) k69_95 rfl (v := nI 1) (by decide) ?_
          refine me_aald (p' := 97) k69_96 rfl (by decide) rfl ⟨by decide, by decide⟩ (j := 1) rfl (by omega) (by decide) (b := 34) rfl ?_
          refine me_iload_n (p' := 98) k69_97 rfl rfl ?_
          refine me_iconst (p' := 99) k69_98 rfl (v := nI 4) (by decide) ?_
          refine me_isub (p' := 100) k69_99 rfl rfl ?_
          rw [mI_sub (by omega), Nat.add_sub_cancel]
          refine me_iald (p' := 101) k69_100 rfl (by decide) rfl (j := kC) rfl (by omega) (by decide) rfl ?_
          rw [show K548 34 kC = (sp_secs T (mSg 11 128 I) (-1) n m) (53 + 7 * kC + 1) from by rw [← hK549.sg, sg_car (by decide) (by omega)]]
          refine me_reti k69_101 rt_69 rfl ?_
          simp only [sp_behind, sp_rg_n (m := 4) (by decide) h4, mI_sub (show 4 ≤ kC + 4 by omega), Nat.add_sub_cancel, sp_rg_s hkC (by omega), sp_rg_s hm (by decide), if_true, if_false] at hQ
          exact hQ _ hK549.fr
        · skip
          have hnm : ∀ k : Nat, k < 301 → v ≠ nI k := by
            rintro k hk rfl
            exact e2 ⟨nI_pos' (by omega), (cI_le (by omega) (by decide)).mpr (by omega)⟩
          refine me_if_eq (p' := 40) k69_37 rfl (fun _ => ?_) (fun h => absurd (by decide) h)
          refine me_ldc (p' := 51) k69_49 rfl (v := (-1000000001)) (by decide) ?_
          refine me_reti k69_51 rt_69 rfl ?_
          simp only [sp_behind, sp_rg_n (m := 4) (by decide) h4, mI_sub (show 4 ≤ kC + 4 by omega), Nat.add_sub_cancel, sp_rg_s hkC (by omega), sp_rg_n (m := 301) (by decide) hnm, if_true, if_false] at hQ
          exact hQ _ mFr.rf
      · skip
        refine me_if_eq (p' := 22) k69_19 rfl (fun _ => ?_) (fun h => absurd (by decide) h)
        refine me_iconst (p' := 27) k69_26 rfl (v := nI 0) (by decide) ?_
        refine me_istore (p' := 29) k69_27 rfl ⟨Nat.le_of_ble_eq_true rfl, rfl⟩ rfl ?_
        refine me_iload_n (p' := 30) k69_29 rfl rfl ?_
        refine me_iconst (p' := 31) k69_30 rfl (v := nI 0) (by decide) ?_
        refine me_sipush (p' := 34) k69_31 rfl (v := nI 300) (by decide) ?_
        refine me_cs (p' := 37) k69_34 rfl rfl rfl rfl rfl (cl_le mx_16 rfl) (by decide) (cl_sum rfl) (ct_isWithin (fun e2 => ?_) (fun e2 => ?_))
        · skip
          obtain ⟨m, rfl, hm⟩ : ∃ m : Nat, v = nI m ∧ m < 301 := by
            obtain ⟨m, rfl, hm⟩ := mI_of e2.1
            exact ⟨m, rfl, by have := (cI_le hm (by decide)).mp e2.2; omega⟩
          refine me_if_eq (p' := 40) k69_37 rfl (fun h => absurd h (by decide)) (fun _ => ?_)
          refine me_iload_n (p' := 41) k69_40 rfl rfl ?_
          refine me_if_ne (p' := 44) k69_41 rfl (fun _ => ?_) (fun h => absurd (by decide) h)
          refine me_iload (p' := 46) k69_44 rfl rfl ?_
          refine me_if_ne (p' := 49) k69_46 rfl (fun _ => ?_) (fun h => absurd (by decide) h)
          refine me_ldc (p' := 51) k69_49 rfl (v := (-1000000001)) (by decide) ?_
          refine me_reti k69_51 rt_69 rfl ?_
          simp only [sp_behind, sp_rg_n (m := 4) (by decide) h4, sp_rg_n (by omega) hzC, sp_rg_s hm (by decide), if_true, if_false] at hQ
          exact hQ _ mFr.rf
        · skip
          have hnm : ∀ k : Nat, k < 301 → v ≠ nI k := by
            rintro k hk rfl
            exact e2 ⟨nI_pos' (by omega), (cI_le (by omega) (by decide)).mpr (by omega)⟩
          refine me_if_eq (p' := 40) k69_37 rfl (fun _ => ?_) (fun h => absurd (by decide) h)
          refine me_ldc (p' := 51) k69_49 rfl (v := (-1000000001)) (by decide) ?_
          refine me_reti k69_51 rt_69 rfl ?_
          simp only [sp_behind, sp_rg_n (m := 4) (by decide) h4, sp_rg_n (by omega) hzC, sp_rg_n (m := 301) (by decide) hnm, if_true, if_false] at hQ
          exact hQ _ mFr.rf
