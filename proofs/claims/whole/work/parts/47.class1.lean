/-! ===== the class: what is called (1) ===== -/
theorem ct_CisCar {d L : Nat} {xs : Nat → Int32} {I : Nat → Nat → Int32} {Q : Option Value → mj_H → Prop} {n : Nat} (hk : mOk (mSg 11 128 I) n) {v : Int32} (h1 : ∀ k : Nat, k < n → v = nI k → Q (some (.int (nI 1))) (mg_h L xs I)) (h0 : (∀ k : Nat, k < n → v ≠ nI k) → Q (some (.int (nI 0))) (mg_h L xs I)) : mj_Cl d 19 [.ref 0, .int v] (mg_h L xs I) Q := by
  have hn8 := hk.hn.2
  refine cl_start mx_19 (ls := [.ref 0, .int v]) rfl ?_
  refine me_iload_n (p' := 1) k19_0 rfl rfl ?_
  refine me_if_lt (p' := 4) k19_1 rfl (fun c1 => ?_) (fun c1 => ?_)
  · skip
    refine me_iconst (p' := 20) k19_19 rfl (v := nI 0) (by decide) ?_
    refine me_reti k19_20 rt_19 (by decide) ?_
    exact h0 (fun k hk9 => mI_out (n := n) (by omega) (Or.inl c1) hk9)
  · skip
    refine me_iload_n (p' := 5) k19_4 rfl rfl ?_
    refine me_aload_n (p' := 6) k19_5 rfl rfl ?_
    refine me_gfr (p' := 9) k19_6 rfl (by decide) rfl (b := 11) rfl ?_
    refine me_gfi (p' := 12) k19_9 rfl (by decide) rfl rfl ?_
    rw [show I 11 5 = nI n from hk.hn.1]
    refine me_ic_ge (p' := 15) k19_12 rfl (fun c2 => ?_) (fun c2 => ?_)
    · skip
      refine me_iconst (p' := 20) k19_19 rfl (v := nI 0) (by decide) ?_
      refine me_reti k19_20 rt_19 (by decide) ?_
      exact h0 (fun k hk9 => mI_out (n := n) (by omega) (Or.inr c2) hk9)
    · skip
      refine me_iconst (p' := 16) k19_15 rfl (v := nI 1) (by decide) ?_
      refine me_goto k19_16 ?_
      refine me_reti k19_20 rt_19 (by decide) ?_
      obtain ⟨k, hk9, rfl⟩ := mI_rng (n := n) (by omega) c1 c2
      exact h1 k hk9 rfl
theorem ct_isWeight {d L : Nat} {xs : Nat → Int32} {I : Nat → Nat → Int32} {Q : Option Value → mj_H → Prop} {v : Int32} (h1 : nI 1 ≤ v ∧ v ≤ nI 99 → Q (some (.int (nI 1))) (mg_h L xs I)) (h0 : ¬ (nI 1 ≤ v ∧ v ≤ nI 99) → Q (some (.int (nI 0))) (mg_h L xs I)) : mj_Cl (d + 1) 15 [.int v] (mg_h L xs I) Q := by
  refine cl_start mx_15 (ls := [.int v]) rfl ?_
  refine me_iload_n (p' := 1) k15_0 rfl rfl ?_
  refine me_iconst (p' := 2) k15_1 rfl (v := nI 1) (by decide) ?_
  refine me_bipush (p' := 4) k15_2 rfl (v := nI 99) (by decide) ?_
  refine me_cs (p' := 7) k15_4 rfl rfl rfl rfl rfl (cl_le mx_16 rfl) (by decide) (cl_sum rfl) (ct_isWithin (fun e => ?_) (fun e => ?_))
  · skip
    refine me_reti k15_7 rt_15 (by decide) ?_
    exact h1 e
  · skip
    refine me_reti k15_7 rt_15 (by decide) ?_
    exact h0 e
theorem ct_isFar {d L : Nat} {xs : Nat → Int32} {I : Nat → Nat → Int32} {Q : Option Value → mj_H → Prop} {v : Int32} (h1 : nI 1 ≤ v ∧ v ≤ nI 100 → Q (some (.int (nI 1))) (mg_h L xs I)) (h0 : ¬ (nI 1 ≤ v ∧ v ≤ nI 100) → Q (some (.int (nI 0))) (mg_h L xs I)) : mj_Cl (d + 1) 73 [.int v] (mg_h L xs I) Q := by
  refine cl_start mx_73 (ls := [.int v]) rfl ?_
  refine me_iload_n (p' := 1) k73_0 rfl rfl ?_
  refine me_iconst (p' := 2) k73_1 rfl (v := nI 1) (by decide) ?_
  refine me_bipush (p' := 4) k73_2 rfl (v := nI 100) (by decide) ?_
  refine me_cs (p' := 7) k73_4 rfl rfl rfl rfl rfl (cl_le mx_16 rfl) (by decide) (cl_sum rfl) (ct_isWithin (fun e => ?_) (fun e => ?_))
  · skip
    refine me_reti k73_7 rt_73 (by decide) ?_
    exact h1 e
  · skip
    refine me_reti k73_7 rt_73 (by decide) ?_
    exact h0 e
theorem ct_Ccar {d L : Nat} {xs : Nat → Int32} {I : Nat → Nat → Int32} {Q : Option Value → mj_H → Prop} {n : Nat} (hk : mOk (mSg 11 128 I) n) {q f w : Int32} (hQ : ∀ I2, mFr (mRg 11) I I2 → mSg 11 128 I2 = (sp_car (mSg 11 128 I) n q f w).2 → Q (some (.int (sp_car (mSg 11 128 I) n q f w).1)) (mg_h L xs I2)) : mj_Cl (d + 2) 12 [.ref 0, .int q, .int f, .int w] (mg_h L xs I) Q := by
  have hn8 := hk.hn.2
  refine cl_start mx_12 (ls := [.ref 0, .int q, .int f, .int w]) rfl ?_
  refine me_iload_n (p' := 1) k12_0 rfl rfl ?_
  refine me_cs (p' := 4) k12_1 rfl rfl rfl rfl rfl (cl_le mx_13 rfl) (by decide) (cl_sum rfl) (ct_CisKind (fun k131 hk132 he => ?_) (fun hz133 => ?_))
  · skip
    subst he
    refine me_if_eq (p' := 7) k12_4 rfl (fun h => absurd h (by decide)) (fun _ => ?_)
    refine me_iload_n (p' := 8) k12_7 rfl rfl ?_
    refine me_cs (p' := 11) k12_8 rfl rfl rfl rfl rfl (cl_le mx_14 rfl) (by decide) (cl_sum rfl) (ct_CisFoot (fun k134 hk135 he => ?_) (fun hz136 => ?_))
    · skip
      subst he
      refine me_if_eq (p' := 14) k12_11 rfl (fun h => absurd h (by decide)) (fun _ => ?_)
      refine me_iload_n (p' := 15) k12_14 rfl rfl ?_
      refine me_cs (p' := 18) k12_15 rfl rfl rfl rfl rfl (cl_le mx_15 rfl) (by decide) (cl_sum rfl) (ct_isWeight (fun e137 => ?_) (fun e137 => ?_))
      · skip
        refine me_if_ne (p' := 21) k12_18 rfl (fun h => absurd h (by decide)) (fun _ => ?_)
        refine me_aload_n (p' := 25) k12_24 rfl rfl ?_
        refine me_gfr (p' := 28) k12_25 rfl (by decide) rfl (b := 11) rfl ?_
        refine me_gfi (p' := 31) k12_28 rfl (by decide) rfl rfl ?_
        rw [show I 11 5 = nI n from hk.hn.1]
        refine me_bipush (p' := 33) k12_31 rfl (v := nI 8) (by decide) ?_
        refine me_ic_lt (p' := 36) k12_33 rfl (fun c1 => ?_) (fun c1 => ?_)
        · skip
          rw [cI_lt (a := n) (b := 8) (by omega) (by omega)] at c1
          refine me_aload_n (p' := 42) k12_41 rfl rfl ?_
          refine me_gfr (p' := 45) k12_42 rfl (by decide) rfl (b := 11) rfl ?_
          refine me_iload_n (p' := 46) k12_45 rfl rfl ?_
          refine me_iload_n (p' := 47) k12_46 rfl rfl ?_
          refine me_iload_n (p' := 48) k12_47 rfl rfl ?_
          refine me_cv (p' := 51) k12_48 rfl rfl (by decide) rfl (by decide) (by decide) dp_17 rfl rfl (cl_le mx_17 rfl) (by decide) (cl_sum rfl) (ct_addCar hk.hn (by omega) (fun I2 hI2 hI3 => ?_))
          refine me_reti k12_51 rt_12 rfl ?_
          simp only [sp_car, sp_rg_s hk132 (by omega), sp_rg_s hk135 (by omega), if_pos e137, if_neg (show ¬ n = 8 by omega), if_true, if_false] at hQ
          exact hQ _ hI2 hI3
        · skip
          rw [cI_lt (a := n) (b := 8) (by omega) (by omega)] at c1
          refine me_ldc (p' := 38) k12_36 rfl (v := (-1000000003)) (by decide) ?_
          refine me_goto k12_38 ?_
          refine me_reti k12_51 rt_12 rfl ?_
          simp only [sp_car, sp_rg_s hk132 (by omega), sp_rg_s hk135 (by omega), if_pos e137, if_pos (show n = 8 by omega), if_true, if_false] at hQ
          exact hQ _ mFr.rf rfl
      · skip
        refine me_if_ne (p' := 21) k12_18 rfl (fun _ => ?_) (fun h => absurd (by decide) h)
        refine me_ldc (p' := 23) k12_21 rfl (v := (-1000000001)) (by decide) ?_
        refine me_reti k12_23 rt_12 rfl ?_
        simp only [sp_car, sp_rg_s hk132 (by omega), sp_rg_s hk135 (by omega), if_neg e137, if_true, if_false] at hQ
        exact hQ _ mFr.rf rfl
    · skip
      refine me_if_eq (p' := 14) k12_11 rfl (fun _ => ?_) (fun h => absurd (by decide) h)
      refine me_ldc (p' := 23) k12_21 rfl (v := (-1000000001)) (by decide) ?_
      refine me_reti k12_23 rt_12 rfl ?_
      simp only [sp_car, sp_rg_s hk132 (by omega), sp_rg_n (by omega) hz136, if_true, if_false] at hQ
      exact hQ _ mFr.rf rfl
  · skip
    refine me_if_eq (p' := 7) k12_4 rfl (fun _ => ?_) (fun h => absurd (by decide) h)
    refine me_ldc (p' := 23) k12_21 rfl (v := (-1000000001)) (by decide) ?_
    refine me_reti k12_23 rt_12 rfl ?_
    simp only [sp_car, sp_rg_n (by omega) hz133, if_true, if_false] at hQ
    exact hQ _ mFr.rf rfl
theorem mI_ex3 (v : Int32) : v = nI 0 ∨ v = nI 1 ∨ v = nI 2 ∨ (∀ k : Nat, k < 3 → v ≠ nI k) := by
  rcases mI_ex 3 (by decide) v with ⟨k, hk, rfl⟩ | h
  · rcases (show k = 0 ∨ k = 1 ∨ k = 2 by omega) with rfl | rfl | rfl <;> simp
  · exact Or.inr (Or.inr (Or.inr h))
theorem mI_ex11 (v : Int32) : v = nI 0 ∨ v = nI 1 ∨ v = nI 2 ∨ v = nI 3 ∨ v = nI 4 ∨ v = nI 5 ∨ v = nI 6 ∨ v = nI 7 ∨ v = nI 8 ∨ v = nI 9 ∨ v = nI 10 ∨ (∀ k : Nat, k < 11 → v ≠ nI k) := by
  rcases mI_ex 11 (by decide) v with ⟨k, hk, rfl⟩ | h
  · rcases (show k = 0 ∨ k = 1 ∨ k = 2 ∨ k = 3 ∨ k = 4 ∨ k = 5 ∨ k = 6 ∨ k = 7 ∨ k = 8 ∨ k = 9 ∨ k = 10 by omega) with rfl | rfl | rfl | rfl | rfl | rfl | rfl | rfl | rfl | rfl | rfl <;> simp
  · exact Or.inr (Or.inr (Or.inr (Or.inr (Or.inr (Or.inr (Or.inr (Or.inr (Or.inr (Or.inr (Or.inr (h)))))))))))
theorem ct_Ctold {d L : Nat} {xs : Nat → Int32} {I : Nat → Nat → Int32} {Q : Option Value → mj_H → Prop} {T : mT} {n : Nat} (hx : cTx I T) (hcg : cCg I 11 T) (hk : mOk (mSg 11 128 I) n) {car wh : Int32} (hQ : ∀ I2, mFr mSk I I2 → Q (some (.int (sp_told T (mSg 11 128 I) n car wh))) (mg_h L xs I2)) : mj_Cl (d + 3) 18 [.ref 0, .int car, .int wh] (mg_h L xs I) Q := by
  have hn8 := hk.hn.2
  refine cl_start mx_18 (ls := [.ref 0, .int car, .int wh]) rfl ?_
  refine me_aload_n (p' := 1) k18_0 rfl rfl ?_
  refine me_iload_n (p' := 2) k18_1 rfl rfl ?_
  refine me_cv (p' := 5) k18_2 rfl rfl (by decide) rfl (by decide) (by decide) dp_19 rfl rfl (cl_le mx_19 rfl) (by decide) (cl_sum rfl) (ct_CisCar hk (fun k138 hk139 he => ?_) (fun hz140 => ?_))
  · skip
    subst he
    refine me_if_ne (p' := 8) k18_5 rfl (fun h => absurd h (by decide)) (fun _ => ?_)
    rcases mI_ex11 wh with rfl | rfl | rfl | rfl | rfl | rfl | rfl | rfl | rfl | rfl | rfl | hz141
    · skip
      refine me_iload_n (p' := 12) k18_11 rfl rfl ?_
      refine me_if_lt (p' := 15) k18_12 rfl (fun h => absurd h (by decide)) (fun _ => ?_)
      refine me_iload_n (p' := 16) k18_15 rfl rfl ?_
      refine me_bipush (p' := 18) k18_16 rfl (v := nI 7) (by decide) ?_
      refine me_ic_ge (p' := 21) k18_18 rfl (fun h => absurd h (by decide)) (fun _ => ?_)
      refine me_aload_n (p' := 22) k18_21 rfl rfl ?_
      refine me_gfr (p' := 25) k18_22 rfl (by decide) rfl (b := 11) rfl ?_
      refine me_gfr (p' := 28) k18_25 rfl (by decide) rfl (b := 17) rfl ?_
      refine me_iload_n (p' := 29) k18_28 rfl rfl ?_
      refine me_aald (p' := 30) k18_29 rfl (by decide) rfl ⟨by decide, by decide⟩ (j := 0) rfl (by omega) (by decide) (b := 18) rfl ?_
      refine me_iload_n (p' := 31) k18_30 rfl rfl ?_
      refine me_iald (p' := 32) k18_31 rfl (by decide) rfl (j := k138) rfl (by omega) (by decide) rfl ?_
      rw [sgR11c0 (I := I) (c := k138) (by omega)]
      refine me_reti k18_32 rt_18 rfl ?_
      simp only [sp_told, sp_rg_s hk139 (by omega), sp_rg_s (show 0 < 11 by decide) (by decide), if_true, if_false] at hQ
      exact hQ _ mFr.rf
    · skip
      refine me_iload_n (p' := 12) k18_11 rfl rfl ?_
      refine me_if_lt (p' := 15) k18_12 rfl (fun h => absurd h (by decide)) (fun _ => ?_)
      refine me_iload_n (p' := 16) k18_15 rfl rfl ?_
      refine me_bipush (p' := 18) k18_16 rfl (v := nI 7) (by decide) ?_
      refine me_ic_ge (p' := 21) k18_18 rfl (fun h => absurd h (by decide)) (fun _ => ?_)
      refine me_aload_n (p' := 22) k18_21 rfl rfl ?_
      refine me_gfr (p' := 25) k18_22 rfl (by decide) rfl (b := 11) rfl ?_
      refine me_gfr (p' := 28) k18_25 rfl (by decide) rfl (b := 17) rfl ?_
      refine me_iload_n (p' := 29) k18_28 rfl rfl ?_
      refine me_aald (p' := 30) k18_29 rfl (by decide) rfl ⟨by decide, by decide⟩ (j := 1) rfl (by omega) (by decide) (b := 19) rfl ?_
      refine me_iload_n (p' := 31) k18_30 rfl rfl ?_
      refine me_iald (p' := 32) k18_31 rfl (by decide) rfl (j := k138) rfl (by omega) (by decide) rfl ?_
      rw [sgR11c1 (I := I) (c := k138) (by omega)]
      refine me_reti k18_32 rt_18 rfl ?_
      simp only [sp_told, sp_rg_s hk139 (by omega), sp_rg_s (show 1 < 11 by decide) (by decide), if_true, if_false] at hQ
      exact hQ _ mFr.rf
    · skip
      refine me_iload_n (p' := 12) k18_11 rfl rfl ?_
      refine me_if_lt (p' := 15) k18_12 rfl (fun h => absurd h (by decide)) (fun _ => ?_)
      refine me_iload_n (p' := 16) k18_15 rfl rfl ?_
      refine me_bipush (p' := 18) k18_16 rfl (v := nI 7) (by decide) ?_
      refine me_ic_ge (p' := 21) k18_18 rfl (fun h => absurd h (by decide)) (fun _ => ?_)
      refine me_aload_n (p' := 22) k18_21 rfl rfl ?_
      refine me_gfr (p' := 25) k18_22 rfl (by decide) rfl (b := 11) rfl ?_
      refine me_gfr (p' := 28) k18_25 rfl (by decide) rfl (b := 17) rfl ?_
      refine me_iload_n (p' := 29) k18_28 rfl rfl ?_
      refine me_aald (p' := 30) k18_29 rfl (by decide) rfl ⟨by decide, by decide⟩ (j := 2) rfl (by omega) (by decide) (b := 20) rfl ?_
      refine me_iload_n (p' := 31) k18_30 rfl rfl ?_
      refine me_iald (p' := 32) k18_31 rfl (by decide) rfl (j := k138) rfl (by omega) (by decide) rfl ?_
      rw [sgR11c2 (I := I) (c := k138) (by omega)]
      refine me_reti k18_32 rt_18 rfl ?_
      simp only [sp_told, sp_rg_s hk139 (by omega), sp_rg_s (show 2 < 11 by decide) (by decide), if_true, if_false] at hQ
      exact hQ _ mFr.rf
    · skip
      refine me_iload_n (p' := 12) k18_11 rfl rfl ?_
      refine me_if_lt (p' := 15) k18_12 rfl (fun h => absurd h (by decide)) (fun _ => ?_)
      refine me_iload_n (p' := 16) k18_15 rfl rfl ?_
      refine me_bipush (p' := 18) k18_16 rfl (v := nI 7) (by decide) ?_
      refine me_ic_ge (p' := 21) k18_18 rfl (fun h => absurd h (by decide)) (fun _ => ?_)
      refine me_aload_n (p' := 22) k18_21 rfl rfl ?_
      refine me_gfr (p' := 25) k18_22 rfl (by decide) rfl (b := 11) rfl ?_
      refine me_gfr (p' := 28) k18_25 rfl (by decide) rfl (b := 17) rfl ?_
      refine me_iload_n (p' := 29) k18_28 rfl rfl ?_
      refine me_aald (p' := 30) k18_29 rfl (by decide) rfl ⟨by decide, by decide⟩ (j := 3) rfl (by omega) (by decide) (b := 21) rfl ?_
      refine me_iload_n (p' := 31) k18_30 rfl rfl ?_
      refine me_iald (p' := 32) k18_31 rfl (by decide) rfl (j := k138) rfl (by omega) (by decide) rfl ?_
      rw [sgR11c3 (I := I) (c := k138) (by omega)]
      refine me_reti k18_32 rt_18 rfl ?_
      simp only [sp_told, sp_rg_s hk139 (by omega), sp_rg_s (show 3 < 11 by decide) (by decide), if_true, if_false] at hQ
      exact hQ _ mFr.rf
    · skip
      refine me_iload_n (p' := 12) k18_11 rfl rfl ?_
      refine me_if_lt (p' := 15) k18_12 rfl (fun h => absurd h (by decide)) (fun _ => ?_)
      refine me_iload_n (p' := 16) k18_15 rfl rfl ?_
      refine me_bipush (p' := 18) k18_16 rfl (v := nI 7) (by decide) ?_
      refine me_ic_ge (p' := 21) k18_18 rfl (fun h => absurd h (by decide)) (fun _ => ?_)
      refine me_aload_n (p' := 22) k18_21 rfl rfl ?_
      refine me_gfr (p' := 25) k18_22 rfl (by decide) rfl (b := 11) rfl ?_
      refine me_gfr (p' := 28) k18_25 rfl (by decide) rfl (b := 17) rfl ?_
      refine me_iload_n (p' := 29) k18_28 rfl rfl ?_
      refine me_aald (p' := 30) k18_29 rfl (by decide) rfl ⟨by decide, by decide⟩ (j := 4) rfl (by omega) (by decide) (b := 22) rfl ?_
      refine me_iload_n (p' := 31) k18_30 rfl rfl ?_
      refine me_iald (p' := 32) k18_31 rfl (by decide) rfl (j := k138) rfl (by omega) (by decide) rfl ?_
      rw [sgR11c4 (I := I) (c := k138) (by omega)]
      refine me_reti k18_32 rt_18 rfl ?_
      simp only [sp_told, sp_rg_s hk139 (by omega), sp_rg_s (show 4 < 11 by decide) (by decide), if_true, if_false] at hQ
      exact hQ _ mFr.rf
    · skip
      refine me_iload_n (p' := 12) k18_11 rfl rfl ?_
      refine me_if_lt (p' := 15) k18_12 rfl (fun h => absurd h (by decide)) (fun _ => ?_)
      refine me_iload_n (p' := 16) k18_15 rfl rfl ?_
      refine me_bipush (p' := 18) k18_16 rfl (v := nI 7) (by decide) ?_
      refine me_ic_ge (p' := 21) k18_18 rfl (fun h => absurd h (by decide)) (fun _ => ?_)
      refine me_aload_n (p' := 22) k18_21 rfl rfl ?_
      refine me_gfr (p' := 25) k18_22 rfl (by decide) rfl (b := 11) rfl ?_
      refine me_gfr (p' := 28) k18_25 rfl (by decide) rfl (b := 17) rfl ?_
      refine me_iload_n (p' := 29) k18_28 rfl rfl ?_
      refine me_aald (p' := 30) k18_29 rfl (by decide) rfl ⟨by decide, by decide⟩ (j := 5) rfl (by omega) (by decide) (b := 23) rfl ?_
      refine me_iload_n (p' := 31) k18_30 rfl rfl ?_
      refine me_iald (p' := 32) k18_31 rfl (by decide) rfl (j := k138) rfl (by omega) (by decide) rfl ?_
      rw [sgR11c5 (I := I) (c := k138) (by omega)]
      refine me_reti k18_32 rt_18 rfl ?_
      simp only [sp_told, sp_rg_s hk139 (by omega), sp_rg_s (show 5 < 11 by decide) (by decide), if_true, if_false] at hQ
      exact hQ _ mFr.rf
    · skip
      refine me_iload_n (p' := 12) k18_11 rfl rfl ?_
      refine me_if_lt (p' := 15) k18_12 rfl (fun h => absurd h (by decide)) (fun _ => ?_)
      refine me_iload_n (p' := 16) k18_15 rfl rfl ?_
      refine me_bipush (p' := 18) k18_16 rfl (v := nI 7) (by decide) ?_
      refine me_ic_ge (p' := 21) k18_18 rfl (fun h => absurd h (by decide)) (fun _ => ?_)
      refine me_aload_n (p' := 22) k18_21 rfl rfl ?_
      refine me_gfr (p' := 25) k18_22 rfl (by decide) rfl (b := 11) rfl ?_
      refine me_gfr (p' := 28) k18_25 rfl (by decide) rfl (b := 17) rfl ?_
      refine me_iload_n (p' := 29) k18_28 rfl rfl ?_
      refine me_aald (p' := 30) k18_29 rfl (by decide) rfl ⟨by decide, by decide⟩ (j := 6) rfl (by omega) (by decide) (b := 24) rfl ?_
      refine me_iload_n (p' := 31) k18_30 rfl rfl ?_
      refine me_iald (p' := 32) k18_31 rfl (by decide) rfl (j := k138) rfl (by omega) (by decide) rfl ?_
      rw [sgR11c6 (I := I) (c := k138) (by omega)]
      refine me_reti k18_32 rt_18 rfl ?_
      simp only [sp_told, sp_rg_s hk139 (by omega), sp_rg_s (show 6 < 11 by decide) (by decide), if_true, if_false] at hQ
      exact hQ _ mFr.rf
    · skip
      refine me_iload_n (p' := 12) k18_11 rfl rfl ?_
      refine me_if_lt (p' := 15) k18_12 rfl (fun h => absurd h (by decide)) (fun _ => ?_)
      refine me_iload_n (p' := 16) k18_15 rfl rfl ?_
      refine me_bipush (p' := 18) k18_16 rfl (v := nI 7) (by decide) ?_
      refine me_ic_ge (p' := 21) k18_18 rfl (fun _ => ?_) (fun h => absurd (by decide) h)
      refine me_iload_n (p' := 34) k18_33 rfl rfl ?_
      · skip
        refine me_tsw (p' := 64) k18_34 (by decide) ?_
        refine me_aload_n (p' := 65) k18_64 rfl rfl ?_
        refine me_gfr (p' := 68) k18_65 rfl (by decide) rfl (b := 11) rfl ?_
        refine me_iload_n (p' := 69) k18_68 rfl rfl ?_
        refine me_aload_n (p' := 70) k18_69 rfl rfl ?_
        refine me_gfr (p' := 73) k18_70 rfl (by decide) rfl (b := 11) rfl ?_
        refine me_iload_n (p' := 74) k18_73 rfl rfl ?_
        refine me_cv (p' := 77) k18_74 rfl rfl (by decide) rfl (by decide) (by decide) dp_20 rfl rfl (cl_le mx_20 rfl) (by decide) (cl_sum rfl) (ct_partOf11 hk (by omega) ?_)
        have hF0 := (hk.ft k138 (by omega)).2
        refine me_cv (p' := 80) k18_77 rfl rfl (by decide) rfl (by decide) (by decide) dp_21 rfl rfl (cl_le mx_21 rfl) (by decide) (cl_sum rfl) (ct_paceIn11 hx hcg hk (by omega) (by omega) (fun I1 hI1 => ?_))
        refine me_reti k18_80 rt_18 rfl ?_
        simp only [sp_told, sp_rg_s hk139 (by omega), sp_rg_s (show 7 < 11 by decide) (by decide), if_true, if_false] at hQ
        exact hQ _ hI1
    · skip
      refine me_iload_n (p' := 12) k18_11 rfl rfl ?_
      refine me_if_lt (p' := 15) k18_12 rfl (fun h => absurd h (by decide)) (fun _ => ?_)
      refine me_iload_n (p' := 16) k18_15 rfl rfl ?_
      refine me_bipush (p' := 18) k18_16 rfl (v := nI 7) (by decide) ?_
      refine me_ic_ge (p' := 21) k18_18 rfl (fun _ => ?_) (fun h => absurd (by decide) h)
      refine me_iload_n (p' := 34) k18_33 rfl rfl ?_
      · skip
        refine me_tsw (p' := 81) k18_34 (by decide) ?_
        refine me_aload_n (p' := 82) k18_81 rfl rfl ?_
        refine me_gfr (p' := 85) k18_82 rfl (by decide) rfl (b := 11) rfl ?_
        refine me_iload_n (p' := 86) k18_85 rfl rfl ?_
        refine me_cv (p' := 89) k18_86 rfl rfl (by decide) rfl (by decide) (by decide) dp_32 rfl rfl (cl_le mx_32 rfl) (by decide) (cl_sum rfl) (ct_roomOf11 hk (by omega) ?_)
        refine me_reti k18_89 rt_18 rfl ?_
        simp only [sp_told, sp_rg_s hk139 (by omega), sp_rg_s (show 8 < 11 by decide) (by decide), if_true, if_false] at hQ
        exact hQ _ mFr.rf
    · skip
      refine me_iload_n (p' := 12) k18_11 rfl rfl ?_
      refine me_if_lt (p' := 15) k18_12 rfl (fun h => absurd h (by decide)) (fun _ => ?_)
      refine me_iload_n (p' := 16) k18_15 rfl rfl ?_
      refine me_bipush (p' := 18) k18_16 rfl (v := nI 7) (by decide) ?_
      refine me_ic_ge (p' := 21) k18_18 rfl (fun _ => ?_) (fun h => absurd (by decide) h)
      refine me_iload_n (p' := 34) k18_33 rfl rfl ?_
      · skip
        refine me_tsw (p' := 90) k18_34 (by decide) ?_
        refine me_aload_n (p' := 91) k18_90 rfl rfl ?_
        refine me_gfr (p' := 94) k18_91 rfl (by decide) rfl (b := 11) rfl ?_
        refine me_iload_n (p' := 95) k18_94 rfl rfl ?_
        refine me_cv (p' := 98) k18_95 rfl rfl (by decide) rfl (by decide) (by decide) dp_24 rfl rfl (cl_le mx_24 rfl) (by decide) (cl_sum rfl) (ct_kindOf11 hk (by omega) ?_)
        refine me_cg2 (p' := 101) k18_98 rfl (hk.kd k138 (by omega)).2 rfl rfl rfl (Nat.le_of_ble_eq_true rfl) (cl_sum rfl) (cg_loud (hk.kd k138 (by omega)).2 ?_)
        refine me_reti k18_101 rt_18 rfl ?_
        simp only [sp_told, sp_rg_s hk139 (by omega), sp_rg_s (show 9 < 11 by decide) (by decide), if_true, if_false] at hQ
        exact hQ _ mFr.rf
    · skip
      refine me_iload_n (p' := 12) k18_11 rfl rfl ?_
      refine me_if_lt (p' := 15) k18_12 rfl (fun h => absurd h (by decide)) (fun _ => ?_)
      refine me_iload_n (p' := 16) k18_15 rfl rfl ?_
      refine me_bipush (p' := 18) k18_16 rfl (v := nI 7) (by decide) ?_
      refine me_ic_ge (p' := 21) k18_18 rfl (fun _ => ?_) (fun h => absurd (by decide) h)
      refine me_iload_n (p' := 34) k18_33 rfl rfl ?_
      · skip
        refine me_tsw (p' := 102) k18_34 (by decide) ?_
        refine me_aload_n (p' := 103) k18_102 rfl rfl ?_
        refine me_gfr (p' := 106) k18_103 rfl (by decide) rfl (b := 11) rfl ?_
        refine me_iload_n (p' := 107) k18_106 rfl rfl ?_
        refine me_cv (p' := 110) k18_107 rfl rfl (by decide) rfl (by decide) (by decide) dp_24 rfl rfl (cl_le mx_24 rfl) (by decide) (cl_sum rfl) (ct_kindOf11 hk (by omega) ?_)
        refine me_aload_n (p' := 111) k18_110 rfl rfl ?_
        refine me_gfr (p' := 114) k18_111 rfl (by decide) rfl (b := 11) rfl ?_
        refine me_gfr (p' := 117) k18_114 rfl (by decide) rfl (b := 17) rfl ?_
        refine me_iconst (p' := 118) k18_117 rfl (v := nI 2) (by decide) ?_
        refine me_aald (p' := 119) k18_118 rfl (by decide) rfl ⟨by decide, by decide⟩ (j := 2) rfl (by omega) (by decide) (b := 20) rfl ?_
        refine me_iload_n (p' := 120) k18_119 rfl rfl ?_
        refine me_iald (p' := 121) k18_120 rfl (by decide) rfl (j := k138) rfl (by omega) (by decide) rfl ?_
        rw [sgR11c2 (I := I) (c := k138) (by omega)]
        refine me_cg3 (p' := 124) k18_121 rfl (hk.kd k138 (by omega)).2 rfl rfl rfl (Nat.le_of_ble_eq_true rfl) (cl_sum rfl) (cg_worth (hk.kd k138 (by omega)).2 ?_)
        refine me_reti k18_124 rt_18 rfl ?_
        simp only [sp_told, sp_rg_s hk139 (by omega), sp_rg_s (show 10 < 11 by decide) (by decide), if_true, if_false] at hQ
        exact hQ _ mFr.rf
    · skip
      refine me_iload_n (p' := 12) k18_11 rfl rfl ?_
      refine me_if_lt (p' := 15) k18_12 rfl (fun c1 => ?_) (fun c1 => ?_)
      · skip
        refine me_iload_n (p' := 34) k18_33 rfl rfl ?_
        · skip
          refine me_tsw (p' := 125) k18_34 (by rw [if_pos (show wh.toInt < 7 ∨ 10 < wh.toInt from by have := mI_tout (m := 11) (by decide) hz141; omega)]; rfl) ?_
          refine me_ldc (p' := 127) k18_125 rfl (v := (-1000000001)) (by decide) ?_
          refine me_reti k18_127 rt_18 rfl ?_
          simp only [sp_told, sp_rg_s hk139 (by omega), sp_rg_n (m := 11) (by decide) hz141, if_true, if_false] at hQ
          exact hQ _ mFr.rf
      · skip
        refine me_iload_n (p' := 16) k18_15 rfl rfl ?_
        refine me_bipush (p' := 18) k18_16 rfl (v := nI 7) (by decide) ?_
        refine me_ic_ge (p' := 21) k18_18 rfl (fun c2 => ?_) (fun c2 => ?_)
        · skip
          refine me_iload_n (p' := 34) k18_33 rfl rfl ?_
          · skip
            refine me_tsw (p' := 125) k18_34 (by rw [if_pos (show wh.toInt < 7 ∨ 10 < wh.toInt from by have := mI_tout (m := 11) (by decide) hz141; omega)]; rfl) ?_
            refine me_ldc (p' := 127) k18_125 rfl (v := (-1000000001)) (by decide) ?_
            refine me_reti k18_127 rt_18 rfl ?_
            simp only [sp_told, sp_rg_s hk139 (by omega), sp_rg_n (m := 11) (by decide) hz141, if_true, if_false] at hQ
            exact hQ _ mFr.rf
        · skip
          exfalso
          have h7 : (nI 7).toInt = 7 := by decide
          have h0 : (0 : Int32).toInt = 0 := by decide
          have := mI_tout (m := 11) (by decide) hz141
          simp only [Int32.lt_iff_toInt_lt, Int32.le_iff_toInt_le, h7, h0] at c1 c2
          omega
  · skip
    refine me_if_ne (p' := 8) k18_5 rfl (fun _ => ?_) (fun h => absurd (by decide) h)
    refine me_ldc (p' := 10) k18_8 rfl (v := (-1000000001)) (by decide) ?_
    refine me_reti k18_10 rt_18 rfl ?_
    simp only [sp_told, sp_rg_n (by omega) hz140, if_true, if_false] at hQ
    exact hQ _ mFr.rf
theorem ct_Cpace {d L : Nat} {xs : Nat → Int32} {I : Nat → Nat → Int32} {Q : Option Value → mj_H → Prop} {T : mT} {n : Nat} (hx : cTx I T) (hcg : cCg I 11 T) (hk : mOk (mSg 11 128 I) n) {car pt : Int32} (hQ : ∀ I2, mFr mSk I I2 → Q (some (.int (sp_pcall T (mSg 11 128 I) n car pt))) (mg_h L xs I2)) : mj_Cl (d + 3) 44 [.ref 0, .int car, .int pt] (mg_h L xs I) Q := by
  have hn8 := hk.hn.2
  refine cl_start mx_44 (ls := [.ref 0, .int car, .int pt]) rfl ?_
  refine me_aload_n (p' := 1) k44_0 rfl rfl ?_
  refine me_iload_n (p' := 2) k44_1 rfl rfl ?_
  refine me_cv (p' := 5) k44_2 rfl rfl (by decide) rfl (by decide) (by decide) dp_19 rfl rfl (cl_le mx_19 rfl) (by decide) (cl_sum rfl) (ct_CisCar hk (fun k142 hk143 he => ?_) (fun hz144 => ?_))
  · skip
    subst he
    refine me_if_eq (p' := 8) k44_5 rfl (fun h => absurd h (by decide)) (fun _ => ?_)
    refine me_iload_n (p' := 9) k44_8 rfl rfl ?_
    refine me_cs (p' := 12) k44_9 rfl rfl rfl rfl rfl (cl_le mx_45 rfl) (by decide) (cl_sum rfl) (ct_CisPart (fun k145 hk146 he => ?_) (fun hz147 => ?_))
    · skip
      subst he
      refine me_if_eq (p' := 15) k44_12 rfl (fun h => absurd h (by decide)) (fun _ => ?_)
      refine me_aload_n (p' := 16) k44_15 rfl rfl ?_
      refine me_gfr (p' := 19) k44_16 rfl (by decide) rfl (b := 11) rfl ?_
      refine me_iload_n (p' := 20) k44_19 rfl rfl ?_
      refine me_iload_n (p' := 21) k44_20 rfl rfl ?_
      refine me_cv (p' := 24) k44_21 rfl rfl (by decide) rfl (by decide) (by decide) dp_21 rfl rfl (cl_le mx_21 rfl) (by decide) (cl_sum rfl) (ct_paceIn11 hx hcg hk (by omega) (by omega) (fun I1 hI1 => ?_))
      refine me_goto k44_24 ?_
      refine me_reti k44_29 rt_44 rfl ?_
      simp only [sp_pcall, sp_rg_s hk143 (by omega), sp_rg_s hk146 (by omega), if_true, if_false] at hQ
      exact hQ _ hI1
    · skip
      refine me_if_eq (p' := 15) k44_12 rfl (fun _ => ?_) (fun h => absurd (by decide) h)
      refine me_ldc (p' := 29) k44_27 rfl (v := (-1000000001)) (by decide) ?_
      refine me_reti k44_29 rt_44 rfl ?_
      simp only [sp_pcall, sp_rg_s hk143 (by omega), sp_rg_n (by omega) hz147, if_true, if_false] at hQ
      exact hQ _ mFr.rf
  · skip
    refine me_if_eq (p' := 8) k44_5 rfl (fun _ => ?_) (fun h => absurd (by decide) h)
    refine me_ldc (p' := 29) k44_27 rfl (v := (-1000000001)) (by decide) ?_
    refine me_reti k44_29 rt_44 rfl ?_
    simp only [sp_pcall, sp_rg_n (by omega) hz144, if_true, if_false] at hQ
    exact hQ _ mFr.rf
theorem ct_Cas {d L : Nat} {xs : Nat → Int32} {I : Nat → Nat → Int32} {Q : Option Value → mj_H → Prop} {n : Nat} (hk : mOk (mSg 11 128 I) n) {car kd : Int32} (hQ : Q (some (.int (sp_as (mSg 11 128 I) n car kd))) (mg_h L xs I)) : mj_Cl (d + 3) 46 [.ref 0, .int car, .int kd] (mg_h L xs I) Q := by
  have hn8 := hk.hn.2
  refine cl_start mx_46 (ls := [.ref 0, .int car, .int kd]) rfl ?_
  refine me_aload_n (p' := 1) k46_0 rfl rfl ?_
  refine me_iload_n (p' := 2) k46_1 rfl rfl ?_
  refine me_cv (p' := 5) k46_2 rfl rfl (by decide) rfl (by decide) (by decide) dp_19 rfl rfl (cl_le mx_19 rfl) (by decide) (cl_sum rfl) (ct_CisCar hk (fun k148 hk149 he => ?_) (fun hz150 => ?_))
  · skip
    subst he
    refine me_if_eq (p' := 8) k46_5 rfl (fun h => absurd h (by decide)) (fun _ => ?_)
    refine me_iload_n (p' := 9) k46_8 rfl rfl ?_
    refine me_cs (p' := 12) k46_9 rfl rfl rfl rfl rfl (cl_le mx_13 rfl) (by decide) (cl_sum rfl) (ct_CisKind (fun k151 hk152 he => ?_) (fun hz153 => ?_))
    · skip
      subst he
      refine me_if_ne (p' := 15) k46_12 rfl (fun h => absurd h (by decide)) (fun _ => ?_)
      refine me_aload_n (p' := 19) k46_18 rfl rfl ?_
      refine me_gfr (p' := 22) k46_19 rfl (by decide) rfl (b := 11) rfl ?_
      refine me_iload_n (p' := 23) k46_22 rfl rfl ?_
      refine me_cv (p' := 26) k46_23 rfl rfl (by decide) rfl (by decide) (by decide) dp_24 rfl rfl (cl_le mx_24 rfl) (by decide) (cl_sum rfl) (ct_kindOf11 hk (by omega) ?_)
      refine me_iload_n (p' := 27) k46_26 rfl rfl ?_
      refine me_cg0 (p' := 30) k46_27 rfl (hk.kd k148 (by omega)).2 rfl rfl rfl (Nat.le_of_ble_eq_true rfl) (cl_sum rfl) (cg_isUnder (hk.kd k148 (by omega)).2 (by omega) (fun e154 => ?_) (fun e154 => ?_))
      · skip
        refine me_if_eq (p' := 33) k46_30 rfl (fun h => absurd h (by decide)) (fun _ => ?_)
        refine me_aload_n (p' := 34) k46_33 rfl rfl ?_
        refine me_gfr (p' := 37) k46_34 rfl (by decide) rfl (b := 11) rfl ?_
        refine me_gfr (p' := 40) k46_37 rfl (by decide) rfl (b := 17) rfl ?_
        refine me_iconst (p' := 41) k46_40 rfl (v := nI 2) (by decide) ?_
        refine me_aald (p' := 42) k46_41 rfl (by decide) rfl ⟨by decide, by decide⟩ (j := 2) rfl (by omega) (by decide) (b := 20) rfl ?_
        refine me_iload_n (p' := 43) k46_42 rfl rfl ?_
        refine me_iald (p' := 44) k46_43 rfl (by decide) rfl (j := k148) rfl (by omega) (by decide) rfl ?_
        rw [sgR11c2 (I := I) (c := k148) (by omega)]
        refine me_goto k46_44 ?_
        refine me_reti k46_49 rt_46 rfl ?_
        simp only [sp_as, sp_rg_s hk149 (by omega), sp_rg_s hk152 (by omega), if_pos e154, if_true, if_false] at hQ
        exact hQ
      · skip
        refine me_if_eq (p' := 33) k46_30 rfl (fun _ => ?_) (fun h => absurd (by decide) h)
        refine me_ldc (p' := 49) k46_47 rfl (v := (-1000000012)) (by decide) ?_
        refine me_reti k46_49 rt_46 rfl ?_
        simp only [sp_as, sp_rg_s hk149 (by omega), sp_rg_s hk152 (by omega), if_neg e154, if_true, if_false] at hQ
        exact hQ
    · skip
      refine me_if_ne (p' := 15) k46_12 rfl (fun _ => ?_) (fun h => absurd (by decide) h)
      refine me_ldc (p' := 17) k46_15 rfl (v := (-1000000001)) (by decide) ?_
      refine me_reti k46_17 rt_46 rfl ?_
      simp only [sp_as, sp_rg_s hk149 (by omega), sp_rg_n (by omega) hz153, if_true, if_false] at hQ
      exact hQ
  · skip
    refine me_if_eq (p' := 8) k46_5 rfl (fun _ => ?_) (fun h => absurd (by decide) h)
    refine me_ldc (p' := 17) k46_15 rfl (v := (-1000000001)) (by decide) ?_
    refine me_reti k46_17 rt_46 rfl ?_
    simp only [sp_as, sp_rg_n (by omega) hz150, if_true, if_false] at hQ
    exact hQ
theorem ct_Cturns {d L : Nat} {xs : Nat → Int32} {I : Nat → Nat → Int32} {Q : Option Value → mj_H → Prop} {n : Nat} (hk : mOk (mSg 11 128 I) n) {car kd : Int32} (hQ : ∀ I2, mFr (mRg 11) I I2 → mSg 11 128 I2 = (sp_turns (mSg 11 128 I) n car kd).2 → Q (some (.int (sp_turns (mSg 11 128 I) n car kd).1)) (mg_h L xs I2)) : mj_Cl (d + 1) 53 [.ref 0, .int car, .int kd] (mg_h L xs I) Q := by
  have hn8 := hk.hn.2
  refine cl_start mx_53 (ls := [.ref 0, .int car, .int kd, mj_no]) rfl ?_
  refine me_aload_n (p' := 1) k53_0 rfl rfl ?_
  refine me_iload_n (p' := 2) k53_1 rfl rfl ?_
  refine me_cv (p' := 5) k53_2 rfl rfl (by decide) rfl (by decide) (by decide) dp_19 rfl rfl (cl_le mx_19 rfl) (by decide) (cl_sum rfl) (ct_CisCar hk (fun k155 hk156 he => ?_) (fun hz157 => ?_))
  · skip
    subst he
    refine me_if_eq (p' := 8) k53_5 rfl (fun h => absurd h (by decide)) (fun _ => ?_)
    refine me_iload_n (p' := 9) k53_8 rfl rfl ?_
    refine me_cs (p' := 12) k53_9 rfl rfl rfl rfl rfl (cl_le mx_13 rfl) (by decide) (cl_sum rfl) (ct_CisKind (fun k158 hk159 he => ?_) (fun hz160 => ?_))
    · skip
      subst he
      refine me_if_ne (p' := 15) k53_12 rfl (fun h => absurd h (by decide)) (fun _ => ?_)
      refine me_aload_n (p' := 19) k53_18 rfl rfl ?_
      refine me_gfr (p' := 22) k53_19 rfl (by decide) rfl (b := 11) rfl ?_
      refine me_gfr (p' := 25) k53_22 rfl (by decide) rfl (b := 17) rfl ?_
      refine me_iconst (p' := 26) k53_25 rfl (v := nI 0) (by decide) ?_
      refine me_aald (p' := 27) k53_26 rfl (by decide) rfl ⟨by decide, by decide⟩ (j := 0) rfl (by omega) (by decide) (b := 18) rfl ?_
      refine me_iload_n (p' := 28) k53_27 rfl rfl ?_
      refine me_iald (p' := 29) k53_28 rfl (by decide) rfl (j := k155) rfl (by omega) (by decide) rfl ?_
      rw [sgR11c0 (I := I) (c := k155) (by omega)]
      refine me_istore_n (p' := 30) k53_29 rfl ⟨Nat.le_of_ble_eq_true rfl, rfl⟩ rfl ?_
      refine me_aload_n (p' := 31) k53_30 rfl rfl ?_
      refine me_gfr (p' := 34) k53_31 rfl (by decide) rfl (b := 11) rfl ?_
      refine me_gfr (p' := 37) k53_34 rfl (by decide) rfl (b := 17) rfl ?_
      refine me_iconst (p' := 38) k53_37 rfl (v := nI 0) (by decide) ?_
      refine me_aald (p' := 39) k53_38 rfl (by decide) rfl ⟨by decide, by decide⟩ (j := 0) rfl (by omega) (by decide) (b := 18) rfl ?_
      refine me_iload_n (p' := 40) k53_39 rfl rfl ?_
      refine me_iload_n (p' := 41) k53_40 rfl rfl ?_
      refine me_iast (p' := 42) k53_41 rfl (by decide) rfl (j := k155) rfl (by omega) (by decide) rfl ?_
      refine me_iload_n (p' := 43) k53_42 rfl rfl ?_
      refine me_reti k53_43 rt_53 rfl ?_
      simp only [sp_turns, sp_rg_s hk156 (by omega), sp_rg_s hk159 (by omega), if_true, if_false] at hQ
      refine hQ _ (mFr.up (by decide)) ?_
      rw [sgU11c0 (by omega)]
      rfl
    · skip
      refine me_if_ne (p' := 15) k53_12 rfl (fun _ => ?_) (fun h => absurd (by decide) h)
      refine me_ldc (p' := 17) k53_15 rfl (v := (-1000000001)) (by decide) ?_
      refine me_reti k53_17 rt_53 rfl ?_
      simp only [sp_turns, sp_rg_s hk156 (by omega), sp_rg_n (by omega) hz160, if_true, if_false] at hQ
      exact hQ _ mFr.rf rfl
  · skip
    refine me_if_eq (p' := 8) k53_5 rfl (fun _ => ?_) (fun h => absurd (by decide) h)
    refine me_ldc (p' := 17) k53_15 rfl (v := (-1000000001)) (by decide) ?_
    refine me_reti k53_17 rt_53 rfl ?_
    simp only [sp_turns, sp_rg_n (by omega) hz157, if_true, if_false] at hQ
    exact hQ _ mFr.rf rfl
theorem ct_Cset {d L : Nat} {xs : Nat → Int32} {I : Nat → Nat → Int32} {Q : Option Value → mj_H → Prop} {n : Nat} (hk : mOk (mSg 11 128 I) n) {car wh v : Int32} (hQ : ∀ I2, mFr (mRg 11) I I2 → mSg 11 128 I2 = (sp_set (mSg 11 128 I) n car wh v).2 → Q (some (.int (sp_set (mSg 11 128 I) n car wh v).1)) (mg_h L xs I2)) : mj_Cl (d + 2) 54 [.ref 0, .int car, .int wh, .int v] (mg_h L xs I) Q := by
  have hn8 := hk.hn.2
  refine cl_start mx_54 (ls := [.ref 0, .int car, .int wh, .int v, mj_no, mj_no]) rfl ?_
  rcases mI_ex3 wh with rfl | rfl | rfl | hz161
  · skip
    refine me_iload_n (p' := 1) k54_0 rfl rfl ?_
    refine me_iconst (p' := 2) k54_1 rfl (v := nI 1) (by decide) ?_
    refine me_ic_ne (p' := 5) k54_2 rfl (fun h => absurd h (by decide)) (fun _ => ?_)
    refine me_iload_n (p' := 13) k54_12 rfl rfl ?_
    refine me_iconst (p' := 14) k54_13 rfl (v := nI 2) (by decide) ?_
    refine me_ic_ne (p' := 17) k54_14 rfl (fun h => absurd h (by decide)) (fun _ => ?_)
    refine me_iconst (p' := 29) k54_28 rfl (v := nI 0) (by decide) ?_
    refine me_istore (p' := 31) k54_29 rfl ⟨Nat.le_of_ble_eq_true rfl, rfl⟩ rfl ?_
    refine me_aload_n (p' := 32) k54_31 rfl rfl ?_
    refine me_iload_n (p' := 33) k54_32 rfl rfl ?_
    refine me_cv (p' := 36) k54_33 rfl rfl (by decide) rfl (by decide) (by decide) dp_19 rfl rfl (cl_le mx_19 rfl) (by decide) (cl_sum rfl) (ct_CisCar hk (fun k162 hk163 he => ?_) (fun hz164 => ?_))
    · skip
      subst he
      refine me_if_eq (p' := 39) k54_36 rfl (fun h => absurd h (by decide)) (fun _ => ?_)
      refine me_iload (p' := 41) k54_39 rfl rfl ?_
      refine me_if_ne (p' := 44) k54_41 rfl (fun _ => ?_) (fun h => absurd (by decide) h)
      refine me_ldc (p' := 46) k54_44 rfl (v := (-1000000001)) (by decide) ?_
      refine me_reti k54_46 rt_54 rfl ?_
      simp only [sp_set, sp_rg_s (show 0 < 3 by decide) (by decide), sp_rg_s hk163 (by omega), if_true, if_false] at hQ
      exact hQ _ mFr.rf rfl
    · skip
      refine me_if_eq (p' := 39) k54_36 rfl (fun _ => ?_) (fun h => absurd (by decide) h)
      refine me_ldc (p' := 46) k54_44 rfl (v := (-1000000001)) (by decide) ?_
      refine me_reti k54_46 rt_54 rfl ?_
      simp only [sp_set, sp_rg_s (show 0 < 3 by decide) (by decide), sp_rg_n (by omega) hz164, if_true, if_false] at hQ
      exact hQ _ mFr.rf rfl
  · skip
    refine me_iload_n (p' := 1) k54_0 rfl rfl ?_
    refine me_iconst (p' := 2) k54_1 rfl (v := nI 1) (by decide) ?_
    refine me_ic_ne (p' := 5) k54_2 rfl (fun _ => ?_) (fun h => absurd (by decide) h)
    refine me_iload_n (p' := 6) k54_5 rfl rfl ?_
    refine me_cs (p' := 9) k54_6 rfl rfl rfl rfl rfl (cl_le mx_14 rfl) (by decide) (cl_sum rfl) (ct_CisFoot (fun k165 hk166 he => ?_) (fun hz167 => ?_))
    · skip
      subst he
      refine me_if_ne (p' := 12) k54_9 rfl (fun h => absurd h (by decide)) (fun _ => ?_)
      refine me_iconst (p' := 25) k54_24 rfl (v := nI 1) (by decide) ?_
      refine me_goto k54_25 ?_
      refine me_istore (p' := 31) k54_29 rfl ⟨Nat.le_of_ble_eq_true rfl, rfl⟩ rfl ?_
      refine me_aload_n (p' := 32) k54_31 rfl rfl ?_
      refine me_iload_n (p' := 33) k54_32 rfl rfl ?_
      refine me_cv (p' := 36) k54_33 rfl rfl (by decide) rfl (by decide) (by decide) dp_19 rfl rfl (cl_le mx_19 rfl) (by decide) (cl_sum rfl) (ct_CisCar hk (fun k168 hk169 he => ?_) (fun hz170 => ?_))
      · skip
        subst he
        refine me_if_eq (p' := 39) k54_36 rfl (fun h => absurd h (by decide)) (fun _ => ?_)
        refine me_iload (p' := 41) k54_39 rfl rfl ?_
        refine me_if_ne (p' := 44) k54_41 rfl (fun h => absurd h (by decide)) (fun _ => ?_)
        refine me_aload_n (p' := 48) k54_47 rfl rfl ?_
        refine me_gfr (p' := 51) k54_48 rfl (by decide) rfl (b := 11) rfl ?_
        refine me_gfr (p' := 54) k54_51 rfl (by decide) rfl (b := 17) rfl ?_
        refine me_iload_n (p' := 55) k54_54 rfl rfl ?_
        refine me_aald (p' := 56) k54_55 rfl (by decide) rfl ⟨by decide, by decide⟩ (j := 1) rfl (by omega) (by decide) (b := 19) rfl ?_
        refine me_iload_n (p' := 57) k54_56 rfl rfl ?_
        refine me_iald (p' := 58) k54_57 rfl (by decide) rfl (j := k168) rfl (by omega) (by decide) rfl ?_
        rw [sgR11c1 (I := I) (c := k168) (by omega)]
        refine me_istore (p' := 60) k54_58 rfl ⟨Nat.le_of_ble_eq_true rfl, rfl⟩ rfl ?_
        refine me_aload_n (p' := 61) k54_60 rfl rfl ?_
        refine me_gfr (p' := 64) k54_61 rfl (by decide) rfl (b := 11) rfl ?_
        refine me_gfr (p' := 67) k54_64 rfl (by decide) rfl (b := 17) rfl ?_
        refine me_iload_n (p' := 68) k54_67 rfl rfl ?_
        refine me_aald (p' := 69) k54_68 rfl (by decide) rfl ⟨by decide, by decide⟩ (j := 1) rfl (by omega) (by decide) (b := 19) rfl ?_
        refine me_iload_n (p' := 70) k54_69 rfl rfl ?_
        refine me_iload_n (p' := 71) k54_70 rfl rfl ?_
        refine me_iast (p' := 72) k54_71 rfl (by decide) rfl (j := k168) rfl (by omega) (by decide) rfl ?_
        refine me_iload (p' := 74) k54_72 rfl rfl ?_
        refine me_reti k54_74 rt_54 rfl ?_
        simp only [sp_set, sp_rg_s (show 1 < 3 by decide) (by decide), sp_rg_s hk166 (by omega), sp_rg_s hk169 (by omega), if_true, if_false] at hQ
        refine hQ _ (mFr.up (by decide)) ?_
        rw [sgU11c1 (by omega)]
      · skip
        refine me_if_eq (p' := 39) k54_36 rfl (fun _ => ?_) (fun h => absurd (by decide) h)
        refine me_ldc (p' := 46) k54_44 rfl (v := (-1000000001)) (by decide) ?_
        refine me_reti k54_46 rt_54 rfl ?_
        simp only [sp_set, sp_rg_s (show 1 < 3 by decide) (by decide), sp_rg_s hk166 (by omega), sp_rg_n (by omega) hz170, if_true, if_false] at hQ
        exact hQ _ mFr.rf rfl
    · skip
      refine me_if_ne (p' := 12) k54_9 rfl (fun _ => ?_) (fun h => absurd (by decide) h)
      refine me_iload_n (p' := 13) k54_12 rfl rfl ?_
      refine me_iconst (p' := 14) k54_13 rfl (v := nI 2) (by decide) ?_
      refine me_ic_ne (p' := 17) k54_14 rfl (fun h => absurd h (by decide)) (fun _ => ?_)
      refine me_iconst (p' := 29) k54_28 rfl (v := nI 0) (by decide) ?_
      refine me_istore (p' := 31) k54_29 rfl ⟨Nat.le_of_ble_eq_true rfl, rfl⟩ rfl ?_
      refine me_aload_n (p' := 32) k54_31 rfl rfl ?_
      refine me_iload_n (p' := 33) k54_32 rfl rfl ?_
      refine me_cv (p' := 36) k54_33 rfl rfl (by decide) rfl (by decide) (by decide) dp_19 rfl rfl (cl_le mx_19 rfl) (by decide) (cl_sum rfl) (ct_CisCar hk (fun k171 hk172 he => ?_) (fun hz173 => ?_))
      · skip
        subst he
        refine me_if_eq (p' := 39) k54_36 rfl (fun h => absurd h (by decide)) (fun _ => ?_)
        refine me_iload (p' := 41) k54_39 rfl rfl ?_
        refine me_if_ne (p' := 44) k54_41 rfl (fun _ => ?_) (fun h => absurd (by decide) h)
        refine me_ldc (p' := 46) k54_44 rfl (v := (-1000000001)) (by decide) ?_
        refine me_reti k54_46 rt_54 rfl ?_
        simp only [sp_set, sp_rg_s (show 1 < 3 by decide) (by decide), sp_rg_n (by omega) hz167, sp_rg_s hk172 (by omega), if_true, if_false] at hQ
        exact hQ _ mFr.rf rfl
      · skip
        refine me_if_eq (p' := 39) k54_36 rfl (fun _ => ?_) (fun h => absurd (by decide) h)
        refine me_ldc (p' := 46) k54_44 rfl (v := (-1000000001)) (by decide) ?_
        refine me_reti k54_46 rt_54 rfl ?_
        simp only [sp_set, sp_rg_s (show 1 < 3 by decide) (by decide), sp_rg_n (by omega) hz167, sp_rg_n (by omega) hz173, if_true, if_false] at hQ
        exact hQ _ mFr.rf rfl
  · skip
    refine me_iload_n (p' := 1) k54_0 rfl rfl ?_
    refine me_iconst (p' := 2) k54_1 rfl (v := nI 1) (by decide) ?_
    refine me_ic_ne (p' := 5) k54_2 rfl (fun h => absurd h (by decide)) (fun _ => ?_)
    refine me_iload_n (p' := 13) k54_12 rfl rfl ?_
    refine me_iconst (p' := 14) k54_13 rfl (v := nI 2) (by decide) ?_
    refine me_ic_ne (p' := 17) k54_14 rfl (fun _ => ?_) (fun h => absurd (by decide) h)
    refine me_iload_n (p' := 18) k54_17 rfl rfl ?_
    refine me_cs (p' := 21) k54_18 rfl rfl rfl rfl rfl (cl_le mx_15 rfl) (by decide) (cl_sum rfl) (ct_isWeight (fun e174 => ?_) (fun e174 => ?_))
    · skip
      refine me_if_eq (p' := 24) k54_21 rfl (fun h => absurd h (by decide)) (fun _ => ?_)
      refine me_iconst (p' := 25) k54_24 rfl (v := nI 1) (by decide) ?_
      refine me_goto k54_25 ?_
      refine me_istore (p' := 31) k54_29 rfl ⟨Nat.le_of_ble_eq_true rfl, rfl⟩ rfl ?_
      refine me_aload_n (p' := 32) k54_31 rfl rfl ?_
      refine me_iload_n (p' := 33) k54_32 rfl rfl ?_
      refine me_cv (p' := 36) k54_33 rfl rfl (by decide) rfl (by decide) (by decide) dp_19 rfl rfl (cl_le mx_19 rfl) (by decide) (cl_sum rfl) (ct_CisCar hk (fun k175 hk176 he => ?_) (fun hz177 => ?_))
      · skip
        subst he
        refine me_if_eq (p' := 39) k54_36 rfl (fun h => absurd h (by decide)) (fun _ => ?_)
        refine me_iload (p' := 41) k54_39 rfl rfl ?_
        refine me_if_ne (p' := 44) k54_41 rfl (fun h => absurd h (by decide)) (fun _ => ?_)
        refine me_aload_n (p' := 48) k54_47 rfl rfl ?_
        refine me_gfr (p' := 51) k54_48 rfl (by decide) rfl (b := 11) rfl ?_
        refine me_gfr (p' := 54) k54_51 rfl (by decide) rfl (b := 17) rfl ?_
        refine me_iload_n (p' := 55) k54_54 rfl rfl ?_
        refine me_aald (p' := 56) k54_55 rfl (by decide) rfl ⟨by decide, by decide⟩ (j := 2) rfl (by omega) (by decide) (b := 20) rfl ?_
        refine me_iload_n (p' := 57) k54_56 rfl rfl ?_
        refine me_iald (p' := 58) k54_57 rfl (by decide) rfl (j := k175) rfl (by omega) (by decide) rfl ?_
        rw [sgR11c2 (I := I) (c := k175) (by omega)]
        refine me_istore (p' := 60) k54_58 rfl ⟨Nat.le_of_ble_eq_true rfl, rfl⟩ rfl ?_
        refine me_aload_n (p' := 61) k54_60 rfl rfl ?_
        refine me_gfr (p' := 64) k54_61 rfl (by decide) rfl (b := 11) rfl ?_
        refine me_gfr (p' := 67) k54_64 rfl (by decide) rfl (b := 17) rfl ?_
        refine me_iload_n (p' := 68) k54_67 rfl rfl ?_
        refine me_aald (p' := 69) k54_68 rfl (by decide) rfl ⟨by decide, by decide⟩ (j := 2) rfl (by omega) (by decide) (b := 20) rfl ?_
        refine me_iload_n (p' := 70) k54_69 rfl rfl ?_
        refine me_iload_n (p' := 71) k54_70 rfl rfl ?_
        refine me_iast (p' := 72) k54_71 rfl (by decide) rfl (j := k175) rfl (by omega) (by decide) rfl ?_
        refine me_iload (p' := 74) k54_72 rfl rfl ?_
        refine me_reti k54_74 rt_54 rfl ?_
        simp only [sp_set, sp_rg_s (show 2 < 3 by decide) (by decide), if_pos e174, sp_rg_s hk176 (by omega), if_true, if_false] at hQ
        refine hQ _ (mFr.up (by decide)) ?_
        rw [sgU11c2 (by omega)]
      · skip
        refine me_if_eq (p' := 39) k54_36 rfl (fun _ => ?_) (fun h => absurd (by decide) h)
        refine me_ldc (p' := 46) k54_44 rfl (v := (-1000000001)) (by decide) ?_
        refine me_reti k54_46 rt_54 rfl ?_
        simp only [sp_set, sp_rg_s (show 2 < 3 by decide) (by decide), if_pos e174, sp_rg_n (by omega) hz177, if_true, if_false] at hQ
        exact hQ _ mFr.rf rfl
    · skip
      refine me_if_eq (p' := 24) k54_21 rfl (fun _ => ?_) (fun h => absurd (by decide) h)
      refine me_iconst (p' := 29) k54_28 rfl (v := nI 0) (by decide) ?_
      refine me_istore (p' := 31) k54_29 rfl ⟨Nat.le_of_ble_eq_true rfl, rfl⟩ rfl ?_
      refine me_aload_n (p' := 32) k54_31 rfl rfl ?_
      refine me_iload_n (p' := 33) k54_32 rfl rfl ?_
      refine me_cv (p' := 36) k54_33 rfl rfl (by decide) rfl (by decide) (by decide) dp_19 rfl rfl (cl_le mx_19 rfl) (by decide) (cl_sum rfl) (ct_CisCar hk (fun k178 hk179 he => ?_) (fun hz180 => ?_))
      · skip
        subst he
        refine me_if_eq (p' := 39) k54_36 rfl (fun h => absurd h (by decide)) (fun _ => ?_)
        refine me_iload (p' := 41) k54_39 rfl rfl ?_
        refine me_if_ne (p' := 44) k54_41 rfl (fun _ => ?_) (fun h => absurd (by decide) h)
        refine me_ldc (p' := 46) k54_44 rfl (v := (-1000000001)) (by decide) ?_
        refine me_reti k54_46 rt_54 rfl ?_
        simp only [sp_set, sp_rg_s (show 2 < 3 by decide) (by decide), if_neg e174, sp_rg_s hk179 (by omega), if_true, if_false] at hQ
        exact hQ _ mFr.rf rfl
      · skip
        refine me_if_eq (p' := 39) k54_36 rfl (fun _ => ?_) (fun h => absurd (by decide) h)
        refine me_ldc (p' := 46) k54_44 rfl (v := (-1000000001)) (by decide) ?_
        refine me_reti k54_46 rt_54 rfl ?_
        simp only [sp_set, sp_rg_s (show 2 < 3 by decide) (by decide), if_neg e174, sp_rg_n (by omega) hz180, if_true, if_false] at hQ
        exact hQ _ mFr.rf rfl
  · skip
    refine me_iload_n (p' := 1) k54_0 rfl rfl ?_
    refine me_iconst (p' := 2) k54_1 rfl (v := nI 1) (by decide) ?_
    refine me_ic_ne (p' := 5) k54_2 rfl (fun c1 => ?_) (fun c1 => ?_)
    · skip
      exact absurd c1 (hz161 1 (by decide))
    · skip
      refine me_iload_n (p' := 13) k54_12 rfl rfl ?_
      refine me_iconst (p' := 14) k54_13 rfl (v := nI 2) (by decide) ?_
      refine me_ic_ne (p' := 17) k54_14 rfl (fun c2 => ?_) (fun c2 => ?_)
      · skip
        exact absurd c2 (hz161 2 (by decide))
      · skip
        refine me_iconst (p' := 29) k54_28 rfl (v := nI 0) (by decide) ?_
        refine me_istore (p' := 31) k54_29 rfl ⟨Nat.le_of_ble_eq_true rfl, rfl⟩ rfl ?_
        refine me_aload_n (p' := 32) k54_31 rfl rfl ?_
        refine me_iload_n (p' := 33) k54_32 rfl rfl ?_
        refine me_cv (p' := 36) k54_33 rfl rfl (by decide) rfl (by decide) (by decide) dp_19 rfl rfl (cl_le mx_19 rfl) (by decide) (cl_sum rfl) (ct_CisCar hk (fun k181 hk182 he => ?_) (fun hz183 => ?_))
        · skip
          subst he
          refine me_if_eq (p' := 39) k54_36 rfl (fun h => absurd h (by decide)) (fun _ => ?_)
          refine me_iload (p' := 41) k54_39 rfl rfl ?_
          refine me_if_ne (p' := 44) k54_41 rfl (fun _ => ?_) (fun h => absurd (by decide) h)
          refine me_ldc (p' := 46) k54_44 rfl (v := (-1000000001)) (by decide) ?_
          refine me_reti k54_46 rt_54 rfl ?_
          simp only [sp_set, sp_rg_n (m := 3) (by decide) hz161, sp_rg_s hk182 (by omega), if_true, if_false] at hQ
          exact hQ _ mFr.rf rfl
        · skip
          refine me_if_eq (p' := 39) k54_36 rfl (fun _ => ?_) (fun h => absurd (by decide) h)
          refine me_ldc (p' := 46) k54_44 rfl (v := (-1000000001)) (by decide) ?_
          refine me_reti k54_46 rt_54 rfl ?_
          simp only [sp_set, sp_rg_n (m := 3) (by decide) hz161, sp_rg_n (by omega) hz183, if_true, if_false] at hQ
          exact hQ _ mFr.rf rfl
