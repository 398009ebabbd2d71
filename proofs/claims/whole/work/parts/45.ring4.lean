/-! ===== the class: seconds, copies ===== -/
theorem lp_ps1_11 {d L : Nat} {xs : Nat → Int32} {I : Nat → Nat → Int32} {Q : Option Value → mj_H → Prop} {s : Nat → Int32} {n m k : Nat} (hk : mOk s n) (hE : ∀ I1, mFr (mRg 11 ++ mSk) I I1 → mSg 11 128 I1 = sp_dim s 12 → mj_Ev (d + 4) 63 43 [.ref 11, .int (nI m), .int (nI k), .int (nI 12)] [] (mg_h L xs I1) Q) : ∀ p : Nat, p ≤ 12 → ∀ I1, mFr (mRg 11 ++ mSk) I I1 → mSg 11 128 I1 = sp_dim s p → mj_Ev (d + 4) 63 9 [.ref 11, .int (nI m), .int (nI k), .int (nI p)] [] (mg_h L xs I1) Q := by
  refine loop_ind (n := 12) (fun p hp ih => ?_)
  intro I1 hfr e1
  refine me_iload_n (p' := 10) k63_9 rfl rfl ?_
  refine me_bipush (p' := 12) k63_10 rfl (v := nI 12) (by decide) ?_
  refine me_ic_ge (p' := 15) k63_12 rfl (fun c1 => ?_) (fun c1 => ?_)
  · skip
    rw [cI_le (a := 12) (b := p) (by omega) (by omega)] at c1
    have e8 : p = 12 := by omega
    subst e8
    exact hE I1 hfr e1
  · skip
    rw [cI_le (a := 12) (b := p) (by omega) (by omega)] at c1
    refine me_aload_n (p' := 16) k63_15 rfl rfl ?_
    refine me_gfr (p' := 19) k63_16 rfl (by decide) rfl (b := 12) rfl ?_
    refine me_iconst (p' := 20) k63_19 rfl (v := nI 3) (by decide) ?_
    refine me_aald (p' := 21) k63_20 rfl (by decide) rfl ⟨by decide, by decide⟩ (j := 3) rfl (by omega) (by decide) (b := 16) rfl ?_
    refine me_iload_n (p' := 22) k63_21 rfl rfl ?_
    refine me_iconst (p' := 23) k63_22 rfl (v := nI 0) (by decide) ?_
    refine me_aload_n (p' := 24) k63_23 rfl rfl ?_
    refine me_gfr (p' := 27) k63_24 rfl (by decide) rfl (b := 12) rfl ?_
    refine me_iconst (p' := 28) k63_27 rfl (v := nI 3) (by decide) ?_
    refine me_aald (p' := 29) k63_28 rfl (by decide) rfl ⟨by decide, by decide⟩ (j := 3) rfl (by omega) (by decide) (b := 16) rfl ?_
    refine me_iload_n (p' := 30) k63_29 rfl rfl ?_
    refine me_iald (p' := 31) k63_30 rfl (by decide) rfl (j := p) rfl (by omega) (by decide) rfl ?_
    rw [sgR11p3 (I := I1) (c := p) (by omega)]
    rw [e1, show sp_dim s p (41 + p) = s (41 + p) from by unfold sp_dim; rw [if_neg (by omega)]]
    obtain ⟨v, hv, hv2⟩ := hk.se p (by omega)
    rw [hv]
    refine me_iconst (p' := 32) k63_31 rfl (v := nI 1) (by decide) ?_
    refine me_isub (p' := 33) k63_32 rfl rfl ?_
    refine me_max (p' := 36) k63_33 rfl (cl_sum rfl) rfl ?_
    rw [sp_dimc hv2, ← hv]
    refine me_iast (p' := 37) k63_36 rfl (by decide) rfl (j := p) rfl (by omega) (by decide) rfl ?_
    refine me_iinc (p' := 40) k63_37 rfl rfl rfl (v := nI (p + 1)) (mI_inc (by decide)) rfl ?_
    refine me_goto k63_40 ?_
    refine ih (by omega) _ (hfr.tr (mFr.up (by decide))) ?_
    rw [sgU11p3 (by omega), e1, sp_dim_up2]
theorem lp_ps2_11 {d L : Nat} {xs : Nat → Int32} {I : Nat → Nat → Int32} {Q : Option Value → mj_H → Prop} {T : mT} {s : Nat → Int32} {n m k : Nat} (hkm : k < 100000) (hx : cTx I T) (hcg : cCg I 11 T) (hk : mOk s n) (hE : ∀ I1, mFr (mRg 11 ++ mSk) I I1 → mSg 11 128 I1 = up (sp_cars T s (-1) n n) 2 (sp_cars T s (-1) n n 2 + nI 1) → ∀ u : Value, u = .int (nI n) → mj_Ev (d + 4) 63 2 [.ref 11, .int (nI m), .int (nI (k + 1)), u] [] (mg_h L xs I1) Q) : ∀ j : Nat, j ≤ n → ∀ I1, mFr (mRg 11 ++ mSk) I I1 → mSg 11 128 I1 = sp_cars T s (-1) n j → mj_Ev (d + 4) 63 45 [.ref 11, .int (nI m), .int (nI k), .int (nI j)] [] (mg_h L xs I1) Q := by
  have hn8 := hk.hn.2
  refine loop_ind (n := n) (fun j hj ih => ?_)
  intro I1 hfr e1
  have h1 : mOk (mSg 11 128 I1) n := by rw [e1]; exact hk.cars j hj
  refine me_iload_n (p' := 46) k63_45 rfl rfl ?_
  refine me_aload_n (p' := 47) k63_46 rfl rfl ?_
  refine me_gfi (p' := 50) k63_47 rfl (by decide) rfl rfl ?_
  rw [show I1 11 5 = nI n from h1.hn.1]
  refine me_ic_ge (p' := 53) k63_50 rfl (fun c1 => ?_) (fun c1 => ?_)
  · skip
    rw [cI_le (a := n) (b := j) (by omega) (by omega)] at c1
    refine me_aload_n (p' := 65) k63_64 rfl rfl ?_
    refine me_dup (p' := 66) k63_65 rfl rfl ?_
    refine me_gfi (p' := 69) k63_66 rfl (by decide) rfl rfl ?_
    refine me_iconst (p' := 70) k63_69 rfl (v := nI 1) (by decide) ?_
    refine me_iadd (p' := 71) k63_70 rfl rfl ?_
    refine me_pfi (p' := 74) k63_71 rfl (by decide) rfl rfl rfl rfl ?_
    refine me_iinc (p' := 77) k63_74 rfl rfl rfl (v := nI (k + 1)) (mI_inc (by decide)) rfl ?_
    refine me_goto k63_77 ?_
    have e8 : j = n := by omega
    subst e8
    refine hE (mg_u I1 11 7 ((I1 11 7) + nI 1)) (hfr.tr (mFr.up (by decide))) ?_ _ rfl
    rw [sgU11f2, show I1 11 7 = mSg 11 128 I1 2 from rfl, e1]
  · skip
    rw [cI_le (a := n) (b := j) (by omega) (by omega)] at c1
    refine me_aload_n (p' := 54) k63_53 rfl rfl ?_
    refine me_iload_n (p' := 55) k63_54 rfl rfl ?_
    refine me_cv (p' := 58) k63_55 rfl rfl (by decide) rfl (by decide) (by decide) dp_64 rfl rfl (cl_le mx_64 rfl) (by decide) (cl_sum rfl) (ct_goOn11 (hx.fr hfr (by decide)) (hcg.fr hfr (by decide)) h1 (by omega) (fun I2 hI2 hI3 => ?_))
    refine me_iinc (p' := 61) k63_58 rfl rfl rfl (v := nI (j + 1)) (mI_inc (by decide)) rfl ?_
    refine me_goto k63_61 ?_
    refine ih (by omega) I2 (hfr.tr hI2) ?_
    rw [hI3, e1, sp_cars, if_neg (nI_m1 (by omega))]
theorem lp_ps3_11 {d L : Nat} {xs : Nat → Int32} {I : Nat → Nat → Int32} {Q : Option Value → mj_H → Prop} {T : mT} {n m : Nat} (hm : m < 100000) (hx : cTx I T) (hcg : cCg I 11 T) (hk : mOk (mSg 11 128 I) n) (hQ : ∀ I2, mFr (mRg 11 ++ mSk) I I2 → mSg 11 128 I2 = sp_secs T (mSg 11 128 I) (-1) n m → Q none (mg_h L xs I2)) : ∀ k : Nat, k ≤ m → ∀ I1, mFr (mRg 11 ++ mSk) I I1 → mSg 11 128 I1 = sp_secs T (mSg 11 128 I) (-1) n k → ∀ u3 : Value, mj_cat1 u3 = true → mj_Ev (d + 4) 63 2 [.ref 11, .int (nI m), .int (nI k), u3] [] (mg_h L xs I1) Q := by
  have hn8 := hk.hn.2
  refine loop_ind (n := m) (fun k hkm ih => ?_)
  intro I1 hfr e1 u3 hu3
  have h1 : mOk (mSg 11 128 I1) n := by rw [e1]; exact hk.secs k
  refine me_iload_n (p' := 3) k63_2 rfl rfl ?_
  refine me_iload_n (p' := 4) k63_3 rfl rfl ?_
  refine me_ic_ge (p' := 7) k63_4 rfl (fun c1 => ?_) (fun c1 => ?_)
  · skip
    rw [cI_le (a := m) (b := k) (by omega) (by omega)] at c1
    refine me_retv k63_80 rt_63 ?_
    have e8 : k = m := by omega
    subst e8
    exact hQ _ hfr e1
  · skip
    rw [cI_le (a := m) (b := k) (by omega) (by omega)] at c1
    refine me_iconst (p' := 8) k63_7 rfl (v := nI 0) (by decide) ?_
    refine me_istore_n (p' := 9) k63_8 rfl ⟨Nat.le_of_ble_eq_true rfl, rfl⟩ rfl ?_
    refine lp_ps1_11 (I := I1) (s := mSg 11 128 I1) h1 (fun I2 h2 h3 => ?_) 0 (Nat.zero_le _) I1 mFr.rf ?_
    · skip
      refine me_iconst (p' := 44) k63_43 rfl (v := nI 0) (by decide) ?_
      refine me_istore_n (p' := 45) k63_44 rfl ⟨Nat.le_of_ble_eq_true rfl, rfl⟩ rfl ?_
      refine lp_ps2_11 (I := I2) (s := sp_dim (mSg 11 128 I1) 12) (T := T) (n := n) (by omega) (hx.fr (hfr.tr h2) (by decide)) (hcg.fr (hfr.tr h2) (by decide)) h1.dim (fun I3 h4 h5 u hu => ?_) 0 (Nat.zero_le _) I2 mFr.rf h3
      subst hu
      exact ih (by omega) I3 ((hfr.tr h2).tr h4) (by rw [h5, e1, sp_secs]; rfl) _ rfl
    · funext q
      unfold sp_dim
      rw [if_neg (by omega)]
theorem ct_passSeconds11 {d L : Nat} {xs : Nat → Int32} {I : Nat → Nat → Int32} {Q : Option Value → mj_H → Prop} {T : mT} {n m : Nat} (hm : m < 100000) (hx : cTx I T) (hcg : cCg I 11 T) (hk : mOk (mSg 11 128 I) n) (hQ : ∀ I2, mFr (mRg 11 ++ mSk) I I2 → mSg 11 128 I2 = sp_secs T (mSg 11 128 I) (-1) n m → Q none (mg_h L xs I2)) : mj_Cl (d + 4) 63 [.ref 11, .int (nI m)] (mg_h L xs I) Q := by
  refine cl_start mx_63 (ls := [.ref 11, .int (nI m), mj_no, mj_no]) rfl ?_
  refine me_iconst (p' := 1) k63_0 rfl (v := nI 0) (by decide) ?_
  refine me_istore_n (p' := 2) k63_1 rfl ⟨Nat.le_of_ble_eq_true rfl, rfl⟩ rfl ?_
  exact lp_ps3_11 hm hx hcg hk hQ 0 (Nat.zero_le _) I mFr.rf rfl _ rfl
theorem lp_ps1_26 {d L : Nat} {xs : Nat → Int32} {I : Nat → Nat → Int32} {Q : Option Value → mj_H → Prop} {s : Nat → Int32} {n m k : Nat} (hk : mOk s n) (hE : ∀ I1, mFr (mRg 26 ++ mSk) I I1 → mSg 26 128 I1 = sp_dim s 12 → mj_Ev (d + 4) 63 43 [.ref 26, .int (nI m), .int (nI k), .int (nI 12)] [] (mg_h L xs I1) Q) : ∀ p : Nat, p ≤ 12 → ∀ I1, mFr (mRg 26 ++ mSk) I I1 → mSg 26 128 I1 = sp_dim s p → mj_Ev (d + 4) 63 9 [.ref 26, .int (nI m), .int (nI k), .int (nI p)] [] (mg_h L xs I1) Q := by
  refine loop_ind (n := 12) (fun p hp ih => ?_)
  intro I1 hfr e1
  refine me_iload_n (p' := 10) k63_9 rfl rfl ?_
  refine me_bipush (p' := 12) k63_10 rfl (v := nI 12) (by decide) ?_
  refine me_ic_ge (p' := 15) k63_12 rfl (fun c1 => ?_) (fun c1 => ?_)
  · skip
    rw [cI_le (a := 12) (b := p) (by omega) (by omega)] at c1
    have e8 : p = 12 := by omega
    subst e8
    exact hE I1 hfr e1
  · skip
    rw [cI_le (a := 12) (b := p) (by omega) (by omega)] at c1
    refine me_aload_n (p' := 16) k63_15 rfl rfl ?_
    refine me_gfr (p' := 19) k63_16 rfl (by decide) rfl (b := 27) rfl ?_
    refine me_iconst (p' := 20) k63_19 rfl (v := nI 3) (by decide) ?_
    refine me_aald (p' := 21) k63_20 rfl (by decide) rfl ⟨by decide, by decide⟩ (j := 3) rfl (by omega) (by decide) (b := 31) rfl ?_
    refine me_iload_n (p' := 22) k63_21 rfl rfl ?_
    refine me_iconst (p' := 23) k63_22 rfl (v := nI 0) (by decide) ?_
    refine me_aload_n (p' := 24) k63_23 rfl rfl ?_
    refine me_gfr (p' := 27) k63_24 rfl (by decide) rfl (b := 27) rfl ?_
    refine me_iconst (p' := 28) k63_27 rfl (v := nI 3) (by decide) ?_
    refine me_aald (p' := 29) k63_28 rfl (by decide) rfl ⟨by decide, by decide⟩ (j := 3) rfl (by omega) (by decide) (b := 31) rfl ?_
    refine me_iload_n (p' := 30) k63_29 rfl rfl ?_
    refine me_iald (p' := 31) k63_30 rfl (by decide) rfl (j := p) rfl (by omega) (by decide) rfl ?_
    rw [sgR26p3 (I := I1) (c := p) (by omega)]
    rw [e1, show sp_dim s p (41 + p) = s (41 + p) from by unfold sp_dim; rw [if_neg (by omega)]]
    obtain ⟨v, hv, hv2⟩ := hk.se p (by omega)
    rw [hv]
    refine me_iconst (p' := 32) k63_31 rfl (v := nI 1) (by decide) ?_
    refine me_isub (p' := 33) k63_32 rfl rfl ?_
    refine me_max (p' := 36) k63_33 rfl (cl_sum rfl) rfl ?_
    rw [sp_dimc hv2, ← hv]
    refine me_iast (p' := 37) k63_36 rfl (by decide) rfl (j := p) rfl (by omega) (by decide) rfl ?_
    refine me_iinc (p' := 40) k63_37 rfl rfl rfl (v := nI (p + 1)) (mI_inc (by decide)) rfl ?_
    refine me_goto k63_40 ?_
    refine ih (by omega) _ (hfr.tr (mFr.up (by decide))) ?_
    rw [sgU26p3 (by omega), e1, sp_dim_up2]
theorem lp_ps2_26 {d L : Nat} {xs : Nat → Int32} {I : Nat → Nat → Int32} {Q : Option Value → mj_H → Prop} {T : mT} {s : Nat → Int32} {n m k : Nat} (hkm : k < 100000) (hx : cTx I T) (hcg : cCg I 26 T) (hk : mOk s n) (hE : ∀ I1, mFr (mRg 26 ++ mSk) I I1 → mSg 26 128 I1 = up (sp_cars T s (-1) n n) 2 (sp_cars T s (-1) n n 2 + nI 1) → ∀ u : Value, u = .int (nI n) → mj_Ev (d + 4) 63 2 [.ref 26, .int (nI m), .int (nI (k + 1)), u] [] (mg_h L xs I1) Q) : ∀ j : Nat, j ≤ n → ∀ I1, mFr (mRg 26 ++ mSk) I I1 → mSg 26 128 I1 = sp_cars T s (-1) n j → mj_Ev (d + 4) 63 45 [.ref 26, .int (nI m), .int (nI k), .int (nI j)] [] (mg_h L xs I1) Q := by
  have hn8 := hk.hn.2
  refine loop_ind (n := n) (fun j hj ih => ?_)
  intro I1 hfr e1
  have h1 : mOk (mSg 26 128 I1) n := by rw [e1]; exact hk.cars j hj
  refine me_iload_n (p' := 46) k63_45 rfl rfl ?_
  refine me_aload_n (p' := 47) k63_46 rfl rfl ?_
  refine me_gfi (p' := 50) k63_47 rfl (by decide) rfl rfl ?_
  rw [show I1 26 5 = nI n from h1.hn.1]
  refine me_ic_ge (p' := 53) k63_50 rfl (fun c1 => ?_) (fun c1 => ?_)
  · skip
    rw [cI_le (a := n) (b := j) (by omega) (by omega)] at c1
    refine me_aload_n (p' := 65) k63_64 rfl rfl ?_
    refine me_dup (p' := 66) k63_65 rfl rfl ?_
    refine me_gfi (p' := 69) k63_66 rfl (by decide) rfl rfl ?_
    refine me_iconst (p' := 70) k63_69 rfl (v := nI 1) (by decide) ?_
    refine me_iadd (p' := 71) k63_70 rfl rfl ?_
    refine me_pfi (p' := 74) k63_71 rfl (by decide) rfl rfl rfl rfl ?_
    refine me_iinc (p' := 77) k63_74 rfl rfl rfl (v := nI (k + 1)) (mI_inc (by decide)) rfl ?_
    refine me_goto k63_77 ?_
    have e8 : j = n := by omega
    subst e8
    refine hE (mg_u I1 26 7 ((I1 26 7) + nI 1)) (hfr.tr (mFr.up (by decide))) ?_ _ rfl
    rw [sgU26f2, show I1 26 7 = mSg 26 128 I1 2 from rfl, e1]
  · skip
    rw [cI_le (a := n) (b := j) (by omega) (by omega)] at c1
    refine me_aload_n (p' := 54) k63_53 rfl rfl ?_
    refine me_iload_n (p' := 55) k63_54 rfl rfl ?_
    refine me_cv (p' := 58) k63_55 rfl rfl (by decide) rfl (by decide) (by decide) dp_64 rfl rfl (cl_le mx_64 rfl) (by decide) (cl_sum rfl) (ct_goOn26 (hx.fr hfr (by decide)) (hcg.fr hfr (by decide)) h1 (by omega) (fun I2 hI2 hI3 => ?_))
    refine me_iinc (p' := 61) k63_58 rfl rfl rfl (v := nI (j + 1)) (mI_inc (by decide)) rfl ?_
    refine me_goto k63_61 ?_
    refine ih (by omega) I2 (hfr.tr hI2) ?_
    rw [hI3, e1, sp_cars, if_neg (nI_m1 (by omega))]
theorem lp_ps3_26 {d L : Nat} {xs : Nat → Int32} {I : Nat → Nat → Int32} {Q : Option Value → mj_H → Prop} {T : mT} {n m : Nat} (hm : m < 100000) (hx : cTx I T) (hcg : cCg I 26 T) (hk : mOk (mSg 26 128 I) n) (hQ : ∀ I2, mFr (mRg 26 ++ mSk) I I2 → mSg 26 128 I2 = sp_secs T (mSg 26 128 I) (-1) n m → Q none (mg_h L xs I2)) : ∀ k : Nat, k ≤ m → ∀ I1, mFr (mRg 26 ++ mSk) I I1 → mSg 26 128 I1 = sp_secs T (mSg 26 128 I) (-1) n k → ∀ u3 : Value, mj_cat1 u3 = true → mj_Ev (d + 4) 63 2 [.ref 26, .int (nI m), .int (nI k), u3] [] (mg_h L xs I1) Q := by
  have hn8 := hk.hn.2
  refine loop_ind (n := m) (fun k hkm ih => ?_)
  intro I1 hfr e1 u3 hu3
  have h1 : mOk (mSg 26 128 I1) n := by rw [e1]; exact hk.secs k
  refine me_iload_n (p' := 3) k63_2 rfl rfl ?_
  refine me_iload_n (p' := 4) k63_3 rfl rfl ?_
  refine me_ic_ge (p' := 7) k63_4 rfl (fun c1 => ?_) (fun c1 => ?_)
  · skip
    rw [cI_le (a := m) (b := k) (by omega) (by omega)] at c1
    refine me_retv k63_80 rt_63 ?_
    have e8 : k = m := by omega
    subst e8
    exact hQ _ hfr e1
  · skip
    rw [cI_le (a := m) (b := k) (by omega) (by omega)] at c1
    refine me_iconst (p' := 8) k63_7 rfl (v := nI 0) (by decide) ?_
    refine me_istore_n (p' := 9) k63_8 rfl ⟨Nat.le_of_ble_eq_true rfl, rfl⟩ rfl ?_
    refine lp_ps1_26 (I := I1) (s := mSg 26 128 I1) h1 (fun I2 h2 h3 => ?_) 0 (Nat.zero_le _) I1 mFr.rf ?_
    · skip
      refine me_iconst (p' := 44) k63_43 rfl (v := nI 0) (by decide) ?_
      refine me_istore_n (p' := 45) k63_44 rfl ⟨Nat.le_of_ble_eq_true rfl, rfl⟩ rfl ?_
      refine lp_ps2_26 (I := I2) (s := sp_dim (mSg 26 128 I1) 12) (T := T) (n := n) (by omega) (hx.fr (hfr.tr h2) (by decide)) (hcg.fr (hfr.tr h2) (by decide)) h1.dim (fun I3 h4 h5 u hu => ?_) 0 (Nat.zero_le _) I2 mFr.rf h3
      subst hu
      exact ih (by omega) I3 ((hfr.tr h2).tr h4) (by rw [h5, e1, sp_secs]; rfl) _ rfl
    · funext q
      unfold sp_dim
      rw [if_neg (by omega)]
theorem ct_passSeconds26 {d L : Nat} {xs : Nat → Int32} {I : Nat → Nat → Int32} {Q : Option Value → mj_H → Prop} {T : mT} {n m : Nat} (hm : m < 100000) (hx : cTx I T) (hcg : cCg I 26 T) (hk : mOk (mSg 26 128 I) n) (hQ : ∀ I2, mFr (mRg 26 ++ mSk) I I2 → mSg 26 128 I2 = sp_secs T (mSg 26 128 I) (-1) n m → Q none (mg_h L xs I2)) : mj_Cl (d + 4) 63 [.ref 26, .int (nI m)] (mg_h L xs I) Q := by
  refine cl_start mx_63 (ls := [.ref 26, .int (nI m), mj_no, mj_no]) rfl ?_
  refine me_iconst (p' := 1) k63_0 rfl (v := nI 0) (by decide) ?_
  refine me_istore_n (p' := 2) k63_1 rfl ⟨Nat.le_of_ble_eq_true rfl, rfl⟩ rfl ?_
  exact lp_ps3_26 hm hx hcg hk hQ 0 (Nat.zero_le _) I mFr.rf rfl _ rfl
