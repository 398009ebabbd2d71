/-! ===== the class: stands, gaps ===== -/
theorem sp_gmono {T : mT} {s : Nat → Int32} {n X j k : Nat} (hn : n ≤ 8) (h : mSt 5 s n X) (hX : X ≤ 100000) (hjk : j ≤ k) (hk : k ≤ 1000) : sp_sum (sp_secs T s (-1) n j) (-1) 5 n ≤ sp_sum (sp_secs T s (-1) n k) (-1) 5 n := by
  obtain ⟨e, rfl⟩ : ∃ e, k = j + e := ⟨k - j, by omega⟩
  rw [sp_secs_add]
  have h1 := (sp_secs_w (T := T) (aw := -1) (Or.inr rfl) hn h j (by omega)).st h (by omega)
  rw [if_pos rfl] at h1
  have h2 := sp_secs_w (T := T) (aw := -1) (Or.inr rfl) hn h1 e (by omega)
  rw [if_pos rfl] at h2
  exact (sp_sum_mono h2 (by omega) hn).1
theorem mSt.up3 {w : Nat} {s : Nat → Int32} {n X : Nat} {v : Int32} (h : mSt w s n X) : mSt w (up s 3 v) n X := fun c hc => by
  rw [up_ne (by omega)]
  exact h c hc
theorem sp_sum_up3 {s : Nat → Int32} {w : Nat} {v : Int32} : ∀ k : Nat, sp_sum (up s 3 v) (-1) w k = sp_sum s (-1) w k
  | 0 => rfl
  | k + 1 => by rw [sp_sum, sp_sum, sp_sum_up3 k, up_ne (by omega)]
theorem mI_eq {a b : Int32} (h1 : a ≤ b) (h2 : b ≤ a) : a = b := by
  rw [Int32.le_iff_toInt_le] at h1 h2
  exact Int32.toInt_inj.mp (by omega)
theorem lp_Cstands {d L : Nat} {xs : Nat → Int32} {I : Nat → Nat → Int32} {Q : Option Value → mj_H → Prop} {T : mT} {n : Nat} (hx : cTx I T) (hk : mOk (mSg 11 128 I) n) (hst : mSt 5 (mSg 11 128 I) n 9999) : ∀ j : Nat, j ≤ 300 → (hQ : ∀ J, mFr (mRc 26 ++ mSk) I J → Q (some (.int (sp_st (fun k => sp_sum (sp_secs T (mSg 11 128 I) (-1) n k) (-1) 5 n) (sp_sum (mSg 11 128 I) (-1) 5 n) j))) (mg_h L xs J)) → ∀ J, ∀ k : Nat, k = 300 - j → cAt T I J (sp_secs T (mSg 11 128 I) (-1) n k) → mj_Ev (d + 5) 71 22 [.ref 0, .int (sp_sum (mSg 11 128 I) (-1) 5 n), .int (nI (k + 1))] [] (mg_h L xs J) Q := by
  have hn8 := hk.hn.2
  intro j
  induction j with
  | zero =>
    intro hj hQ J k hkj hJ0
    subst hkj
    refine me_iload_n (p' := 23) k71_22 rfl rfl ?_
    refine me_sipush (p' := 26) k71_23 rfl (v := nI 300) (by decide) ?_
    refine me_ic_gt (p' := 29) k71_26 rfl (fun _ => ?_) (fun h => absurd (by decide) h)
    refine me_ldc (p' := 59) k71_57 rfl (v := (-1000000005)) (by decide) ?_
    refine me_reti k71_59 rt_71 rfl ?_
    exact hQ _ hJ0.fr
  | succ j ih =>
    intro hj hQ J k hkj hJ0
    obtain rfl : k = 299 - j := by omega
    rw [show 299 - j + 1 = 300 - j by omega]
    refine me_iload_n (p' := 23) k71_22 rfl rfl ?_
    refine me_sipush (p' := 26) k71_23 rfl (v := nI 300) (by decide) ?_
    refine me_ic_gt (p' := 29) k71_26 rfl (fun c1 => ?_) (fun c1 => ?_)
    · skip
      rw [cI_lt (a := 300) (b := 300 - j) (by omega) (by omega)] at c1
      exfalso
      omega
    · skip
      rw [cI_lt (a := 300) (b := 300 - j) (by omega) (by omega)] at c1
      refine me_aload_n (p' := 30) k71_29 rfl rfl ?_
      refine me_gfr (p' := 33) k71_30 rfl (by decide) rfl (b := 26) rfl ?_
      refine me_iconst (p' := 34) k71_33 rfl (v := nI 1) (by decide) ?_
      refine me_cv (p' := 37) k71_34 rfl rfl (by decide) rfl (by decide) (by decide) dp_63 rfl rfl (cl_le mx_63 rfl) (by decide) (cl_sum rfl) (ct_pass hJ0 hx (hk.secs _) (by omega) (fun K312 hK3130 => ?_))
      have hK313 : cAt T I K312 (sp_secs T (mSg 11 128 I) (-1) n (300 - j)) := by
        have := hK3130
        rw [← sp_secs_add, show 299 - j + 1 = 300 - j by omega] at this
        exact this
      refine me_aload_n (p' := 38) k71_37 rfl rfl ?_
      refine me_gfr (p' := 41) k71_38 rfl (by decide) rfl (b := 26) rfl ?_
      refine me_iconst (p' := 42) k71_41 rfl (v := nI 5) (by decide) ?_
      refine me_cv (p' := 45) k71_42 rfl rfl (by decide) rfl (by decide) (by decide) dp_62 rfl rfl (cl_le mx_62 rfl) (by decide) (cl_sum rfl) (ct_tot hK313 (mOk.secs (T := T) (aw := -1) hk (300 - j)) (by omega) ?_)
      show mj_Ev _ _ _ _ (.int ((fun k => sp_sum (sp_secs T (mSg 11 128 I) (-1) n k) (-1) 5 n) (300 - j)) :: _) _ _
      refine me_iload_n (p' := 46) k71_45 rfl rfl ?_
      refine me_ic_le (p' := 49) k71_46 rfl (fun c2 => ?_) (fun c2 => ?_)
      · skip
        refine me_iinc (p' := 54) k71_51 rfl rfl rfl (v := nI (300 - j + 1)) (mI_inc (by decide)) rfl ?_
        refine me_goto k71_54 ?_
        have e9 : (fun k => sp_sum (sp_secs T (mSg 11 128 I) (-1) n k) (-1) 5 n) (300 - j) = (sp_sum (mSg 11 128 I) (-1) 5 n) := (mI_eq (sp_gmono (T := T) (j := 0) hn8 hst (by omega) (Nat.zero_le _) (by omega)) c2).symm
        refine ih (by omega) (fun J hJ => by have := hQ J hJ; rw [sp_st, if_pos e9] at this; exact this) _ (300 - j) (by omega) hK313
      · skip
        refine me_iload_n (p' := 50) k71_49 rfl rfl ?_
        refine me_reti k71_50 rt_71 rfl ?_
        have := hQ _ hK313.fr
        rw [sp_st, if_neg (fun z => c2 (by rw [← z]; exact Int32.le_refl _))] at this
        exact this
theorem ct_Cstands {d L : Nat} {xs : Nat → Int32} {I : Nat → Nat → Int32} {Q : Option Value → mj_H → Prop} {T : mT} {n : Nat} (hx : cTx I T) (hcg : cCg I 11 T) (hk : mOk (mSg 11 128 I) n) (hst : mSt 5 (mSg 11 128 I) n 9999) (hQ : ∀ I2, mFr (mRc 26 ++ mSk) I I2 → Q (some (.int (sp_stands T (mSg 11 128 I) n))) (mg_h L xs I2)) : mj_Cl (d + 5) 71 [.ref 0] (mg_h L xs I) Q := by
  have hn8 := hk.hn.2
  refine cl_start mx_71 (ls := [.ref 0, mj_no, mj_no]) rfl ?_
  refine me_aload_n (p' := 1) k71_0 rfl rfl ?_
  refine me_gfr (p' := 4) k71_1 rfl (by decide) rfl (b := 26) rfl ?_
  refine me_aload_n (p' := 5) k71_4 rfl rfl ?_
  refine me_gfr (p' := 8) k71_5 rfl (by decide) rfl (b := 11) rfl ?_
  refine me_cv (p' := 11) k71_8 rfl rfl (by decide) rfl (by decide) (by decide) dp_70 rfl rfl (cl_le mx_70 rfl) (by decide) (cl_sum rfl) (ct_bec mFr.rf hcg (fun K314 hK315 => ?_))
  refine me_aload_n (p' := 12) k71_11 rfl rfl ?_
  refine me_gfr (p' := 15) k71_12 rfl (by decide) rfl (b := 11) rfl ?_
  refine me_iconst (p' := 16) k71_15 rfl (v := nI 5) (by decide) ?_
  refine me_cv (p' := 19) k71_16 rfl rfl (by decide) rfl (by decide) (by decide) dp_62 rfl rfl (cl_le mx_62 rfl) (by decide) (cl_sum rfl) (ct_tot11 (T := T) hK315.fr hk (by omega) ?_)
  refine me_istore_n (p' := 20) k71_19 rfl ⟨Nat.le_of_ble_eq_true rfl, rfl⟩ rfl ?_
  refine me_iconst (p' := 21) k71_20 rfl (v := nI 1) (by decide) ?_
  refine me_istore_n (p' := 22) k71_21 rfl ⟨Nat.le_of_ble_eq_true rfl, rfl⟩ rfl ?_
  exact lp_Cstands hx hk hst 300 (by decide) hQ _ 0 rfl hK315
theorem lp_nobody {d L : Nat} {xs : Nat → Int32} {I : Nat → Nat → Int32} {Q : Option Value → mj_H → Prop} {T : mT} {n m g : Nat} (hx : cTx I T) (hk : mOk (mSg 11 128 I) n) (hok : mOk (up (mSg 11 128 I) 3 (nI g)) n) (hst : mSt 5 (mSg 11 128 I) n 9999) (hm : m ≤ 60) (h1 : (fun g => sp_sum (sp_secs T (up (mSg 11 128 I) 3 (nI g)) (-1) n m) (-1) 5 n) g = (sp_sum (mSg 11 128 I) (-1) 5 n) → ∀ J, mFr (mRc 26 ++ mSk) I J → Q (some (.int (nI 1))) (mg_h L xs J)) (h0 : ¬ (fun g => sp_sum (sp_secs T (up (mSg 11 128 I) 3 (nI g)) (-1) n m) (-1) 5 n) g = (sp_sum (mSg 11 128 I) (-1) 5 n) → ∀ J, mFr (mRc 26 ++ mSk) I J → Q (some (.int (nI 0))) (mg_h L xs J)) : ∀ k : Nat, k ≤ m → ∀ J, cAt T I J (sp_secs T (up (mSg 11 128 I) 3 (nI g)) (-1) n k) → mj_Ev (d + 5) 82 31 [.ref 0, .int (nI g), .int (nI m), .int (sp_sum (mSg 11 128 I) (-1) 5 n), .int (nI k)] [] (mg_h L xs J) Q := by
  have hn8 := hk.hn.2
  refine loop_ind (n := m) (fun k hkn ih => ?_)
  intro J hJ0
  refine me_iload (p' := 33) k82_31 rfl rfl ?_
  refine me_iload_n (p' := 34) k82_33 rfl rfl ?_
  refine me_ic_ge (p' := 37) k82_34 rfl (fun c1 => ?_) (fun c1 => ?_)
  · skip
    rw [cI_le (a := m) (b := k) (by omega) (by omega)] at c1
    refine me_aload_n (p' := 64) k82_63 rfl rfl ?_
    refine me_gfr (p' := 67) k82_64 rfl (by decide) rfl (b := 26) rfl ?_
    refine me_iconst (p' := 68) k82_67 rfl (v := nI 5) (by decide) ?_
    refine me_cv (p' := 71) k82_68 rfl rfl (by decide) rfl (by decide) (by decide) dp_62 rfl rfl (cl_le mx_62 rfl) (by decide) (cl_sum rfl) (ct_tot hJ0 (hok.secs _) (by omega) ?_)
    refine me_iload_n (p' := 72) k82_71 rfl rfl ?_
    refine me_ic_ne (p' := 75) k82_72 rfl (fun c2 => ?_) (fun c2 => ?_)
    · skip
      refine me_iconst (p' := 76) k82_75 rfl (v := nI 1) (by decide) ?_
      refine me_goto k82_76 ?_
      refine me_reti k82_80 rt_82 (by decide) ?_
      have e8 : k = m := by omega
      subst e8
      exact h1 c2 J hJ0.fr
    · skip
      refine me_iconst (p' := 80) k82_79 rfl (v := nI 0) (by decide) ?_
      refine me_reti k82_80 rt_82 (by decide) ?_
      have e8 : k = m := by omega
      subst e8
      exact h0 c2 J hJ0.fr
  · skip
    rw [cI_le (a := m) (b := k) (by omega) (by omega)] at c1
    refine me_aload_n (p' := 38) k82_37 rfl rfl ?_
    refine me_gfr (p' := 41) k82_38 rfl (by decide) rfl (b := 26) rfl ?_
    refine me_iconst (p' := 42) k82_41 rfl (v := nI 5) (by decide) ?_
    refine me_cv (p' := 45) k82_42 rfl rfl (by decide) rfl (by decide) (by decide) dp_62 rfl rfl (cl_le mx_62 rfl) (by decide) (cl_sum rfl) (ct_tot hJ0 (hok.secs _) (by omega) ?_)
    refine me_iload_n (p' := 46) k82_45 rfl rfl ?_
    refine me_ic_ne (p' := 49) k82_46 rfl (fun c3 => ?_) (fun c3 => ?_)
    · skip
      refine me_aload_n (p' := 50) k82_49 rfl rfl ?_
      refine me_gfr (p' := 53) k82_50 rfl (by decide) rfl (b := 26) rfl ?_
      refine me_iconst (p' := 54) k82_53 rfl (v := nI 1) (by decide) ?_
      refine me_cv (p' := 57) k82_54 rfl rfl (by decide) rfl (by decide) (by decide) dp_63 rfl rfl (cl_le mx_63 rfl) (by decide) (cl_sum rfl) (ct_pass hJ0 hx (hok.secs _) (by omega) (fun K hK => ?_))
      refine me_iinc (p' := 60) k82_57 rfl rfl rfl (v := nI (k + 1)) (mI_inc (by decide)) rfl ?_
      refine me_goto k82_60 ?_
      exact ih (by omega) K hK
    · skip
      refine me_aload_n (p' := 64) k82_63 rfl rfl ?_
      refine me_gfr (p' := 67) k82_64 rfl (by decide) rfl (b := 26) rfl ?_
      refine me_iconst (p' := 68) k82_67 rfl (v := nI 5) (by decide) ?_
      refine me_cv (p' := 71) k82_68 rfl rfl (by decide) rfl (by decide) (by decide) dp_62 rfl rfl (cl_le mx_62 rfl) (by decide) (cl_sum rfl) (ct_tot hJ0 (hok.secs _) (by omega) ?_)
      refine me_iload_n (p' := 72) k82_71 rfl rfl ?_
      refine me_ic_ne (p' := 75) k82_72 rfl (fun c4 => ?_) (fun c4 => ?_)
      · skip
        refine me_iconst (p' := 76) k82_75 rfl (v := nI 1) (by decide) ?_
        refine me_goto k82_76 ?_
        refine me_reti k82_80 rt_82 (by decide) ?_
        exact absurd c4 c3
      · skip
        refine me_iconst (p' := 80) k82_79 rfl (v := nI 0) (by decide) ?_
        refine me_reti k82_80 rt_82 (by decide) ?_
        refine h0 (fun z => c3 ?_) J hJ0.fr
        refine mI_eq ?_ ?_
        · rw [← z]
          exact sp_gmono (T := T) hn8 hst.up3 (by omega) hkn (by omega)
        · have := sp_gmono (T := T) (j := 0) (k := k) hn8 (hst.up3 (v := nI g)) (by omega) (Nat.zero_le _) (by omega)
          rw [show sp_sum (sp_secs T (up (mSg 11 128 I) 3 (nI g)) (-1) n 0) (-1) 5 n = (sp_sum (mSg 11 128 I) (-1) 5 n) from sp_sum_up3 n] at this
          exact this
theorem ct_nobody {d L : Nat} {xs : Nat → Int32} {I J : Nat → Nat → Int32} {Q : Option Value → mj_H → Prop} {T : mT} {n m g : Nat} (hJf : mFr (mRc 26 ++ mSk) I J) (hx : cTx I T) (hcg : cCg I 11 T) (hk : mOk (mSg 11 128 I) n) (hst : mSt 5 (mSg 11 128 I) n 9999) (hm : m ≤ 60) (hg : 1 ≤ g ∧ g ≤ 60) (h1 : (fun g => sp_sum (sp_secs T (up (mSg 11 128 I) 3 (nI g)) (-1) n m) (-1) 5 n) g = (sp_sum (mSg 11 128 I) (-1) 5 n) → ∀ J, mFr (mRc 26 ++ mSk) I J → Q (some (.int (nI 1))) (mg_h L xs J)) (h0 : ¬ (fun g => sp_sum (sp_secs T (up (mSg 11 128 I) 3 (nI g)) (-1) n m) (-1) 5 n) g = (sp_sum (mSg 11 128 I) (-1) 5 n) → ∀ J, mFr (mRc 26 ++ mSk) I J → Q (some (.int (nI 0))) (mg_h L xs J)) : mj_Cl (d + 5) 82 [.ref 0, .int (nI g), .int (nI m)] (mg_h L xs J) Q := by
  have hn8 := hk.hn.2
  refine cl_start mx_82 (ls := [.ref 0, .int (nI g), .int (nI m), mj_no, mj_no]) rfl ?_
  refine me_aload_n (p' := 1) k82_0 rfl rfl ?_
  refine me_gfr (p' := 4) k82_1 rfl (by decide) rfl (b := 26) rfl ?_
  refine me_aload_n (p' := 5) k82_4 rfl rfl ?_
  refine me_gfr (p' := 8) k82_5 rfl (by decide) rfl (b := 11) rfl ?_
  refine me_cv (p' := 11) k82_8 rfl rfl (by decide) rfl (by decide) (by decide) dp_70 rfl rfl (cl_le mx_70 rfl) (by decide) (cl_sum rfl) (ct_bec hJf hcg (fun K316 hK317 => ?_))
  refine me_aload_n (p' := 12) k82_11 rfl rfl ?_
  refine me_gfr (p' := 15) k82_12 rfl (by decide) rfl (b := 26) rfl ?_
  refine me_iload_n (p' := 16) k82_15 rfl rfl ?_
  refine me_pfi (p' := 19) k82_16 rfl (by decide) rfl rfl rfl rfl ?_
  have hK318 : cAt T I (mg_u K316 26 6 (nI g)) (up (mSg 11 128 I) 3 (nI g)) := hK317.uG
  generalize hgeK319 : (mg_u K316 26 6 (nI g)) = K319 at *
  refine me_aload_n (p' := 20) k82_19 rfl rfl ?_
  refine me_gfr (p' := 23) k82_20 rfl (by decide) rfl (b := 11) rfl ?_
  refine me_iconst (p' := 24) k82_23 rfl (v := nI 5) (by decide) ?_
  refine me_cv (p' := 27) k82_24 rfl rfl (by decide) rfl (by decide) (by decide) dp_62 rfl rfl (cl_le mx_62 rfl) (by decide) (cl_sum rfl) (ct_tot11 (T := T) hK318.fr hk (by omega) ?_)
  refine me_istore_n (p' := 28) k82_27 rfl ⟨Nat.le_of_ble_eq_true rfl, rfl⟩ rfl ?_
  refine me_iconst (p' := 29) k82_28 rfl (v := nI 0) (by decide) ?_
  refine me_istore (p' := 31) k82_29 rfl ⟨Nat.le_of_ble_eq_true rfl, rfl⟩ rfl ?_
  exact lp_nobody hx hk (hk.upG (by omega) (by omega)) hst hm h1 h0 0 (Nat.zero_le _) _ hK318
theorem lp_Cgaps {d L : Nat} {xs : Nat → Int32} {I : Nat → Nat → Int32} {Q : Option Value → mj_H → Prop} {T : mT} {n m : Nat} (hx : cTx I T) (hcg : cCg I 11 T) (hk : mOk (mSg 11 128 I) n) (hst : mSt 5 (mSg 11 128 I) n 9999) (hm : m ≤ 60) : ∀ k : Nat, k ≤ 60 → (hQ : ∀ J, mFr (mRc 26 ++ mSk) I J → Q (some (.int (sp_gp (fun g => sp_sum (sp_secs T (up (mSg 11 128 I) 3 (nI g)) (-1) n m) (-1) 5 n) (sp_sum (mSg 11 128 I) (-1) 5 n) k))) (mg_h L xs J)) → ∀ J, mFr (mRc 26 ++ mSk) I J → mj_Ev (d + 6) 81 16 [.ref 0, .int (nI m), .int (nI k)] [] (mg_h L xs J) Q := by
  have hn8 := hk.hn.2
  intro k
  induction k with
  | zero =>
    intro hk60 hQ J hJ0
    refine me_iload_n (p' := 17) k81_16 rfl rfl ?_
    refine me_iconst (p' := 18) k81_17 rfl (v := nI 1) (by decide) ?_
    refine me_ic_lt (p' := 21) k81_18 rfl (fun _ => ?_) (fun h => absurd (by decide) h)
    refine me_ldc (p' := 40) k81_38 rfl (v := (-1000000005)) (by decide) ?_
    refine me_reti k81_40 rt_81 rfl ?_
    exact hQ _ hJ0
  | succ k ih =>
    intro hk60 hQ J hJ0
    refine me_iload_n (p' := 17) k81_16 rfl rfl ?_
    refine me_iconst (p' := 18) k81_17 rfl (v := nI 1) (by decide) ?_
    refine me_ic_lt (p' := 21) k81_18 rfl (fun c1 => ?_) (fun c1 => ?_)
    · skip
      rw [cI_lt (a := k + 1) (b := 1) (by omega) (by omega)] at c1
      exfalso
      omega
    · skip
      rw [cI_lt (a := k + 1) (b := 1) (by omega) (by omega)] at c1
      refine me_aload_n (p' := 22) k81_21 rfl rfl ?_
      refine me_iload_n (p' := 23) k81_22 rfl rfl ?_
      refine me_iload_n (p' := 24) k81_23 rfl rfl ?_
      refine me_cv (p' := 27) k81_24 rfl rfl (by decide) rfl (by decide) (by decide) dp_82 rfl rfl (cl_le mx_82 rfl) (by decide) (cl_sum rfl) (ct_nobody hJ0 hx hcg hk hst hm (by omega) (fun e K hK => ?_) (fun e K hK => ?_))
      · skip
        refine me_if_eq (p' := 30) k81_27 rfl (fun h => absurd h (by decide)) (fun _ => ?_)
        refine me_iload_n (p' := 31) k81_30 rfl rfl ?_
        refine me_reti k81_31 rt_81 rfl ?_
        have := hQ _ hK
        rw [sp_gp, if_pos e] at this
        exact this
      · skip
        refine me_if_eq (p' := 30) k81_27 rfl (fun _ => ?_) (fun h => absurd (by decide) h)
        refine me_iinc (p' := 35) k81_32 rfl rfl rfl rfl rfl ?_
        refine me_goto k81_35 ?_
        rw [mI_dec, mI_pred]
        exact ih (by omega) (fun J hJ => by have := hQ J hJ; rw [sp_gp, if_neg e] at this; exact this) _ hK
theorem ct_Cgaps {d L : Nat} {xs : Nat → Int32} {I : Nat → Nat → Int32} {Q : Option Value → mj_H → Prop} {T : mT} {n : Nat} (hx : cTx I T) (hcg : cCg I 11 T) (hk : mOk (mSg 11 128 I) n) (hst : mSt 5 (mSg 11 128 I) n 9999) {v : Int32} (hQ : ∀ I2, mFr (mRc 26 ++ mSk) I I2 → Q (some (.int (sp_gaps T (mSg 11 128 I) n v))) (mg_h L xs I2)) : mj_Cl (d + 6) 81 [.ref 0, .int v] (mg_h L xs I) Q := by
  have hn8 := hk.hn.2
  refine cl_start mx_81 (ls := [.ref 0, .int v, mj_no]) rfl ?_
  refine me_iload_n (p' := 1) k81_0 rfl rfl ?_
  refine me_iconst (p' := 2) k81_1 rfl (v := nI 1) (by decide) ?_
  refine me_bipush (p' := 4) k81_2 rfl (v := nI 60) (by decide) ?_
  refine me_cs (p' := 7) k81_4 rfl rfl rfl rfl rfl (cl_le mx_16 rfl) (by decide) (cl_sum rfl) (ct_isWithin (fun e320 => ?_) (fun e320 => ?_))
  · skip
    refine me_if_ne (p' := 10) k81_7 rfl (fun h => absurd h (by decide)) (fun _ => ?_)
    obtain ⟨m, rfl, hm⟩ : ∃ m : Nat, v = nI m ∧ m ≤ 60 ∧ 1 ≤ m := by
      obtain ⟨m, rfl, hm⟩ := mI_of (Int32.le_trans (nI_pos' (show 1 < 2 ^ 31 by omega)) e320.1)
      exact ⟨m, rfl, (cI_le hm (by decide)).mp e320.2, (cI_le (by decide) hm).mp e320.1⟩
    refine me_bipush (p' := 15) k81_13 rfl (v := nI 60) (by decide) ?_
    refine me_istore_n (p' := 16) k81_15 rfl ⟨Nat.le_of_ble_eq_true rfl, rfl⟩ rfl ?_
    simp only [sp_gaps, if_pos e320, nI_clamp (show m < 2 ^ 31 by omega), if_true, if_false] at hQ
    exact lp_Cgaps hx hcg hk hst (by omega) 60 (by decide) hQ I mFr.rf
  · skip
    refine me_if_ne (p' := 10) k81_7 rfl (fun _ => ?_) (fun h => absurd (by decide) h)
    refine me_ldc (p' := 12) k81_10 rfl (v := (-1000000001)) (by decide) ?_
    refine me_reti k81_12 rt_81 rfl ?_
    simp only [sp_gaps, if_neg e320, if_true, if_false] at hQ
    exact hQ _ mFr.rf
