/-! ===== the model: what is called (5) ===== -/
theorem lp_off {d L : Nat} {xs : Nat → Int32} {I : Nat → Nat → Int32} {Q : Option Value → mj_H → Prop} {T : mT} {n m wh : Nat} (hx : mTx I T) (hk : mOk (I 128) n) (haw : I 127 4 = -1) (hm : m ≤ 100) (hwh : wh < 2) (hE2 : n = 0 → ∀ J, mTh I J → Q (some (.int (-1000000005))) (mg_h L xs J)) (hE0 : n ≠ 0 → wh = 0 → ∀ J, mTh I J → Q (some (.int (sp_b1 (sp_offF T (I 128) n m) n))) (mg_h L xs J)) (hE1 : n ≠ 0 → ¬ wh = 0 → ∀ J, mTh I J → Q (some (.int (sp_b2 (nI 0) (sp_offF T (I 128) n m) n))) (mg_h L xs J)) : ∀ k : Nat, k ≤ n → ∀ J, mTh I J → ∀ u6 : Value, mj_Ev (d + 7) 177 34 [.ref 127, .int (nI m), .int (nI wh), .int (sp_b1 (sp_offF T (I 128) n m) k), .int (sp_b2 (nI 0) (sp_offF T (I 128) n m) k), .int (nI k), u6] [] (mg_h L xs J) Q := by
  have hn8 := hk.hn.2
  refine loop_ind (n := n) (fun k hkn ih => ?_)
  intro J hJ u6
  refine me_iload (p' := 36) k177_34 rfl rfl ?_
  refine me_aload_n (p' := 37) k177_36 rfl rfl ?_
  refine me_gfr (p' := 40) k177_37 rfl (by decide) rfl (b := 128) rfl ?_
  refine me_iconst (p' := 41) k177_40 rfl (v := nI 1) (by decide) ?_
  refine me_iald (p' := 42) k177_41 rfl (by decide) rfl (j := 1) rfl (by omega) (by decide) rfl ?_
  rw [show J 128 1 = nI n from by rw [hJ.e128]; exact hk.hn.1]
  refine me_ic_ge (p' := 45) k177_42 rfl (fun c1 => ?_) (fun c1 => ?_)
  · skip
    rw [cI_le (a := n) (b := k) (by omega) (by omega)] at c1
    refine me_iload_n (p' := 83) k177_82 rfl rfl ?_
    refine me_if_ge (p' := 86) k177_83 rfl (fun c2 => ?_) (fun c2 => ?_)
    · skip
      refine me_iload_n (p' := 92) k177_91 rfl rfl ?_
      refine me_if_ne (p' := 95) k177_92 rfl (fun c3 => ?_) (fun c3 => ?_)
      · skip
        rw [cI_eq0 (a := wh) (by omega)] at c3
        refine me_iload_n (p' := 96) k177_95 rfl rfl ?_
        refine me_goto k177_96 ?_
        refine me_reti k177_101 rt_177 rfl ?_
        have e8 : k = n := by omega
        subst e8
        exact hE0 (fun z => absurd ((sp_b_neg (by omega)).mpr z) (Int32.not_lt.mpr c2)) c3 J hJ
      · skip
        rw [cI_eq0 (a := wh) (by omega)] at c3
        refine me_iload (p' := 101) k177_99 rfl rfl ?_
        refine me_reti k177_101 rt_177 rfl ?_
        have e8 : k = n := by omega
        subst e8
        exact hE1 (fun z => absurd ((sp_b_neg (by omega)).mpr z) (Int32.not_lt.mpr c2)) c3 J hJ
    · skip
      refine me_ldc (p' := 88) k177_86 rfl (v := (-1000000005)) (by decide) ?_
      refine me_goto k177_88 ?_
      refine me_reti k177_101 rt_177 rfl ?_
      have e8 : k = n := by omega
      subst e8
      exact hE2 ((sp_b_neg (by omega)).mp (Int32.not_le.mp c2)) J hJ
  · skip
    rw [cI_le (a := n) (b := k) (by omega) (by omega)] at c1
    refine me_aload_n (p' := 46) k177_45 rfl rfl ?_
    refine me_iload (p' := 48) k177_46 rfl rfl ?_
    refine me_pfi (p' := 51) k177_48 rfl (by decide) rfl rfl rfl rfl ?_
    refine me_aload_n (p' := 52) k177_51 rfl rfl ?_
    refine me_iload_n (p' := 53) k177_52 rfl rfl ?_
    refine me_cv (p' := 56) k177_53 rfl rfl (by decide) rfl (by decide) (by decide) dp_176 rfl rfl (cl_le mx_176 rfl) (by decide) (cl_sum rfl) (ct_screamsBehind (s0 := I 128) (T := T) (n := n) (by omega) ((hJ.tx hx).kp (fun j hj => by rw [mg_un1 (by decide)])) (by rw [mg_un (by decide), hJ.e128]; exact hk) (fun j hj => by rw [mg_un1 (by decide)]; exact hJ.2 j hj) (fun j hj => by rw [mg_un1 (by decide), hJ.e128]) (fun K hK1 hK2 hK3 => ?_))
    rw [mg_ueq, mg_un (by decide), hJ.e128]
    have hK : mTh I K := hJ.sb haw ((mFr.up (by decide)).tr hK1) (fun k hk => by rw [hK2, up_ne hk, mg_une (fun z => hk z.2)]) (by rw [hK2, up_eq]) hK3
    show mj_Ev _ _ _ _ (.int ((sp_offF T (I 128) n m) k) :: _) _ _
    refine me_istore (p' := 58) k177_56 rfl ⟨Nat.le_of_ble_eq_true rfl, rfl⟩ rfl ?_
    refine me_iload_n (p' := 59) k177_58 rfl rfl ?_
    refine me_if_lt (p' := 62) k177_59 rfl (fun c4 => ?_) (fun c4 => ?_)
    · skip
      refine me_iload (p' := 71) k177_69 rfl rfl ?_
      refine me_istore_n (p' := 72) k177_71 rfl ⟨Nat.le_of_ble_eq_true rfl, rfl⟩ rfl ?_
      refine me_iload (p' := 74) k177_72 rfl rfl ?_
      refine me_istore (p' := 76) k177_74 rfl ⟨Nat.le_of_ble_eq_true rfl, rfl⟩ rfl ?_
      refine me_iinc (p' := 79) k177_76 rfl rfl rfl (v := nI (k + 1)) (mI_inc (by decide)) rfl ?_
      refine me_goto k177_79 ?_
      rw [(sp_b_hit (z := nI 0) (f := (sp_offF T (I 128) n m)) (by omega) (Or.inl c4)).1, (sp_b_hit (z := nI 0) (f := (sp_offF T (I 128) n m)) (by omega) (Or.inl c4)).2]
      exact ih (by omega) _ hK _
    · skip
      refine me_iload (p' := 64) k177_62 rfl rfl ?_
      refine me_iload (p' := 66) k177_64 rfl rfl ?_
      refine me_ic_le (p' := 69) k177_66 rfl (fun c5 => ?_) (fun c5 => ?_)
      · skip
        refine me_iinc (p' := 79) k177_76 rfl rfl rfl (v := nI (k + 1)) (mI_inc (by decide)) rfl ?_
        refine me_goto k177_79 ?_
        rw [(sp_b_miss (z := nI 0) (f := (sp_offF T (I 128) n m)) (by omega) c4 (Int32.not_lt.mpr c5)).1, (sp_b_miss (z := nI 0) (f := (sp_offF T (I 128) n m)) (by omega) c4 (Int32.not_lt.mpr c5)).2]
        exact ih (by omega) _ hK _
      · skip
        refine me_iload (p' := 71) k177_69 rfl rfl ?_
        refine me_istore_n (p' := 72) k177_71 rfl ⟨Nat.le_of_ble_eq_true rfl, rfl⟩ rfl ?_
        refine me_iload (p' := 74) k177_72 rfl rfl ?_
        refine me_istore (p' := 76) k177_74 rfl ⟨Nat.le_of_ble_eq_true rfl, rfl⟩ rfl ?_
        refine me_iinc (p' := 79) k177_76 rfl rfl rfl (v := nI (k + 1)) (mI_inc (by decide)) rfl ?_
        refine me_goto k177_79 ?_
        rw [(sp_b_hit (z := nI 0) (f := (sp_offF T (I 128) n m)) (by omega) (Or.inr (Int32.not_le.mp c5))).1, (sp_b_hit (z := nI 0) (f := (sp_offF T (I 128) n m)) (by omega) (Or.inr (Int32.not_le.mp c5))).2]
        exact ih (by omega) _ hK _
theorem sp_b_pos {z : Int32} {f : Nat → Int32} {n : Nat} (h : n ≠ 0) : sp_b1 f n = nI (sp_bst f (n - 1)).1 ∧ sp_b2 z f n = (sp_bst f (n - 1)).2 := by
  cases n with
  | zero => exact absurd rfl h
  | succ n => exact ⟨rfl, rfl⟩
theorem ct_Moff {d L : Nat} {xs : Nat → Int32} {I : Nat → Nat → Int32} {Q : Option Value → mj_H → Prop} {T : mT} {n : Nat} (hx : mTx I T) (hk : mOk (I 128) n) (haw : I 127 4 = -1) {v wh : Int32} (hQ : ∀ I2, mFr [131, 138, 139] I I2 → Q (some (.int (sp_off T (I 128) n v wh))) (mg_h L xs I2)) : mj_Cl (d + 7) 177 [.ref 127, .int v, .int wh] (mg_h L xs I) Q := by
  have hn8 := hk.hn.2
  refine cl_start mx_177 (ls := [.ref 127, .int v, .int wh, mj_no, mj_no, mj_no, mj_no]) rfl ?_
  refine me_iload_n (p' := 1) k177_0 rfl rfl ?_
  refine me_iconst (p' := 2) k177_1 rfl (v := nI 1) (by decide) ?_
  refine me_bipush (p' := 4) k177_2 rfl (v := nI 100) (by decide) ?_
  refine me_cs (p' := 7) k177_4 rfl rfl rfl rfl rfl (cl_le mx_134 rfl) (by decide) (cl_sum rfl) (ct_in (fun e108 => ?_) (fun e108 => ?_))
  · skip
    refine me_if_eq (p' := 10) k177_7 rfl (fun h => absurd h (by decide)) (fun _ => ?_)
    refine me_iload_n (p' := 11) k177_10 rfl rfl ?_
    refine me_iconst (p' := 12) k177_11 rfl (v := nI 0) (by decide) ?_
    refine me_iconst (p' := 13) k177_12 rfl (v := nI 1) (by decide) ?_
    refine me_cs (p' := 16) k177_13 rfl rfl rfl rfl rfl (cl_le mx_134 rfl) (by decide) (cl_sum rfl) (ct_in (fun e109 => ?_) (fun e109 => ?_))
    · skip
      obtain ⟨k110, hk111, rfl⟩ := mI_in1 (n := 1) (by omega) e109
      have hk111 : k110 < 2 := by omega
      refine me_if_ne (p' := 19) k177_16 rfl (fun h => absurd h (by decide)) (fun _ => ?_)
      obtain ⟨m, rfl, hm⟩ : ∃ m : Nat, v = nI m ∧ m ≤ 100 ∧ 1 ≤ m := by
        obtain ⟨m, rfl, hm⟩ := mI_of (Int32.le_trans (nI_pos' (show 1 < 2 ^ 31 by omega)) e108.1)
        exact ⟨m, rfl, (cI_le hm (by decide)).mp e108.2, (cI_le (by decide) hm).mp e108.1⟩
      refine me_aload_n (p' := 23) k177_22 rfl rfl ?_
      refine me_cv (p' := 26) k177_23 rfl rfl (by decide) rfl (by decide) (by decide) dp_171 rfl rfl (cl_le mx_171 rfl) (by decide) (cl_sum rfl) (ct_thinks ?_)
      generalize hJe : mw I 131 (fun j => if j < 109 then I 128 j else I 131 j) = J
      have hJ : mTh I J := by rw [← hJe]; exact mTh.thinks
      refine me_iconst (p' := 27) k177_26 rfl (v := (-1)) (by decide) ?_
      refine me_istore_n (p' := 28) k177_27 rfl ⟨Nat.le_of_ble_eq_true rfl, rfl⟩ rfl ?_
      refine me_iconst (p' := 29) k177_28 rfl (v := nI 0) (by decide) ?_
      refine me_istore (p' := 31) k177_29 rfl ⟨Nat.le_of_ble_eq_true rfl, rfl⟩ rfl ?_
      refine me_iconst (p' := 32) k177_31 rfl (v := nI 0) (by decide) ?_
      refine me_istore (p' := 34) k177_32 rfl ⟨Nat.le_of_ble_eq_true rfl, rfl⟩ rfl ?_
      simp only [sp_off, if_pos e108, sp_rg_s (m := 2) hk111 (by omega), nI_clamp (show m < 2 ^ 31 by omega), if_true, if_false] at hQ
      refine lp_off hx hk haw (by omega) (by omega) (fun e J hJ => ?_) (fun e0 e J hJ => ?_) (fun e0 e J hJ => ?_) 0 (Nat.zero_le _) J hJ _
      · simp only [e, if_true] at hQ
        exact hQ _ hJ.1
      · rw [(sp_b_pos (z := nI 0) e0).1]
        simp only [e, e0, if_true, if_false] at hQ
        exact hQ _ hJ.1
      · rw [(sp_b_pos e0).2]
        simp only [e, e0, if_false] at hQ
        exact hQ _ hJ.1
    · skip
      have hz112 : ∀ k : Nat, k < 2 → wh ≠ nI k := fun k hk => mI_in0 (n := 1) (by omega) e109 (by omega)
      refine me_if_ne (p' := 19) k177_16 rfl (fun _ => ?_) (fun h => absurd (by decide) h)
      refine me_ldc (p' := 21) k177_19 rfl (v := (-1000000001)) (by decide) ?_
      refine me_reti k177_21 rt_177 rfl ?_
      simp only [sp_off, if_pos e108, sp_rg_n (m := 2) (by omega) hz112, if_true, if_false] at hQ
      exact hQ _ mFr.rf
  · skip
    refine me_if_eq (p' := 10) k177_7 rfl (fun _ => ?_) (fun h => absurd (by decide) h)
    refine me_ldc (p' := 21) k177_19 rfl (v := (-1000000001)) (by decide) ?_
    refine me_reti k177_21 rt_177 rfl ?_
    simp only [sp_off, if_neg e108, if_true, if_false] at hQ
    exact hQ _ mFr.rf
theorem lp_kind {d L : Nat} {xs : Nat → Int32} {I : Nat → Nat → Int32} {Q : Option Value → mj_H → Prop} {T : mT} {n c m wh : Nat} (hx : mTx I T) (hk : mOk (I 128) n) (haw : I 127 4 = -1) (hnn : ∀ q : Nat, q < 6 → 0 ≤ (sp_kndF T (I 128) n c m) q) (hc : c < n) (hm : m ≤ 100) (hwh : wh < 2) (hE0 : wh = 0 → ∀ J, mTh I J → Q (some (.int (sp_b1 (sp_kndF T (I 128) n c m) 6))) (mg_h L xs J)) (hE1 : ¬ wh = 0 → ∀ J, mTh I J → Q (some (.int (sp_b2 (-1) (sp_kndF T (I 128) n c m) 6))) (mg_h L xs J)) : ∀ k : Nat, k ≤ 6 → ∀ J, mTh I J → ∀ u7 : Value, mj_Ev (d + 7) 178 43 [.ref 127, .int (nI c), .int (nI m), .int (nI wh), .int (sp_b1 (sp_kndF T (I 128) n c m) k), .int (sp_b2 (-1) (sp_kndF T (I 128) n c m) k), .int (nI k), u7] [] (mg_h L xs J) Q := by
  have hn8 := hk.hn.2
  refine loop_ind (n := 6) (fun k hkn ih => ?_)
  intro J hJ u7
  refine me_iload (p' := 45) k178_43 rfl rfl ?_
  refine me_bipush (p' := 47) k178_45 rfl (v := nI 6) (by decide) ?_
  refine me_ic_ge (p' := 50) k178_47 rfl (fun c1 => ?_) (fun c1 => ?_)
  · skip
    rw [cI_le (a := 6) (b := k) (by omega) (by omega)] at c1
    refine me_iload_n (p' := 110) k178_109 rfl rfl ?_
    refine me_if_ne (p' := 113) k178_110 rfl (fun c2 => ?_) (fun c2 => ?_)
    · skip
      rw [cI_eq0 (a := wh) (by omega)] at c2
      refine me_iload (p' := 115) k178_113 rfl rfl ?_
      refine me_goto k178_115 ?_
      refine me_reti k178_120 rt_178 rfl ?_
      have e8 : k = 6 := by omega
      subst e8
      exact hE0 c2 J hJ
    · skip
      rw [cI_eq0 (a := wh) (by omega)] at c2
      refine me_iload (p' := 120) k178_118 rfl rfl ?_
      refine me_reti k178_120 rt_178 rfl ?_
      have e8 : k = 6 := by omega
      subst e8
      exact hE1 c2 J hJ
  · skip
    rw [cI_le (a := 6) (b := k) (by omega) (by omega)] at c1
    refine me_aload_n (p' := 51) k178_50 rfl rfl ?_
    refine me_gfr (p' := 54) k178_51 rfl (by decide) rfl (b := 128) rfl ?_
    refine me_bipush (p' := 56) k178_54 rfl (v := nI 53) (by decide) ?_
    refine me_bipush (p' := 58) k178_56 rfl (v := nI 7) (by decide) ?_
    refine me_iload_n (p' := 59) k178_58 rfl rfl ?_
    refine me_imul (p' := 60) k178_59 rfl (v := nI (7 * c)) (mI_mul _ _) ?_
    refine me_iadd (p' := 61) k178_60 rfl (v := nI (53 + (7 * c))) (mI_add _ _) ?_
    refine me_iload (p' := 63) k178_61 rfl rfl ?_
    refine me_iast (p' := 64) k178_63 rfl (by decide) rfl (j := 53 + (7 * c)) rfl (by omega) (by decide) rfl ?_
    refine me_aload_n (p' := 65) k178_64 rfl rfl ?_
    refine me_iload_n (p' := 66) k178_65 rfl rfl ?_
    refine me_cv (p' := 69) k178_66 rfl rfl (by decide) rfl (by decide) (by decide) dp_176 rfl rfl (cl_le mx_176 rfl) (by decide) (cl_sum rfl) (ct_screamsBehind (s0 := I 128) (T := T) (n := n) (by omega) ((hJ.tx hx).kp (fun j hj => by rw [mg_une (by omega)])) (by rw [mg_ui, hJ.e128]; exact hk.upK hc (by omega)) (fun j hj => by rw [mg_un1 (by decide)]; exact hJ.2 j hj) (fun j hj => by rw [mg_une (by omega), hJ.e128]) (fun K hK1 hK2 hK3 => ?_))
    rw [mg_un1 (by decide), hJ.e127, haw, mg_ui, hJ.e128]
    have hK : mTh I K := hJ.sb haw ((mFr.up (by decide)).tr hK1) (fun k hk => by rw [hK2, up_ne hk, mg_un1 (by decide)]) (by rw [hK2, up_eq]) hK3
    show mj_Ev _ _ _ _ (.int ((sp_kndF T (I 128) n c m) k) :: _) _ _
    refine me_istore (p' := 71) k178_69 rfl ⟨Nat.le_of_ble_eq_true rfl, rfl⟩ rfl ?_
    refine me_iload (p' := 73) k178_71 rfl rfl ?_
    refine me_iload (p' := 75) k178_73 rfl rfl ?_
    refine me_ic_le (p' := 78) k178_75 rfl (fun c3 => ?_) (fun c3 => ?_)
    · skip
      refine me_iload (p' := 85) k178_83 rfl rfl ?_
      refine me_istore (p' := 87) k178_85 rfl ⟨Nat.le_of_ble_eq_true rfl, rfl⟩ rfl ?_
      refine me_iload (p' := 89) k178_87 rfl rfl ?_
      refine me_iload (p' := 91) k178_89 rfl rfl ?_
      refine me_ic_le (p' := 94) k178_91 rfl (fun c4 => ?_) (fun c4 => ?_)
      · skip
        refine me_iload (p' := 101) k178_99 rfl rfl ?_
        refine me_istore (p' := 103) k178_101 rfl ⟨Nat.le_of_ble_eq_true rfl, rfl⟩ rfl ?_
        refine me_iinc (p' := 106) k178_103 rfl rfl rfl (v := nI (k + 1)) (mI_inc (by decide)) rfl ?_
        refine me_goto k178_106 ?_
        have hb : ¬ sp_b1 (sp_kndF T (I 128) n c m) k < 0 := fun z => by
          have := (sp_b_neg (by omega)).mp z
          subst this
          exact absurd (show (0 : Int32) ≤ -1 from Int32.le_trans (hnn 0 (by decide)) c3) (by decide)
        rw [(sp_b_miss (z := -1) (f := (sp_kndF T (I 128) n c m)) (by omega) hb (Int32.not_lt.mpr c3)).1, (sp_b_miss (z := -1) (f := (sp_kndF T (I 128) n c m)) (by omega) hb (Int32.not_lt.mpr c3)).2]
        exact ih (by omega) _ hK _
      · skip
        refine me_iload (p' := 96) k178_94 rfl rfl ?_
        refine me_goto k178_96 ?_
        refine me_istore (p' := 103) k178_101 rfl ⟨Nat.le_of_ble_eq_true rfl, rfl⟩ rfl ?_
        refine me_iinc (p' := 106) k178_103 rfl rfl rfl (v := nI (k + 1)) (mI_inc (by decide)) rfl ?_
        refine me_goto k178_106 ?_
        exact absurd c3 c4
    · skip
      refine me_iload (p' := 80) k178_78 rfl rfl ?_
      refine me_goto k178_80 ?_
      refine me_istore (p' := 87) k178_85 rfl ⟨Nat.le_of_ble_eq_true rfl, rfl⟩ rfl ?_
      refine me_iload (p' := 89) k178_87 rfl rfl ?_
      refine me_iload (p' := 91) k178_89 rfl rfl ?_
      refine me_ic_le (p' := 94) k178_91 rfl (fun c5 => ?_) (fun c5 => ?_)
      · skip
        refine me_iload (p' := 101) k178_99 rfl rfl ?_
        refine me_istore (p' := 103) k178_101 rfl ⟨Nat.le_of_ble_eq_true rfl, rfl⟩ rfl ?_
        refine me_iinc (p' := 106) k178_103 rfl rfl rfl (v := nI (k + 1)) (mI_inc (by decide)) rfl ?_
        refine me_goto k178_106 ?_
        exact absurd c5 c3
      · skip
        refine me_iload (p' := 96) k178_94 rfl rfl ?_
        refine me_goto k178_96 ?_
        refine me_istore (p' := 103) k178_101 rfl ⟨Nat.le_of_ble_eq_true rfl, rfl⟩ rfl ?_
        refine me_iinc (p' := 106) k178_103 rfl rfl rfl (v := nI (k + 1)) (mI_inc (by decide)) rfl ?_
        refine me_goto k178_106 ?_
        rw [(sp_b_hit (z := -1) (f := (sp_kndF T (I 128) n c m)) (by omega) (Or.inr (Int32.not_le.mp c3))).1, (sp_b_hit (z := -1) (f := (sp_kndF T (I 128) n c m)) (by omega) (Or.inr (Int32.not_le.mp c3))).2]
        exact ih (by omega) _ hK _
theorem ct_Mkind {d L : Nat} {xs : Nat → Int32} {I : Nat → Nat → Int32} {Q : Option Value → mj_H → Prop} {T : mT} {n : Nat} (hx : mTx I T) (hk : mOk (I 128) n) (haw : I 127 4 = -1) {car v wh : Int32} (hnn : ∀ c m q : Nat, c < n → q < 6 → m ≤ 100 → 0 ≤ sp_kndF T (I 128) n c m q) (hQ : ∀ I2, mFr [131, 138, 139] I I2 → Q (some (.int (sp_kind T (I 128) n car v wh))) (mg_h L xs I2)) : mj_Cl (d + 7) 178 [.ref 127, .int car, .int v, .int wh] (mg_h L xs I) Q := by
  have hn8 := hk.hn.2
  refine cl_start mx_178 (ls := [.ref 127, .int car, .int v, .int wh, mj_no, mj_no, mj_no, mj_no]) rfl ?_
  refine me_aload_n (p' := 1) k178_0 rfl rfl ?_
  refine me_iload_n (p' := 2) k178_1 rfl rfl ?_
  refine me_cv (p' := 5) k178_2 rfl rfl (by decide) rfl (by decide) (by decide) dp_137 rfl rfl (cl_le mx_137 rfl) (by decide) (cl_sum rfl) (ct_MisCar hk.hn (fun k113 hk114 he => ?_) (fun hz115 => ?_))
  · skip
    subst he
    refine me_if_eq (p' := 8) k178_5 rfl (fun h => absurd h (by decide)) (fun _ => ?_)
    refine me_iload_n (p' := 9) k178_8 rfl rfl ?_
    refine me_iconst (p' := 10) k178_9 rfl (v := nI 1) (by decide) ?_
    refine me_bipush (p' := 12) k178_10 rfl (v := nI 100) (by decide) ?_
    refine me_cs (p' := 15) k178_12 rfl rfl rfl rfl rfl (cl_le mx_134 rfl) (by decide) (cl_sum rfl) (ct_in (fun e116 => ?_) (fun e116 => ?_))
    · skip
      refine me_if_eq (p' := 18) k178_15 rfl (fun h => absurd h (by decide)) (fun _ => ?_)
      refine me_iload_n (p' := 19) k178_18 rfl rfl ?_
      refine me_iconst (p' := 20) k178_19 rfl (v := nI 0) (by decide) ?_
      refine me_iconst (p' := 21) k178_20 rfl (v := nI 1) (by decide) ?_
      refine me_cs (p' := 24) k178_21 rfl rfl rfl rfl rfl (cl_le mx_134 rfl) (by decide) (cl_sum rfl) (ct_in (fun e117 => ?_) (fun e117 => ?_))
      · skip
        obtain ⟨k118, hk119, rfl⟩ := mI_in1 (n := 1) (by omega) e117
        have hk119 : k118 < 2 := by omega
        refine me_if_ne (p' := 27) k178_24 rfl (fun h => absurd h (by decide)) (fun _ => ?_)
        obtain ⟨m, rfl, hm⟩ : ∃ m : Nat, v = nI m ∧ m ≤ 100 ∧ 1 ≤ m := by
          obtain ⟨m, rfl, hm⟩ := mI_of (Int32.le_trans (nI_pos' (show 1 < 2 ^ 31 by omega)) e116.1)
          exact ⟨m, rfl, (cI_le hm (by decide)).mp e116.2, (cI_le (by decide) hm).mp e116.1⟩
        refine me_aload_n (p' := 31) k178_30 rfl rfl ?_
        refine me_cv (p' := 34) k178_31 rfl rfl (by decide) rfl (by decide) (by decide) dp_171 rfl rfl (cl_le mx_171 rfl) (by decide) (cl_sum rfl) (ct_thinks ?_)
        generalize hJe : mw I 131 (fun j => if j < 109 then I 128 j else I 131 j) = J
        have hJ : mTh I J := by rw [← hJe]; exact mTh.thinks
        refine me_iconst (p' := 35) k178_34 rfl (v := (-1)) (by decide) ?_
        refine me_istore (p' := 37) k178_35 rfl ⟨Nat.le_of_ble_eq_true rfl, rfl⟩ rfl ?_
        refine me_iconst (p' := 38) k178_37 rfl (v := (-1)) (by decide) ?_
        refine me_istore (p' := 40) k178_38 rfl ⟨Nat.le_of_ble_eq_true rfl, rfl⟩ rfl ?_
        refine me_iconst (p' := 41) k178_40 rfl (v := nI 0) (by decide) ?_
        refine me_istore (p' := 43) k178_41 rfl ⟨Nat.le_of_ble_eq_true rfl, rfl⟩ rfl ?_
        simp only [sp_kind, sp_rg_s hk114 (by omega), if_pos e116, sp_rg_s (m := 2) hk119 (by omega), nI_clamp (show m < 2 ^ 31 by omega), if_true, if_false] at hQ
        refine lp_kind hx hk haw (fun q hq => hnn _ m q (by omega) hq (by omega)) (by omega) (by omega) (by omega) (fun e J hJ => ?_) (fun e J hJ => ?_) 0 (Nat.zero_le _) J hJ _
        · simp only [e, if_true] at hQ
          exact hQ _ hJ.1
        · simp only [e, if_false] at hQ
          exact hQ _ hJ.1
      · skip
        have hz120 : ∀ k : Nat, k < 2 → wh ≠ nI k := fun k hk => mI_in0 (n := 1) (by omega) e117 (by omega)
        refine me_if_ne (p' := 27) k178_24 rfl (fun _ => ?_) (fun h => absurd (by decide) h)
        refine me_ldc (p' := 29) k178_27 rfl (v := (-1000000001)) (by decide) ?_
        refine me_reti k178_29 rt_178 rfl ?_
        simp only [sp_kind, sp_rg_s hk114 (by omega), if_pos e116, sp_rg_n (m := 2) (by omega) hz120, if_true, if_false] at hQ
        exact hQ _ mFr.rf
    · skip
      refine me_if_eq (p' := 18) k178_15 rfl (fun _ => ?_) (fun h => absurd (by decide) h)
      refine me_ldc (p' := 29) k178_27 rfl (v := (-1000000001)) (by decide) ?_
      refine me_reti k178_29 rt_178 rfl ?_
      simp only [sp_kind, sp_rg_s hk114 (by omega), if_neg e116, if_true, if_false] at hQ
      exact hQ _ mFr.rf
  · skip
    refine me_if_eq (p' := 8) k178_5 rfl (fun _ => ?_) (fun h => absurd (by decide) h)
    refine me_ldc (p' := 29) k178_27 rfl (v := (-1000000001)) (by decide) ?_
    refine me_reti k178_29 rt_178 rfl ?_
    simp only [sp_kind, sp_rg_n (by omega) hz115, if_true, if_false] at hQ
    exact hQ _ mFr.rf
theorem lp_gapsE {d L : Nat} {xs : Nat → Int32} {I : Nat → Nat → Int32} {Q : Option Value → mj_H → Prop} {J : Nat → Nat → Int32} {T : mT} {n m f : Nat} {e0 : Int32} (hf : 1 ≤ f ∧ f ≤ 60) (hQ : Q (some (.int (nI f))) (mg_h L xs J)) : mj_Ev (d + 6) 180 29 [.ref 127, .int (nI m), .int (sp_sum (I 128) (-1) 5 n), .int (nI f), .int e0] [] (mg_h L xs J) Q := by
  refine me_iload (p' := 31) k180_29 rfl rfl ?_
  refine me_if_le (p' := 34) k180_31 rfl (fun c1 => ?_) (fun c1 => ?_)
  · skip
    refine me_iload_n (p' := 78) k180_77 rfl rfl ?_
    refine me_if_ne (p' := 81) k180_78 rfl (fun c2 => ?_) (fun c2 => ?_)
    · skip
      rw [cI_eq0 (a := f) (by omega)] at c2
      exfalso
      omega
    · skip
      rw [cI_eq0 (a := f) (by omega)] at c2
      refine me_iload_n (p' := 87) k180_86 rfl rfl ?_
      refine me_reti k180_87 rt_180 rfl ?_
      exact hQ
  · skip
    refine me_iload_n (p' := 35) k180_34 rfl rfl ?_
    refine me_if_ne (p' := 38) k180_35 rfl (fun c3 => ?_) (fun c3 => ?_)
    · skip
      rw [cI_eq0 (a := f) (by omega)] at c3
      exfalso
      omega
    · skip
      rw [cI_eq0 (a := f) (by omega)] at c3
      refine me_iload_n (p' := 78) k180_77 rfl rfl ?_
      refine me_if_ne (p' := 81) k180_78 rfl (fun c4 => ?_) (fun c4 => ?_)
      · skip
        rw [cI_eq0 (a := f) (by omega)] at c4
        exfalso
        omega
      · skip
        rw [cI_eq0 (a := f) (by omega)] at c4
        refine me_iload_n (p' := 87) k180_86 rfl rfl ?_
        refine me_reti k180_87 rt_180 rfl ?_
        exact hQ
theorem lp_gaps {d L : Nat} {xs : Nat → Int32} {I : Nat → Nat → Int32} {Q : Option Value → mj_H → Prop} {T : mT} {n m : Nat} (hx : mTx I T) (hk : mOk (I 128) n) (haw : I 127 4 = -1) (hm : m ≤ 60) : ∀ k : Nat, k ≤ 60 → (hQ : ∀ J, mTh I J → Q (some (.int (sp_gp (fun g => sp_sum (sp_secs T (up (I 128) 3 (nI g)) (-1) n m) (-1) 5 n) (sp_sum (I 128) (-1) 5 n) k))) (mg_h L xs J)) → ∀ J, mTh I J → mj_Ev (d + 6) 180 29 [.ref 127, .int (nI m), .int (sp_sum (I 128) (-1) 5 n), .int (nI 0), .int (nI k)] [] (mg_h L xs J) Q := by
  have hn8 := hk.hn.2
  intro k
  induction k with
  | zero =>
    intro hk60 hQ J hJ
    refine me_iload (p' := 31) k180_29 rfl rfl ?_
    refine me_if_le (p' := 34) k180_31 rfl (fun _ => ?_) (fun h => absurd (by decide) h)
    refine me_iload_n (p' := 78) k180_77 rfl rfl ?_
    refine me_if_ne (p' := 81) k180_78 rfl (fun _ => ?_) (fun h => absurd (by decide) h)
    refine me_ldc (p' := 83) k180_81 rfl (v := (-1000000005)) (by decide) ?_
    refine me_goto k180_83 ?_
    refine me_reti k180_87 rt_180 rfl ?_
    exact hQ J hJ
  | succ k ih =>
    intro hk60 hQ J hJ
    refine me_iload (p' := 31) k180_29 rfl rfl ?_
    refine me_if_le (p' := 34) k180_31 rfl (fun c1 => ?_) (fun c1 => ?_)
    · skip
      rw [cI_le0 (a := k + 1) (by omega)] at c1
      exfalso
      omega
    · skip
      rw [cI_le0 (a := k + 1) (by omega)] at c1
      refine me_iload_n (p' := 35) k180_34 rfl rfl ?_
      refine me_if_ne (p' := 38) k180_35 rfl (fun _ => ?_) (fun h => absurd (by decide) h)
      refine me_aload_n (p' := 39) k180_38 rfl rfl ?_
      refine me_gfr (p' := 42) k180_39 rfl (by decide) rfl (b := 128) rfl ?_
      refine me_iconst (p' := 43) k180_42 rfl (v := nI 3) (by decide) ?_
      refine me_iload (p' := 45) k180_43 rfl rfl ?_
      refine me_iast (p' := 46) k180_45 rfl (by decide) rfl (j := 3) rfl (by omega) (by decide) rfl ?_
      refine me_aload_n (p' := 47) k180_46 rfl rfl ?_
      refine me_iload_n (p' := 48) k180_47 rfl rfl ?_
      refine me_cv (p' := 51) k180_48 rfl rfl (by decide) rfl (by decide) (by decide) dp_162 rfl rfl (cl_le mx_162 rfl) (by decide) (cl_sum rfl) (ct_goesOn (n := n) (T := T) (by omega) ((hJ.tx hx).kp (fun j hj => by rw [mg_une (by omega)])) (by rw [mg_ui, hJ.e128]; exact hk.upG (by omega) (by omega)) (fun I1 hI1 hI2 => ?_))
      rw [mg_ui, hJ.e128, mg_un1 (by decide), hJ.e127, haw] at hI2
      have h1 : mOk (I1 128) n := by rw [hI2]; exact (hk.upG (by omega) (by omega)).secs _
      have ha1 : I1 127 4 = -1 := (hI1 127 4 (by decide)).trans (by rw [mg_un1 (by decide), hJ.e127, haw])
      have hJ2 : mTh I (mg_u (mw I1 128 (fun j => if j < 109 then I1 131 j else I1 128 j)) 127 4 (-1)) := hJ.back haw (((mFr.up (by decide)).tr (hI1.mono (by simp))) ) (fun k _ => by rw [hI1 127 k (by decide), mg_un1 (by decide)]) (fun j hj => by rw [hI2, sp_secs_kp (hk.upG (by omega) (by omega)) (by unfold mTd; omega), up_ne (by omega), hJ.e128])
      refine me_aload_n (p' := 52) k180_51 rfl rfl ?_
      refine me_iconst (p' := 53) k180_52 rfl (v := nI 5) (by decide) ?_
      refine me_cv (p' := 56) k180_53 rfl rfl (by decide) rfl (by decide) (by decide) dp_161 rfl rfl (cl_le mx_161 rfl) (by decide) (cl_sum rfl) (ct_sumOf h1.hn (by omega) ?_)
      rw [hI2, ha1]
      show mj_Ev _ _ _ _ (.int ((fun g => sp_sum (sp_secs T (up (I 128) 3 (nI g)) (-1) n m) (-1) 5 n) (k + 1)) :: _) _ _
      refine me_iload_n (p' := 57) k180_56 rfl rfl ?_
      refine me_ic_ne (p' := 60) k180_57 rfl (fun c2 => ?_) (fun c2 => ?_)
      · skip
        refine me_iload (p' := 62) k180_60 rfl rfl ?_
        refine me_goto k180_62 ?_
        refine me_istore_n (p' := 67) k180_66 rfl ⟨Nat.le_of_ble_eq_true rfl, rfl⟩ rfl ?_
        refine me_aload_n (p' := 68) k180_67 rfl rfl ?_
        refine me_cv (p' := 71) k180_68 rfl rfl (by decide) rfl (by decide) (by decide) dp_172 rfl rfl (cl_le mx_172 rfl) (by decide) (cl_sum rfl) (ct_putsBack ?_)
        refine me_iinc (p' := 74) k180_71 rfl rfl rfl rfl rfl ?_
        refine me_goto k180_74 ?_
        exact lp_gapsE (T := T) (by omega) (by have := hQ _ hJ2; rw [sp_gp, if_pos c2] at this; exact this)
      · skip
        refine me_iconst (p' := 66) k180_65 rfl (v := nI 0) (by decide) ?_
        refine me_istore_n (p' := 67) k180_66 rfl ⟨Nat.le_of_ble_eq_true rfl, rfl⟩ rfl ?_
        refine me_aload_n (p' := 68) k180_67 rfl rfl ?_
        refine me_cv (p' := 71) k180_68 rfl rfl (by decide) rfl (by decide) (by decide) dp_172 rfl rfl (cl_le mx_172 rfl) (by decide) (cl_sum rfl) (ct_putsBack ?_)
        refine me_iinc (p' := 74) k180_71 rfl rfl rfl rfl rfl ?_
        refine me_goto k180_74 ?_
        rw [mI_dec, mI_pred]
        exact ih (by omega) (fun J hJ => by have := hQ J hJ; rw [sp_gp, if_neg c2] at this; exact this) _ hJ2
theorem ct_Mgaps {d L : Nat} {xs : Nat → Int32} {I : Nat → Nat → Int32} {Q : Option Value → mj_H → Prop} {T : mT} {n : Nat} (hx : mTx I T) (hk : mOk (I 128) n) (haw : I 127 4 = -1) {v : Int32} (hQ : ∀ I2, mFr [131, 138, 139] I I2 → Q (some (.int (sp_gaps T (I 128) n v))) (mg_h L xs I2)) : mj_Cl (d + 6) 180 [.ref 127, .int v] (mg_h L xs I) Q := by
  have hn8 := hk.hn.2
  refine cl_start mx_180 (ls := [.ref 127, .int v, mj_no, mj_no, mj_no]) rfl ?_
  refine me_iload_n (p' := 1) k180_0 rfl rfl ?_
  refine me_iconst (p' := 2) k180_1 rfl (v := nI 1) (by decide) ?_
  refine me_bipush (p' := 4) k180_2 rfl (v := nI 60) (by decide) ?_
  refine me_cs (p' := 7) k180_4 rfl rfl rfl rfl rfl (cl_le mx_134 rfl) (by decide) (cl_sum rfl) (ct_in (fun e121 => ?_) (fun e121 => ?_))
  · skip
    refine me_if_ne (p' := 10) k180_7 rfl (fun h => absurd h (by decide)) (fun _ => ?_)
    obtain ⟨m, rfl, hm⟩ : ∃ m : Nat, v = nI m ∧ m ≤ 60 ∧ 1 ≤ m := by
      obtain ⟨m, rfl, hm⟩ := mI_of (Int32.le_trans (nI_pos' (show 1 < 2 ^ 31 by omega)) e121.1)
      exact ⟨m, rfl, (cI_le hm (by decide)).mp e121.2, (cI_le (by decide) hm).mp e121.1⟩
    refine me_aload_n (p' := 14) k180_13 rfl rfl ?_
    refine me_cv (p' := 17) k180_14 rfl rfl (by decide) rfl (by decide) (by decide) dp_171 rfl rfl (cl_le mx_171 rfl) (by decide) (cl_sum rfl) (ct_thinks ?_)
    generalize hJe : mw I 131 (fun j => if j < 109 then I 128 j else I 131 j) = J
    have hJ : mTh I J := by rw [← hJe]; exact mTh.thinks
    refine me_aload_n (p' := 18) k180_17 rfl rfl ?_
    refine me_iconst (p' := 19) k180_18 rfl (v := nI 5) (by decide) ?_
    refine me_cv (p' := 22) k180_19 rfl rfl (by decide) rfl (by decide) (by decide) dp_161 rfl rfl (cl_le mx_161 rfl) (by decide) (cl_sum rfl) (ct_sumOf (by rw [hJ.e128]; exact hk.hn) (by omega) ?_)
    rw [hJ.e128, hJ.e127, haw]
    refine me_istore_n (p' := 23) k180_22 rfl ⟨Nat.le_of_ble_eq_true rfl, rfl⟩ rfl ?_
    refine me_iconst (p' := 24) k180_23 rfl (v := nI 0) (by decide) ?_
    refine me_istore_n (p' := 25) k180_24 rfl ⟨Nat.le_of_ble_eq_true rfl, rfl⟩ rfl ?_
    refine me_bipush (p' := 27) k180_25 rfl (v := nI 60) (by decide) ?_
    refine me_istore (p' := 29) k180_27 rfl ⟨Nat.le_of_ble_eq_true rfl, rfl⟩ rfl ?_
    simp only [sp_gaps, if_pos e121, nI_clamp (show m < 2 ^ 31 by omega), if_true, if_false] at hQ
    exact lp_gaps hx hk haw (by omega) 60 (by decide) (fun J hJ => hQ _ hJ.1) J hJ
  · skip
    refine me_if_ne (p' := 10) k180_7 rfl (fun _ => ?_) (fun h => absurd (by decide) h)
    refine me_ldc (p' := 12) k180_10 rfl (v := (-1000000001)) (by decide) ?_
    refine me_reti k180_12 rt_180 rfl ?_
    simp only [sp_gaps, if_neg e121, if_true, if_false] at hQ
    exact hQ _ mFr.rf
theorem lp_stands {d L : Nat} {xs : Nat → Int32} {I : Nat → Nat → Int32} {Q : Option Value → mj_H → Prop} {J : Nat → Nat → Int32} {T : mT} {n : Nat} (hx : mTx I T) (hk : mOk (I 128) n) (haw : I 127 4 = -1) (hJ : mTh I J) : ∀ j : Nat, j ≤ 300 → (hQ : ∀ J, mTh I J → Q (some (.int (sp_st (fun k => sp_sum (sp_secs T (I 128) (-1) n k) (-1) 5 n) (sp_sum (I 128) (-1) 5 n) j))) (mg_h L xs J)) → ∀ I1, ∀ k : Nat, k = 301 - j → mFr [128, 138, 139] J I1 → I1 128 = sp_secs T (I 128) (-1) n k → mj_Ev (d + 5) 173 16 [.ref 127, .int (sp_sum (I 128) (-1) 5 n), .int (nI k)] [] (mg_h L xs I1) Q := by
  have hn8 := hk.hn.2
  intro j
  induction j with
  | zero =>
    intro hj hQ I1 k hkj hfr e1
    subst hkj
    refine me_iload_n (p' := 17) k173_16 rfl rfl ?_
    refine me_sipush (p' := 20) k173_17 rfl (v := nI 300) (by decide) ?_
    refine me_ic_gt (p' := 23) k173_20 rfl (fun _ => ?_) (fun h => absurd (by decide) h)
    refine me_aload_n (p' := 43) k173_42 rfl rfl ?_
    refine me_cv (p' := 46) k173_43 rfl rfl (by decide) rfl (by decide) (by decide) dp_172 rfl rfl (cl_le mx_172 rfl) (by decide) (cl_sum rfl) (ct_putsBack ?_)
    refine me_iload_n (p' := 47) k173_46 rfl rfl ?_
    refine me_sipush (p' := 50) k173_47 rfl (v := nI 300) (by decide) ?_
    refine me_ic_le (p' := 53) k173_50 rfl (fun h => absurd h (by decide)) (fun _ => ?_)
    refine me_ldc (p' := 55) k173_53 rfl (v := (-1000000005)) (by decide) ?_
    refine me_goto k173_55 ?_
    refine me_reti k173_59 rt_173 rfl ?_
    exact hQ _ (hJ.back haw (hfr.mono (by simp)) (fun k _ => hfr 127 k (by decide)) (fun j hj => by rw [e1, sp_secs_kp hk (by unfold mTd; omega), hJ.e128]))
  | succ j ih =>
    intro hj hQ I1 k hkj hfr e1
    obtain rfl : k = 300 - j := by omega
    have h1 : mOk (I1 128) n := by rw [e1]; exact hk.secs _
    have ha1 : I1 127 4 = -1 := (hfr 127 4 (by decide)).trans (by rw [hJ.e127, haw])
    have hx1 : mTx I1 T := hx.td (fun j hj => by rw [e1, sp_secs_kp hk hj])
    refine me_iload_n (p' := 17) k173_16 rfl rfl ?_
    refine me_sipush (p' := 20) k173_17 rfl (v := nI 300) (by decide) ?_
    refine me_ic_gt (p' := 23) k173_20 rfl (fun c1 => ?_) (fun c1 => ?_)
    · skip
      rw [cI_lt (a := 300) (b := 300 - j) (by omega) (by omega)] at c1
      exfalso
      omega
    · skip
      rw [cI_lt (a := 300) (b := 300 - j) (by omega) (by omega)] at c1
      refine me_aload_n (p' := 24) k173_23 rfl rfl ?_
      refine me_iconst (p' := 25) k173_24 rfl (v := nI 5) (by decide) ?_
      refine me_cv (p' := 28) k173_25 rfl rfl (by decide) rfl (by decide) (by decide) dp_161 rfl rfl (cl_le mx_161 rfl) (by decide) (cl_sum rfl) (ct_sumOf h1.hn (by omega) ?_)
      rw [e1, ha1]
      show mj_Ev _ _ _ _ (.int ((fun k => sp_sum (sp_secs T (I 128) (-1) n k) (-1) 5 n) (300 - j)) :: _) _ _
      refine me_iload_n (p' := 29) k173_28 rfl rfl ?_
      refine me_ic_ne (p' := 32) k173_29 rfl (fun c2 => ?_) (fun c2 => ?_)
      · skip
        refine me_aload_n (p' := 33) k173_32 rfl rfl ?_
        refine me_cv (p' := 36) k173_33 rfl rfl (by decide) rfl (by decide) (by decide) dp_163 rfl rfl (cl_le mx_163 rfl) (by decide) (cl_sum rfl) (ct_second hx1 h1 (fun I2 hI2 hI3 => ?_))
        refine me_iinc (p' := 39) k173_36 rfl rfl rfl (v := nI (300 - j + 1)) (mI_inc (by decide)) rfl ?_
        refine me_goto k173_39 ?_
        refine ih (by omega) (fun J hJ => by have := hQ J hJ; rw [sp_st, if_pos c2] at this; exact this) _ (300 - j + 1) (by omega) (hfr.tr hI2) ?_
        rw [hI3, e1, ha1, sp_secs]
      · skip
        refine me_aload_n (p' := 43) k173_42 rfl rfl ?_
        refine me_cv (p' := 46) k173_43 rfl rfl (by decide) rfl (by decide) (by decide) dp_172 rfl rfl (cl_le mx_172 rfl) (by decide) (cl_sum rfl) (ct_putsBack ?_)
        refine me_iload_n (p' := 47) k173_46 rfl rfl ?_
        refine me_sipush (p' := 50) k173_47 rfl (v := nI 300) (by decide) ?_
        refine me_ic_le (p' := 53) k173_50 rfl (fun c3 => ?_) (fun c3 => ?_)
        · skip
          rw [cI_le (a := 300 - j) (b := 300) (by omega) (by omega)] at c3
          refine me_iload_n (p' := 59) k173_58 rfl rfl ?_
          refine me_reti k173_59 rt_173 rfl ?_
          have := hQ _ (hJ.back haw (hfr.mono (by simp)) (fun k _ => hfr 127 k (by decide)) (fun j hj => by rw [e1, sp_secs_kp hk (by unfold mTd; omega), hJ.e128]))
          rw [sp_st, if_neg c2] at this
          exact this
        · skip
          rw [cI_le (a := 300 - j) (b := 300) (by omega) (by omega)] at c3
          exfalso
          omega
theorem ct_Mstands {d L : Nat} {xs : Nat → Int32} {I : Nat → Nat → Int32} {Q : Option Value → mj_H → Prop} {T : mT} {n : Nat} (hx : mTx I T) (hk : mOk (I 128) n) (haw : I 127 4 = -1) (hQ : ∀ I2, mFr [131, 138, 139] I I2 → Q (some (.int (sp_stands T (I 128) n))) (mg_h L xs I2)) : mj_Cl (d + 5) 173 [.ref 127] (mg_h L xs I) Q := by
  have hn8 := hk.hn.2
  refine cl_start mx_173 (ls := [.ref 127, mj_no, mj_no]) rfl ?_
  refine me_aload_n (p' := 1) k173_0 rfl rfl ?_
  refine me_cv (p' := 4) k173_1 rfl rfl (by decide) rfl (by decide) (by decide) dp_171 rfl rfl (cl_le mx_171 rfl) (by decide) (cl_sum rfl) (ct_thinks ?_)
  generalize hJe : mw I 131 (fun j => if j < 109 then I 128 j else I 131 j) = J
  have hJ : mTh I J := by rw [← hJe]; exact mTh.thinks
  refine me_aload_n (p' := 5) k173_4 rfl rfl ?_
  refine me_iconst (p' := 6) k173_5 rfl (v := nI 5) (by decide) ?_
  refine me_cv (p' := 9) k173_6 rfl rfl (by decide) rfl (by decide) (by decide) dp_161 rfl rfl (cl_le mx_161 rfl) (by decide) (cl_sum rfl) (ct_sumOf (by rw [hJ.e128]; exact hk.hn) (by omega) ?_)
  rw [hJ.e128, hJ.e127, haw]
  refine me_istore_n (p' := 10) k173_9 rfl ⟨Nat.le_of_ble_eq_true rfl, rfl⟩ rfl ?_
  refine me_iconst (p' := 11) k173_10 rfl (v := nI 1) (by decide) ?_
  refine me_istore_n (p' := 12) k173_11 rfl ⟨Nat.le_of_ble_eq_true rfl, rfl⟩ rfl ?_
  refine me_aload_n (p' := 13) k173_12 rfl rfl ?_
  refine me_cv (p' := 16) k173_13 rfl rfl (by decide) rfl (by decide) (by decide) dp_163 rfl rfl (cl_le mx_163 rfl) (by decide) (cl_sum rfl) (ct_second (hJ.tx hx) (by rw [hJ.e128]; exact hk) (fun I1 hI1 hI2 => ?_))
  rw [hJ.e128, hJ.e127, haw] at hI2
  exact lp_stands hx hk haw hJ 300 (by decide) (fun J hJ => hQ _ hJ.1) I1 1 rfl hI1 hI2
