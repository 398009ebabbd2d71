/-! ===== the model: what is called (3) ===== -/
theorem sp_dv_lt (x : Int32) : sp_dv x < 2 ^ 24 := by
  unfold sp_dv
  have := x.toUInt32.toNat_lt
  omega
theorem up_up {s : Nat → Int32} {k : Nat} {a b : Int32} : up (up s k a) k b = up s k b := by
  funext j
  unfold up
  split <;> rfl
theorem sp_dls_1 {s : Nat → Int32} {n : Nat} (h : s 1 = nI n) : ∀ j : Nat, sp_dls s n j 1 = nI (n + j)
  | 0 => h
  | j + 1 => by
    rw [sp_dls, sp_dl1, sp_comes, if_pos rfl, Nat.add_assoc]
theorem mI_wmin {t m : Nat} (ht : t ≤ 9999) (hm : m ≤ 1000) : sp_within (nI 9999 - nI t) (nI 0) (nI m) = nI (min m (9999 - t)) := by
  rw [mI_sub ht]
  unfold sp_within
  rw [if_pos (show nI 0 ≤ nI (9999 - t) from nI_pos' (by omega))]
  by_cases h : 9999 - t ≤ m
  · rw [if_pos ((cI_le (by omega) (by omega)).mpr h)]
    congr 1
    omega
  · rw [if_neg (fun z => h ((cI_le (by omega) (by omega)).mp z))]
    congr 1
    omega
/-- it is thought: the state lies aside -/
def mTh (I J : Nat → Nat → Int32) : Prop := mFr [131, 138, 139] I J ∧ ∀ j : Nat, j < 109 → J 131 j = I 128 j
theorem mTh.e128 {I J : Nat → Nat → Int32} (h : mTh I J) : J 128 = I 128 := funext fun k => h.1 128 k (by decide)
theorem mTh.e127 {I J : Nat → Nat → Int32} (h : mTh I J) : J 127 = I 127 := funext fun k => h.1 127 k (by decide)
theorem mTh.tx {I J : Nat → Nat → Int32} {T : mT} (h : mTh I J) (hx : mTx I T) : mTx J T := hx.kp (fun j _ => by rw [h.e128])
theorem mTh.thinks {I : Nat → Nat → Int32} : mTh I (mw I 131 (fun j => if j < 109 then I 128 j else I 131 j)) := ⟨mFr.w (by decide), fun j hj => by rw [mw_eq, if_pos hj]⟩
theorem mTh.back {I J K : Nat → Nat → Int32} (h : mTh I J) (ha : I 127 4 = -1) (h1 : mFr [127, 128, 138, 139] J K) (h2 : ∀ k, k ≠ 4 → K 127 k = J 127 k) (h3 : ∀ j, 109 ≤ j → K 128 j = J 128 j) :
    mTh I (mg_u (mw K 128 (fun j => if j < 109 then K 131 j else K 128 j)) 127 4 (-1)) := by
  refine ⟨fun i k hi => ?_, fun j hj => ?_⟩
  · by_cases e7 : i = 127
    · subst e7
      by_cases e4 : k = 4
      · subst e4; rw [mg_ueq]; exact ha.symm
      · rw [mg_une (fun z => e4 z.2), mw_ne (by decide), h2 k e4]; exact h.1 127 k (by decide)
    · rw [mg_un1 e7]
      by_cases e8 : i = 128
      · subst e8
        rw [mw_eq]
        by_cases e : k < 109
        · rw [if_pos e, h1 131 k (by decide)]; exact h.2 k e
        · rw [if_neg e, h3 k (by omega)]; exact h.1 128 k (by decide)
      · rw [mw_ne e8, h1 i k (by simp only [List.mem_cons, List.not_mem_nil, or_false] at hi ⊢; omega)]
        exact h.1 i k hi
  · rw [mg_un1 (by decide), mw_ne (by decide), h1 131 j (by decide)]
    exact h.2 j hj
theorem mTh.sb {I J K : Nat → Nat → Int32} (h : mTh I J) (ha : I 127 4 = -1) (h1 : mFr [127, 128, 138, 139] J K) (h2 : ∀ k, k ≠ 4 → K 127 k = J 127 k) (h3 : K 127 4 = -1) (h4 : K 128 = I 128) : mTh I K := by
  refine ⟨fun i k hi => ?_, fun j hj => ?_⟩
  · by_cases e7 : i = 127
    · subst e7
      by_cases e4 : k = 4
      · subst e4; rw [h3, ha]
      · rw [h2 k e4]; exact h.1 127 k (by decide)
    · by_cases e8 : i = 128
      · subst e8; rw [h4]
      · rw [h1 i k (by simp only [List.mem_cons, List.not_mem_nil, or_false] at hi ⊢; omega)]
        exact h.1 i k hi
  · rw [h1 131 j (by decide)]
    exact h.2 j hj
def sp_behind (T : mT) (s : Nat → Int32) (n : Nat) (v what : Int32) : Int32 := match sp_rg 301 v with
  | none => (-1000000001)
  | some m => match sp_rg 4 what with
    | some k => sp_sum (sp_secs T s (-1) n m) (-1) (3 + k) n
    | none => match sp_rg n (what - nI 4) with
      | none => (-1000000001)
      | some c => sp_secs T s (-1) n m (53 + 7 * c + 1)
theorem lp_deal {d L : Nat} {xs : Nat → Int32} {I : Nat → Nat → Int32} {Q : Option Value → mj_H → Prop} {n m : Nat} (hk : mOk (I 128) n) (hm : m ≤ 8) (hQ : ∀ I2, mFr [128] I I2 → I2 128 = sp_dls (I 128) n (min m (8 - n)) → Q (some (.int (nI (min m (8 - n))))) (mg_h L xs I2)) : ∀ k : Nat, k ≤ min m (8 - n) → ∀ I1, mFr [128] I I1 → I1 128 = sp_dls (I 128) n k → ∀ u3 u4 u5 : Value, mj_Ev (d + 1) 157 15 [.ref 127, .int (nI m), .int (nI k), u3, u4, u5] [] (mg_h L xs I1) Q := by
  have hn8 := hk.hn.2
  refine loop_ind (n := min m (8 - n)) (fun k hkn ih => ?_)
  intro I1 hfr e1 u3 u4 u5
  refine me_iload_n (p' := 16) k157_15 rfl rfl ?_
  refine me_iload_n (p' := 17) k157_16 rfl rfl ?_
  refine me_ic_ge (p' := 20) k157_17 rfl (fun c1 => ?_) (fun c1 => ?_)
  · skip
    rw [cI_le (a := m) (b := k) (by omega) (by omega)] at c1
    refine me_iload_n (p' := 74) k157_73 rfl rfl ?_
    refine me_reti k157_74 rt_157 rfl ?_
    have e8 : k = min m (8 - n) := by omega
    rw [e8]
    exact hQ _ hfr (by rw [e1, e8])
  · skip
    rw [cI_le (a := m) (b := k) (by omega) (by omega)] at c1
    refine me_aload_n (p' := 21) k157_20 rfl rfl ?_
    refine me_gfr (p' := 24) k157_21 rfl (by decide) rfl (b := 128) rfl ?_
    refine me_iconst (p' := 25) k157_24 rfl (v := nI 1) (by decide) ?_
    refine me_iald (p' := 26) k157_25 rfl (by decide) rfl (j := 1) rfl (by omega) (by decide) rfl ?_
    rw [show I1 128 1 = nI (n + k) from by rw [e1]; exact sp_dls_1 hk.hn.1 k]
    refine me_bipush (p' := 28) k157_26 rfl (v := nI 8) (by decide) ?_
    refine me_ic_ge (p' := 31) k157_28 rfl (fun c2 => ?_) (fun c2 => ?_)
    · skip
      rw [cI_le (a := 8) (b := n + k) (by omega) (by omega)] at c2
      refine me_iload_n (p' := 74) k157_73 rfl rfl ?_
      refine me_reti k157_74 rt_157 rfl ?_
      have e8 : k = min m (8 - n) := by omega
      rw [e8]
      exact hQ _ hfr (by rw [e1, e8])
    · skip
      rw [cI_le (a := 8) (b := n + k) (by omega) (by omega)] at c2
      refine me_aload_n (p' := 32) k157_31 rfl rfl ?_
      refine me_cv (p' := 35) k157_32 rfl rfl (by decide) rfl (by decide) (by decide) dp_158 rfl rfl (cl_le mx_158 rfl) (by decide) (cl_sum rfl) (ct_draw ?_)
      rw [e1]
      have hdv0 := sp_dv_lt (sp_z ((sp_dls (I 128) n k) 0))
      refine me_bipush (p' := 37) k157_35 rfl (v := nI 6) (by decide) ?_
      refine me_irem (p' := 38) k157_37 rfl (nI_ne0 (by omega) (by omega)) (v := nI ((sp_dv (sp_z ((sp_dls (I 128) n k) 0))) % 6)) (mI_mod (by omega) (by omega)) ?_
      refine me_istore_n (p' := 39) k157_38 rfl ⟨Nat.le_of_ble_eq_true rfl, rfl⟩ rfl ?_
      refine me_aload_n (p' := 40) k157_39 rfl rfl ?_
      refine me_cv (p' := 43) k157_40 rfl rfl (by decide) rfl (by decide) (by decide) dp_158 rfl rfl (cl_le mx_158 rfl) (by decide) (cl_sum rfl) (ct_draw ?_)
      rw [mg_ueq]
      have hdv1 := sp_dv_lt (sp_z (sp_z ((sp_dls (I 128) n k) 0)))
      refine me_sipush (p' := 46) k157_43 rfl (v := nI 240) (by decide) ?_
      refine me_irem (p' := 47) k157_46 rfl (nI_ne0 (by omega) (by omega)) (v := nI ((sp_dv (sp_z (sp_z ((sp_dls (I 128) n k) 0)))) % 240)) (mI_mod (by omega) (by omega)) ?_
      refine me_istore (p' := 49) k157_47 rfl ⟨Nat.le_of_ble_eq_true rfl, rfl⟩ rfl ?_
      refine me_aload_n (p' := 50) k157_49 rfl rfl ?_
      refine me_iload_n (p' := 51) k157_50 rfl rfl ?_
      refine me_iload (p' := 53) k157_51 rfl rfl ?_
      refine me_iconst (p' := 54) k157_53 rfl (v := nI 1) (by decide) ?_
      refine me_aload_n (p' := 55) k157_54 rfl rfl ?_
      refine me_cv (p' := 58) k157_55 rfl rfl (by decide) rfl (by decide) (by decide) dp_158 rfl rfl (cl_le mx_158 rfl) (by decide) (cl_sum rfl) (ct_draw ?_)
      rw [mg_ueq]
      have hdv2 := sp_dv_lt (sp_z (sp_z (sp_z ((sp_dls (I 128) n k) 0))))
      refine me_bipush (p' := 60) k157_58 rfl (v := nI 99) (by decide) ?_
      refine me_irem (p' := 61) k157_60 rfl (nI_ne0 (by omega) (by omega)) (v := nI ((sp_dv (sp_z (sp_z (sp_z ((sp_dls (I 128) n k) 0))))) % 99)) (mI_mod (by omega) (by omega)) ?_
      refine me_iadd (p' := 62) k157_61 rfl (v := nI (1 + ((sp_dv (sp_z (sp_z (sp_z ((sp_dls (I 128) n k) 0))))) % 99))) (mI_add _ _) ?_
      refine me_cv (p' := 65) k157_62 rfl rfl (by decide) rfl (by decide) (by decide) dp_135 rfl rfl (cl_le mx_135 rfl) (by decide) (cl_sum rfl) (ct_comes (n := n + k) ⟨by rw [mg_ui, mg_ui, mg_ui, up_ne (by decide), up_ne (by decide), up_ne (by decide), e1]; exact sp_dls_1 hk.hn.1 k, by omega⟩ (by omega) ?_)
      rw [show (mg_u (mg_u (mg_u I1 128 0 (sp_z ((sp_dls (I 128) n k) 0))) 128 0 (sp_z (sp_z ((sp_dls (I 128) n k) 0)))) 128 0 (sp_z (sp_z (sp_z ((sp_dls (I 128) n k) 0))))) 128 = up (sp_dls (I 128) n k) 0 (sp_z (sp_z (sp_z ((sp_dls (I 128) n k) 0)))) from by rw [mg_ui, mg_ui, mg_ui, up_up, up_up, e1]]
      refine me_istore (p' := 67) k157_65 rfl ⟨Nat.le_of_ble_eq_true rfl, rfl⟩ rfl ?_
      refine me_iinc (p' := 70) k157_67 rfl rfl rfl (v := nI (k + 1)) (mI_inc (by decide)) rfl ?_
      refine me_goto k157_70 ?_
      refine ih (by omega) _ (hfr.tr (((mFr.up (by decide)).tr ((mFr.up (by decide)).tr (mFr.up (by decide)))).tr (mFr.w (by decide)))) ?_ _ _ _
      rw [mw_eqf]
      rfl
theorem ct_Mdeal {d L : Nat} {xs : Nat → Int32} {I : Nat → Nat → Int32} {Q : Option Value → mj_H → Prop} {n : Nat} (hk : mOk (I 128) n) {v : Int32} (hQ : ∀ I2, mFr [128] I I2 → I2 128 = (sp_deal (I 128) n v).2 → Q (some (.int (sp_deal (I 128) n v).1)) (mg_h L xs I2)) : mj_Cl (d + 1) 157 [.ref 127, .int v] (mg_h L xs I) Q := by
  have hn8 := hk.hn.2
  refine cl_start mx_157 (ls := [.ref 127, .int v, mj_no, mj_no, mj_no, mj_no]) rfl ?_
  refine me_iload_n (p' := 1) k157_0 rfl rfl ?_
  refine me_iconst (p' := 2) k157_1 rfl (v := nI 1) (by decide) ?_
  refine me_bipush (p' := 4) k157_2 rfl (v := nI 8) (by decide) ?_
  refine me_cs (p' := 7) k157_4 rfl rfl rfl rfl rfl (cl_le mx_134 rfl) (by decide) (cl_sum rfl) (ct_in (fun e83 => ?_) (fun e83 => ?_))
  · skip
    refine me_if_ne (p' := 10) k157_7 rfl (fun h => absurd h (by decide)) (fun _ => ?_)
    obtain ⟨m, rfl, hm⟩ : ∃ m : Nat, v = nI m ∧ m ≤ 8 ∧ 1 ≤ m := by
      obtain ⟨m, rfl, hm⟩ := mI_of (Int32.le_trans (nI_pos' (show 1 < 2 ^ 31 by omega)) e83.1)
      exact ⟨m, rfl, (cI_le hm (by decide)).mp e83.2, (cI_le (by decide) hm).mp e83.1⟩
    refine me_iconst (p' := 14) k157_13 rfl (v := nI 0) (by decide) ?_
    refine me_istore_n (p' := 15) k157_14 rfl ⟨Nat.le_of_ble_eq_true rfl, rfl⟩ rfl ?_
    simp only [sp_deal, if_pos e83, nI_clamp (show m < 2 ^ 31 by omega), if_true, if_false] at hQ
    exact lp_deal hk hm.1 hQ 0 (Nat.zero_le _) I mFr.rf rfl _ _ _
  · skip
    refine me_if_ne (p' := 10) k157_7 rfl (fun _ => ?_) (fun h => absurd (by decide) h)
    refine me_ldc (p' := 12) k157_10 rfl (v := (-1000000001)) (by decide) ?_
    refine me_reti k157_12 rt_157 rfl ?_
    simp only [sp_deal, if_neg e83, if_true, if_false] at hQ
    exact hQ _ mFr.rf rfl
theorem ct_Mseconds {d L : Nat} {xs : Nat → Int32} {I : Nat → Nat → Int32} {Q : Option Value → mj_H → Prop} {T : mT} {n : Nat} (hx : mTx I T) (hk : mOk (I 128) n) {t : Nat} (haw : I 127 4 = -1) (ht : I 128 2 = nI t ∧ t ≤ 9999) {v : Int32} (hQ : ∀ I2, mFr [128, 138, 139] I I2 → I2 128 = (sp_seconds T (I 128) n v).2 → Q (some (.int (sp_seconds T (I 128) n v).1)) (mg_h L xs I2)) : mj_Cl (d + 6) 160 [.ref 127, .int v] (mg_h L xs I) Q := by
  have hn8 := hk.hn.2
  refine cl_start mx_160 (ls := [.ref 127, .int v, mj_no]) rfl ?_
  refine me_iload_n (p' := 1) k160_0 rfl rfl ?_
  refine me_iconst (p' := 2) k160_1 rfl (v := nI 1) (by decide) ?_
  refine me_sipush (p' := 5) k160_2 rfl (v := nI 300) (by decide) ?_
  refine me_cs (p' := 8) k160_5 rfl rfl rfl rfl rfl (cl_le mx_134 rfl) (by decide) (cl_sum rfl) (ct_in (fun e84 => ?_) (fun e84 => ?_))
  · skip
    refine me_if_ne (p' := 11) k160_8 rfl (fun h => absurd h (by decide)) (fun _ => ?_)
    obtain ⟨m, rfl, hm⟩ : ∃ m : Nat, v = nI m ∧ m ≤ 300 ∧ 1 ≤ m := by
      obtain ⟨m, rfl, hm⟩ := mI_of (Int32.le_trans (nI_pos' (show 1 < 2 ^ 31 by omega)) e84.1)
      exact ⟨m, rfl, (cI_le hm (by decide)).mp e84.2, (cI_le (by decide) hm).mp e84.1⟩
    refine me_aload_n (p' := 15) k160_14 rfl rfl ?_
    refine me_iconst (p' := 16) k160_15 rfl (v := nI 3) (by decide) ?_
    refine me_cv (p' := 19) k160_16 rfl rfl (by decide) rfl (by decide) (by decide) dp_161 rfl rfl (cl_le mx_161 rfl) (by decide) (cl_sum rfl) (ct_sumOf hk.hn (by omega) ?_)
    rw [haw]
    refine me_istore_n (p' := 20) k160_19 rfl ⟨Nat.le_of_ble_eq_true rfl, rfl⟩ rfl ?_
    refine me_aload_n (p' := 21) k160_20 rfl rfl ?_
    refine me_sipush (p' := 24) k160_21 rfl (v := nI 9999) (by decide) ?_
    refine me_aload_n (p' := 25) k160_24 rfl rfl ?_
    refine me_gfr (p' := 28) k160_25 rfl (by decide) rfl (b := 128) rfl ?_
    refine me_iconst (p' := 29) k160_28 rfl (v := nI 2) (by decide) ?_
    refine me_iald (p' := 30) k160_29 rfl (by decide) rfl (j := 2) rfl (by omega) (by decide) rfl ?_
    rw [ht.1]
    have ht2 := ht.2
    refine me_isub (p' := 31) k160_30 rfl rfl ?_
    refine me_iconst (p' := 32) k160_31 rfl (v := nI 0) (by decide) ?_
    refine me_iload_n (p' := 33) k160_32 rfl rfl ?_
    refine me_cs (p' := 36) k160_33 rfl rfl rfl rfl rfl (cl_le mx_144 rfl) (by decide) (cl_sum rfl) (ct_within ?_)
    rw [mI_wmin ht.2 (by omega)]
    refine me_cv (p' := 39) k160_36 rfl rfl (by decide) rfl (by decide) (by decide) dp_162 rfl rfl (cl_le mx_162 rfl) (by decide) (cl_sum rfl) (ct_goesOn (by omega) hx hk (fun I1 hI1 hI2 => ?_))
    rw [haw] at hI2
    have h1 : mOk (I1 128) n := by rw [hI2]; exact hk.secs _
    have ha1 : I1 127 4 = -1 := (hI1 127 4 (by decide)).trans haw
    refine me_aload_n (p' := 40) k160_39 rfl rfl ?_
    refine me_iconst (p' := 41) k160_40 rfl (v := nI 3) (by decide) ?_
    refine me_cv (p' := 44) k160_41 rfl rfl (by decide) rfl (by decide) (by decide) dp_161 rfl rfl (cl_le mx_161 rfl) (by decide) (cl_sum rfl) (ct_sumOf h1.hn (by omega) ?_)
    rw [hI2, ha1]
    refine me_iload_n (p' := 45) k160_44 rfl rfl ?_
    refine me_isub (p' := 46) k160_45 rfl rfl ?_
    refine me_reti k160_46 rt_160 rfl ?_
    simp only [sp_seconds, if_pos e84, nI_clamp (show m < 2 ^ 31 by omega), ht.1, nI_clamp (show t < 2 ^ 31 by have := ht.2; omega), if_true, if_false] at hQ
    exact hQ _ hI1 hI2
  · skip
    refine me_if_ne (p' := 11) k160_8 rfl (fun _ => ?_) (fun h => absurd (by decide) h)
    refine me_ldc (p' := 13) k160_11 rfl (v := (-1000000001)) (by decide) ?_
    refine me_reti k160_13 rt_160 rfl ?_
    simp only [sp_seconds, if_neg e84, ht.1, nI_clamp (show t < 2 ^ 31 by have := ht.2; omega), if_true, if_false] at hQ
    exact hQ _ mFr.rf rfl
theorem ct_Mbehind {d L : Nat} {xs : Nat → Int32} {I : Nat → Nat → Int32} {Q : Option Value → mj_H → Prop} {T : mT} {n : Nat} (hx : mTx I T) (hk : mOk (I 128) n) (haw : I 127 4 = -1) {v wh : Int32} (hQ : ∀ I2, mFr [131, 138, 139] I I2 → Q (some (.int (sp_behind T (I 128) n v wh))) (mg_h L xs I2)) : mj_Cl (d + 6) 170 [.ref 127, .int v, .int wh] (mg_h L xs I) Q := by
  have hn8 := hk.hn.2
  refine cl_start mx_170 (ls := [.ref 127, .int v, .int wh, mj_no]) rfl ?_
  refine me_iload_n (p' := 1) k170_0 rfl rfl ?_
  refine me_iconst (p' := 2) k170_1 rfl (v := nI 0) (by decide) ?_
  refine me_sipush (p' := 5) k170_2 rfl (v := nI 300) (by decide) ?_
  refine me_cs (p' := 8) k170_5 rfl rfl rfl rfl rfl (cl_le mx_134 rfl) (by decide) (cl_sum rfl) (ct_in (fun e85 => ?_) (fun e85 => ?_))
  · skip
    obtain ⟨k86, hk87, rfl⟩ := mI_in1 (n := 300) (by omega) e85
    have hk87 : k86 < 301 := by omega
    refine me_if_eq (p' := 11) k170_8 rfl (fun h => absurd h (by decide)) (fun _ => ?_)
    refine me_iload_n (p' := 12) k170_11 rfl rfl ?_
    refine me_if_lt (p' := 15) k170_12 rfl (fun c1 => ?_) (fun c1 => ?_)
    · skip
      refine me_ldc (p' := 32) k170_30 rfl (v := (-1000000001)) (by decide) ?_
      refine me_reti k170_32 rt_170 rfl ?_
      have h4 : ∀ k : Nat, k < 4 → wh ≠ nI k := by
        rintro k hk rfl
        exact nI_pos (by omega) c1
      have h5 : ∀ k : Nat, k < n → wh - nI 4 ≠ nI k := by
        intro k hk z
        have : wh = nI (k + 4) := by
          rw [← mI_add, ← z]
          simp
        subst this
        exact nI_pos (by omega) c1
      simp only [sp_behind, sp_rg_s (m := 301) hk87 (by omega), sp_rg_n (m := 4) (by decide) h4, sp_rg_n (m := n) (by omega) h5, if_true, if_false] at hQ
      exact hQ _ mFr.rf
    · skip
      refine me_iload_n (p' := 16) k170_15 rfl rfl ?_
      refine me_iconst (p' := 17) k170_16 rfl (v := nI 3) (by decide) ?_
      refine me_ic_le (p' := 20) k170_17 rfl (fun c2 => ?_) (fun c2 => ?_)
      · skip
        obtain ⟨j, rfl, hj⟩ : ∃ j : Nat, wh = nI j ∧ j < 4 := by
          obtain ⟨j, rfl, hj⟩ := mI_of (Int32.not_lt.mp c1)
          exact ⟨j, rfl, by have := (cI_le hj (by decide)).mp c2; omega⟩
        refine me_aload_n (p' := 34) k170_33 rfl rfl ?_
        refine me_cv (p' := 37) k170_34 rfl rfl (by decide) rfl (by decide) (by decide) dp_171 rfl rfl (cl_le mx_171 rfl) (by decide) (cl_sum rfl) (ct_thinks ?_)
        generalize hJe : mw I 131 (fun j => if j < 109 then I 128 j else I 131 j) = J
        have hJ : mTh I J := by rw [← hJe]; exact mTh.thinks
        refine me_aload_n (p' := 38) k170_37 rfl rfl ?_
        refine me_iload_n (p' := 39) k170_38 rfl rfl ?_
        refine me_cv (p' := 42) k170_39 rfl rfl (by decide) rfl (by decide) (by decide) dp_162 rfl rfl (cl_le mx_162 rfl) (by decide) (cl_sum rfl) (ct_goesOn (by omega) (hJ.tx hx) (by rw [hJ.e128]; exact hk) (fun I1 hI1 hI2 => ?_))
        rw [hJ.e128, hJ.e127, haw] at hI2
        have h1 : mOk (I1 128) n := by rw [hI2]; exact hk.secs _
        have ha1 : I1 127 4 = -1 := (hI1 127 4 (by decide)).trans ((hJ.1 127 4 (by decide)).trans haw)
        refine me_iload_n (p' := 43) k170_42 rfl rfl ?_
        refine me_iconst (p' := 44) k170_43 rfl (v := nI 3) (by decide) ?_
        refine me_ic_le (p' := 47) k170_44 rfl (fun c3 => ?_) (fun c3 => ?_)
        · skip
          rw [cI_le (a := j) (b := 3) (by omega) (by omega)] at c3
          refine me_aload_n (p' := 59) k170_58 rfl rfl ?_
          refine me_iconst (p' := 60) k170_59 rfl (v := nI 3) (by decide) ?_
          refine me_iload_n (p' := 61) k170_60 rfl rfl ?_
          refine me_iadd (p' := 62) k170_61 rfl (v := nI (3 + j)) (mI_add _ _) ?_
          refine me_cv (p' := 65) k170_62 rfl rfl (by decide) rfl (by decide) (by decide) dp_161 rfl rfl (cl_le mx_161 rfl) (by decide) (cl_sum rfl) (ct_sumOf h1.hn (by omega) ?_)
          rw [hI2, ha1]
          refine me_istore_n (p' := 66) k170_65 rfl ⟨Nat.le_of_ble_eq_true rfl, rfl⟩ rfl ?_
          refine me_aload_n (p' := 67) k170_66 rfl rfl ?_
          refine me_cv (p' := 70) k170_67 rfl rfl (by decide) rfl (by decide) (by decide) dp_172 rfl rfl (cl_le mx_172 rfl) (by decide) (cl_sum rfl) (ct_putsBack ?_)
          refine me_iload_n (p' := 71) k170_70 rfl rfl ?_
          refine me_reti k170_71 rt_170 rfl ?_
          simp only [sp_behind, sp_rg_s (m := 301) hk87 (by omega), sp_rg_s hj (by decide), if_true, if_false] at hQ
          exact hQ _ (hJ.back haw (hI1.mono (by simp)) (fun k _ => hI1 127 k (by decide)) (fun j hj => by rw [hI2, sp_secs_kp hk (by unfold mTd; omega), hJ.e128])).1
        · skip
          rw [cI_le (a := j) (b := 3) (by omega) (by omega)] at c3
          exfalso
          omega
      · skip
        refine me_aload_n (p' := 21) k170_20 rfl rfl ?_
        refine me_iload_n (p' := 22) k170_21 rfl rfl ?_
        refine me_iconst (p' := 23) k170_22 rfl (v := nI 4) (by decide) ?_
        refine me_isub (p' := 24) k170_23 rfl rfl ?_
        refine me_cv (p' := 27) k170_24 rfl rfl (by decide) rfl (by decide) (by decide) dp_137 rfl rfl (cl_le mx_137 rfl) (by decide) (cl_sum rfl) (ct_MisCar hk.hn (fun kC hkC heC => ?_) (fun hzC => ?_))
        · skip
          refine me_if_ne (p' := 30) k170_27 rfl (fun h => absurd h (by decide)) (fun _ => ?_)
          obtain rfl : wh = nI (kC + 4) := by
            rw [← mI_add, ← heC]
            simp
          have hn4 : ∀ k : Nat, k < 4 → nI (kC + 4) ≠ nI k := fun k hk z => by
            have := (cI_eq (by omega) (by omega)).mp z
            omega
          refine me_aload_n (p' := 34) k170_33 rfl rfl ?_
          refine me_cv (p' := 37) k170_34 rfl rfl (by decide) rfl (by decide) (by decide) dp_171 rfl rfl (cl_le mx_171 rfl) (by decide) (cl_sum rfl) (ct_thinks ?_)
          generalize hJe : mw I 131 (fun j => if j < 109 then I 128 j else I 131 j) = J
          have hJ : mTh I J := by rw [← hJe]; exact mTh.thinks
          refine me_aload_n (p' := 38) k170_37 rfl rfl ?_
          refine me_iload_n (p' := 39) k170_38 rfl rfl ?_
          refine me_cv (p' := 42) k170_39 rfl rfl (by decide) rfl (by decide) (by decide) dp_162 rfl rfl (cl_le mx_162 rfl) (by decide) (cl_sum rfl) (ct_goesOn (by omega) (hJ.tx hx) (by rw [hJ.e128]; exact hk) (fun I1 hI1 hI2 => ?_))
          rw [hJ.e128, hJ.e127, haw] at hI2
          have h1 : mOk (I1 128) n := by rw [hI2]; exact hk.secs _
          have ha1 : I1 127 4 = -1 := (hI1 127 4 (by decide)).trans ((hJ.1 127 4 (by decide)).trans haw)
          refine me_iload_n (p' := 43) k170_42 rfl rfl ?_
          refine me_iconst (p' := 44) k170_43 rfl (v := nI 3) (by decide) ?_
          refine me_ic_le (p' := 47) k170_44 rfl (fun c4 => ?_) (fun c4 => ?_)
          · skip
            rw [cI_le (a := kC + 4) (b := 3) (by omega) (by omega)] at c4
            exfalso
            omega
          · skip
            rw [cI_le (a := kC + 4) (b := 3) (by omega) (by omega)] at c4
            refine me_aload_n (p' := 48) k170_47 rfl rfl ?_
            refine me_iload_n (p' := 49) k170_48 rfl rfl ?_
            refine me_iconst (p' := 50) k170_49 rfl (v := nI 4) (by decide) ?_
            refine me_isub (p' := 51) k170_50 rfl rfl ?_
            rw [mI_sub (by omega), Nat.add_sub_cancel]
            refine me_iconst (p' := 52) k170_51 rfl (v := nI 1) (by decide) ?_
            refine me_cv (p' := 55) k170_52 rfl rfl (by decide) rfl (by decide) (by decide) dp_141 rfl rfl (cl_le mx_141 rfl) (by decide) (cl_sum rfl) (ct_of (by omega) ?_)
            rw [hI2]
            refine me_goto k170_55 ?_
            refine me_istore_n (p' := 66) k170_65 rfl ⟨Nat.le_of_ble_eq_true rfl, rfl⟩ rfl ?_
            refine me_aload_n (p' := 67) k170_66 rfl rfl ?_
            refine me_cv (p' := 70) k170_67 rfl rfl (by decide) rfl (by decide) (by decide) dp_172 rfl rfl (cl_le mx_172 rfl) (by decide) (cl_sum rfl) (ct_putsBack ?_)
            refine me_iload_n (p' := 71) k170_70 rfl rfl ?_
            refine me_reti k170_71 rt_170 rfl ?_
            simp only [sp_behind, sp_rg_s (m := 301) hk87 (by omega), sp_rg_s hkC (by omega), sp_rg_n (m := 4) (by decide) hn4, mI_sub (show 4 ≤ kC + 4 by omega), Nat.add_sub_cancel, if_true, if_false] at hQ
            exact hQ _ (hJ.back haw (hI1.mono (by simp)) (fun k _ => hI1 127 k (by decide)) (fun j hj => by rw [hI2, sp_secs_kp hk (by unfold mTd; omega), hJ.e128])).1
        · skip
          refine me_if_ne (p' := 30) k170_27 rfl (fun _ => ?_) (fun h => absurd (by decide) h)
          refine me_ldc (p' := 32) k170_30 rfl (v := (-1000000001)) (by decide) ?_
          refine me_reti k170_32 rt_170 rfl ?_
          have h4 : ∀ k : Nat, k < 4 → wh ≠ nI k := by
            rintro k hk rfl
            exact c2 ((cI_le (by omega) (by decide)).mpr (by omega))
          simp only [sp_behind, sp_rg_s (m := 301) hk87 (by omega), sp_rg_n (by omega) hzC, sp_rg_n (m := 4) (by decide) h4, if_true, if_false] at hQ
          exact hQ _ mFr.rf
  · skip
    have hz88 : ∀ k : Nat, k < 301 → v ≠ nI k := fun k hk => mI_in0 (n := 300) (by omega) e85 (by omega)
    refine me_if_eq (p' := 11) k170_8 rfl (fun _ => ?_) (fun h => absurd (by decide) h)
    refine me_ldc (p' := 32) k170_30 rfl (v := (-1000000001)) (by decide) ?_
    refine me_reti k170_32 rt_170 rfl ?_
    simp only [sp_behind, sp_rg_n (m := 301) (by omega) hz88, if_true, if_false] at hQ
    exact hQ _ mFr.rf
