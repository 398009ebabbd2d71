/-! ===== the model: what is called (6) ===== -/
theorem sp_ev_cg {fa fb : Nat → Int32} : ∀ (l : List Nat) (st : List Int32) (n : Nat), sp_ok l n = true → (∀ x ∈ l, x ≠ 10002) → (∀ j, j < 2 → fa j = fb j) → sp_ev fa l st = sp_ev fb l st
  | [], _, _, _, _, _ => rfl
  | t :: l, st, n, hok, hl, hf => by
    have hr := sp_ok_tok hok
    have h2 := hl t (by simp)
    have e : sp_tok fa t st = sp_tok fb t st := by
      unfold sp_tok
      by_cases h1 : t < 10000
      · rw [if_pos h1, if_pos h1]
      · rw [if_neg h1, if_neg h1]
        by_cases h3 : t < 20000
        · rw [if_pos h3, if_pos h3, hf _ (by rcases hr with ⟨q, -⟩ | ⟨q, -⟩ | ⟨o, q, -⟩ <;> omega)]
        · rw [if_neg h3, if_neg h3]
    show sp_ev fa l (sp_tok fa t st) = sp_ev fb l (sp_tok fb t st)
    rw [e]
    rcases hr with ⟨-, -, q⟩ | ⟨-, -, q⟩ | ⟨o, -, -, -, -, q⟩ <;> exact sp_ev_cg l _ _ q (fun x hx => hl x (by simp [hx])) hf
theorem sp_val_some {T : mT} {key t : Nat} {dflt f0 f1 f2 : Int32} (h : sp_counts T.kf key T.nt = some t) : sp_val T.nt T.kf T.tk key dflt f0 f1 f2 = (sp_ev (fun j => [f0, f1, f2].getD j 0) (T.tk t) []).headD 0 := by
  unfold sp_val
  rw [h]
theorem sp_val_none {T : mT} {key : Nat} {dflt f0 f1 f2 : Int32} (h : oI (sp_counts T.kf key T.nt) < 0) (hn : T.nt ≤ 14) : sp_val T.nt T.kf T.tk key dflt f0 f1 f2 = dflt := by
  unfold sp_val
  cases hc : sp_counts T.kf key T.nt with
  | none => rfl
  | some t =>
    rw [hc] at h
    have := (sp_counts_lt hc).1
    exact absurd h (nI_pos (by omega))
theorem sp_counts_some {T : mT} {key : Nat} (h : ¬ oI (sp_counts T.kf key T.nt) < 0) : ∃ t, sp_counts T.kf key T.nt = some t ∧ t < T.nt ∧ T.kf t = key := by
  cases hc : sp_counts T.kf key T.nt with
  | none => rw [hc] at h; exact absurd (by decide) h
  | some t => exact ⟨t, rfl, (sp_counts_lt hc).1, (sp_counts_lt hc).2⟩
theorem ct_Mfee {d L : Nat} {xs : Nat → Int32} {I : Nat → Nat → Int32} {Q : Option Value → mj_H → Prop} {T : mT} {n : Nat} (hx : mTx I T) (hk : mOk (I 128) n) (haw : I 127 4 = -1) (hQ : ∀ I2, mFr [138, 139] I I2 → Q (some (.int (sp_fee T (I 128) n))) (mg_h L xs I2)) : mj_Cl (d + 2) 184 [.ref 127] (mg_h L xs I) Q := by
  have hn8 := hk.hn.2
  refine cl_start mx_184 (ls := [.ref 127, mj_no]) rfl ?_
  refine me_aload_n (p' := 1) k184_0 rfl rfl ?_
  refine me_iconst (p' := 2) k184_1 rfl (v := nI 1) (by decide) ?_
  refine me_cv (p' := 5) k184_2 rfl rfl (by decide) rfl (by decide) (by decide) dp_140 rfl rfl (cl_le mx_140 rfl) (by decide) (cl_sum rfl) (ct_counts hx (by decide) ?_)
  refine me_istore_n (p' := 6) k184_5 rfl ⟨Nat.le_of_ble_eq_true rfl, rfl⟩ rfl ?_
  refine me_aload_n (p' := 7) k184_6 rfl rfl ?_
  refine me_gfr (p' := 10) k184_7 rfl (by decide) rfl (b := 139) rfl ?_
  refine me_iconst (p' := 11) k184_10 rfl (v := nI 0) (by decide) ?_
  refine me_aload_n (p' := 12) k184_11 rfl rfl ?_
  refine me_iconst (p' := 13) k184_12 rfl (v := nI 3) (by decide) ?_
  refine me_cv (p' := 16) k184_13 rfl rfl (by decide) rfl (by decide) (by decide) dp_161 rfl rfl (cl_le mx_161 rfl) (by decide) (cl_sum rfl) (ct_sumOf hk.hn (by omega) ?_)
  rw [haw]
  refine me_iast (p' := 17) k184_16 rfl (by decide) rfl (j := 0) rfl (by omega) (by decide) rfl ?_
  refine me_aload_n (p' := 18) k184_17 rfl rfl ?_
  refine me_gfr (p' := 21) k184_18 rfl (by decide) rfl (b := 139) rfl ?_
  refine me_iconst (p' := 22) k184_21 rfl (v := nI 1) (by decide) ?_
  refine me_aload_n (p' := 23) k184_22 rfl rfl ?_
  refine me_gfr (p' := 26) k184_23 rfl (by decide) rfl (b := 128) rfl ?_
  refine me_iconst (p' := 27) k184_26 rfl (v := nI 2) (by decide) ?_
  refine me_iald (p' := 28) k184_27 rfl (by decide) rfl (j := 2) rfl (by omega) (by decide) rfl ?_
  rw [mg_un1 (by decide)]
  refine me_iast (p' := 29) k184_28 rfl (by decide) rfl (j := 1) rfl (by omega) (by decide) rfl ?_
  refine me_iload_n (p' := 30) k184_29 rfl rfl ?_
  refine me_if_ge (p' := 33) k184_30 rfl (fun c1 => ?_) (fun c1 => ?_)
  · skip
    obtain ⟨t, hct, htn, htk⟩ := sp_counts_some (Int32.not_lt.mpr c1)
    obtain ⟨ht1, ht2, ht3, ht4, ht5, ht6⟩ := hx.2.2 t htn
    have hnt := hx.2.1
    rw [hct]
    simp only [oI]
    refine me_aload_n (p' := 42) k184_41 rfl rfl ?_
    refine me_iload_n (p' := 43) k184_42 rfl rfl ?_
    refine me_cv (p' := 46) k184_43 rfl rfl (by decide) rfl (by decide) (by decide) dp_142 rfl rfl (cl_le mx_142 rfl) (by decide) (cl_sum rfl) (ct_worksOut (fa := (fun j => [sp_sum (I 128) (-1) 3 n, I 128 2, I 139 2].getD j 0)) (by omega) ht1 (fun j hj => by rcases (show j = 0 ∨ j = 1 ∨ j = 2 by omega) with rfl | rfl | rfl <;> simp [mg_u]) (by rw [mg_un1 (by decide), mg_un1 (by decide)]; exact ht4) ht2 ht3 (fun j hj => by rw [mg_un1 (by decide), mg_un1 (by decide)]; exact ht6.1 j hj) (fun I2 hI2 => ?_))
    rw [sp_ev_cg (fa := (fun j => [sp_sum (I 128) (-1) 3 n, I 128 2, I 139 2].getD j 0)) (fb := (fun j => [sp_sum (I 128) (-1) 3 n, I 128 2, 0].getD j 0)) (T.tk t) [] 0 ht3 (ht6.2 (by omega)) (fun j hj => by rcases (show j = 0 ∨ j = 1 by omega) with rfl | rfl <;> rfl), ← sp_val_some (dflt := sp_sum (I 128) (-1) 3 n) hct]
    have hfr2 : mFr [138, 139] I I2 := ((mFr.up (by decide)).tr (mFr.up (by decide))).tr (hI2.mono (by simp))
    refine me_reti k184_46 rt_184 rfl ?_
    exact hQ _ hfr2
  · skip
    refine me_aload_n (p' := 34) k184_33 rfl rfl ?_
    refine me_iconst (p' := 35) k184_34 rfl (v := nI 3) (by decide) ?_
    refine me_cv (p' := 38) k184_35 rfl rfl (by decide) rfl (by decide) (by decide) dp_161 rfl rfl (cl_le mx_161 rfl) (by decide) (cl_sum rfl) (ct_sumOf (by rw [mg_un (by decide), mg_un (by decide)]; exact hk.hn) (by omega) ?_)
    rw [mg_un (by decide), mg_un (by decide), mg_un1 (by decide), mg_un1 (by decide), haw]
    refine me_goto k184_38 ?_
    refine me_reti k184_46 rt_184 rfl ?_
    have := hQ (mg_u (mg_u I 139 0 (sp_sum (I 128) (-1) 3 n)) 139 1 (I 128 2)) ((mFr.up (by decide)).tr (mFr.up (by decide)))
    rw [sp_fee, sp_val_none (Int32.not_le.mp c1) hx.2.1] at this
    exact this
theorem ct_Mfine {d L : Nat} {xs : Nat → Int32} {I : Nat → Nat → Int32} {Q : Option Value → mj_H → Prop} {T : mT} {n : Nat} (hx : mTx I T) (hk : mOk (I 128) n) {car : Int32} (hQ : ∀ I2, mFr [138, 139] I I2 → Q (some (.int (sp_fine T (I 128) n car))) (mg_h L xs I2)) : mj_Cl (d + 2) 185 [.ref 127, .int car] (mg_h L xs I) Q := by
  have hn8 := hk.hn.2
  refine cl_start mx_185 (ls := [.ref 127, .int car, mj_no]) rfl ?_
  refine me_aload_n (p' := 1) k185_0 rfl rfl ?_
  refine me_iload_n (p' := 2) k185_1 rfl rfl ?_
  refine me_cv (p' := 5) k185_2 rfl rfl (by decide) rfl (by decide) (by decide) dp_137 rfl rfl (cl_le mx_137 rfl) (by decide) (cl_sum rfl) (ct_MisCar hk.hn (fun k122 hk123 he => ?_) (fun hz124 => ?_))
  · skip
    subst he
    refine me_if_ne (p' := 8) k185_5 rfl (fun h => absurd h (by decide)) (fun _ => ?_)
    refine me_aload_n (p' := 12) k185_11 rfl rfl ?_
    refine me_iconst (p' := 13) k185_12 rfl (v := nI 2) (by decide) ?_
    refine me_cv (p' := 16) k185_13 rfl rfl (by decide) rfl (by decide) (by decide) dp_140 rfl rfl (cl_le mx_140 rfl) (by decide) (cl_sum rfl) (ct_counts hx (by decide) ?_)
    refine me_istore_n (p' := 17) k185_16 rfl ⟨Nat.le_of_ble_eq_true rfl, rfl⟩ rfl ?_
    refine me_aload_n (p' := 18) k185_17 rfl rfl ?_
    refine me_gfr (p' := 21) k185_18 rfl (by decide) rfl (b := 139) rfl ?_
    refine me_iconst (p' := 22) k185_21 rfl (v := nI 0) (by decide) ?_
    refine me_aload_n (p' := 23) k185_22 rfl rfl ?_
    refine me_iload_n (p' := 24) k185_23 rfl rfl ?_
    refine me_iconst (p' := 25) k185_24 rfl (v := nI 1) (by decide) ?_
    refine me_cv (p' := 28) k185_25 rfl rfl (by decide) rfl (by decide) (by decide) dp_141 rfl rfl (cl_le mx_141 rfl) (by decide) (cl_sum rfl) (ct_of (by omega) ?_)
    refine me_iast (p' := 29) k185_28 rfl (by decide) rfl (j := 0) rfl (by omega) (by decide) rfl ?_
    refine me_aload_n (p' := 30) k185_29 rfl rfl ?_
    refine me_gfr (p' := 33) k185_30 rfl (by decide) rfl (b := 139) rfl ?_
    refine me_iconst (p' := 34) k185_33 rfl (v := nI 1) (by decide) ?_
    refine me_aload_n (p' := 35) k185_34 rfl rfl ?_
    refine me_iload_n (p' := 36) k185_35 rfl rfl ?_
    refine me_iconst (p' := 37) k185_36 rfl (v := nI 4) (by decide) ?_
    refine me_cv (p' := 40) k185_37 rfl rfl (by decide) rfl (by decide) (by decide) dp_141 rfl rfl (cl_le mx_141 rfl) (by decide) (cl_sum rfl) (ct_of (by omega) ?_)
    rw [mg_un1 (by decide)]
    refine me_iast (p' := 41) k185_40 rfl (by decide) rfl (j := 1) rfl (by omega) (by decide) rfl ?_
    refine me_iload_n (p' := 42) k185_41 rfl rfl ?_
    refine me_if_ge (p' := 45) k185_42 rfl (fun c1 => ?_) (fun c1 => ?_)
    · skip
      obtain ⟨t, hct, htn, htk⟩ := sp_counts_some (Int32.not_lt.mpr c1)
      obtain ⟨ht1, ht2, ht3, ht4, ht5, ht6⟩ := hx.2.2 t htn
      have hnt := hx.2.1
      rw [hct]
      simp only [oI]
      refine me_aload_n (p' := 55) k185_54 rfl rfl ?_
      refine me_iload_n (p' := 56) k185_55 rfl rfl ?_
      refine me_cv (p' := 59) k185_56 rfl rfl (by decide) rfl (by decide) (by decide) dp_142 rfl rfl (cl_le mx_142 rfl) (by decide) (cl_sum rfl) (ct_worksOut (fa := (fun j => [I 128 (53 + 7 * k122 + 1), I 128 (53 + 7 * k122 + 4), I 139 2].getD j 0)) (by omega) ht1 (fun j hj => by rcases (show j = 0 ∨ j = 1 ∨ j = 2 by omega) with rfl | rfl | rfl <;> simp [mg_u]) (by rw [mg_un1 (by decide), mg_un1 (by decide)]; exact ht4) ht2 ht3 (fun j hj => by rw [mg_un1 (by decide), mg_un1 (by decide)]; exact ht6.1 j hj) (fun I2 hI2 => ?_))
      rw [sp_ev_cg (fa := (fun j => [I 128 (53 + 7 * k122 + 1), I 128 (53 + 7 * k122 + 4), I 139 2].getD j 0)) (fb := (fun j => [I 128 (53 + 7 * k122 + 1), I 128 (53 + 7 * k122 + 4), 0].getD j 0)) (T.tk t) [] 0 ht3 (ht6.2 (by omega)) (fun j hj => by rcases (show j = 0 ∨ j = 1 by omega) with rfl | rfl <;> rfl), ← sp_val_some (dflt := I 128 (53 + 7 * k122 + 4)) hct]
      have hfr2 : mFr [138, 139] I I2 := ((mFr.up (by decide)).tr (mFr.up (by decide))).tr (hI2.mono (by simp))
      refine me_reti k185_59 rt_185 rfl ?_
      simp only [sp_fine, sp_rg_s hk123 (by omega), if_true, if_false] at hQ
      exact hQ _ hfr2
    · skip
      refine me_aload_n (p' := 46) k185_45 rfl rfl ?_
      refine me_iload_n (p' := 47) k185_46 rfl rfl ?_
      refine me_iconst (p' := 48) k185_47 rfl (v := nI 4) (by decide) ?_
      refine me_cv (p' := 51) k185_48 rfl rfl (by decide) rfl (by decide) (by decide) dp_141 rfl rfl (cl_le mx_141 rfl) (by decide) (cl_sum rfl) (ct_of (by omega) ?_)
      rw [mg_un1 (by decide), mg_un1 (by decide)]
      refine me_goto k185_51 ?_
      refine me_reti k185_59 rt_185 rfl ?_
      simp only [sp_fine, sp_rg_s hk123 (by omega), if_true, if_false] at hQ
      rw [sp_val_none (Int32.not_le.mp c1) hx.2.1] at hQ
      exact hQ _ ((mFr.up (by decide)).tr (mFr.up (by decide)))
  · skip
    refine me_if_ne (p' := 8) k185_5 rfl (fun _ => ?_) (fun h => absurd (by decide) h)
    refine me_ldc (p' := 10) k185_8 rfl (v := (-1000000001)) (by decide) ?_
    refine me_reti k185_10 rt_185 rfl ?_
    simp only [sp_fine, sp_rg_n (by omega) hz124, if_true, if_false] at hQ
    exact hQ _ mFr.rf
theorem ct_Mkeep {d L : Nat} {xs : Nat → Int32} {I : Nat → Nat → Int32} {Q : Option Value → mj_H → Prop}  (hQ : Q (some (.int (I 128 1))) (mg_h L xs (mg_u (mw I 129 (fun j => if j < 1481 then I 128 j else I 129 j)) 127 3 (nI 1)))) : mj_Cl (d + 1) 215 [.ref 127] (mg_h L xs I) Q := by
  refine cl_start mx_215 (ls := [.ref 127]) rfl ?_
  refine me_aload_n (p' := 1) k215_0 rfl rfl ?_
  refine me_gfr (p' := 4) k215_1 rfl (by decide) rfl (b := 128) rfl ?_
  refine me_aload_n (p' := 5) k215_4 rfl rfl ?_
  refine me_gfr (p' := 8) k215_5 rfl (by decide) rfl (b := 129) rfl ?_
  refine me_cs (p' := 11) k215_8 rfl rfl rfl rfl rfl (cl_le mx_214 rfl) (by decide) (cl_sum rfl) (ct_copyAll (by decide) (by decide) rfl rfl (fun k => rfl) (fun k => rfl) (by decide) ?_)
  refine me_aload_n (p' := 12) k215_11 rfl rfl ?_
  refine me_iconst (p' := 13) k215_12 rfl (v := nI 1) (by decide) ?_
  refine me_pfi (p' := 16) k215_13 rfl (by decide) rfl rfl rfl rfl ?_
  refine me_aload_n (p' := 17) k215_16 rfl rfl ?_
  refine me_gfr (p' := 20) k215_17 rfl (by decide) rfl (b := 128) rfl ?_
  refine me_iconst (p' := 21) k215_20 rfl (v := nI 1) (by decide) ?_
  refine me_iald (p' := 22) k215_21 rfl (by decide) rfl (j := 1) rfl (by omega) (by decide) rfl ?_
  refine me_reti k215_22 rt_215 rfl ?_
  rw [mg_un1 (by decide), mw_ne (by decide)]
  exact hQ
theorem ct_Mback {d L : Nat} {xs : Nat → Int32} {I : Nat → Nat → Int32} {Q : Option Value → mj_H → Prop}  (hQ0 : I 127 3 = 0 → Q (some (.int (-1000000002))) (mg_h L xs I)) (hQ1 : ¬ I 127 3 = 0 → Q (some (.int (I 129 1))) (mg_h L xs (mw I 128 (fun j => if j < 1481 then I 129 j else I 128 j)))) : mj_Cl (d + 1) 216 [.ref 127] (mg_h L xs I) Q := by
  refine cl_start mx_216 (ls := [.ref 127]) rfl ?_
  refine me_aload_n (p' := 1) k216_0 rfl rfl ?_
  refine me_gfi (p' := 4) k216_1 rfl (by decide) rfl rfl ?_
  refine me_if_ne (p' := 7) k216_4 rfl (fun c1 => ?_) (fun c1 => ?_)
  · skip
    refine me_ldc (p' := 9) k216_7 rfl (v := (-1000000002)) (by decide) ?_
    refine me_reti k216_9 rt_216 rfl ?_
    exact hQ0 c1
  · skip
    refine me_aload_n (p' := 11) k216_10 rfl rfl ?_
    refine me_gfr (p' := 14) k216_11 rfl (by decide) rfl (b := 129) rfl ?_
    refine me_aload_n (p' := 15) k216_14 rfl rfl ?_
    refine me_gfr (p' := 18) k216_15 rfl (by decide) rfl (b := 128) rfl ?_
    refine me_cs (p' := 21) k216_18 rfl rfl rfl rfl rfl (cl_le mx_214 rfl) (by decide) (cl_sum rfl) (ct_copyAll (by decide) (by decide) rfl rfl (fun k => rfl) (fun k => rfl) (by decide) ?_)
    refine me_aload_n (p' := 22) k216_21 rfl rfl ?_
    refine me_gfr (p' := 25) k216_22 rfl (by decide) rfl (b := 128) rfl ?_
    refine me_iconst (p' := 26) k216_25 rfl (v := nI 1) (by decide) ?_
    refine me_iald (p' := 27) k216_26 rfl (by decide) rfl (j := 1) rfl (by omega) (by decide) rfl ?_
    refine me_reti k216_27 rt_216 rfl ?_
    rw [mw_eq, if_pos (by decide)]
    exact hQ1 c1
def sp_count (s : Nat → Int32) (w tl : Int32) (v : Int32) : Int32 := match sp_rg 8 v with
  | none => (-1000000001)
  | some 0 => s 1
  | some 1 => s 2
  | some 2 => s 3
  | some 3 => sp_scr s 12
  | some 4 => s 4
  | some 5 => w
  | some 6 => tl
  | some _ => s 0
theorem ct_Mcount {d L : Nat} {xs : Nat → Int32} {I : Nat → Nat → Int32} {Q : Option Value → mj_H → Prop} {v : Int32} (hQ : Q (some (.int (sp_count (I 128) (I 127 33) (I 127 7) v))) (mg_h L xs I)) : mj_Cl (d + 1) 217 [.ref 127, .int v] (mg_h L xs I) Q := by
  refine cl_start mx_217 (ls := [.ref 127, .int v]) rfl ?_
  refine me_iload_n (p' := 1) k217_0 rfl rfl ?_
  rcases mI_ex 8 (by decide) v with ⟨k126, hk9, rfl⟩ | hz125
  rotate_left
  · refine me_tsw (p' := 98) k217_1 (by rw [if_pos (show (v).toInt < 0 ∨ 7 < (v).toInt from by have := mI_tout (m := 8) (by decide) hz125; omega)]; rfl) ?_
    refine me_ldc (p' := 100) k217_98 rfl (v := (-1000000001)) (by decide) ?_
    refine me_reti k217_100 rt_217 rfl ?_
    simp only [sp_count, sp_rg_n (m := 8) (by omega) hz125, if_true, if_false] at hQ
    exact hQ
  rcases (show k126 = 0 ∨ k126 = 1 ∨ k126 = 2 ∨ k126 = 3 ∨ k126 = 4 ∨ k126 = 5 ∨ k126 = 6 ∨ k126 = 7 by omega) with rfl | rfl | rfl | rfl | rfl | rfl | rfl | rfl
  · skip
    refine me_tsw (p' := 48) k217_1 (by decide) ?_
    refine me_aload_n (p' := 49) k217_48 rfl rfl ?_
    refine me_gfr (p' := 52) k217_49 rfl (by decide) rfl (b := 128) rfl ?_
    refine me_iconst (p' := 53) k217_52 rfl (v := nI 1) (by decide) ?_
    refine me_iald (p' := 54) k217_53 rfl (by decide) rfl (j := 1) rfl (by omega) (by decide) rfl ?_
    refine me_reti k217_54 rt_217 rfl ?_
    simp only [sp_count, sp_rg_s (show 0 < 8 by decide) (by decide), if_true, if_false] at hQ
    exact hQ
  · skip
    refine me_tsw (p' := 55) k217_1 (by decide) ?_
    refine me_aload_n (p' := 56) k217_55 rfl rfl ?_
    refine me_gfr (p' := 59) k217_56 rfl (by decide) rfl (b := 128) rfl ?_
    refine me_iconst (p' := 60) k217_59 rfl (v := nI 2) (by decide) ?_
    refine me_iald (p' := 61) k217_60 rfl (by decide) rfl (j := 2) rfl (by omega) (by decide) rfl ?_
    refine me_reti k217_61 rt_217 rfl ?_
    simp only [sp_count, sp_rg_s (show 1 < 8 by decide) (by decide), if_true, if_false] at hQ
    exact hQ
  · skip
    refine me_tsw (p' := 62) k217_1 (by decide) ?_
    refine me_aload_n (p' := 63) k217_62 rfl rfl ?_
    refine me_gfr (p' := 66) k217_63 rfl (by decide) rfl (b := 128) rfl ?_
    refine me_iconst (p' := 67) k217_66 rfl (v := nI 3) (by decide) ?_
    refine me_iald (p' := 68) k217_67 rfl (by decide) rfl (j := 3) rfl (by omega) (by decide) rfl ?_
    refine me_reti k217_68 rt_217 rfl ?_
    simp only [sp_count, sp_rg_s (show 2 < 8 by decide) (by decide), if_true, if_false] at hQ
    exact hQ
  · skip
    refine me_tsw (p' := 69) k217_1 (by decide) ?_
    refine me_aload_n (p' := 70) k217_69 rfl rfl ?_
    refine me_cv (p' := 73) k217_70 rfl rfl (by decide) rfl (by decide) (by decide) dp_218 rfl rfl (cl_le mx_218 rfl) (by decide) (cl_sum rfl) (ct_scares ?_)
    refine me_reti k217_73 rt_217 rfl ?_
    simp only [sp_count, sp_rg_s (show 3 < 8 by decide) (by decide), if_true, if_false] at hQ
    exact hQ
  · skip
    refine me_tsw (p' := 74) k217_1 (by decide) ?_
    refine me_aload_n (p' := 75) k217_74 rfl rfl ?_
    refine me_gfr (p' := 78) k217_75 rfl (by decide) rfl (b := 128) rfl ?_
    refine me_iconst (p' := 79) k217_78 rfl (v := nI 4) (by decide) ?_
    refine me_iald (p' := 80) k217_79 rfl (by decide) rfl (j := 4) rfl (by omega) (by decide) rfl ?_
    refine me_reti k217_80 rt_217 rfl ?_
    simp only [sp_count, sp_rg_s (show 4 < 8 by decide) (by decide), if_true, if_false] at hQ
    exact hQ
  · skip
    refine me_tsw (p' := 81) k217_1 (by decide) ?_
    refine me_aload_n (p' := 82) k217_81 rfl rfl ?_
    refine me_gfi (p' := 85) k217_82 rfl (by decide) rfl rfl ?_
    refine me_reti k217_85 rt_217 rfl ?_
    simp only [sp_count, sp_rg_s (show 5 < 8 by decide) (by decide), if_true, if_false] at hQ
    exact hQ
  · skip
    refine me_tsw (p' := 86) k217_1 (by decide) ?_
    refine me_aload_n (p' := 87) k217_86 rfl rfl ?_
    refine me_gfi (p' := 90) k217_87 rfl (by decide) rfl rfl ?_
    refine me_reti k217_90 rt_217 rfl ?_
    simp only [sp_count, sp_rg_s (show 6 < 8 by decide) (by decide), if_true, if_false] at hQ
    exact hQ
  · skip
    refine me_tsw (p' := 91) k217_1 (by decide) ?_
    refine me_aload_n (p' := 92) k217_91 rfl rfl ?_
    refine me_gfr (p' := 95) k217_92 rfl (by decide) rfl (b := 128) rfl ?_
    refine me_iconst (p' := 96) k217_95 rfl (v := nI 0) (by decide) ?_
    refine me_iald (p' := 97) k217_96 rfl (by decide) rfl (j := 0) rfl (by omega) (by decide) rfl ?_
    refine me_reti k217_97 rt_217 rfl ?_
    simp only [sp_count, sp_rg_s (show 7 < 8 by decide) (by decide), if_true, if_false] at hQ
    exact hQ
def sp_trim (tl : Nat) (v : Int32) : Int32 := match sp_rg (tl + 1) v with
  | none => (-1000000001)
  | some k => nI k
theorem ct_Mtrim {d L : Nat} {xs : Nat → Int32} {I : Nat → Nat → Int32} {Q : Option Value → mj_H → Prop} {v : Int32} {tl : Nat} (ht : I 127 7 = nI tl ∧ tl ≤ 96) (hQ0 : (∀ k : Nat, k < tl + 1 → v ≠ nI k) → Q (some (.int (-1000000001))) (mg_h L xs I)) (hQ1 : ∀ k : Nat, k < tl + 1 → v = nI k → Q (some (.int (nI k))) (mg_h L xs (mg_u I 127 7 (nI k)))) : mj_Cl (d + 1) 187 [.ref 127, .int v] (mg_h L xs I) Q := by
  refine cl_start mx_187 (ls := [.ref 127, .int v]) rfl ?_
  refine me_iload_n (p' := 1) k187_0 rfl rfl ?_
  refine me_iconst (p' := 2) k187_1 rfl (v := nI 0) (by decide) ?_
  refine me_aload_n (p' := 3) k187_2 rfl rfl ?_
  refine me_gfi (p' := 6) k187_3 rfl (by decide) rfl rfl ?_
  rw [ht.1]
  have ht2 := ht.2
  refine me_cs (p' := 9) k187_6 rfl rfl rfl rfl rfl (cl_le mx_134 rfl) (by decide) (cl_sum rfl) (ct_in (fun e127 => ?_) (fun e127 => ?_))
  · skip
    obtain ⟨k128, hk129, rfl⟩ := mI_in1 (n := tl) (by omega) e127
    have hk129 : k128 < tl + 1 := by omega
    refine me_if_ne (p' := 12) k187_9 rfl (fun h => absurd h (by decide)) (fun _ => ?_)
    refine me_aload_n (p' := 16) k187_15 rfl rfl ?_
    refine me_iload_n (p' := 17) k187_16 rfl rfl ?_
    refine me_pfi (p' := 20) k187_17 rfl (by decide) rfl rfl rfl rfl ?_
    refine me_iload_n (p' := 21) k187_20 rfl rfl ?_
    refine me_reti k187_21 rt_187 rfl ?_
    exact hQ1 k128 (by omega) rfl
  · skip
    have hz130 : ∀ k : Nat, k < tl + 1 → v ≠ nI k := fun k hk => mI_in0 (n := tl) (by omega) e127 (by omega)
    refine me_if_ne (p' := 12) k187_9 rfl (fun _ => ?_) (fun h => absurd (by decide) h)
    refine me_ldc (p' := 14) k187_12 rfl (v := (-1000000001)) (by decide) ?_
    refine me_reti k187_14 rt_187 rfl ?_
    exact hQ0 hz130
theorem ct_Mtell {d L : Nat} {xs : Nat → Int32} {I : Nat → Nat → Int32} {Q : Option Value → mj_H → Prop} {v : Int32} {w : Nat} (hw : I 127 33 = nI w ∧ w ≤ 60) (hQ0 : w = 60 → Q (some (.int (-1000000003))) (mg_h L xs I)) (hQ1 : ¬ w = 60 → Q (some (.int (nI (w + 1)))) (mg_h L xs (mg_u (mg_u I 148 w v) 127 33 (nI (w + 1))))) : mj_Cl d 212 [.ref 127, .int v] (mg_h L xs I) Q := by
  refine cl_start mx_212 (ls := [.ref 127, .int v]) rfl ?_
  refine me_aload_n (p' := 1) k212_0 rfl rfl ?_
  refine me_gfi (p' := 4) k212_1 rfl (by decide) rfl rfl ?_
  rw [hw.1]
  have hw2 := hw.2
  refine me_bipush (p' := 6) k212_4 rfl (v := nI 60) (by decide) ?_
  refine me_ic_ne (p' := 9) k212_6 rfl (fun c1 => ?_) (fun c1 => ?_)
  · skip
    rw [cI_eq (a := w) (b := 60) (by omega) (by omega)] at c1
    refine me_ldc (p' := 11) k212_9 rfl (v := (-1000000003)) (by decide) ?_
    refine me_reti k212_11 rt_212 rfl ?_
    exact hQ0 c1
  · skip
    rw [cI_eq (a := w) (b := 60) (by omega) (by omega)] at c1
    refine me_aload_n (p' := 13) k212_12 rfl rfl ?_
    refine me_gfr (p' := 16) k212_13 rfl (by decide) rfl (b := 148) rfl ?_
    refine me_aload_n (p' := 17) k212_16 rfl rfl ?_
    refine me_gfi (p' := 20) k212_17 rfl (by decide) rfl rfl ?_
    rw [hw.1]
    refine me_iload_n (p' := 21) k212_20 rfl rfl ?_
    refine me_iast (p' := 22) k212_21 rfl (by decide) rfl (j := w) rfl (by omega) (by decide) rfl ?_
    refine me_aload_n (p' := 23) k212_22 rfl rfl ?_
    refine me_dup (p' := 24) k212_23 rfl rfl ?_
    refine me_gfi (p' := 27) k212_24 rfl (by decide) rfl rfl ?_
    rw [mg_un1 (by decide), hw.1]
    refine me_iconst (p' := 28) k212_27 rfl (v := nI 1) (by decide) ?_
    refine me_iadd (p' := 29) k212_28 rfl (v := nI (w + 1)) (mI_add _ _) ?_
    refine me_pfi (p' := 32) k212_29 rfl (by decide) rfl rfl rfl rfl ?_
    refine me_aload_n (p' := 33) k212_32 rfl rfl ?_
    refine me_gfi (p' := 36) k212_33 rfl (by decide) rfl rfl ?_
    rw [mg_ueq]
    refine me_reti k212_36 rt_212 rfl ?_
    exact hQ1 c1
