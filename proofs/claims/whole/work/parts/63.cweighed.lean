/-! ===== the class: weighed ===== -/
theorem mI_abs {v : Int32} {f : Nat} (hn : ¬ v = (-1000000005)) (hv : -99999 ≤ v ∧ v ≤ nI 99999) (hf : f < 240) : (if 0 ≤ nI f - v then nI f - v else 0 - (nI f - v)) = nI (sp_df v f) := by
  have h9 := sp_df_le (Or.inr hv) hf
  have h1 := hv.1
  have h2 := hv.2
  rw [Int32.le_iff_toInt_le] at h1 h2
  have e1 : (-99999 : Int32).toInt = -99999 := by decide
  have e2 : (nI 99999).toInt = 99999 := by decide
  have e0 : (0 : Int32).toInt = 0 := by decide
  have es : (nI f - v).toInt = f - v.toInt := by
    rw [Int32.toInt_sub, nI_toInt (by omega)]
    exact Int.bmod_eq_of_le_mul_two (by omega) (by omega)
  have ed : sp_df v f = (v.toInt - f).natAbs := by unfold sp_df; rw [if_neg hn]
  by_cases h : 0 ≤ nI f - v
  · rw [if_pos h]
    rw [Int32.le_iff_toInt_le, es] at h
    apply Int32.toInt_inj.mp
    rw [es, nI_toInt (by omega), ed]
    omega
  · rw [if_neg h]
    rw [Int32.le_iff_toInt_le, es] at h
    apply Int32.toInt_inj.mp
    rw [Int32.toInt_sub, es, e0, nI_toInt (by omega), ed, Int.bmod_eq_of_le_mul_two (by omega) (by omega)]
    omega
def sp_w1 (f : Nat → Nat) : Nat → Int32
  | 0 => (-1000000005)
  | k + 1 => nI (1 + 5 * (sp_mn f k).1)
def sp_w2 (f : Nat → Nat) : Nat → Int32
  | 0 => nI 0
  | k + 1 => nI (sp_mn f k).2
theorem sp_w_none {f : Nat → Nat} {k : Nat} (h : k ≠ 0 → (sp_mn f (k - 1)).1 ≤ 100) : sp_w1 f k = (-1000000005) ↔ k = 0 := by
  cases k with
  | zero => exact ⟨fun _ => rfl, fun _ => rfl⟩
  | succ k =>
    have h1 := h (by omega)
    rw [Nat.add_sub_cancel] at h1
    refine ⟨fun z => ?_, fun z => by omega⟩
    have h2 : ¬ nI (1 + 5 * (sp_mn f k).1) < 0 := nI_pos (by omega)
    rw [show nI (1 + 5 * (sp_mn f k).1) = (-1000000005) from z] at h2
    exact absurd (by decide) h2
theorem sp_w_hit {f : Nat → Nat} {k : Nat} (hb : ∀ j, j ≤ k → f j < 2 ^ 31 ∧ (sp_mn f j).2 < 2 ^ 31 ∧ (sp_mn f j).1 ≤ 100) (h : sp_w1 f k = (-1000000005) ∨ ¬ sp_w2 f k ≤ nI (f k)) : nI (1 + 5 * k) = sp_w1 f (k + 1) ∧ nI (f k) = sp_w2 f (k + 1) := by
  cases k with
  | zero => exact ⟨rfl, rfl⟩
  | succ k =>
    have hk := hb k (by omega)
    have hk1 := hb (k + 1) (by omega)
    have h2 : f (k + 1) < (sp_mn f k).2 := by
      rcases h with e | e
      · exact absurd ((sp_w_none (fun _ => by rw [Nat.add_sub_cancel]; exact hk.2.2)).mp e) (by omega)
      · rw [show sp_w2 f (k + 1) = nI (sp_mn f k).2 from rfl, cI_le hk.2.1 hk1.1] at e
        omega
    have e : sp_mn f (k + 1) = (k + 1, f (k + 1)) := by rw [sp_mn, if_pos h2]
    show nI (1 + 5 * (k + 1)) = nI (1 + 5 * (sp_mn f (k + 1)).1) ∧ nI (f (k + 1)) = nI (sp_mn f (k + 1)).2
    rw [e]
    exact ⟨rfl, rfl⟩
theorem sp_w_miss {f : Nat → Nat} {k : Nat} (hb : ∀ j, j ≤ k → f j < 2 ^ 31 ∧ (sp_mn f j).2 < 2 ^ 31 ∧ (sp_mn f j).1 ≤ 100) (h1 : ¬ sp_w1 f k = (-1000000005)) (h2 : sp_w2 f k ≤ nI (f k)) : sp_w1 f k = sp_w1 f (k + 1) ∧ sp_w2 f k = sp_w2 f (k + 1) := by
  cases k with
  | zero => exact absurd rfl h1
  | succ k =>
    have hk := hb k (by omega)
    have hk1 := hb (k + 1) (by omega)
    rw [show sp_w2 f (k + 1) = nI (sp_mn f k).2 from rfl, cI_le hk.2.1 hk1.1] at h2
    have e : sp_mn f (k + 1) = sp_mn f k := by rw [sp_mn, if_neg (by omega)]
    show nI (1 + 5 * (sp_mn f k).1) = nI (1 + 5 * (sp_mn f (k + 1)).1) ∧ nI (sp_mn f k).2 = nI (sp_mn f (k + 1)).2
    rw [e]
    exact ⟨rfl, rfl⟩
theorem lp_diff {d L : Nat} {xs : Nat → Int32} {I : Nat → Nat → Int32} {Q : Option Value → mj_H → Prop} {T : mT} {n j c w : Nat} {W : Nat → Nat → Int32} (hx : cTx I T) (hk : mOk (mSg 11 128 I) n) (hc9 : cW I W) (hwk : mWk W) (hj : j < 4) (hc : c < n) (hw : 1 ≤ w ∧ w ≤ 99) (hQ : ∀ K, mFr (mRc 26 ++ mSk) I K → Q (some (.int (nI (sp_wd W T (mSg 11 128 I) n j c w (sN W j))))) (mg_h L xs K)) : ∀ k : Nat, k ≤ sN W j → ∀ J, cAt T I J (sp_secs T (up (mSg 11 128 I) (53 + (7 * c) + 2) (nI w)) (-1) n (k - 1)) → mj_Ev (d + 5) 86 29 [.ref 0, .int (nI w), .int (nI c), .ref (104 + 2 * j), .int (nI (sp_wd W T (mSg 11 128 I) n j c w k)), .int (nI k)] [] (mg_h L xs J) Q := by
  have hn8 := hk.hn.2
  have hsz := hwk.le hj
  have hok := hk.upW hc hw.1 hw.2
  have hcJ : ∀ J, mFr (mRc 26 ++ mSk) I J → cW J W := fun J h => hc9.fr h (by decide)
  refine loop_ind (n := sN W j) (fun k hkn ih => ?_)
  intro J hJ0
  have hwd := sp_wd_le (T := T) hwk hk hj hc hw k hkn
  refine me_iload (p' := 31) k86_29 rfl rfl ?_
  refine me_aload_n (p' := 32) k86_31 rfl rfl ?_
  refine me_gfi (p' := 35) k86_32 rfl (hs_S j (by omega)).1 (congrArg Prod.fst (hs_S j (by omega)).2.1) (hs_S j (by omega)).2.2.2.2.1 ?_
  rw [(hcJ J hJ0.fr).sz hwk hj]
  refine me_ic_ge (p' := 38) k86_35 rfl (fun c1 => ?_) (fun c1 => ?_)
  · skip
    rw [cI_le (a := sN W j) (b := k) (by omega) (by omega)] at c1
    refine me_iload (p' := 95) k86_93 rfl rfl ?_
    refine me_reti k86_95 rt_86 rfl ?_
    obtain rfl : k = sN W j := by omega
    exact hQ J hJ0.fr
  · skip
    rw [cI_le (a := sN W j) (b := k) (by omega) (by omega)] at c1
    refine me_iload (p' := 40) k86_38 rfl rfl ?_
    refine me_if_le (p' := 43) k86_40 rfl (fun c2 => ?_) (fun c2 => ?_)
    · skip
      rw [cI_le0 (a := k) (by omega)] at c2
      have hJ2 : cAt T I J (sp_secs T (up (mSg 11 128 I) (53 + (7 * c) + 2) (nI w)) (-1) n k) := by
        have := hJ0
        rw [show k - 1 = k by omega] at this
        exact this
      refine me_aload_n (p' := 52) k86_51 rfl rfl ?_
      refine me_iload (p' := 54) k86_52 rfl rfl ?_
      refine me_cv (p' := 57) k86_54 rfl rfl (hs_S j (by omega)).1 (congrArg Prod.fst (hs_S j (by omega)).2.1) (by decide) (by decide) dp_87 rfl rfl (cl_le mx_87 rfl) (by decide) (cl_sum rfl) (ct_isNumber (hs_S j (by omega)) (by omega) (fun e9 => ?_) (fun e9 => ?_))
      · skip
        rw [(hcJ J hJ2.fr).vl hj (by omega)] at e9
        refine me_if_eq (p' := 60) k86_57 rfl (fun h => absurd h (by decide)) (fun _ => ?_)
        refine me_iload (p' := 62) k86_60 rfl rfl ?_
        refine me_aload_n (p' := 63) k86_62 rfl rfl ?_
        refine me_gfr (p' := 66) k86_63 rfl (by decide) rfl (b := 26) rfl ?_
        refine me_gfr (p' := 69) k86_66 rfl (by decide) rfl (b := 32) rfl ?_
        refine me_iconst (p' := 70) k86_69 rfl (v := nI 1) (by decide) ?_
        refine me_aald (p' := 71) k86_70 rfl (by decide) rfl ⟨by decide, by decide⟩ (j := 1) rfl (by omega) (by decide) (b := 34) rfl ?_
        refine me_iload_n (p' := 72) k86_71 rfl rfl ?_
        refine me_iald (p' := 73) k86_72 rfl (by decide) rfl (j := c) rfl (by omega) (by decide) rfl ?_
        rw [show J 34 c = nI (sp_ft T (mSg 11 128 I) n c w k) from by rw [sgR26c1 (I := J) (by omega), hJ2.sg]; exact ((hok.secs (T := T) (aw := -1) k).ft c hc).1]
        have hf9 : sp_ft T (mSg 11 128 I) n c w k < 240 := ((hok.secs (T := T) (aw := -1) k).ft c hc).2
        refine me_aload_n (p' := 74) k86_73 rfl rfl ?_
        refine me_gfr (p' := 77) k86_74 rfl (hs_S j (by omega)).1 (congrArg Prod.fst (hs_S j (by omega)).2.1) (b := 105 + 2 * j) (hs_S j (by omega)).2.2.1 ?_
        refine me_iload (p' := 79) k86_77 rfl rfl ?_
        refine me_iald (p' := 80) k86_79 rfl (hs_S j (by omega)).2.2.2.2.2.1 (hs_S j (by omega)).2.2.2.2.2.2.1 (j := k) rfl (by omega) (by decide) (rc_nil _ (Nat.lt_of_lt_of_le (hs_S j (by omega)).2.2.2.2.2.1 (by decide)) (hs_S j (by omega)).2.2.2.2.2.2.2 _) ?_
        rw [(hcJ J hJ2.fr).vl (k := k) hj (by omega)]
        have hv9 := (hwk.vl (k := k) hj (by omega)).resolve_left e9
        refine me_isub (p' := 81) k86_80 rfl rfl ?_
        refine me_abs (p' := 84) k86_81 rfl (cl_sum rfl) rfl ?_
        rw [mI_abs e9 hv9 hf9]
        refine me_iadd (p' := 85) k86_84 rfl (v := nI ((sp_wd W T (mSg 11 128 I) n j c w k) + (sp_df (W 2 (24 * j + k)) (sp_ft T (mSg 11 128 I) n c w k)))) (mI_add _ _) ?_
        refine me_istore (p' := 87) k86_85 rfl ⟨Nat.le_of_ble_eq_true rfl, rfl⟩ rfl ?_
        refine me_iinc (p' := 90) k86_87 rfl rfl rfl (v := nI (k + 1)) (mI_inc (by decide)) rfl ?_
        refine me_goto k86_90 ?_
        exact ih (by omega) _ hJ2
      · skip
        rw [(hcJ J hJ2.fr).vl hj (by omega)] at e9
        refine me_if_eq (p' := 60) k86_57 rfl (fun _ => ?_) (fun h => absurd (by decide) h)
        refine me_iinc (p' := 90) k86_87 rfl rfl rfl (v := nI (k + 1)) (mI_inc (by decide)) rfl ?_
        refine me_goto k86_90 ?_
        rw [show sp_wd W T (mSg 11 128 I) n j c w k = sp_wd W T (mSg 11 128 I) n j c w (k + 1) from by rw [sp_wd, show sp_df (W 2 (24 * j + k)) (sp_ft T (mSg 11 128 I) n c w k) = 0 from by unfold sp_df; rw [if_pos e9]]; rfl]
        exact ih (by omega) _ hJ2
    · skip
      rw [cI_le0 (a := k) (by omega)] at c2
      refine me_aload_n (p' := 44) k86_43 rfl rfl ?_
      refine me_gfr (p' := 47) k86_44 rfl (by decide) rfl (b := 26) rfl ?_
      refine me_iconst (p' := 48) k86_47 rfl (v := nI 1) (by decide) ?_
      refine me_cv (p' := 51) k86_48 rfl rfl (by decide) rfl (by decide) (by decide) dp_63 rfl rfl (cl_le mx_63 rfl) (by decide) (cl_sum rfl) (ct_pass hJ0 hx (hok.secs _) (by omega) (fun K hK => ?_))
      have hK2 : cAt T I K (sp_secs T (up (mSg 11 128 I) (53 + (7 * c) + 2) (nI w)) (-1) n k) := by
        have := hK
        rw [← sp_secs_add, show k - 1 + 1 = k by omega] at this
        exact this
      refine me_aload_n (p' := 52) k86_51 rfl rfl ?_
      refine me_iload (p' := 54) k86_52 rfl rfl ?_
      refine me_cv (p' := 57) k86_54 rfl rfl (hs_S j (by omega)).1 (congrArg Prod.fst (hs_S j (by omega)).2.1) (by decide) (by decide) dp_87 rfl rfl (cl_le mx_87 rfl) (by decide) (cl_sum rfl) (ct_isNumber (hs_S j (by omega)) (by omega) (fun e9 => ?_) (fun e9 => ?_))
      · skip
        rw [(hcJ K hK2.fr).vl hj (by omega)] at e9
        refine me_if_eq (p' := 60) k86_57 rfl (fun h => absurd h (by decide)) (fun _ => ?_)
        refine me_iload (p' := 62) k86_60 rfl rfl ?_
        refine me_aload_n (p' := 63) k86_62 rfl rfl ?_
        refine me_gfr (p' := 66) k86_63 rfl (by decide) rfl (b := 26) rfl ?_
        refine me_gfr (p' := 69) k86_66 rfl (by decide) rfl (b := 32) rfl ?_
        refine me_iconst (p' := 70) k86_69 rfl (v := nI 1) (by decide) ?_
        refine me_aald (p' := 71) k86_70 rfl (by decide) rfl ⟨by decide, by decide⟩ (j := 1) rfl (by omega) (by decide) (b := 34) rfl ?_
        refine me_iload_n (p' := 72) k86_71 rfl rfl ?_
        refine me_iald (p' := 73) k86_72 rfl (by decide) rfl (j := c) rfl (by omega) (by decide) rfl ?_
        rw [show K 34 c = nI (sp_ft T (mSg 11 128 I) n c w k) from by rw [sgR26c1 (I := K) (by omega), hK2.sg]; exact ((hok.secs (T := T) (aw := -1) k).ft c hc).1]
        have hf9 : sp_ft T (mSg 11 128 I) n c w k < 240 := ((hok.secs (T := T) (aw := -1) k).ft c hc).2
        refine me_aload_n (p' := 74) k86_73 rfl rfl ?_
        refine me_gfr (p' := 77) k86_74 rfl (hs_S j (by omega)).1 (congrArg Prod.fst (hs_S j (by omega)).2.1) (b := 105 + 2 * j) (hs_S j (by omega)).2.2.1 ?_
        refine me_iload (p' := 79) k86_77 rfl rfl ?_
        refine me_iald (p' := 80) k86_79 rfl (hs_S j (by omega)).2.2.2.2.2.1 (hs_S j (by omega)).2.2.2.2.2.2.1 (j := k) rfl (by omega) (by decide) (rc_nil _ (Nat.lt_of_lt_of_le (hs_S j (by omega)).2.2.2.2.2.1 (by decide)) (hs_S j (by omega)).2.2.2.2.2.2.2 _) ?_
        rw [(hcJ K hK2.fr).vl (k := k) hj (by omega)]
        have hv9 := (hwk.vl (k := k) hj (by omega)).resolve_left e9
        refine me_isub (p' := 81) k86_80 rfl rfl ?_
        refine me_abs (p' := 84) k86_81 rfl (cl_sum rfl) rfl ?_
        rw [mI_abs e9 hv9 hf9]
        refine me_iadd (p' := 85) k86_84 rfl (v := nI ((sp_wd W T (mSg 11 128 I) n j c w k) + (sp_df (W 2 (24 * j + k)) (sp_ft T (mSg 11 128 I) n c w k)))) (mI_add _ _) ?_
        refine me_istore (p' := 87) k86_85 rfl ⟨Nat.le_of_ble_eq_true rfl, rfl⟩ rfl ?_
        refine me_iinc (p' := 90) k86_87 rfl rfl rfl (v := nI (k + 1)) (mI_inc (by decide)) rfl ?_
        refine me_goto k86_90 ?_
        exact ih (by omega) _ hK2
      · skip
        rw [(hcJ K hK2.fr).vl hj (by omega)] at e9
        refine me_if_eq (p' := 60) k86_57 rfl (fun _ => ?_) (fun h => absurd (by decide) h)
        refine me_iinc (p' := 90) k86_87 rfl rfl rfl (v := nI (k + 1)) (mI_inc (by decide)) rfl ?_
        refine me_goto k86_90 ?_
        rw [show sp_wd W T (mSg 11 128 I) n j c w k = sp_wd W T (mSg 11 128 I) n j c w (k + 1) from by rw [sp_wd, show sp_df (W 2 (24 * j + k)) (sp_ft T (mSg 11 128 I) n c w k) = 0 from by unfold sp_df; rw [if_pos e9]]; rfl]
        exact ih (by omega) _ hK2
theorem ct_diff {d L : Nat} {xs : Nat → Int32} {I J : Nat → Nat → Int32} {Q : Option Value → mj_H → Prop} {T : mT} (hJf : mFr (mRc 26 ++ mSk) I J) (hcg : cCg I 11 T) {n j c w : Nat} {W : Nat → Nat → Int32} (hx : cTx I T) (hk : mOk (mSg 11 128 I) n) (hc9 : cW I W) (hwk : mWk W) (hj : j < 4) (hc : c < n) (hw : 1 ≤ w ∧ w ≤ 99)  (hQ : ∀ K, mFr (mRc 26 ++ mSk) I K → Q (some (.int (nI (sp_wd W T (mSg 11 128 I) n j c w (sN W j))))) (mg_h L xs K)) : mj_Cl (d + 5) 86 [.ref 0, .int (nI w), .int (nI c), .ref (104 + 2 * j)] (mg_h L xs J) Q := by
  have hn8 := hk.hn.2
  refine cl_start mx_86 (ls := [.ref 0, .int (nI w), .int (nI c), .ref (104 + 2 * j), mj_no, mj_no]) rfl ?_
  refine me_aload_n (p' := 1) k86_0 rfl rfl ?_
  refine me_gfr (p' := 4) k86_1 rfl (by decide) rfl (b := 26) rfl ?_
  refine me_aload_n (p' := 5) k86_4 rfl rfl ?_
  refine me_gfr (p' := 8) k86_5 rfl (by decide) rfl (b := 11) rfl ?_
  refine me_cv (p' := 11) k86_8 rfl rfl (by decide) rfl (by decide) (by decide) dp_70 rfl rfl (cl_le mx_70 rfl) (by decide) (cl_sum rfl) (ct_bec hJf hcg (fun K477 hK478 => ?_))
  refine me_aload_n (p' := 12) k86_11 rfl rfl ?_
  refine me_gfr (p' := 15) k86_12 rfl (by decide) rfl (b := 26) rfl ?_
  refine me_gfr (p' := 18) k86_15 rfl (by decide) rfl (b := 32) rfl ?_
  refine me_iconst (p' := 19) k86_18 rfl (v := nI 2) (by decide) ?_
  refine me_aald (p' := 20) k86_19 rfl (by decide) rfl ⟨by decide, by decide⟩ (j := 2) rfl (by omega) (by decide) (b := 35) rfl ?_
  refine me_iload_n (p' := 21) k86_20 rfl rfl ?_
  refine me_iload_n (p' := 22) k86_21 rfl rfl ?_
  refine me_iast (p' := 23) k86_22 rfl (by decide) rfl (j := c) rfl (by omega) (by decide) rfl ?_
  have hK479 : cAt T I (mg_u K477 35 c (nI w)) (up (mSg 11 128 I) (53 + (7 * c) + 2) (nI w)) := hK478.uW (by omega)
  generalize hgeK480 : (mg_u K477 35 c (nI w)) = K480 at *
  refine me_iconst (p' := 24) k86_23 rfl (v := nI 0) (by decide) ?_
  refine me_istore (p' := 26) k86_24 rfl ⟨Nat.le_of_ble_eq_true rfl, rfl⟩ rfl ?_
  refine me_iconst (p' := 27) k86_26 rfl (v := nI 0) (by decide) ?_
  refine me_istore (p' := 29) k86_27 rfl ⟨Nat.le_of_ble_eq_true rfl, rfl⟩ rfl ?_
  exact lp_diff hx hk hc9 hwk hj hc hw hQ 0 (Nat.zero_le _) _ hK479
theorem lp_Cweighed {d L : Nat} {xs : Nat → Int32} {I : Nat → Nat → Int32} {Q : Option Value → mj_H → Prop} {T : mT} {n j c wh : Nat} {W : Nat → Nat → Int32} (hx : cTx I T) (hcg : cCg I 11 T) (hk : mOk (mSg 11 128 I) n) (hc9 : cW I W) (hwk : mWk W) (hj : j < 4) (hc : c < n) (hwh : wh < 2) (hE0 : wh = 0 → ∀ J, mFr (mRc 26 ++ mSk) I J → Q (some (.int (sp_w1 (sp_wf W T (mSg 11 128 I) n j c) 20))) (mg_h L xs J)) (hE1 : ¬ wh = 0 → ∀ J, mFr (mRc 26 ++ mSk) I J → Q (some (.int (sp_w2 (sp_wf W T (mSg 11 128 I) n j c) 20))) (mg_h L xs J)) : ∀ k : Nat, k ≤ 20 → ∀ J, mFr (mRc 26 ++ mSk) I J → ∀ u7 : Value, mj_Ev (d + 6) 83 52 [.ref 0, .int (nI j), .int (nI c), .int (nI wh), .int (sp_w1 (sp_wf W T (mSg 11 128 I) n j c) k), .int (sp_w2 (sp_wf W T (mSg 11 128 I) n j c) k), .int (nI (1 + 5 * k)), u7] [] (mg_h L xs J) Q := by
  have hn8 := hk.hn.2
  have hsz := hwk.le hj
  have hF : ∀ q : Nat, q ≤ 19 → (sp_wf W T (mSg 11 128 I) n j c) q ≤ 2405736 := fun q hq => by
    have := sp_wd_le (T := T) (w := 1 + 5 * q) hwk hk hj hc (by omega) (sN W j) (Nat.le_refl _)
    show sp_wd W T (mSg 11 128 I) n j c (1 + 5 * q) (sN W j) ≤ _
    omega
  have hB : ∀ k : Nat, k ≤ 19 → (sp_mn (sp_wf W T (mSg 11 128 I) n j c) k).2 ≤ 2405736 ∧ (sp_mn (sp_wf W T (mSg 11 128 I) n j c) k).1 ≤ k := by
    intro k
    induction k with
    | zero => intro _; exact ⟨hF 0 (by omega), Nat.le_refl _⟩
    | succ k ih =>
      intro hk9
      have h1 := ih (by omega)
      have h2 := hF (k + 1) (by omega)
      unfold sp_mn
      split
      · exact ⟨h2, Nat.le_refl _⟩
      · exact ⟨h1.1, by omega⟩
  refine loop_ind (n := 20) (fun k hkn ih => ?_)
  intro J hJ0 u7
  have hb : k ≤ 19 → ∀ j', j' ≤ k → (sp_wf W T (mSg 11 128 I) n j c) j' < 2 ^ 31 ∧ (sp_mn (sp_wf W T (mSg 11 128 I) n j c) j').2 < 2 ^ 31 ∧ (sp_mn (sp_wf W T (mSg 11 128 I) n j c) j').1 ≤ 100 := fun h q hq => by
    have h1 := hF q (by omega)
    have h2 := hB q (by omega)
    omega
  have hbk : k ≤ 19 → (sp_wf W T (mSg 11 128 I) n j c) k < 2 ^ 31 := fun h => (hb h k (Nat.le_refl _)).1
  refine me_iload (p' := 54) k83_52 rfl rfl ?_
  refine me_bipush (p' := 56) k83_54 rfl (v := nI 96) (by decide) ?_
  refine me_ic_gt (p' := 59) k83_56 rfl (fun c1 => ?_) (fun c1 => ?_)
  · skip
    rw [cI_lt (a := 96) (b := 1 + 5 * k) (by omega) (by omega)] at c1
    refine me_iload_n (p' := 103) k83_102 rfl rfl ?_
    refine me_if_ne (p' := 106) k83_103 rfl (fun c2 => ?_) (fun c2 => ?_)
    · skip
      rw [cI_eq0 (a := wh) (by omega)] at c2
      refine me_iload (p' := 108) k83_106 rfl rfl ?_
      refine me_goto k83_108 ?_
      refine me_reti k83_113 rt_83 rfl ?_
      obtain rfl : k = 20 := by omega
      exact hE0 c2 J hJ0
    · skip
      rw [cI_eq0 (a := wh) (by omega)] at c2
      refine me_iload (p' := 113) k83_111 rfl rfl ?_
      refine me_reti k83_113 rt_83 rfl ?_
      obtain rfl : k = 20 := by omega
      exact hE1 c2 J hJ0
  · skip
    rw [cI_lt (a := 96) (b := 1 + 5 * k) (by omega) (by omega)] at c1
    refine me_aload_n (p' := 60) k83_59 rfl rfl ?_
    refine me_iload (p' := 62) k83_60 rfl rfl ?_
    refine me_iload_n (p' := 63) k83_62 rfl rfl ?_
    refine me_aload_n (p' := 64) k83_63 rfl rfl ?_
    refine me_gfr (p' := 67) k83_64 rfl (by decide) rfl (b := 56) rfl ?_
    refine me_iload_n (p' := 68) k83_67 rfl rfl ?_
    refine me_aald (p' := 69) k83_68 rfl (by decide) rfl ⟨by decide, by decide⟩ (j := j) rfl (by omega) (by decide) (b := 104 + 2 * j) (rc_56 j (by omega)) ?_
    refine me_cv (p' := 72) k83_69 rfl rfl (by decide) rfl (by decide) (by decide) dp_86 rfl rfl (cl_le mx_86 rfl) (by decide) (cl_sum rfl) (ct_diff hJ0 hcg hx hk hc9 hwk hj hc (by omega) (fun K481 hK482 => ?_))
    show mj_Ev _ _ _ _ (.int (nI ((sp_wf W T (mSg 11 128 I) n j c) k)) :: _) _ _
    refine me_istore (p' := 74) k83_72 rfl ⟨Nat.le_of_ble_eq_true rfl, rfl⟩ rfl ?_
    refine me_iload (p' := 76) k83_74 rfl rfl ?_
    refine me_ldc (p' := 78) k83_76 rfl (v := (-1000000005)) (by decide) ?_
    refine me_ic_eq (p' := 81) k83_78 rfl (fun c3 => ?_) (fun c3 => ?_)
    · skip
      refine me_iload (p' := 90) k83_88 rfl rfl ?_
      refine me_istore (p' := 92) k83_90 rfl ⟨Nat.le_of_ble_eq_true rfl, rfl⟩ rfl ?_
      refine me_iload (p' := 94) k83_92 rfl rfl ?_
      refine me_istore (p' := 96) k83_94 rfl ⟨Nat.le_of_ble_eq_true rfl, rfl⟩ rfl ?_
      refine me_iinc (p' := 99) k83_96 rfl rfl rfl (v := nI (1 + 5 * k + 5)) (mI_inc (by decide)) rfl ?_
      refine me_goto k83_99 ?_
      rw [show 1 + 5 * k + 5 = 1 + 5 * (k + 1) by omega]
      rw [(sp_w_hit (f := (sp_wf W T (mSg 11 128 I) n j c)) (hb (by omega)) (Or.inl c3)).1, (sp_w_hit (f := (sp_wf W T (mSg 11 128 I) n j c)) (hb (by omega)) (Or.inl c3)).2]
      exact ih (by omega) _ hK482 _
    · skip
      refine me_iload (p' := 83) k83_81 rfl rfl ?_
      refine me_iload (p' := 85) k83_83 rfl rfl ?_
      refine me_ic_ge (p' := 88) k83_85 rfl (fun c4 => ?_) (fun c4 => ?_)
      · skip
        refine me_iinc (p' := 99) k83_96 rfl rfl rfl (v := nI (1 + 5 * k + 5)) (mI_inc (by decide)) rfl ?_
        refine me_goto k83_99 ?_
        rw [show 1 + 5 * k + 5 = 1 + 5 * (k + 1) by omega]
        rw [(sp_w_miss (f := (sp_wf W T (mSg 11 128 I) n j c)) (hb (by omega)) c3 c4).1, (sp_w_miss (f := (sp_wf W T (mSg 11 128 I) n j c)) (hb (by omega)) c3 c4).2]
        exact ih (by omega) _ hK482 _
      · skip
        refine me_iload (p' := 90) k83_88 rfl rfl ?_
        refine me_istore (p' := 92) k83_90 rfl ⟨Nat.le_of_ble_eq_true rfl, rfl⟩ rfl ?_
        refine me_iload (p' := 94) k83_92 rfl rfl ?_
        refine me_istore (p' := 96) k83_94 rfl ⟨Nat.le_of_ble_eq_true rfl, rfl⟩ rfl ?_
        refine me_iinc (p' := 99) k83_96 rfl rfl rfl (v := nI (1 + 5 * k + 5)) (mI_inc (by decide)) rfl ?_
        refine me_goto k83_99 ?_
        rw [show 1 + 5 * k + 5 = 1 + 5 * (k + 1) by omega]
        rw [(sp_w_hit (f := (sp_wf W T (mSg 11 128 I) n j c)) (hb (by omega)) (Or.inr c4)).1, (sp_w_hit (f := (sp_wf W T (mSg 11 128 I) n j c)) (hb (by omega)) (Or.inr c4)).2]
        exact ih (by omega) _ hK482 _
theorem ct_Cweighed {d L : Nat} {xs : Nat → Int32} {I : Nat → Nat → Int32} {Q : Option Value → mj_H → Prop} {T : mT} {n : Nat} (hx : cTx I T) (hcg : cCg I 11 T) (hk : mOk (mSg 11 128 I) n) {W : Nat → Nat → Int32} (hc : cW I W) (hwk : mWk W) {a car wh : Int32} (hQ : ∀ I2, mFr (mRc 26 ++ mSk) I I2 → Q (some (.int (sp_weighed W T (mSg 11 128 I) n a car wh))) (mg_h L xs I2)) : mj_Cl (d + 6) 83 [.ref 0, .int a, .int car, .int wh] (mg_h L xs I) Q := by
  have hn8 := hk.hn.2
  refine cl_start mx_83 (ls := [.ref 0, .int a, .int car, .int wh, mj_no, mj_no, mj_no, mj_no]) rfl ?_
  refine me_iload_n (p' := 1) k83_0 rfl rfl ?_
  refine me_cs (p' := 4) k83_1 rfl rfl rfl rfl rfl (cl_le mx_84 rfl) (by decide) (cl_sum rfl) (ct_CisSheet (fun k483 hk484 he => ?_) (fun hz485 => ?_))
  · skip
    subst he
    refine me_if_eq (p' := 7) k83_4 rfl (fun h => absurd h (by decide)) (fun _ => ?_)
    refine me_aload_n (p' := 8) k83_7 rfl rfl ?_
    refine me_iload_n (p' := 9) k83_8 rfl rfl ?_
    refine me_cv (p' := 12) k83_9 rfl rfl (by decide) rfl (by decide) (by decide) dp_19 rfl rfl (cl_le mx_19 rfl) (by decide) (cl_sum rfl) (ct_CisCar hk (fun k486 hk487 he => ?_) (fun hz488 => ?_))
    · skip
      subst he
      refine me_if_eq (p' := 15) k83_12 rfl (fun h => absurd h (by decide)) (fun _ => ?_)
      refine me_iload_n (p' := 16) k83_15 rfl rfl ?_
      refine me_iconst (p' := 17) k83_16 rfl (v := nI 0) (by decide) ?_
      refine me_iconst (p' := 18) k83_17 rfl (v := nI 1) (by decide) ?_
      refine me_cs (p' := 21) k83_18 rfl rfl rfl rfl rfl (cl_le mx_16 rfl) (by decide) (cl_sum rfl) (ct_isWithin (fun e489 => ?_) (fun e489 => ?_))
      · skip
        obtain ⟨k490, hk491, rfl⟩ := mI_in1 (n := 1) (by omega) e489
        have hk491 : k490 < 2 := by omega
        refine me_if_ne (p' := 24) k83_21 rfl (fun h => absurd h (by decide)) (fun _ => ?_)
        rcases hwk.so (j := k483) (by omega) with hso | hso | hso
        · skip
          refine me_aload_n (p' := 28) k83_27 rfl rfl ?_
          refine me_gfr (p' := 31) k83_28 rfl (by decide) rfl (b := 56) rfl ?_
          refine me_iload_n (p' := 32) k83_31 rfl rfl ?_
          refine me_aald (p' := 33) k83_32 rfl (by decide) rfl ⟨by decide, by decide⟩ (j := k483) rfl (by omega) (by decide) (b := 104 + 2 * k483) (rc_56 k483 (by omega)) ?_
          refine me_cv (p' := 36) k83_33 rfl rfl (hs_S k483 (by omega)).1 (congrArg Prod.fst (hs_S k483 (by omega)).2.1) (by decide) (by decide) dp_85 rfl rfl (cl_le mx_85 rfl) (by decide) (cl_sum rfl) (ct_isMissing (hs_S k483 (by omega)) (fun _ => ?_) (fun z => absurd ((hc.so (by omega)).trans hso) z))
          refine me_if_eq (p' := 39) k83_36 rfl (fun h => absurd h (by decide)) (fun _ => ?_)
          refine me_ldc (p' := 41) k83_39 rfl (v := (-1000000011)) (by decide) ?_
          refine me_reti k83_41 rt_83 rfl ?_
          simp only [sp_weighed, sp_rg_s hk484 (by omega), sp_rg_s hk487 (by omega), sp_rg_s (m := 2) hk491 (by omega), hso, (show (-1 : Int32) < 0 by decide), if_true, if_false, true_and, and_true, and_self] at hQ
          exact hQ _ mFr.rf
        · skip
          refine me_aload_n (p' := 28) k83_27 rfl rfl ?_
          refine me_gfr (p' := 31) k83_28 rfl (by decide) rfl (b := 56) rfl ?_
          refine me_iload_n (p' := 32) k83_31 rfl rfl ?_
          refine me_aald (p' := 33) k83_32 rfl (by decide) rfl ⟨by decide, by decide⟩ (j := k483) rfl (by omega) (by decide) (b := 104 + 2 * k483) (rc_56 k483 (by omega)) ?_
          refine me_cv (p' := 36) k83_33 rfl rfl (hs_S k483 (by omega)).1 (congrArg Prod.fst (hs_S k483 (by omega)).2.1) (by decide) (by decide) dp_85 rfl rfl (cl_le mx_85 rfl) (by decide) (cl_sum rfl) (ct_isMissing (hs_S k483 (by omega)) (fun z => absurd (z.symm.trans ((hc.so (by omega)).trans hso)) (by decide)) (fun _ => ?_))
          refine me_if_eq (p' := 39) k83_36 rfl (fun _ => ?_) (fun h => absurd (by decide) h)
          refine me_ldc (p' := 44) k83_42 rfl (v := (-1000000005)) (by decide) ?_
          refine me_istore (p' := 46) k83_44 rfl ⟨Nat.le_of_ble_eq_true rfl, rfl⟩ rfl ?_
          refine me_iconst (p' := 47) k83_46 rfl (v := nI 0) (by decide) ?_
          refine me_istore (p' := 49) k83_47 rfl ⟨Nat.le_of_ble_eq_true rfl, rfl⟩ rfl ?_
          refine me_iconst (p' := 50) k83_49 rfl (v := nI 1) (by decide) ?_
          refine me_istore (p' := 52) k83_50 rfl ⟨Nat.le_of_ble_eq_true rfl, rfl⟩ rfl ?_
          simp only [sp_weighed, sp_rg_s hk484 (by omega), sp_rg_s hk487 (by omega), sp_rg_s (m := 2) hk491 (by omega), hso, (show ¬ (nI 0 : Int32) < 0 by decide), if_true, if_false, true_and, and_true, and_self] at hQ
          refine lp_Cweighed (j := k483) (c := k486) hx hcg hk hc hwk (by omega) (by omega) (by omega) (fun e K hK => ?_) (fun e K hK => ?_) 0 (Nat.zero_le _) _ mFr.rf _
          · simp only [e, if_true] at hQ
            exact hQ _ hK
          · simp only [e, if_false] at hQ
            exact hQ _ hK
        · skip
          refine me_aload_n (p' := 28) k83_27 rfl rfl ?_
          refine me_gfr (p' := 31) k83_28 rfl (by decide) rfl (b := 56) rfl ?_
          refine me_iload_n (p' := 32) k83_31 rfl rfl ?_
          refine me_aald (p' := 33) k83_32 rfl (by decide) rfl ⟨by decide, by decide⟩ (j := k483) rfl (by omega) (by decide) (b := 104 + 2 * k483) (rc_56 k483 (by omega)) ?_
          refine me_cv (p' := 36) k83_33 rfl rfl (hs_S k483 (by omega)).1 (congrArg Prod.fst (hs_S k483 (by omega)).2.1) (by decide) (by decide) dp_85 rfl rfl (cl_le mx_85 rfl) (by decide) (cl_sum rfl) (ct_isMissing (hs_S k483 (by omega)) (fun z => absurd (z.symm.trans ((hc.so (by omega)).trans hso)) (by decide)) (fun _ => ?_))
          refine me_if_eq (p' := 39) k83_36 rfl (fun _ => ?_) (fun h => absurd (by decide) h)
          refine me_ldc (p' := 44) k83_42 rfl (v := (-1000000005)) (by decide) ?_
          refine me_istore (p' := 46) k83_44 rfl ⟨Nat.le_of_ble_eq_true rfl, rfl⟩ rfl ?_
          refine me_iconst (p' := 47) k83_46 rfl (v := nI 0) (by decide) ?_
          refine me_istore (p' := 49) k83_47 rfl ⟨Nat.le_of_ble_eq_true rfl, rfl⟩ rfl ?_
          refine me_iconst (p' := 50) k83_49 rfl (v := nI 1) (by decide) ?_
          refine me_istore (p' := 52) k83_50 rfl ⟨Nat.le_of_ble_eq_true rfl, rfl⟩ rfl ?_
          simp only [sp_weighed, sp_rg_s hk484 (by omega), sp_rg_s hk487 (by omega), sp_rg_s (m := 2) hk491 (by omega), hso, (show ¬ (nI 1 : Int32) < 0 by decide), (show ¬ nI 1 = nI 0 by decide), if_true, if_false, true_and, and_true, and_self] at hQ
          refine lp_Cweighed (j := k483) (c := k486) hx hcg hk hc hwk (by omega) (by omega) (by omega) (fun e K hK => ?_) (fun e K hK => ?_) 0 (Nat.zero_le _) _ mFr.rf _
          · simp only [e, if_true] at hQ
            exact hQ _ hK
          · simp only [e, if_false] at hQ
            exact hQ _ hK
      · skip
        have hz492 : ∀ k : Nat, k < 2 → wh ≠ nI k := fun k hk => mI_in0 (n := 1) (by omega) e489 (by omega)
        refine me_if_ne (p' := 24) k83_21 rfl (fun _ => ?_) (fun h => absurd (by decide) h)
        refine me_ldc (p' := 26) k83_24 rfl (v := (-1000000001)) (by decide) ?_
        refine me_reti k83_26 rt_83 rfl ?_
        simp only [sp_weighed, sp_rg_s hk484 (by omega), sp_rg_s hk487 (by omega), sp_rg_n (m := 2) (by omega) hz492, if_true, if_false, true_and, and_true, and_self] at hQ
        exact hQ _ mFr.rf
    · skip
      refine me_if_eq (p' := 15) k83_12 rfl (fun _ => ?_) (fun h => absurd (by decide) h)
      refine me_ldc (p' := 26) k83_24 rfl (v := (-1000000001)) (by decide) ?_
      refine me_reti k83_26 rt_83 rfl ?_
      simp only [sp_weighed, sp_rg_s hk484 (by omega), sp_rg_n (by omega) hz488, if_true, if_false, true_and, and_true, and_self] at hQ
      exact hQ _ mFr.rf
  · skip
    refine me_if_eq (p' := 7) k83_4 rfl (fun _ => ?_) (fun h => absurd (by decide) h)
    refine me_ldc (p' := 26) k83_24 rfl (v := (-1000000001)) (by decide) ?_
    refine me_reti k83_26 rt_83 rfl ?_
    simp only [sp_weighed, sp_rg_n (by omega) hz485, if_true, if_false, true_and, and_true, and_self] at hQ
    exact hQ _ mFr.rf
