/-! ===== the class: ROOM, PACE ===== -/
def sp_mg (s : Nat → Int32) (c k : Nat) : Nat := (sp_ml s (-1) c k).getD 240
theorem sp_mg_le (s : Nat → Int32) (c k : Nat) : sp_mg s c k ≤ 240 := by
  unfold sp_mg
  cases h : sp_ml s (-1) c k with
  | none => exact Nat.le_refl _
  | some l => exact sp_ml_lt s (-1) c k l h
/-- what is FREE behind one more CAR: of itself all 240 -/
theorem sp_mg_step {s : Nat → Int32} {c k f : Nat} (hk : k < 1000) (hf : f = if k = c then 240 else sp_feet s c k) : (if nI f < nI (sp_mg s c k) then nI f else nI (sp_mg s c k)) = nI (sp_mg s c (k + 1)) := by
  have h1 := sp_mg_le s c k
  have hfl := sp_feet_lt s c k
  have hf2 : f ≤ 240 := by rw [hf]; split <;> omega
  have e : sp_mg s c (k + 1) = if f < sp_mg s c k then f else sp_mg s c k := by
    subst hf
    unfold sp_mg at h1 ⊢
    rw [sp_ml]
    by_cases hc : k = c
    · rw [if_pos (Or.inl hc), if_pos hc, if_neg (by omega)]
    · rw [if_neg (fun z => z.elim hc (nI_m1 (by omega))), if_neg hc]
      cases hm : sp_ml s (-1) c k with
      | none =>
        show sp_feet s c k = if sp_feet s c k < 240 then sp_feet s c k else 240
        split <;> omega
      | some l => rfl
  rw [e]
  by_cases h : f < sp_mg s c k
  · rw [if_pos h, if_pos ((cI_lt (by omega) (by omega)).mpr h)]
  · rw [if_neg h, if_neg (fun z => h ((cI_lt (by omega) (by omega)).mp z))]
theorem sp_room_mg {s : Nat → Int32} {c n : Nat} (h2 : 2 ≤ n) (hc : c < n) (hn : n ≤ 8) : sp_room s (-1) c n = nI (sp_mg s c n) - s 3 := by
  have hne : ∀ k : Nat, k ≤ 8 → sp_ml s (-1) c k = none → ∀ j, j < k → j = c := by
    intro k
    induction k with
    | zero => intro _ _ j hj; omega
    | succ k ih =>
      intro hk h j hj
      rw [sp_ml] at h
      by_cases e : k = c ∨ nI k = -1
      · rw [if_pos e] at h
        have e2 : k = c := e.elim id (fun z => absurd z (nI_m1 (by omega)))
        by_cases ej : j = k
        · omega
        · exact ih (by omega) h j (by omega)
      · rw [if_neg e] at h
        cases hm : sp_ml s (-1) c k with
        | none => rw [hm] at h; cases h
        | some l => rw [hm] at h; cases h
  unfold sp_room sp_mg
  cases hm : sp_ml s (-1) c n with
  | none =>
    have e0 := hne n hn hm 0 (by omega)
    have e1 := hne n hn hm 1 (by omega)
    omega
  | some l => rfl
theorem sp_room_1 {s : Nat → Int32} {c n : Nat} (h2 : n < 2) (hc : c < n) : sp_room s (-1) c n = nI 240 := by
  have : n = 1 ∧ c = 0 := by omega
  obtain ⟨rfl, rfl⟩ := this
  rfl
theorem mI_neg {a b : Nat} (h : a < b) (hb : b < 2 ^ 31) : nI a - nI b < 0 := by
  rw [Int32.lt_iff_toInt_lt, Int32.toInt_sub, nI_toInt (by omega), nI_toInt hb]
  show Int.bmod ((a : Int) - b) (2 ^ 32) < 0
  rw [Int.bmod_def]
  split <;> omega
theorem lp_roomOf11 {d L : Nat} {xs : Nat → Int32} {I : Nat → Nat → Int32} {Q : Option Value → mj_H → Prop} {n c : Nat} (hk : mOk (mSg 11 128 I) n) (hc : c < n) (h2n : 2 ≤ n) (hQ : Q (some (.int (sp_room (mSg 11 128 I) (-1) c n))) (mg_h L xs I)) : ∀ k : Nat, k ≤ n → ∀ u : Value, mj_Ev d 32 18 [.ref 11, .int (nI c), .int (nI (sp_mg (mSg 11 128 I) c k)), .int (nI k), u] [] (mg_h L xs I) Q := by
  have hn8 := hk.hn.2
  refine loop_ind (n := n) (fun k hkn ih => ?_)
  intro u
  have hmg := sp_mg_le (mSg 11 128 I) c k
  refine me_iload_n (p' := 19) k32_18 rfl rfl ?_
  refine me_aload_n (p' := 20) k32_19 rfl rfl ?_
  refine me_gfi (p' := 23) k32_20 rfl (by decide) rfl rfl ?_
  rw [show I 11 5 = nI n from hk.hn.1]
  refine me_ic_ge (p' := 26) k32_23 rfl (fun c1 => ?_) (fun c1 => ?_)
  · skip
    rw [cI_le (a := n) (b := k) (by omega) (by omega)] at c1
    refine me_iload_n (p' := 80) k32_79 rfl rfl ?_
    refine me_aload_n (p' := 81) k32_80 rfl rfl ?_
    refine me_gfi (p' := 84) k32_81 rfl (by decide) rfl rfl ?_
    refine me_isub (p' := 85) k32_84 rfl rfl ?_
    refine me_reti k32_85 rt_32 rfl ?_
    have e8 : k = n := by omega
    rw [e8]
    rw [sp_room_mg h2n hc hn8] at hQ
    exact hQ
  · skip
    rw [cI_le (a := n) (b := k) (by omega) (by omega)] at c1
    refine me_aload_n (p' := 27) k32_26 rfl rfl ?_
    refine me_gfr (p' := 30) k32_27 rfl (by decide) rfl (b := 17) rfl ?_
    refine me_iconst (p' := 31) k32_30 rfl (v := nI 1) (by decide) ?_
    refine me_aald (p' := 32) k32_31 rfl (by decide) rfl ⟨by decide, by decide⟩ (j := 1) rfl (by omega) (by decide) (b := 19) rfl ?_
    refine me_iload_n (p' := 33) k32_32 rfl rfl ?_
    refine me_iald (p' := 34) k32_33 rfl (by decide) rfl (j := k) rfl (by omega) (by decide) rfl ?_
    rw [sgR11c1 (I := I) (c := k) (by omega)]
    rw [(hk.ft k (by omega)).1]
    have hFk := (hk.ft k (by omega)).2
    refine me_aload_n (p' := 35) k32_34 rfl rfl ?_
    refine me_gfr (p' := 38) k32_35 rfl (by decide) rfl (b := 17) rfl ?_
    refine me_iconst (p' := 39) k32_38 rfl (v := nI 1) (by decide) ?_
    refine me_aald (p' := 40) k32_39 rfl (by decide) rfl ⟨by decide, by decide⟩ (j := 1) rfl (by omega) (by decide) (b := 19) rfl ?_
    refine me_iload_n (p' := 41) k32_40 rfl rfl ?_
    refine me_iald (p' := 42) k32_41 rfl (by decide) rfl (j := c) rfl (by omega) (by decide) rfl ?_
    rw [sgR11c1 (I := I) (c := c) (by omega)]
    rw [(hk.ft c hc).1]
    have hFc := (hk.ft c hc).2
    refine me_isub (p' := 43) k32_42 rfl rfl ?_
    rcases Nat.lt_or_ge (sF (mSg 11 128 I) k) (sF (mSg 11 128 I) c) with hlt | hge
    · skip
      refine me_istore (p' := 45) k32_43 rfl ⟨Nat.le_of_ble_eq_true rfl, rfl⟩ rfl ?_
      refine me_iload (p' := 47) k32_45 rfl rfl ?_
      refine me_if_lt (p' := 50) k32_47 rfl (fun c2 => ?_) (fun c2 => ?_)
      · skip
        refine me_iinc (p' := 66) k32_60 rfl rfl rfl rfl rfl ?_
        rw [show Int32.ofInt 240 = nI 240 from by decide, mI_dist (by omega) (by omega)]
        refine me_iload_n (p' := 67) k32_66 rfl rfl ?_
        refine me_iload (p' := 69) k32_67 rfl rfl ?_
        refine me_min (p' := 72) k32_69 rfl (cl_sum rfl) rfl ?_
        refine me_istore_n (p' := 73) k32_72 rfl ⟨Nat.le_of_ble_eq_true rfl, rfl⟩ rfl ?_
        refine me_iinc (p' := 76) k32_73 rfl rfl rfl (v := nI (k + 1)) (mI_inc (by decide)) rfl ?_
        refine me_goto k32_76 ?_
        rw [sp_mg_step (f := sF (mSg 11 128 I) k + 240 - sF (mSg 11 128 I) c) (by omega) (by
          by_cases e : k = c
          · subst e; rw [if_pos rfl]; omega
          · rw [if_neg e]; unfold sp_feet; split <;> omega)]
        exact ih (by omega) _
      · skip
        exact absurd (mI_neg hlt (by omega)) c2
    · skip
      rw [mI_sub hge]
      refine me_istore (p' := 45) k32_43 rfl ⟨Nat.le_of_ble_eq_true rfl, rfl⟩ rfl ?_
      refine me_iload (p' := 47) k32_45 rfl rfl ?_
      refine me_if_lt (p' := 50) k32_47 rfl (fun c3 => ?_) (fun c3 => ?_)
      · skip
        rw [cI_lt0 (a := sF (mSg 11 128 I) k - sF (mSg 11 128 I) c) (by omega)] at c3
        exact c3.elim
      · skip
        rw [cI_lt0 (a := sF (mSg 11 128 I) k - sF (mSg 11 128 I) c) (by omega)] at c3
        refine me_iload (p' := 52) k32_50 rfl rfl ?_
        refine me_if_ne (p' := 55) k32_52 rfl (fun c4 => ?_) (fun c4 => ?_)
        · skip
          rw [cI_eq0 (a := sF (mSg 11 128 I) k - sF (mSg 11 128 I) c) (by omega)] at c4
          refine me_iload_n (p' := 56) k32_55 rfl rfl ?_
          refine me_iload_n (p' := 57) k32_56 rfl rfl ?_
          refine me_ic_gt (p' := 60) k32_57 rfl (fun c5 => ?_) (fun c5 => ?_)
          · skip
            rw [cI_lt (a := c) (b := k) (by omega) (by omega)] at c5
            refine me_iload_n (p' := 67) k32_66 rfl rfl ?_
            refine me_iload (p' := 69) k32_67 rfl rfl ?_
            refine me_min (p' := 72) k32_69 rfl (cl_sum rfl) rfl ?_
            refine me_istore_n (p' := 73) k32_72 rfl ⟨Nat.le_of_ble_eq_true rfl, rfl⟩ rfl ?_
            refine me_iinc (p' := 76) k32_73 rfl rfl rfl (v := nI (k + 1)) (mI_inc (by decide)) rfl ?_
            refine me_goto k32_76 ?_
            rw [sp_mg_step (f := sF (mSg 11 128 I) k - sF (mSg 11 128 I) c) (by omega) (by
              by_cases e : k = c
              · subst e; rw [if_pos rfl]; omega
              · rw [if_neg e]; unfold sp_feet; split <;> omega)]
            exact ih (by omega) _
          · skip
            rw [cI_lt (a := c) (b := k) (by omega) (by omega)] at c5
            refine me_iinc (p' := 66) k32_60 rfl rfl rfl (v := nI (sF (mSg 11 128 I) k - sF (mSg 11 128 I) c + 240)) (mI_inc (by decide)) rfl ?_
            refine me_iload_n (p' := 67) k32_66 rfl rfl ?_
            refine me_iload (p' := 69) k32_67 rfl rfl ?_
            refine me_min (p' := 72) k32_69 rfl (cl_sum rfl) rfl ?_
            refine me_istore_n (p' := 73) k32_72 rfl ⟨Nat.le_of_ble_eq_true rfl, rfl⟩ rfl ?_
            refine me_iinc (p' := 76) k32_73 rfl rfl rfl (v := nI (k + 1)) (mI_inc (by decide)) rfl ?_
            refine me_goto k32_76 ?_
            rw [sp_mg_step (f := sF (mSg 11 128 I) k - sF (mSg 11 128 I) c + 240) (by omega) (by
              by_cases e : k = c
              · subst e; rw [if_pos rfl]; omega
              · rw [if_neg e]; unfold sp_feet; split <;> omega)]
            exact ih (by omega) _
        · skip
          rw [cI_eq0 (a := sF (mSg 11 128 I) k - sF (mSg 11 128 I) c) (by omega)] at c4
          refine me_iload_n (p' := 67) k32_66 rfl rfl ?_
          refine me_iload (p' := 69) k32_67 rfl rfl ?_
          refine me_min (p' := 72) k32_69 rfl (cl_sum rfl) rfl ?_
          refine me_istore_n (p' := 73) k32_72 rfl ⟨Nat.le_of_ble_eq_true rfl, rfl⟩ rfl ?_
          refine me_iinc (p' := 76) k32_73 rfl rfl rfl (v := nI (k + 1)) (mI_inc (by decide)) rfl ?_
          refine me_goto k32_76 ?_
          rw [sp_mg_step (f := sF (mSg 11 128 I) k - sF (mSg 11 128 I) c) (by omega) (by
            by_cases e : k = c
            · subst e; rw [if_pos rfl]; omega
            · rw [if_neg e]; unfold sp_feet; split <;> omega)]
          exact ih (by omega) _
theorem ct_roomOf11 {d L : Nat} {xs : Nat → Int32} {I : Nat → Nat → Int32} {Q : Option Value → mj_H → Prop} {n c : Nat} (hk : mOk (mSg 11 128 I) n) (hc : c < n) (hQ : Q (some (.int (sp_room (mSg 11 128 I) (-1) c n))) (mg_h L xs I)) : mj_Cl d 32 [.ref 11, .int (nI c)] (mg_h L xs I) Q := by
  have hn8 := hk.hn.2
  refine cl_start mx_32 (ls := [.ref 11, .int (nI c), mj_no, mj_no, mj_no]) rfl ?_
  refine me_aload_n (p' := 1) k32_0 rfl rfl ?_
  refine me_gfi (p' := 4) k32_1 rfl (by decide) rfl rfl ?_
  rw [show I 11 5 = nI n from hk.hn.1]
  refine me_iconst (p' := 5) k32_4 rfl (v := nI 2) (by decide) ?_
  refine me_ic_ge (p' := 8) k32_5 rfl (fun c1 => ?_) (fun c1 => ?_)
  · skip
    rw [cI_le (a := 2) (b := n) (by omega) (by omega)] at c1
    refine me_sipush (p' := 15) k32_12 rfl (v := nI 240) (by decide) ?_
    refine me_istore_n (p' := 16) k32_15 rfl ⟨Nat.le_of_ble_eq_true rfl, rfl⟩ rfl ?_
    refine me_iconst (p' := 17) k32_16 rfl (v := nI 0) (by decide) ?_
    refine me_istore_n (p' := 18) k32_17 rfl ⟨Nat.le_of_ble_eq_true rfl, rfl⟩ rfl ?_
    exact lp_roomOf11 hk hc (by omega) hQ 0 (Nat.zero_le _) _
  · skip
    rw [cI_le (a := 2) (b := n) (by omega) (by omega)] at c1
    refine me_sipush (p' := 11) k32_8 rfl (v := nI 240) (by decide) ?_
    refine me_reti k32_11 rt_32 rfl ?_
    rw [sp_room_1 (by omega) hc] at hQ
    exact hQ
theorem lp_near11 {d L : Nat} {xs : Nat → Int32} {I : Nat → Nat → Int32} {Q : Option Value → mj_H → Prop} {n : Nat} (hk : mOk (mSg 11 128 I) n) (hQ : Q (some (.int (sp_near (mSg 11 128 I) (-1) n n))) (mg_h L xs I)) : ∀ k : Nat, k ≤ n → mj_Ev (d + 1) 67 4 [.ref 11, .int (sp_near (mSg 11 128 I) (-1) n k), .int (nI k)] [] (mg_h L xs I) Q := by
  have hn8 := hk.hn.2
  refine loop_ind (n := n) (fun k hkn ih => ?_)
  refine me_iload_n (p' := 5) k67_4 rfl rfl ?_
  refine me_aload_n (p' := 6) k67_5 rfl rfl ?_
  refine me_gfi (p' := 9) k67_6 rfl (by decide) rfl rfl ?_
  rw [show I 11 5 = nI n from hk.hn.1]
  refine me_ic_ge (p' := 12) k67_9 rfl (fun c1 => ?_) (fun c1 => ?_)
  · skip
    rw [cI_le (a := n) (b := k) (by omega) (by omega)] at c1
    refine me_iload_n (p' := 30) k67_29 rfl rfl ?_
    refine me_reti k67_30 rt_67 rfl ?_
    have e8 : k = n := by omega
    subst e8
    exact hQ
  · skip
    rw [cI_le (a := n) (b := k) (by omega) (by omega)] at c1
    refine me_aload_n (p' := 13) k67_12 rfl rfl ?_
    refine me_iload_n (p' := 14) k67_13 rfl rfl ?_
    refine me_cv (p' := 17) k67_14 rfl rfl (by decide) rfl (by decide) (by decide) dp_32 rfl rfl (cl_le mx_32 rfl) (by decide) (cl_sum rfl) (ct_roomOf11 hk (by omega) ?_)
    refine me_if_ge (p' := 20) k67_17 rfl (fun c2 => ?_) (fun c2 => ?_)
    · skip
      refine me_iinc (p' := 26) k67_23 rfl rfl rfl (v := nI (k + 1)) (mI_inc (by decide)) rfl ?_
      refine me_goto k67_26 ?_
      have e9 : (sp_near (mSg 11 128 I) (-1) n k) = sp_near (mSg 11 128 I) (-1) n (k + 1) := by rw [sp_near, if_neg (Int32.not_lt.mpr c2), mI_z]
      rw [e9]
      exact ih (by omega)
    · skip
      refine me_iinc (p' := 23) k67_20 rfl rfl rfl rfl rfl ?_
      refine me_iinc (p' := 26) k67_23 rfl rfl rfl (v := nI (k + 1)) (mI_inc (by decide)) rfl ?_
      refine me_goto k67_26 ?_
      have e9 : ((sp_near (mSg 11 128 I) (-1) n k) + Int32.ofInt (1)) = sp_near (mSg 11 128 I) (-1) n (k + 1) := by rw [sp_near, if_pos (Int32.not_le.mp c2)]; rfl
      rw [e9]
      exact ih (by omega)
theorem ct_near11 {d L : Nat} {xs : Nat → Int32} {I : Nat → Nat → Int32} {Q : Option Value → mj_H → Prop} {n : Nat} (hk : mOk (mSg 11 128 I) n) (hQ : Q (some (.int (sp_near (mSg 11 128 I) (-1) n n))) (mg_h L xs I)) : mj_Cl (d + 1) 67 [.ref 11] (mg_h L xs I) Q := by
  refine cl_start mx_67 (ls := [.ref 11, mj_no, mj_no]) rfl ?_
  refine me_iconst (p' := 1) k67_0 rfl (v := nI 0) (by decide) ?_
  refine me_istore_n (p' := 2) k67_1 rfl ⟨Nat.le_of_ble_eq_true rfl, rfl⟩ rfl ?_
  refine me_iconst (p' := 3) k67_2 rfl (v := nI 0) (by decide) ?_
  refine me_istore_n (p' := 4) k67_3 rfl ⟨Nat.le_of_ble_eq_true rfl, rfl⟩ rfl ?_
  exact lp_near11 hk hQ 0 (Nat.zero_le _)
theorem lp_pace11 {d L : Nat} {xs : Nat → Int32} {I : Nat → Nat → Int32} {Q : Option Value → mj_H → Prop} {n c p : Nat} {w0 r0 b0 tq g0 : Int32} (hk : mOk (mSg 11 128 I) n) (hc : c < n) (hQ : Q (some (.int (sp_gain (sQ (mSg 11 128 I) c) (sp_within g0 (nI 1) (nI 20)) r0 b0))) (mg_h L xs I)) : mj_Ev (d + 2) 21 73 [.ref 11, .int (nI c), .int (nI p), .int w0, .int r0, .int b0, .int tq, mj_no] [.int g0] (mg_h L xs I) Q := by
  refine me_istore (p' := 75) k21_73 rfl ⟨Nat.le_of_ble_eq_true rfl, rfl⟩ rfl ?_
  refine me_aload_n (p' := 76) k21_75 rfl rfl ?_
  refine me_iload_n (p' := 77) k21_76 rfl rfl ?_
  refine me_cv (p' := 80) k21_77 rfl rfl (by decide) rfl (by decide) (by decide) dp_24 rfl rfl (cl_le mx_24 rfl) (by decide) (cl_sum rfl) (ct_kindOf11 hk hc ?_)
  refine me_iload (p' := 82) k21_80 rfl rfl ?_
  refine me_iconst (p' := 83) k21_82 rfl (v := nI 1) (by decide) ?_
  refine me_bipush (p' := 85) k21_83 rfl (v := nI 20) (by decide) ?_
  refine me_cs (p' := 88) k21_85 rfl rfl rfl rfl rfl (cl_le mx_25 rfl) (by decide) (cl_sum rfl) (ct_held (by decide) ?_)
  obtain ⟨a9, ha, ha1, ha2⟩ := sp_within_rng (v := g0) (a := 1) (b := 20) (by decide) (by decide)
  rw [ha]
  rw [ha] at hQ
  refine me_iload (p' := 90) k21_88 rfl rfl ?_
  refine me_iload (p' := 92) k21_90 rfl rfl ?_
  refine me_cg1 (p' := 95) k21_92 rfl (hk.kd c hc).2 rfl rfl rfl (Nat.le_of_ble_eq_true rfl) (cl_sum rfl) (cg_gains (hk.kd c hc).2 ⟨ha1, by omega⟩ ?_)
  refine me_reti k21_95 rt_21 rfl ?_
  exact hQ
theorem ct_paceIn11 {d L : Nat} {xs : Nat → Int32} {I : Nat → Nat → Int32} {Q : Option Value → mj_H → Prop} {T : mT} {n c p : Nat} (hx : cTx I T) (hcg : cCg I 11 T) (hk : mOk (mSg 11 128 I) n) (hc : c < n) (hp : p < 12) (hQ : ∀ I2, mFr mSk I I2 → Q (some (.int (sp_pc T (mSg 11 128 I) c p))) (mg_h L xs I2)) : mj_Cl (d + 2) 21 [.ref 11, .int (nI c), .int (nI p)] (mg_h L xs I) Q := by
  have hn8 := hk.hn.2
  refine cl_start mx_21 (ls := [.ref 11, .int (nI c), .int (nI p), mj_no, mj_no, mj_no, mj_no, mj_no]) rfl ?_
  refine me_aload_n (p' := 1) k21_0 rfl rfl ?_
  refine me_gfr (p' := 4) k21_1 rfl (by decide) rfl (b := 17) rfl ?_
  refine me_iconst (p' := 5) k21_4 rfl (v := nI 2) (by decide) ?_
  refine me_aald (p' := 6) k21_5 rfl (by decide) rfl ⟨by decide, by decide⟩ (j := 2) rfl (by omega) (by decide) (b := 20) rfl ?_
  refine me_iload_n (p' := 7) k21_6 rfl rfl ?_
  refine me_iald (p' := 8) k21_7 rfl (by decide) rfl (j := c) rfl (by omega) (by decide) rfl ?_
  rw [sgR11c2 (I := I) (c := c) (by omega)]
  refine me_istore_n (p' := 9) k21_8 rfl ⟨Nat.le_of_ble_eq_true rfl, rfl⟩ rfl ?_
  refine me_aload_n (p' := 10) k21_9 rfl rfl ?_
  refine me_gfr (p' := 13) k21_10 rfl (by decide) rfl (b := 12) rfl ?_
  refine me_iconst (p' := 14) k21_13 rfl (v := nI 0) (by decide) ?_
  refine me_aald (p' := 15) k21_14 rfl (by decide) rfl ⟨by decide, by decide⟩ (j := 0) rfl (by omega) (by decide) (b := 13) rfl ?_
  refine me_iload_n (p' := 16) k21_15 rfl rfl ?_
  refine me_iald (p' := 17) k21_16 rfl (by decide) rfl (j := p) rfl (by omega) (by decide) rfl ?_
  rw [sgR11p0 (I := I) (c := p) (by omega)]
  refine me_istore (p' := 19) k21_17 rfl ⟨Nat.le_of_ble_eq_true rfl, rfl⟩ rfl ?_
  refine me_aload_n (p' := 20) k21_19 rfl rfl ?_
  refine me_gfr (p' := 23) k21_20 rfl (by decide) rfl (b := 12) rfl ?_
  refine me_iconst (p' := 24) k21_23 rfl (v := nI 1) (by decide) ?_
  refine me_aald (p' := 25) k21_24 rfl (by decide) rfl ⟨by decide, by decide⟩ (j := 1) rfl (by omega) (by decide) (b := 14) rfl ?_
  refine me_iload_n (p' := 26) k21_25 rfl rfl ?_
  refine me_iald (p' := 27) k21_26 rfl (by decide) rfl (j := p) rfl (by omega) (by decide) rfl ?_
  rw [sgR11p1 (I := I) (c := p) (by omega)]
  refine me_istore (p' := 29) k21_27 rfl ⟨Nat.le_of_ble_eq_true rfl, rfl⟩ rfl ?_
  refine me_aload_n (p' := 30) k21_29 rfl rfl ?_
  refine me_gfr (p' := 33) k21_30 rfl (by decide) rfl (b := 25) rfl ?_
  refine me_iconst (p' := 34) k21_33 rfl (v := nI 0) (by decide) ?_
  refine me_iald (p' := 35) k21_34 rfl (by decide) rfl (j := 0) rfl (by omega) (by decide) rfl ?_
  rw [show I 25 0 = oI (sp_counts T.kf 0 T.nt) from hcg 0 (by decide)]
  refine me_istore (p' := 37) k21_35 rfl ⟨Nat.le_of_ble_eq_true rfl, rfl⟩ rfl ?_
  refine me_iload (p' := 39) k21_37 rfl rfl ?_
  refine me_if_ge (p' := 42) k21_39 rfl (fun c1 => ?_) (fun c1 => ?_)
  · skip
    obtain ⟨t, hct, htn, htk⟩ := sp_counts_some (Int32.not_lt.mpr c1)
    obtain ⟨ht1, ht2, ht3, ht4, ht5, ht6, ht7, ht8⟩ := hx.2 t htn
    have hnt := hx.1
    rw [hct]
    simp only [oI]
    refine me_aload_n (p' := 59) k21_58 rfl rfl ?_
    refine me_gfr (p' := 62) k21_59 rfl (by decide) rfl (b := 8) rfl ?_
    refine me_iload (p' := 64) k21_62 rfl rfl ?_
    refine me_aald (p' := 65) k21_64 rfl (by decide) rfl ⟨by decide, by decide⟩ (j := t) rfl (by omega) (by decide) (b := 59 + 3 * t) (rc_8 t (by omega)) ?_
    refine me_iload_n (p' := 66) k21_65 rfl rfl ?_
    refine me_iload (p' := 68) k21_66 rfl rfl ?_
    refine me_iload (p' := 70) k21_68 rfl rfl ?_
    refine me_cv (p' := 73) k21_70 rfl rfl (by omega) (congrArg Prod.fst (tb_T t (by omega))) (by decide) (by decide) dp_22 rfl rfl (cl_le mx_22 rfl) (by decide) (cl_sum rfl) (ct_gives (by omega) ht4 rfl ht2 ht3 ht7 (fun I2 hI2 => ?_))
    rw [← sp_val_some (dflt := ((mSg 11 128 I) (53 + 7 * c + 2))) hct]
    have hfr2 : mFr mSk I I2 := hI2.mono (fun x hx => by rw [List.mem_singleton.mp hx]; exact sk_mem t (by omega))
    have hs2 : mSg 11 128 I2 = mSg 11 128 I := sg_fr hfr2 (by decide)
    refine lp_pace11 (n := n) (by rw [hs2]; exact hk) hc ?_
    rw [hs2]
    have := hQ I2 hfr2
    unfold sp_pc sp_pace at this
    rw [sp_val_some hct] at this ⊢
    exact this
  · skip
    refine me_bipush (p' := 44) k21_42 rfl (v := nI 6) (by decide) ?_
    refine me_iload_n (p' := 45) k21_44 rfl rfl ?_
    refine me_bipush (p' := 47) k21_45 rfl (v := nI 20) (by decide) ?_
    refine me_idiv (p' := 48) k21_47 rfl (nI_ne0 (by omega) (by omega)) rfl ?_
    refine me_iadd (p' := 49) k21_48 rfl rfl ?_
    refine me_iload (p' := 51) k21_49 rfl rfl ?_
    refine me_isub (p' := 52) k21_51 rfl rfl ?_
    refine me_iload (p' := 54) k21_52 rfl rfl ?_
    refine me_isub (p' := 55) k21_54 rfl rfl ?_
    refine me_goto k21_55 ?_
    refine lp_pace11 (n := n) hk hc ?_
    have := hQ I mFr.rf
    unfold sp_pc sp_pace at this
    rw [sp_val_none (Int32.not_le.mp c1) hx.1] at this
    exact this
theorem lp_roomOf26 {d L : Nat} {xs : Nat → Int32} {I : Nat → Nat → Int32} {Q : Option Value → mj_H → Prop} {n c : Nat} (hk : mOk (mSg 26 128 I) n) (hc : c < n) (h2n : 2 ≤ n) (hQ : Q (some (.int (sp_room (mSg 26 128 I) (-1) c n))) (mg_h L xs I)) : ∀ k : Nat, k ≤ n → ∀ u : Value, mj_Ev d 32 18 [.ref 26, .int (nI c), .int (nI (sp_mg (mSg 26 128 I) c k)), .int (nI k), u] [] (mg_h L xs I) Q := by
  have hn8 := hk.hn.2
  refine loop_ind (n := n) (fun k hkn ih => ?_)
  intro u
  have hmg := sp_mg_le (mSg 26 128 I) c k
  refine me_iload_n (p' := 19) k32_18 rfl rfl ?_
  refine me_aload_n (p' := 20) k32_19 rfl rfl ?_
  refine me_gfi (p' := 23) k32_20 rfl (by decide) rfl rfl ?_
  rw [show I 26 5 = nI n from hk.hn.1]
  refine me_ic_ge (p' := 26) k32_23 rfl (fun c1 => ?_) (fun c1 => ?_)
  · skip
    rw [cI_le (a := n) (b := k) (by omega) (by omega)] at c1
    refine me_iload_n (p' := 80) k32_79 rfl rfl ?_
    refine me_aload_n (p' := 81) k32_80 rfl rfl ?_
    refine me_gfi (p' := 84) k32_81 rfl (by decide) rfl rfl ?_
    refine me_isub (p' := 85) k32_84 rfl rfl ?_
    refine me_reti k32_85 rt_32 rfl ?_
    have e8 : k = n := by omega
    rw [e8]
    rw [sp_room_mg h2n hc hn8] at hQ
    exact hQ
  · skip
    rw [cI_le (a := n) (b := k) (by omega) (by omega)] at c1
    refine me_aload_n (p' := 27) k32_26 rfl rfl ?_
    refine me_gfr (p' := 30) k32_27 rfl (by decide) rfl (b := 32) rfl ?_
    refine me_iconst (p' := 31) k32_30 rfl (v := nI 1) (by decide) ?_
    refine me_aald (p' := 32) k32_31 rfl (by decide) rfl ⟨by decide, by decide⟩ (j := 1) rfl (by omega) (by decide) (b := 34) rfl ?_
    refine me_iload_n (p' := 33) k32_32 rfl rfl ?_
    refine me_iald (p' := 34) k32_33 rfl (by decide) rfl (j := k) rfl (by omega) (by decide) rfl ?_
    rw [sgR26c1 (I := I) (c := k) (by omega)]
    rw [(hk.ft k (by omega)).1]
    have hFk := (hk.ft k (by omega)).2
    refine me_aload_n (p' := 35) k32_34 rfl rfl ?_
    refine me_gfr (p' := 38) k32_35 rfl (by decide) rfl (b := 32) rfl ?_
    refine me_iconst (p' := 39) k32_38 rfl (v := nI 1) (by decide) ?_
    refine me_aald (p' := 40) k32_39 rfl (by decide) rfl ⟨by decide, by decide⟩ (j := 1) rfl (by omega) (by decide) (b := 34) rfl ?_
    refine me_iload_n (p' := 41) k32_40 rfl rfl ?_
    refine me_iald (p' := 42) k32_41 rfl (by decide) rfl (j := c) rfl (by omega) (by decide) rfl ?_
    rw [sgR26c1 (I := I) (c := c) (by omega)]
    rw [(hk.ft c hc).1]
    have hFc := (hk.ft c hc).2
    refine me_isub (p' := 43) k32_42 rfl rfl ?_
    rcases Nat.lt_or_ge (sF (mSg 26 128 I) k) (sF (mSg 26 128 I) c) with hlt | hge
    · skip
      refine me_istore (p' := 45) k32_43 rfl ⟨Nat.le_of_ble_eq_true rfl, rfl⟩ rfl ?_
      refine me_iload (p' := 47) k32_45 rfl rfl ?_
      refine me_if_lt (p' := 50) k32_47 rfl (fun c2 => ?_) (fun c2 => ?_)
      · skip
        refine me_iinc (p' := 66) k32_60 rfl rfl rfl rfl rfl ?_
        rw [show Int32.ofInt 240 = nI 240 from by decide, mI_dist (by omega) (by omega)]
        refine me_iload_n (p' := 67) k32_66 rfl rfl ?_
        refine me_iload (p' := 69) k32_67 rfl rfl ?_
        refine me_min (p' := 72) k32_69 rfl (cl_sum rfl) rfl ?_
        refine me_istore_n (p' := 73) k32_72 rfl ⟨Nat.le_of_ble_eq_true rfl, rfl⟩ rfl ?_
        refine me_iinc (p' := 76) k32_73 rfl rfl rfl (v := nI (k + 1)) (mI_inc (by decide)) rfl ?_
        refine me_goto k32_76 ?_
        rw [sp_mg_step (f := sF (mSg 26 128 I) k + 240 - sF (mSg 26 128 I) c) (by omega) (by
          by_cases e : k = c
          · subst e; rw [if_pos rfl]; omega
          · rw [if_neg e]; unfold sp_feet; split <;> omega)]
        exact ih (by omega) _
      · skip
        exact absurd (mI_neg hlt (by omega)) c2
    · skip
      rw [mI_sub hge]
      refine me_istore (p' := 45) k32_43 rfl ⟨Nat.le_of_ble_eq_true rfl, rfl⟩ rfl ?_
      refine me_iload (p' := 47) k32_45 rfl rfl ?_
      refine me_if_lt (p' := 50) k32_47 rfl (fun c3 => ?_) (fun c3 => ?_)
      · skip
        rw [cI_lt0 (a := sF (mSg 26 128 I) k - sF (mSg 26 128 I) c) (by omega)] at c3
        exact c3.elim
      · skip
        rw [cI_lt0 (a := sF (mSg 26 128 I) k - sF (mSg 26 128 I) c) (by omega)] at c3
        refine me_iload (p' := 52) k32_50 rfl rfl ?_
        refine me_if_ne (p' := 55) k32_52 rfl (fun c4 => ?_) (fun c4 => ?_)
        · skip
          rw [cI_eq0 (a := sF (mSg 26 128 I) k - sF (mSg 26 128 I) c) (by omega)] at c4
          refine me_iload_n (p' := 56) k32_55 rfl rfl ?_
          refine me_iload_n (p' := 57) k32_56 rfl rfl ?_
          refine me_ic_gt (p' := 60) k32_57 rfl (fun c5 => ?_) (fun c5 => ?_)
          · skip
            rw [cI_lt (a := c) (b := k) (by omega) (by omega)] at c5
            refine me_iload_n (p' := 67) k32_66 rfl rfl ?_
            refine me_iload (p' := 69) k32_67 rfl rfl ?_
            refine me_min (p' := 72) k32_69 rfl (cl_sum rfl) rfl ?_
            refine me_istore_n (p' := 73) k32_72 rfl ⟨Nat.le_of_ble_eq_true rfl, rfl⟩ rfl ?_
            refine me_iinc (p' := 76) k32_73 rfl rfl rfl (v := nI (k + 1)) (mI_inc (by decide)) rfl ?_
            refine me_goto k32_76 ?_
            rw [sp_mg_step (f := sF (mSg 26 128 I) k - sF (mSg 26 128 I) c) (by omega) (by
              by_cases e : k = c
              · subst e; rw [if_pos rfl]; omega
              · rw [if_neg e]; unfold sp_feet; split <;> omega)]
            exact ih (by omega) _
          · skip
            rw [cI_lt (a := c) (b := k) (by omega) (by omega)] at c5
            refine me_iinc (p' := 66) k32_60 rfl rfl rfl (v := nI (sF (mSg 26 128 I) k - sF (mSg 26 128 I) c + 240)) (mI_inc (by decide)) rfl ?_
            refine me_iload_n (p' := 67) k32_66 rfl rfl ?_
            refine me_iload (p' := 69) k32_67 rfl rfl ?_
            refine me_min (p' := 72) k32_69 rfl (cl_sum rfl) rfl ?_
            refine me_istore_n (p' := 73) k32_72 rfl ⟨Nat.le_of_ble_eq_true rfl, rfl⟩ rfl ?_
            refine me_iinc (p' := 76) k32_73 rfl rfl rfl (v := nI (k + 1)) (mI_inc (by decide)) rfl ?_
            refine me_goto k32_76 ?_
            rw [sp_mg_step (f := sF (mSg 26 128 I) k - sF (mSg 26 128 I) c + 240) (by omega) (by
              by_cases e : k = c
              · subst e; rw [if_pos rfl]; omega
              · rw [if_neg e]; unfold sp_feet; split <;> omega)]
            exact ih (by omega) _
        · skip
          rw [cI_eq0 (a := sF (mSg 26 128 I) k - sF (mSg 26 128 I) c) (by omega)] at c4
          refine me_iload_n (p' := 67) k32_66 rfl rfl ?_
          refine me_iload (p' := 69) k32_67 rfl rfl ?_
          refine me_min (p' := 72) k32_69 rfl (cl_sum rfl) rfl ?_
          refine me_istore_n (p' := 73) k32_72 rfl ⟨Nat.le_of_ble_eq_true rfl, rfl⟩ rfl ?_
          refine me_iinc (p' := 76) k32_73 rfl rfl rfl (v := nI (k + 1)) (mI_inc (by decide)) rfl ?_
          refine me_goto k32_76 ?_
          rw [sp_mg_step (f := sF (mSg 26 128 I) k - sF (mSg 26 128 I) c) (by omega) (by
            by_cases e : k = c
            · subst e; rw [if_pos rfl]; omega
            · rw [if_neg e]; unfold sp_feet; split <;> omega)]
          exact ih (by omega) _
theorem ct_roomOf26 {d L : Nat} {xs : Nat → Int32} {I : Nat → Nat → Int32} {Q : Option Value → mj_H → Prop} {n c : Nat} (hk : mOk (mSg 26 128 I) n) (hc : c < n) (hQ : Q (some (.int (sp_room (mSg 26 128 I) (-1) c n))) (mg_h L xs I)) : mj_Cl d 32 [.ref 26, .int (nI c)] (mg_h L xs I) Q := by
  have hn8 := hk.hn.2
  refine cl_start mx_32 (ls := [.ref 26, .int (nI c), mj_no, mj_no, mj_no]) rfl ?_
  refine me_aload_n (p' := 1) k32_0 rfl rfl ?_
  refine me_gfi (p' := 4) k32_1 rfl (by decide) rfl rfl ?_
  rw [show I 26 5 = nI n from hk.hn.1]
  refine me_iconst (p' := 5) k32_4 rfl (v := nI 2) (by decide) ?_
  refine me_ic_ge (p' := 8) k32_5 rfl (fun c1 => ?_) (fun c1 => ?_)
  · skip
    rw [cI_le (a := 2) (b := n) (by omega) (by omega)] at c1
    refine me_sipush (p' := 15) k32_12 rfl (v := nI 240) (by decide) ?_
    refine me_istore_n (p' := 16) k32_15 rfl ⟨Nat.le_of_ble_eq_true rfl, rfl⟩ rfl ?_
    refine me_iconst (p' := 17) k32_16 rfl (v := nI 0) (by decide) ?_
    refine me_istore_n (p' := 18) k32_17 rfl ⟨Nat.le_of_ble_eq_true rfl, rfl⟩ rfl ?_
    exact lp_roomOf26 hk hc (by omega) hQ 0 (Nat.zero_le _) _
  · skip
    rw [cI_le (a := 2) (b := n) (by omega) (by omega)] at c1
    refine me_sipush (p' := 11) k32_8 rfl (v := nI 240) (by decide) ?_
    refine me_reti k32_11 rt_32 rfl ?_
    rw [sp_room_1 (by omega) hc] at hQ
    exact hQ
theorem lp_near26 {d L : Nat} {xs : Nat → Int32} {I : Nat → Nat → Int32} {Q : Option Value → mj_H → Prop} {n : Nat} (hk : mOk (mSg 26 128 I) n) (hQ : Q (some (.int (sp_near (mSg 26 128 I) (-1) n n))) (mg_h L xs I)) : ∀ k : Nat, k ≤ n → mj_Ev (d + 1) 67 4 [.ref 26, .int (sp_near (mSg 26 128 I) (-1) n k), .int (nI k)] [] (mg_h L xs I) Q := by
  have hn8 := hk.hn.2
  refine loop_ind (n := n) (fun k hkn ih => ?_)
  refine me_iload_n (p' := 5) k67_4 rfl rfl ?_
  refine me_aload_n (p' := 6) k67_5 rfl rfl ?_
  refine me_gfi (p' := 9) k67_6 rfl (by decide) rfl rfl ?_
  rw [show I 26 5 = nI n from hk.hn.1]
  refine me_ic_ge (p' := 12) k67_9 rfl (fun c1 => ?_) (fun c1 => ?_)
  · skip
    rw [cI_le (a := n) (b := k) (by omega) (by omega)] at c1
    refine me_iload_n (p' := 30) k67_29 rfl rfl ?_
    refine me_reti k67_30 rt_67 rfl ?_
    have e8 : k = n := by omega
    subst e8
    exact hQ
  · skip
    rw [cI_le (a := n) (b := k) (by omega) (by omega)] at c1
    refine me_aload_n (p' := 13) k67_12 rfl rfl ?_
    refine me_iload_n (p' := 14) k67_13 rfl rfl ?_
    refine me_cv (p' := 17) k67_14 rfl rfl (by decide) rfl (by decide) (by decide) dp_32 rfl rfl (cl_le mx_32 rfl) (by decide) (cl_sum rfl) (ct_roomOf26 hk (by omega) ?_)
    refine me_if_ge (p' := 20) k67_17 rfl (fun c2 => ?_) (fun c2 => ?_)
    · skip
      refine me_iinc (p' := 26) k67_23 rfl rfl rfl (v := nI (k + 1)) (mI_inc (by decide)) rfl ?_
      refine me_goto k67_26 ?_
      have e9 : (sp_near (mSg 26 128 I) (-1) n k) = sp_near (mSg 26 128 I) (-1) n (k + 1) := by rw [sp_near, if_neg (Int32.not_lt.mpr c2), mI_z]
      rw [e9]
      exact ih (by omega)
    · skip
      refine me_iinc (p' := 23) k67_20 rfl rfl rfl rfl rfl ?_
      refine me_iinc (p' := 26) k67_23 rfl rfl rfl (v := nI (k + 1)) (mI_inc (by decide)) rfl ?_
      refine me_goto k67_26 ?_
      have e9 : ((sp_near (mSg 26 128 I) (-1) n k) + Int32.ofInt (1)) = sp_near (mSg 26 128 I) (-1) n (k + 1) := by rw [sp_near, if_pos (Int32.not_le.mp c2)]; rfl
      rw [e9]
      exact ih (by omega)
theorem ct_near26 {d L : Nat} {xs : Nat → Int32} {I : Nat → Nat → Int32} {Q : Option Value → mj_H → Prop} {n : Nat} (hk : mOk (mSg 26 128 I) n) (hQ : Q (some (.int (sp_near (mSg 26 128 I) (-1) n n))) (mg_h L xs I)) : mj_Cl (d + 1) 67 [.ref 26] (mg_h L xs I) Q := by
  refine cl_start mx_67 (ls := [.ref 26, mj_no, mj_no]) rfl ?_
  refine me_iconst (p' := 1) k67_0 rfl (v := nI 0) (by decide) ?_
  refine me_istore_n (p' := 2) k67_1 rfl ⟨Nat.le_of_ble_eq_true rfl, rfl⟩ rfl ?_
  refine me_iconst (p' := 3) k67_2 rfl (v := nI 0) (by decide) ?_
  refine me_istore_n (p' := 4) k67_3 rfl ⟨Nat.le_of_ble_eq_true rfl, rfl⟩ rfl ?_
  exact lp_near26 hk hQ 0 (Nat.zero_le _)
theorem lp_pace26 {d L : Nat} {xs : Nat → Int32} {I : Nat → Nat → Int32} {Q : Option Value → mj_H → Prop} {n c p : Nat} {w0 r0 b0 tq g0 : Int32} (hk : mOk (mSg 26 128 I) n) (hc : c < n) (hQ : Q (some (.int (sp_gain (sQ (mSg 26 128 I) c) (sp_within g0 (nI 1) (nI 20)) r0 b0))) (mg_h L xs I)) : mj_Ev (d + 2) 21 73 [.ref 26, .int (nI c), .int (nI p), .int w0, .int r0, .int b0, .int tq, mj_no] [.int g0] (mg_h L xs I) Q := by
  refine me_istore (p' := 75) k21_73 rfl ⟨Nat.le_of_ble_eq_true rfl, rfl⟩ rfl ?_
  refine me_aload_n (p' := 76) k21_75 rfl rfl ?_
  refine me_iload_n (p' := 77) k21_76 rfl rfl ?_
  refine me_cv (p' := 80) k21_77 rfl rfl (by decide) rfl (by decide) (by decide) dp_24 rfl rfl (cl_le mx_24 rfl) (by decide) (cl_sum rfl) (ct_kindOf26 hk hc ?_)
  refine me_iload (p' := 82) k21_80 rfl rfl ?_
  refine me_iconst (p' := 83) k21_82 rfl (v := nI 1) (by decide) ?_
  refine me_bipush (p' := 85) k21_83 rfl (v := nI 20) (by decide) ?_
  refine me_cs (p' := 88) k21_85 rfl rfl rfl rfl rfl (cl_le mx_25 rfl) (by decide) (cl_sum rfl) (ct_held (by decide) ?_)
  obtain ⟨a9, ha, ha1, ha2⟩ := sp_within_rng (v := g0) (a := 1) (b := 20) (by decide) (by decide)
  rw [ha]
  rw [ha] at hQ
  refine me_iload (p' := 90) k21_88 rfl rfl ?_
  refine me_iload (p' := 92) k21_90 rfl rfl ?_
  refine me_cg1 (p' := 95) k21_92 rfl (hk.kd c hc).2 rfl rfl rfl (Nat.le_of_ble_eq_true rfl) (cl_sum rfl) (cg_gains (hk.kd c hc).2 ⟨ha1, by omega⟩ ?_)
  refine me_reti k21_95 rt_21 rfl ?_
  exact hQ
theorem ct_paceIn26 {d L : Nat} {xs : Nat → Int32} {I : Nat → Nat → Int32} {Q : Option Value → mj_H → Prop} {T : mT} {n c p : Nat} (hx : cTx I T) (hcg : cCg I 26 T) (hk : mOk (mSg 26 128 I) n) (hc : c < n) (hp : p < 12) (hQ : ∀ I2, mFr mSk I I2 → Q (some (.int (sp_pc T (mSg 26 128 I) c p))) (mg_h L xs I2)) : mj_Cl (d + 2) 21 [.ref 26, .int (nI c), .int (nI p)] (mg_h L xs I) Q := by
  have hn8 := hk.hn.2
  refine cl_start mx_21 (ls := [.ref 26, .int (nI c), .int (nI p), mj_no, mj_no, mj_no, mj_no, mj_no]) rfl ?_
  refine me_aload_n (p' := 1) k21_0 rfl rfl ?_
  refine me_gfr (p' := 4) k21_1 rfl (by decide) rfl (b := 32) rfl ?_
  refine me_iconst (p' := 5) k21_4 rfl (v := nI 2) (by decide) ?_
  refine me_aald (p' := 6) k21_5 rfl (by decide) rfl ⟨by decide, by decide⟩ (j := 2) rfl (by omega) (by decide) (b := 35) rfl ?_
  refine me_iload_n (p' := 7) k21_6 rfl rfl ?_
  refine me_iald (p' := 8) k21_7 rfl (by decide) rfl (j := c) rfl (by omega) (by decide) rfl ?_
  rw [sgR26c2 (I := I) (c := c) (by omega)]
  refine me_istore_n (p' := 9) k21_8 rfl ⟨Nat.le_of_ble_eq_true rfl, rfl⟩ rfl ?_
  refine me_aload_n (p' := 10) k21_9 rfl rfl ?_
  refine me_gfr (p' := 13) k21_10 rfl (by decide) rfl (b := 27) rfl ?_
  refine me_iconst (p' := 14) k21_13 rfl (v := nI 0) (by decide) ?_
  refine me_aald (p' := 15) k21_14 rfl (by decide) rfl ⟨by decide, by decide⟩ (j := 0) rfl (by omega) (by decide) (b := 28) rfl ?_
  refine me_iload_n (p' := 16) k21_15 rfl rfl ?_
  refine me_iald (p' := 17) k21_16 rfl (by decide) rfl (j := p) rfl (by omega) (by decide) rfl ?_
  rw [sgR26p0 (I := I) (c := p) (by omega)]
  refine me_istore (p' := 19) k21_17 rfl ⟨Nat.le_of_ble_eq_true rfl, rfl⟩ rfl ?_
  refine me_aload_n (p' := 20) k21_19 rfl rfl ?_
  refine me_gfr (p' := 23) k21_20 rfl (by decide) rfl (b := 27) rfl ?_
  refine me_iconst (p' := 24) k21_23 rfl (v := nI 1) (by decide) ?_
  refine me_aald (p' := 25) k21_24 rfl (by decide) rfl ⟨by decide, by decide⟩ (j := 1) rfl (by omega) (by decide) (b := 29) rfl ?_
  refine me_iload_n (p' := 26) k21_25 rfl rfl ?_
  refine me_iald (p' := 27) k21_26 rfl (by decide) rfl (j := p) rfl (by omega) (by decide) rfl ?_
  rw [sgR26p1 (I := I) (c := p) (by omega)]
  refine me_istore (p' := 29) k21_27 rfl ⟨Nat.le_of_ble_eq_true rfl, rfl⟩ rfl ?_
  refine me_aload_n (p' := 30) k21_29 rfl rfl ?_
  refine me_gfr (p' := 33) k21_30 rfl (by decide) rfl (b := 40) rfl ?_
  refine me_iconst (p' := 34) k21_33 rfl (v := nI 0) (by decide) ?_
  refine me_iald (p' := 35) k21_34 rfl (by decide) rfl (j := 0) rfl (by omega) (by decide) rfl ?_
  rw [show I 40 0 = oI (sp_counts T.kf 0 T.nt) from hcg 0 (by decide)]
  refine me_istore (p' := 37) k21_35 rfl ⟨Nat.le_of_ble_eq_true rfl, rfl⟩ rfl ?_
  refine me_iload (p' := 39) k21_37 rfl rfl ?_
  refine me_if_ge (p' := 42) k21_39 rfl (fun c1 => ?_) (fun c1 => ?_)
  · skip
    obtain ⟨t, hct, htn, htk⟩ := sp_counts_some (Int32.not_lt.mpr c1)
    obtain ⟨ht1, ht2, ht3, ht4, ht5, ht6, ht7, ht8⟩ := hx.2 t htn
    have hnt := hx.1
    rw [hct]
    simp only [oI]
    refine me_aload_n (p' := 59) k21_58 rfl rfl ?_
    refine me_gfr (p' := 62) k21_59 rfl (by decide) rfl (b := 8) rfl ?_
    refine me_iload (p' := 64) k21_62 rfl rfl ?_
    refine me_aald (p' := 65) k21_64 rfl (by decide) rfl ⟨by decide, by decide⟩ (j := t) rfl (by omega) (by decide) (b := 59 + 3 * t) (rc_8 t (by omega)) ?_
    refine me_iload_n (p' := 66) k21_65 rfl rfl ?_
    refine me_iload (p' := 68) k21_66 rfl rfl ?_
    refine me_iload (p' := 70) k21_68 rfl rfl ?_
    refine me_cv (p' := 73) k21_70 rfl rfl (by omega) (congrArg Prod.fst (tb_T t (by omega))) (by decide) (by decide) dp_22 rfl rfl (cl_le mx_22 rfl) (by decide) (cl_sum rfl) (ct_gives (by omega) ht4 rfl ht2 ht3 ht7 (fun I2 hI2 => ?_))
    rw [← sp_val_some (dflt := ((mSg 26 128 I) (53 + 7 * c + 2))) hct]
    have hfr2 : mFr mSk I I2 := hI2.mono (fun x hx => by rw [List.mem_singleton.mp hx]; exact sk_mem t (by omega))
    have hs2 : mSg 26 128 I2 = mSg 26 128 I := sg_fr hfr2 (by decide)
    refine lp_pace26 (n := n) (by rw [hs2]; exact hk) hc ?_
    rw [hs2]
    have := hQ I2 hfr2
    unfold sp_pc sp_pace at this
    rw [sp_val_some hct] at this ⊢
    exact this
  · skip
    refine me_bipush (p' := 44) k21_42 rfl (v := nI 6) (by decide) ?_
    refine me_iload_n (p' := 45) k21_44 rfl rfl ?_
    refine me_bipush (p' := 47) k21_45 rfl (v := nI 20) (by decide) ?_
    refine me_idiv (p' := 48) k21_47 rfl (nI_ne0 (by omega) (by omega)) rfl ?_
    refine me_iadd (p' := 49) k21_48 rfl rfl ?_
    refine me_iload (p' := 51) k21_49 rfl rfl ?_
    refine me_isub (p' := 52) k21_51 rfl rfl ?_
    refine me_iload (p' := 54) k21_52 rfl rfl ?_
    refine me_isub (p' := 55) k21_54 rfl rfl ?_
    refine me_goto k21_55 ?_
    refine lp_pace26 (n := n) hk hc ?_
    have := hQ I mFr.rf
    unfold sp_pc sp_pace at this
    rw [sp_val_none (Int32.not_le.mp c1) hx.1] at this
    exact this
