/-! ===== the class: a second ===== -/
def mRg (r : Nat) : List Nat := [r, r + 2, r + 3, r + 4, r + 5, r + 7, r + 8, r + 9, r + 10, r + 11, r + 12, r + 13]
theorem mFr.sub {S S' : List Nat} {I I' : Nat → Nat → Int32} (h : mFr S I I') (hs : S ⊆ S') : mFr S' I I' := h.mono fun _ hx => hs hx
theorem sp_mm {r : Int32} {p : Nat} (hp : p < 2 ^ 31) : (if nI 0 < (if nI p < r then nI p else r) then (if nI p < r then nI p else r) else nI 0) = sp_within r (nI 0) (nI p) := by
  have e := sp_held r (nI 0) (nI p) (nI_pos' hp)
  rw [← e]
  have h2 : (if nI p < r then nI p else r) = (if r < nI p then r else nI p) := by
    simp only [Int32.lt_iff_toInt_lt]
    by_cases h1 : (nI p).toInt < r.toInt
    · rw [if_pos h1, if_neg (by omega)]
    · rw [if_neg h1]
      by_cases h3 : r.toInt < (nI p).toInt
      · rw [if_pos h3]
      · rw [if_neg h3]
        exact Int32.toInt_inj.mp (by omega)
  rw [h2]
theorem up_self {s : Nat → Int32} {k : Nat} {v : Int32} (h : s k = v) : up s k v = s := by
  funext j
  unfold up
  split
  · rename_i e; rw [e, h]
  · rfl
theorem sp_go1_a {s : Nat → Int32} {c F b : Nat} (hb : b = 0) (h2 : F + b < 240) : sp_go1 s c F b = up (up s (53 + 7 * c + 5) (s (53 + 7 * c + 5) + nI 1)) (53 + 7 * c + 1) (nI ((F + b) % 240)) := by
  unfold sp_go1
  rw [if_pos hb, if_neg (by omega), mI_z]
  exact up_self (by rw [up_ne (by omega), up_ne (by omega)])
theorem sp_go1_b {s : Nat → Int32} {c F b : Nat} (hb : ¬ b = 0) (h2 : F + b < 240) : sp_go1 s c F b = up s (53 + 7 * c + 1) (nI ((F + b) % 240)) := by
  unfold sp_go1
  rw [if_neg hb, if_neg (by omega), mI_z, mI_z, up_self (k := 53 + 7 * c + 5) rfl]
  exact up_self (by rw [up_ne (by omega)])
theorem sp_go1_c {s : Nat → Int32} {c F b : Nat} (hb : ¬ b = 0) (h2 : 240 ≤ F + b) : sp_go1 s c F b = up (up s (53 + 7 * c + 6) (s (53 + 7 * c + 6) + nI 1)) (53 + 7 * c + 1) (nI ((F + b) % 240)) := by
  unfold sp_go1
  rw [if_neg hb, if_pos h2, mI_z, up_self (k := 53 + 7 * c + 5) rfl]
  funext j
  unfold up
  by_cases e1 : j = 53 + 7 * c + 6
  · subst e1; simp
  · by_cases e2 : j = 53 + 7 * c + 1
    · subst e2; simp
    · simp [e1, e2]
theorem sp_dimc {v : Nat} (hv : v ≤ 60) : (if nI 0 < nI v - nI 1 then nI v - nI 1 else nI 0) = if 0 < nI v then nI v - nI 1 else nI v := by
  have hall : ∀ v : Nat, v < 61 → (if nI 0 < nI v - nI 1 then nI v - nI 1 else nI 0) = if 0 < nI v then nI v - nI 1 else nI v := by decide
  exact hall v (by omega)
theorem sp_dim_up2 {s : Nat → Int32} {p : Nat} : up (sp_dim s p) (41 + p) (if 0 < s (41 + p) then s (41 + p) - nI 1 else s (41 + p)) = sp_dim s (p + 1) := by
  rw [← sp_dim_up (s := s) (p := p) rfl]
  congr 1
  split
  · rfl
  · rw [show s (41 + p) - nI 0 = s (41 + p) from by show s (41 + p) - 0 = _; simp]
theorem sp_dim_ok {s : Nat → Int32} {n p : Nat} (h : mOk s n) (hp : p ≤ 12) : mOk (sp_dim s p) n := by
  have hn8 := h.hn.2
  have e : ∀ k, ¬ mTd k → sp_dim s p k = s k := fun k hk => by
    unfold mTd at hk
    unfold sp_dim
    rw [if_neg (by omega)]
  refine h.kp e (fun c' hc' => ?_) (fun p' hp' => ?_)
  · unfold sp_dim
    rw [if_neg (by omega)]; exact h.ft' c' hc'
  · obtain ⟨v, hv, hv2⟩ := h.se p' hp'
    unfold sp_dim
    split
    · rw [hv]
      by_cases e : 0 < nI v
      · rw [if_pos e]
        rw [cI_gt0 (by omega)] at e
        exact ⟨v - 1, mI_sub (by omega), by omega⟩
      · rw [if_neg e]
        exact ⟨v, rfl, hv2⟩
    · exact ⟨v, hv, hv2⟩
theorem ct_enter11 {d L : Nat} {xs : Nat → Int32} {I : Nat → Nat → Int32} {Q : Option Value → mj_H → Prop} {n c p : Nat} (hk : mOk (mSg 11 128 I) n) (hc : c < n) (hp : p < 12) (hQ : ∀ I2, mFr (mRg 11) I I2 → mSg 11 128 I2 = sp_enter (mSg 11 128 I) c p → Q none (mg_h L xs I2)) : mj_Cl (d + 2) 65 [.ref 11, .int (nI c), .int (nI p)] (mg_h L xs I) Q := by
  have hn8 := hk.hn.2
  refine cl_start mx_65 (ls := [.ref 11, .int (nI c), .int (nI p)]) rfl ?_
  refine me_aload_n (p' := 1) k65_0 rfl rfl ?_
  refine me_gfr (p' := 4) k65_1 rfl (by decide) rfl (b := 12) rfl ?_
  refine me_iconst (p' := 5) k65_4 rfl (v := nI 2) (by decide) ?_
  refine me_aald (p' := 6) k65_5 rfl (by decide) rfl ⟨by decide, by decide⟩ (j := 2) rfl (by omega) (by decide) (b := 15) rfl ?_
  refine me_iload_n (p' := 7) k65_6 rfl rfl ?_
  refine me_iald (p' := 8) k65_7 rfl (by decide) rfl (j := p) rfl (by omega) (by decide) rfl ?_
  rw [sgR11p2 (I := I) (c := p) (by omega)]
  refine me_if_ne (p' := 11) k65_8 rfl (fun c1 => ?_) (fun c1 => ?_)
  · skip
    refine me_retv k65_11 rt_65 ?_
    refine hQ _ mFr.rf ?_
    rw [sp_enter, if_pos c1]
  · skip
    refine me_aload_n (p' := 13) k65_12 rfl rfl ?_
    refine me_gfr (p' := 16) k65_13 rfl (by decide) rfl (b := 12) rfl ?_
    refine me_iconst (p' := 17) k65_16 rfl (v := nI 3) (by decide) ?_
    refine me_aald (p' := 18) k65_17 rfl (by decide) rfl ⟨by decide, by decide⟩ (j := 3) rfl (by omega) (by decide) (b := 16) rfl ?_
    refine me_iload_n (p' := 19) k65_18 rfl rfl ?_
    refine me_iald (p' := 20) k65_19 rfl (by decide) rfl (j := p) rfl (by omega) (by decide) rfl ?_
    rw [sgR11p3 (I := I) (c := p) (by omega)]
    refine me_if_ne (p' := 23) k65_20 rfl (fun c2 => ?_) (fun c2 => ?_)
    · skip
      refine me_aload_n (p' := 24) k65_23 rfl rfl ?_
      refine me_gfr (p' := 27) k65_24 rfl (by decide) rfl (b := 17) rfl ?_
      refine me_iconst (p' := 28) k65_27 rfl (v := nI 3) (by decide) ?_
      refine me_aald (p' := 29) k65_28 rfl (by decide) rfl ⟨by decide, by decide⟩ (j := 3) rfl (by omega) (by decide) (b := 21) rfl ?_
      refine me_iload_n (p' := 30) k65_29 rfl rfl ?_
      refine me_dup2 (p' := 31) k65_30 rfl rfl ?_
      refine me_iald (p' := 32) k65_31 rfl (by decide) rfl (j := c) rfl (by omega) (by decide) rfl ?_
      rw [sgR11c3 (I := I) (c := c) (by omega)]
      refine me_aload_n (p' := 33) k65_32 rfl rfl ?_
      refine me_iload_n (p' := 34) k65_33 rfl rfl ?_
      refine me_cv (p' := 37) k65_34 rfl rfl (by decide) rfl (by decide) (by decide) dp_24 rfl rfl (cl_le mx_24 rfl) (by decide) (cl_sum rfl) (ct_kindOf11 hk hc ?_)
      refine me_cg2 (p' := 40) k65_37 rfl (hk.kd c hc).2 rfl rfl rfl (Nat.le_of_ble_eq_true rfl) (cl_sum rfl) (cg_loud (hk.kd c hc).2 ?_)
      refine me_iadd (p' := 41) k65_40 rfl rfl ?_
      refine me_iast (p' := 42) k65_41 rfl (by decide) rfl (j := c) rfl (by omega) (by decide) rfl ?_
      refine me_aload_n (p' := 43) k65_42 rfl rfl ?_
      refine me_gfr (p' := 46) k65_43 rfl (by decide) rfl (b := 12) rfl ?_
      refine me_iconst (p' := 47) k65_46 rfl (v := nI 3) (by decide) ?_
      refine me_aald (p' := 48) k65_47 rfl (by decide) rfl ⟨by decide, by decide⟩ (j := 3) rfl (by omega) (by decide) (b := 16) rfl ?_
      refine me_iload_n (p' := 49) k65_48 rfl rfl ?_
      refine me_aload_n (p' := 50) k65_49 rfl rfl ?_
      refine me_gfr (p' := 53) k65_50 rfl (by decide) rfl (b := 12) rfl ?_
      refine me_iconst (p' := 54) k65_53 rfl (v := nI 2) (by decide) ?_
      refine me_aald (p' := 55) k65_54 rfl (by decide) rfl ⟨by decide, by decide⟩ (j := 2) rfl (by omega) (by decide) (b := 15) rfl ?_
      refine me_iload_n (p' := 56) k65_55 rfl rfl ?_
      refine me_iald (p' := 57) k65_56 rfl (by decide) rfl (j := p) rfl (by omega) (by decide) rfl ?_
      rw [mg_une (by omega)]
      rw [sgR11p2 (I := I) (c := p) (by omega)]
      refine me_iast (p' := 58) k65_57 rfl (by decide) rfl (j := p) rfl (by omega) (by decide) rfl ?_
      refine me_goto k65_58 ?_
      refine me_retv k65_73 rt_65 ?_
      refine hQ _ ((mFr.up (by decide)).tr (mFr.up (by decide))) ?_
      rw [sgU11p3 hp, sgU11c3 (by omega), sp_enter, if_neg c1, c2, if_neg (by decide)]
    · skip
      refine me_aload_n (p' := 62) k65_61 rfl rfl ?_
      refine me_gfr (p' := 65) k65_62 rfl (by decide) rfl (b := 17) rfl ?_
      refine me_iconst (p' := 66) k65_65 rfl (v := nI 4) (by decide) ?_
      refine me_aald (p' := 67) k65_66 rfl (by decide) rfl ⟨by decide, by decide⟩ (j := 4) rfl (by omega) (by decide) (b := 22) rfl ?_
      refine me_iload_n (p' := 68) k65_67 rfl rfl ?_
      refine me_dup2 (p' := 69) k65_68 rfl rfl ?_
      refine me_iald (p' := 70) k65_69 rfl (by decide) rfl (j := c) rfl (by omega) (by decide) rfl ?_
      rw [sgR11c4 (I := I) (c := c) (by omega)]
      refine me_iconst (p' := 71) k65_70 rfl (v := nI 1) (by decide) ?_
      refine me_iadd (p' := 72) k65_71 rfl rfl ?_
      refine me_iast (p' := 73) k65_72 rfl (by decide) rfl (j := c) rfl (by omega) (by decide) rfl ?_
      refine me_retv k65_73 rt_65 ?_
      refine hQ _ (mFr.up (by decide)) ?_
      obtain ⟨v, hv, hv2⟩ := hk.se p hp
      rw [hv] at c2
      have hv0 : 0 < nI v := by
        rw [cI_gt0 (by omega)]
        rcases Nat.eq_zero_or_pos v with z | z
        · subst z; exact absurd rfl c2
        · exact z
      rw [sgU11c4 (by omega), sp_enter, if_neg c1, hv, if_pos hv0]
theorem ct_goOn11 {d L : Nat} {xs : Nat → Int32} {I : Nat → Nat → Int32} {Q : Option Value → mj_H → Prop} {T : mT} {n c : Nat} (hx : cTx I T) (hcg : cCg I 11 T) (hk : mOk (mSg 11 128 I) n) (hc : c < n) (hQ : ∀ I2, mFr (mRg 11 ++ mSk) I I2 → mSg 11 128 I2 = sp_goes T (mSg 11 128 I) (-1) n c → Q none (mg_h L xs I2)) : mj_Cl (d + 3) 64 [.ref 11, .int (nI c)] (mg_h L xs I) Q := by
  have hn8 := hk.hn.2
  refine cl_start mx_64 (ls := [.ref 11, .int (nI c), mj_no, mj_no, mj_no]) rfl ?_
  refine me_aload_n (p' := 1) k64_0 rfl rfl ?_
  refine me_gfr (p' := 4) k64_1 rfl (by decide) rfl (b := 17) rfl ?_
  refine me_iconst (p' := 5) k64_4 rfl (v := nI 1) (by decide) ?_
  refine me_aald (p' := 6) k64_5 rfl (by decide) rfl ⟨by decide, by decide⟩ (j := 1) rfl (by omega) (by decide) (b := 19) rfl ?_
  refine me_iload_n (p' := 7) k64_6 rfl rfl ?_
  refine me_iald (p' := 8) k64_7 rfl (by decide) rfl (j := c) rfl (by omega) (by decide) rfl ?_
  rw [sgR11c1 (I := I) (c := c) (by omega)]
  rw [(hk.ft c hc).1]
  have hF0 := (hk.ft c hc).2
  refine me_istore_n (p' := 9) k64_8 rfl ⟨Nat.le_of_ble_eq_true rfl, rfl⟩ rfl ?_
  refine me_iconst (p' := 10) k64_9 rfl (v := nI 0) (by decide) ?_
  refine me_aload_n (p' := 11) k64_10 rfl rfl ?_
  refine me_iload_n (p' := 12) k64_11 rfl rfl ?_
  refine me_cv (p' := 15) k64_12 rfl rfl (by decide) rfl (by decide) (by decide) dp_32 rfl rfl (cl_le mx_32 rfl) (by decide) (cl_sum rfl) (ct_roomOf11 hk hc ?_)
  refine me_aload_n (p' := 16) k64_15 rfl rfl ?_
  refine me_iload_n (p' := 17) k64_16 rfl rfl ?_
  refine me_aload_n (p' := 18) k64_17 rfl rfl ?_
  refine me_iload_n (p' := 19) k64_18 rfl rfl ?_
  refine me_cv (p' := 22) k64_19 rfl rfl (by decide) rfl (by decide) (by decide) dp_20 rfl rfl (cl_le mx_20 rfl) (by decide) (cl_sum rfl) (ct_partOf11 hk hc ?_)
  refine me_cv (p' := 25) k64_22 rfl rfl (by decide) rfl (by decide) (by decide) dp_21 rfl rfl (cl_le mx_21 rfl) (by decide) (cl_sum rfl) (ct_paceIn11 hx hcg hk hc (by omega) (fun I1 hI1 => ?_))
  have e1 : mSg 11 128 I1 = mSg 11 128 I := sg_fr hI1 (by decide)
  obtain ⟨pv, hpv, hpv1, hpv2⟩ : ∃ k, sp_pc T (mSg 11 128 I) c (sF (mSg 11 128 I) c / 20) = nI k ∧ 1 ≤ k ∧ k ≤ 20 := sp_gain_rng
  rw [hpv]
  refine me_min (p' := 28) k64_25 rfl (cl_sum rfl) rfl ?_
  refine me_max (p' := 31) k64_28 rfl (cl_sum rfl) rfl ?_
  rw [sp_mm (by omega), ← hpv, show sp_within (sp_room (mSg 11 128 I) (-1) c n) (nI 0) (sp_pc T (mSg 11 128 I) c (sF (mSg 11 128 I) c / 20)) = nI (sp_by T (mSg 11 128 I) (-1) n c) from sp_by_eq.1]
  have hB : sp_by T (mSg 11 128 I) (-1) n c ≤ 20 := sp_by_eq.2
  generalize hbe : sp_by T (mSg 11 128 I) (-1) n c = b at *
  generalize hFe : sF (mSg 11 128 I) c = F at *
  refine me_istore_n (p' := 32) k64_31 rfl ⟨Nat.le_of_ble_eq_true rfl, rfl⟩ rfl ?_
  refine me_iload_n (p' := 33) k64_32 rfl rfl ?_
  refine me_if_ne (p' := 36) k64_33 rfl (fun c1 => ?_) (fun c1 => ?_)
  · skip
    rw [cI_eq0 (a := b) (by omega)] at c1
    refine me_aload_n (p' := 37) k64_36 rfl rfl ?_
    refine me_gfr (p' := 40) k64_37 rfl (by decide) rfl (b := 17) rfl ?_
    refine me_iconst (p' := 41) k64_40 rfl (v := nI 5) (by decide) ?_
    refine me_aald (p' := 42) k64_41 rfl (by decide) rfl ⟨by decide, by decide⟩ (j := 5) rfl (by omega) (by decide) (b := 23) rfl ?_
    refine me_iload_n (p' := 43) k64_42 rfl rfl ?_
    refine me_dup2 (p' := 44) k64_43 rfl rfl ?_
    refine me_iald (p' := 45) k64_44 rfl (by decide) rfl (j := c) rfl (by omega) (by decide) rfl ?_
    rw [sgR11c5 (I := I1) (c := c) (by omega)]
    refine me_iconst (p' := 46) k64_45 rfl (v := nI 1) (by decide) ?_
    refine me_iadd (p' := 47) k64_46 rfl rfl ?_
    refine me_iast (p' := 48) k64_47 rfl (by decide) rfl (j := c) rfl (by omega) (by decide) rfl ?_
    refine me_iload_n (p' := 49) k64_48 rfl rfl ?_
    refine me_iload_n (p' := 50) k64_49 rfl rfl ?_
    refine me_iadd (p' := 51) k64_50 rfl (v := nI (F + b)) (mI_add _ _) ?_
    refine me_sipush (p' := 54) k64_51 rfl (v := nI 240) (by decide) ?_
    refine me_ic_lt (p' := 57) k64_54 rfl (fun c2 => ?_) (fun c2 => ?_)
    · skip
      rw [cI_lt (a := F + b) (b := 240) (by omega) (by omega)] at c2
      refine me_aload_n (p' := 71) k64_70 rfl rfl ?_
      refine me_gfr (p' := 74) k64_71 rfl (by decide) rfl (b := 17) rfl ?_
      refine me_iconst (p' := 75) k64_74 rfl (v := nI 1) (by decide) ?_
      refine me_aald (p' := 76) k64_75 rfl (by decide) rfl ⟨by decide, by decide⟩ (j := 1) rfl (by omega) (by decide) (b := 19) rfl ?_
      refine me_iload_n (p' := 77) k64_76 rfl rfl ?_
      refine me_iload_n (p' := 78) k64_77 rfl rfl ?_
      refine me_iload_n (p' := 79) k64_78 rfl rfl ?_
      refine me_iadd (p' := 80) k64_79 rfl (v := nI (F + b)) (mI_add _ _) ?_
      refine me_sipush (p' := 83) k64_80 rfl (v := nI 240) (by decide) ?_
      refine me_irem (p' := 84) k64_83 rfl (nI_ne0 (by omega) (by omega)) (v := nI ((F + b) % 240)) (mI_mod (by omega) (by omega)) ?_
      refine me_iast (p' := 85) k64_84 rfl (by decide) rfl (j := c) rfl (by omega) (by decide) rfl ?_
      have hJ0 : mFr (mRg 11 ++ mSk) I1 (mg_u (mg_u I1 23 c (((mSg 11 128 I1) (53 + 7 * c + 5)) + nI 1)) 19 c (nI ((F + b) % 240))) := (mFr.up (by decide)).tr (mFr.up (by decide))
      have hJ1 : mSg 11 128 (mg_u (mg_u I1 23 c (((mSg 11 128 I1) (53 + 7 * c + 5)) + nI 1)) 19 c (nI ((F + b) % 240))) = sp_go1 (mSg 11 128 I) c F b := by rw [sgU11c1 (by omega), sgU11c5 (by omega), e1, sp_go1_a c1 (by omega)]
      generalize hJe : (mg_u (mg_u I1 23 c (((mSg 11 128 I1) (53 + 7 * c + 5)) + nI 1)) 19 c (nI ((F + b) % 240))) = J at *
      refine me_iload_n (p' := 86) k64_85 rfl rfl ?_
      refine me_bipush (p' := 88) k64_86 rfl (v := nI 20) (by decide) ?_
      refine me_idiv (p' := 89) k64_88 rfl (nI_ne0 (by omega) (by omega)) (v := nI (F / 20)) (mI_div (by omega) (by omega)) ?_
      refine me_iconst (p' := 90) k64_89 rfl (v := nI 1) (by decide) ?_
      refine me_iadd (p' := 91) k64_90 rfl (v := nI ((F / 20) + 1)) (mI_add _ _) ?_
      refine me_istore (p' := 93) k64_91 rfl ⟨Nat.le_of_ble_eq_true rfl, rfl⟩ rfl ?_
      refine me_iload (p' := 95) k64_93 rfl rfl ?_
      refine me_iload_n (p' := 96) k64_95 rfl rfl ?_
      refine me_iload_n (p' := 97) k64_96 rfl rfl ?_
      refine me_iadd (p' := 98) k64_97 rfl (v := nI (F + b)) (mI_add _ _) ?_
      refine me_bipush (p' := 100) k64_98 rfl (v := nI 20) (by decide) ?_
      refine me_idiv (p' := 101) k64_100 rfl (nI_ne0 (by omega) (by omega)) (v := nI ((F + b) / 20)) (mI_div (by omega) (by omega)) ?_
      refine me_ic_gt (p' := 104) k64_101 rfl (fun c3 => ?_) (fun c3 => ?_)
      · skip
        rw [cI_lt (a := (F + b) / 20) (b := (F / 20) + 1) (by omega) (by omega)] at c3
        refine me_retv k64_120 rt_64 ?_
        refine hQ _ ((hI1.sub (by decide)).tr hJ0) ?_
        unfold sp_goes
        rw [hbe, hFe, if_pos (by omega)]
        exact hJ1
      · skip
        rw [cI_lt (a := (F + b) / 20) (b := (F / 20) + 1) (by omega) (by omega)] at c3
        refine me_aload_n (p' := 105) k64_104 rfl rfl ?_
        refine me_iload_n (p' := 106) k64_105 rfl rfl ?_
        refine me_iload (p' := 108) k64_106 rfl rfl ?_
        refine me_bipush (p' := 110) k64_108 rfl (v := nI 12) (by decide) ?_
        refine me_irem (p' := 111) k64_110 rfl (nI_ne0 (by omega) (by omega)) (v := nI (((F / 20) + 1) % 12)) (mI_mod (by omega) (by omega)) ?_
        refine me_cv (p' := 114) k64_111 rfl rfl (by decide) rfl (by decide) (by decide) dp_65 rfl rfl (cl_le mx_65 rfl) (by decide) (cl_sum rfl) (ct_enter11 (by rw [hJ1]; exact hk.go1 (by omega)) hc (by omega) (fun J2 hJ2 hJ3 => ?_))
        refine me_iinc (p' := 117) k64_114 rfl rfl rfl (v := nI ((F / 20) + 1 + 1)) (mI_inc (by decide)) rfl ?_
        refine me_goto k64_117 ?_
        refine me_iload (p' := 95) k64_93 rfl rfl ?_
        refine me_iload_n (p' := 96) k64_95 rfl rfl ?_
        refine me_iload_n (p' := 97) k64_96 rfl rfl ?_
        refine me_iadd (p' := 98) k64_97 rfl (v := nI (F + b)) (mI_add _ _) ?_
        refine me_bipush (p' := 100) k64_98 rfl (v := nI 20) (by decide) ?_
        refine me_idiv (p' := 101) k64_100 rfl (nI_ne0 (by omega) (by omega)) (v := nI ((F + b) / 20)) (mI_div (by omega) (by omega)) ?_
        refine me_ic_gt (p' := 104) k64_101 rfl (fun c4 => ?_) (fun c4 => ?_)
        · skip
          rw [cI_lt (a := (F + b) / 20) (b := (F / 20) + 1 + 1) (by omega) (by omega)] at c4
          refine me_retv k64_120 rt_64 ?_
          refine hQ _ (((hI1.sub (by decide)).tr hJ0).tr (hJ2.sub (by decide))) ?_
          unfold sp_goes
          rw [hbe, hFe, if_neg (by omega), hJ3, hJ1, show (F + b) / 20 % 12 = (F / 20 + 1) % 12 by omega]
        · skip
          rw [cI_lt (a := (F + b) / 20) (b := (F / 20) + 1 + 1) (by omega) (by omega)] at c4
          exfalso
          omega
    · skip
      rw [cI_lt (a := F + b) (b := 240) (by omega) (by omega)] at c2
      exfalso
      omega
  · skip
    rw [cI_eq0 (a := b) (by omega)] at c1
    refine me_iload_n (p' := 49) k64_48 rfl rfl ?_
    refine me_iload_n (p' := 50) k64_49 rfl rfl ?_
    refine me_iadd (p' := 51) k64_50 rfl (v := nI (F + b)) (mI_add _ _) ?_
    refine me_sipush (p' := 54) k64_51 rfl (v := nI 240) (by decide) ?_
    refine me_ic_lt (p' := 57) k64_54 rfl (fun c5 => ?_) (fun c5 => ?_)
    · skip
      rw [cI_lt (a := F + b) (b := 240) (by omega) (by omega)] at c5
      refine me_aload_n (p' := 71) k64_70 rfl rfl ?_
      refine me_gfr (p' := 74) k64_71 rfl (by decide) rfl (b := 17) rfl ?_
      refine me_iconst (p' := 75) k64_74 rfl (v := nI 1) (by decide) ?_
      refine me_aald (p' := 76) k64_75 rfl (by decide) rfl ⟨by decide, by decide⟩ (j := 1) rfl (by omega) (by decide) (b := 19) rfl ?_
      refine me_iload_n (p' := 77) k64_76 rfl rfl ?_
      refine me_iload_n (p' := 78) k64_77 rfl rfl ?_
      refine me_iload_n (p' := 79) k64_78 rfl rfl ?_
      refine me_iadd (p' := 80) k64_79 rfl (v := nI (F + b)) (mI_add _ _) ?_
      refine me_sipush (p' := 83) k64_80 rfl (v := nI 240) (by decide) ?_
      refine me_irem (p' := 84) k64_83 rfl (nI_ne0 (by omega) (by omega)) (v := nI ((F + b) % 240)) (mI_mod (by omega) (by omega)) ?_
      refine me_iast (p' := 85) k64_84 rfl (by decide) rfl (j := c) rfl (by omega) (by decide) rfl ?_
      have hJ0 : mFr (mRg 11 ++ mSk) I1 (mg_u I1 19 c (nI ((F + b) % 240))) := mFr.up (by decide)
      have hJ1 : mSg 11 128 (mg_u I1 19 c (nI ((F + b) % 240))) = sp_go1 (mSg 11 128 I) c F b := by rw [sgU11c1 (by omega), e1, sp_go1_b c1 (by omega)]
      generalize hJe : (mg_u I1 19 c (nI ((F + b) % 240))) = J at *
      refine me_iload_n (p' := 86) k64_85 rfl rfl ?_
      refine me_bipush (p' := 88) k64_86 rfl (v := nI 20) (by decide) ?_
      refine me_idiv (p' := 89) k64_88 rfl (nI_ne0 (by omega) (by omega)) (v := nI (F / 20)) (mI_div (by omega) (by omega)) ?_
      refine me_iconst (p' := 90) k64_89 rfl (v := nI 1) (by decide) ?_
      refine me_iadd (p' := 91) k64_90 rfl (v := nI ((F / 20) + 1)) (mI_add _ _) ?_
      refine me_istore (p' := 93) k64_91 rfl ⟨Nat.le_of_ble_eq_true rfl, rfl⟩ rfl ?_
      refine me_iload (p' := 95) k64_93 rfl rfl ?_
      refine me_iload_n (p' := 96) k64_95 rfl rfl ?_
      refine me_iload_n (p' := 97) k64_96 rfl rfl ?_
      refine me_iadd (p' := 98) k64_97 rfl (v := nI (F + b)) (mI_add _ _) ?_
      refine me_bipush (p' := 100) k64_98 rfl (v := nI 20) (by decide) ?_
      refine me_idiv (p' := 101) k64_100 rfl (nI_ne0 (by omega) (by omega)) (v := nI ((F + b) / 20)) (mI_div (by omega) (by omega)) ?_
      refine me_ic_gt (p' := 104) k64_101 rfl (fun c6 => ?_) (fun c6 => ?_)
      · skip
        rw [cI_lt (a := (F + b) / 20) (b := (F / 20) + 1) (by omega) (by omega)] at c6
        refine me_retv k64_120 rt_64 ?_
        refine hQ _ ((hI1.sub (by decide)).tr hJ0) ?_
        unfold sp_goes
        rw [hbe, hFe, if_pos (by omega)]
        exact hJ1
      · skip
        rw [cI_lt (a := (F + b) / 20) (b := (F / 20) + 1) (by omega) (by omega)] at c6
        refine me_aload_n (p' := 105) k64_104 rfl rfl ?_
        refine me_iload_n (p' := 106) k64_105 rfl rfl ?_
        refine me_iload (p' := 108) k64_106 rfl rfl ?_
        refine me_bipush (p' := 110) k64_108 rfl (v := nI 12) (by decide) ?_
        refine me_irem (p' := 111) k64_110 rfl (nI_ne0 (by omega) (by omega)) (v := nI (((F / 20) + 1) % 12)) (mI_mod (by omega) (by omega)) ?_
        refine me_cv (p' := 114) k64_111 rfl rfl (by decide) rfl (by decide) (by decide) dp_65 rfl rfl (cl_le mx_65 rfl) (by decide) (cl_sum rfl) (ct_enter11 (by rw [hJ1]; exact hk.go1 (by omega)) hc (by omega) (fun J2 hJ2 hJ3 => ?_))
        refine me_iinc (p' := 117) k64_114 rfl rfl rfl (v := nI ((F / 20) + 1 + 1)) (mI_inc (by decide)) rfl ?_
        refine me_goto k64_117 ?_
        refine me_iload (p' := 95) k64_93 rfl rfl ?_
        refine me_iload_n (p' := 96) k64_95 rfl rfl ?_
        refine me_iload_n (p' := 97) k64_96 rfl rfl ?_
        refine me_iadd (p' := 98) k64_97 rfl (v := nI (F + b)) (mI_add _ _) ?_
        refine me_bipush (p' := 100) k64_98 rfl (v := nI 20) (by decide) ?_
        refine me_idiv (p' := 101) k64_100 rfl (nI_ne0 (by omega) (by omega)) (v := nI ((F + b) / 20)) (mI_div (by omega) (by omega)) ?_
        refine me_ic_gt (p' := 104) k64_101 rfl (fun c7 => ?_) (fun c7 => ?_)
        · skip
          rw [cI_lt (a := (F + b) / 20) (b := (F / 20) + 1 + 1) (by omega) (by omega)] at c7
          refine me_retv k64_120 rt_64 ?_
          refine hQ _ (((hI1.sub (by decide)).tr hJ0).tr (hJ2.sub (by decide))) ?_
          unfold sp_goes
          rw [hbe, hFe, if_neg (by omega), hJ3, hJ1, show (F + b) / 20 % 12 = (F / 20 + 1) % 12 by omega]
        · skip
          rw [cI_lt (a := (F + b) / 20) (b := (F / 20) + 1 + 1) (by omega) (by omega)] at c7
          exfalso
          omega
    · skip
      rw [cI_lt (a := F + b) (b := 240) (by omega) (by omega)] at c5
      refine me_aload_n (p' := 58) k64_57 rfl rfl ?_
      refine me_gfr (p' := 61) k64_58 rfl (by decide) rfl (b := 17) rfl ?_
      refine me_bipush (p' := 63) k64_61 rfl (v := nI 6) (by decide) ?_
      refine me_aald (p' := 64) k64_63 rfl (by decide) rfl ⟨by decide, by decide⟩ (j := 6) rfl (by omega) (by decide) (b := 24) rfl ?_
      refine me_iload_n (p' := 65) k64_64 rfl rfl ?_
      refine me_dup2 (p' := 66) k64_65 rfl rfl ?_
      refine me_iald (p' := 67) k64_66 rfl (by decide) rfl (j := c) rfl (by omega) (by decide) rfl ?_
      rw [sgR11c6 (I := I1) (c := c) (by omega)]
      refine me_iconst (p' := 68) k64_67 rfl (v := nI 1) (by decide) ?_
      refine me_iadd (p' := 69) k64_68 rfl rfl ?_
      refine me_iast (p' := 70) k64_69 rfl (by decide) rfl (j := c) rfl (by omega) (by decide) rfl ?_
      refine me_aload_n (p' := 71) k64_70 rfl rfl ?_
      refine me_gfr (p' := 74) k64_71 rfl (by decide) rfl (b := 17) rfl ?_
      refine me_iconst (p' := 75) k64_74 rfl (v := nI 1) (by decide) ?_
      refine me_aald (p' := 76) k64_75 rfl (by decide) rfl ⟨by decide, by decide⟩ (j := 1) rfl (by omega) (by decide) (b := 19) rfl ?_
      refine me_iload_n (p' := 77) k64_76 rfl rfl ?_
      refine me_iload_n (p' := 78) k64_77 rfl rfl ?_
      refine me_iload_n (p' := 79) k64_78 rfl rfl ?_
      refine me_iadd (p' := 80) k64_79 rfl (v := nI (F + b)) (mI_add _ _) ?_
      refine me_sipush (p' := 83) k64_80 rfl (v := nI 240) (by decide) ?_
      refine me_irem (p' := 84) k64_83 rfl (nI_ne0 (by omega) (by omega)) (v := nI ((F + b) % 240)) (mI_mod (by omega) (by omega)) ?_
      refine me_iast (p' := 85) k64_84 rfl (by decide) rfl (j := c) rfl (by omega) (by decide) rfl ?_
      have hJ0 : mFr (mRg 11 ++ mSk) I1 (mg_u (mg_u I1 24 c (((mSg 11 128 I1) (53 + 7 * c + 6)) + nI 1)) 19 c (nI ((F + b) % 240))) := (mFr.up (by decide)).tr (mFr.up (by decide))
      have hJ1 : mSg 11 128 (mg_u (mg_u I1 24 c (((mSg 11 128 I1) (53 + 7 * c + 6)) + nI 1)) 19 c (nI ((F + b) % 240))) = sp_go1 (mSg 11 128 I) c F b := by rw [sgU11c1 (by omega), sgU11c6 (by omega), e1, sp_go1_c c1 (by omega)]
      generalize hJe : (mg_u (mg_u I1 24 c (((mSg 11 128 I1) (53 + 7 * c + 6)) + nI 1)) 19 c (nI ((F + b) % 240))) = J at *
      refine me_iload_n (p' := 86) k64_85 rfl rfl ?_
      refine me_bipush (p' := 88) k64_86 rfl (v := nI 20) (by decide) ?_
      refine me_idiv (p' := 89) k64_88 rfl (nI_ne0 (by omega) (by omega)) (v := nI (F / 20)) (mI_div (by omega) (by omega)) ?_
      refine me_iconst (p' := 90) k64_89 rfl (v := nI 1) (by decide) ?_
      refine me_iadd (p' := 91) k64_90 rfl (v := nI ((F / 20) + 1)) (mI_add _ _) ?_
      refine me_istore (p' := 93) k64_91 rfl ⟨Nat.le_of_ble_eq_true rfl, rfl⟩ rfl ?_
      refine me_iload (p' := 95) k64_93 rfl rfl ?_
      refine me_iload_n (p' := 96) k64_95 rfl rfl ?_
      refine me_iload_n (p' := 97) k64_96 rfl rfl ?_
      refine me_iadd (p' := 98) k64_97 rfl (v := nI (F + b)) (mI_add _ _) ?_
      refine me_bipush (p' := 100) k64_98 rfl (v := nI 20) (by decide) ?_
      refine me_idiv (p' := 101) k64_100 rfl (nI_ne0 (by omega) (by omega)) (v := nI ((F + b) / 20)) (mI_div (by omega) (by omega)) ?_
      refine me_ic_gt (p' := 104) k64_101 rfl (fun c8 => ?_) (fun c8 => ?_)
      · skip
        rw [cI_lt (a := (F + b) / 20) (b := (F / 20) + 1) (by omega) (by omega)] at c8
        refine me_retv k64_120 rt_64 ?_
        refine hQ _ ((hI1.sub (by decide)).tr hJ0) ?_
        unfold sp_goes
        rw [hbe, hFe, if_pos (by omega)]
        exact hJ1
      · skip
        rw [cI_lt (a := (F + b) / 20) (b := (F / 20) + 1) (by omega) (by omega)] at c8
        refine me_aload_n (p' := 105) k64_104 rfl rfl ?_
        refine me_iload_n (p' := 106) k64_105 rfl rfl ?_
        refine me_iload (p' := 108) k64_106 rfl rfl ?_
        refine me_bipush (p' := 110) k64_108 rfl (v := nI 12) (by decide) ?_
        refine me_irem (p' := 111) k64_110 rfl (nI_ne0 (by omega) (by omega)) (v := nI (((F / 20) + 1) % 12)) (mI_mod (by omega) (by omega)) ?_
        refine me_cv (p' := 114) k64_111 rfl rfl (by decide) rfl (by decide) (by decide) dp_65 rfl rfl (cl_le mx_65 rfl) (by decide) (cl_sum rfl) (ct_enter11 (by rw [hJ1]; exact hk.go1 (by omega)) hc (by omega) (fun J2 hJ2 hJ3 => ?_))
        refine me_iinc (p' := 117) k64_114 rfl rfl rfl (v := nI ((F / 20) + 1 + 1)) (mI_inc (by decide)) rfl ?_
        refine me_goto k64_117 ?_
        refine me_iload (p' := 95) k64_93 rfl rfl ?_
        refine me_iload_n (p' := 96) k64_95 rfl rfl ?_
        refine me_iload_n (p' := 97) k64_96 rfl rfl ?_
        refine me_iadd (p' := 98) k64_97 rfl (v := nI (F + b)) (mI_add _ _) ?_
        refine me_bipush (p' := 100) k64_98 rfl (v := nI 20) (by decide) ?_
        refine me_idiv (p' := 101) k64_100 rfl (nI_ne0 (by omega) (by omega)) (v := nI ((F + b) / 20)) (mI_div (by omega) (by omega)) ?_
        refine me_ic_gt (p' := 104) k64_101 rfl (fun c9 => ?_) (fun c9 => ?_)
        · skip
          rw [cI_lt (a := (F + b) / 20) (b := (F / 20) + 1 + 1) (by omega) (by omega)] at c9
          refine me_retv k64_120 rt_64 ?_
          refine hQ _ (((hI1.sub (by decide)).tr hJ0).tr (hJ2.sub (by decide))) ?_
          unfold sp_goes
          rw [hbe, hFe, if_neg (by omega), hJ3, hJ1, show (F + b) / 20 % 12 = (F / 20 + 1) % 12 by omega]
        · skip
          rw [cI_lt (a := (F + b) / 20) (b := (F / 20) + 1 + 1) (by omega) (by omega)] at c9
          exfalso
          omega
theorem ct_enter26 {d L : Nat} {xs : Nat → Int32} {I : Nat → Nat → Int32} {Q : Option Value → mj_H → Prop} {n c p : Nat} (hk : mOk (mSg 26 128 I) n) (hc : c < n) (hp : p < 12) (hQ : ∀ I2, mFr (mRg 26) I I2 → mSg 26 128 I2 = sp_enter (mSg 26 128 I) c p → Q none (mg_h L xs I2)) : mj_Cl (d + 2) 65 [.ref 26, .int (nI c), .int (nI p)] (mg_h L xs I) Q := by
  have hn8 := hk.hn.2
  refine cl_start mx_65 (ls := [.ref 26, .int (nI c), .int (nI p)]) rfl ?_
  refine me_aload_n (p' := 1) k65_0 rfl rfl ?_
  refine me_gfr (p' := 4) k65_1 rfl (by decide) rfl (b := 27) rfl ?_
  refine me_iconst (p' := 5) k65_4 rfl (v := nI 2) (by decide) ?_
  refine me_aald (p' := 6) k65_5 rfl (by decide) rfl ⟨by decide, by decide⟩ (j := 2) rfl (by omega) (by decide) (b := 30) rfl ?_
  refine me_iload_n (p' := 7) k65_6 rfl rfl ?_
  refine me_iald (p' := 8) k65_7 rfl (by decide) rfl (j := p) rfl (by omega) (by decide) rfl ?_
  rw [sgR26p2 (I := I) (c := p) (by omega)]
  refine me_if_ne (p' := 11) k65_8 rfl (fun c1 => ?_) (fun c1 => ?_)
  · skip
    refine me_retv k65_11 rt_65 ?_
    refine hQ _ mFr.rf ?_
    rw [sp_enter, if_pos c1]
  · skip
    refine me_aload_n (p' := 13) k65_12 rfl rfl ?_
    refine me_gfr (p' := 16) k65_13 rfl (by decide) rfl (b := 27) rfl ?_
    refine me_iconst (p' := 17) k65_16 rfl (v := nI 3) (by decide) ?_
    refine me_aald (p' := 18) k65_17 rfl (by decide) rfl ⟨by decide, by decide⟩ (j := 3) rfl (by omega) (by decide) (b := 31) rfl ?_
    refine me_iload_n (p' := 19) k65_18 rfl rfl ?_
    refine me_iald (p' := 20) k65_19 rfl (by decide) rfl (j := p) rfl (by omega) (by decide) rfl ?_
    rw [sgR26p3 (I := I) (c := p) (by omega)]
    refine me_if_ne (p' := 23) k65_20 rfl (fun c2 => ?_) (fun c2 => ?_)
    · skip
      refine me_aload_n (p' := 24) k65_23 rfl rfl ?_
      refine me_gfr (p' := 27) k65_24 rfl (by decide) rfl (b := 32) rfl ?_
      refine me_iconst (p' := 28) k65_27 rfl (v := nI 3) (by decide) ?_
      refine me_aald (p' := 29) k65_28 rfl (by decide) rfl ⟨by decide, by decide⟩ (j := 3) rfl (by omega) (by decide) (b := 36) rfl ?_
      refine me_iload_n (p' := 30) k65_29 rfl rfl ?_
      refine me_dup2 (p' := 31) k65_30 rfl rfl ?_
      refine me_iald (p' := 32) k65_31 rfl (by decide) rfl (j := c) rfl (by omega) (by decide) rfl ?_
      rw [sgR26c3 (I := I) (c := c) (by omega)]
      refine me_aload_n (p' := 33) k65_32 rfl rfl ?_
      refine me_iload_n (p' := 34) k65_33 rfl rfl ?_
      refine me_cv (p' := 37) k65_34 rfl rfl (by decide) rfl (by decide) (by decide) dp_24 rfl rfl (cl_le mx_24 rfl) (by decide) (cl_sum rfl) (ct_kindOf26 hk hc ?_)
      refine me_cg2 (p' := 40) k65_37 rfl (hk.kd c hc).2 rfl rfl rfl (Nat.le_of_ble_eq_true rfl) (cl_sum rfl) (cg_loud (hk.kd c hc).2 ?_)
      refine me_iadd (p' := 41) k65_40 rfl rfl ?_
      refine me_iast (p' := 42) k65_41 rfl (by decide) rfl (j := c) rfl (by omega) (by decide) rfl ?_
      refine me_aload_n (p' := 43) k65_42 rfl rfl ?_
      refine me_gfr (p' := 46) k65_43 rfl (by decide) rfl (b := 27) rfl ?_
      refine me_iconst (p' := 47) k65_46 rfl (v := nI 3) (by decide) ?_
      refine me_aald (p' := 48) k65_47 rfl (by decide) rfl ⟨by decide, by decide⟩ (j := 3) rfl (by omega) (by decide) (b := 31) rfl ?_
      refine me_iload_n (p' := 49) k65_48 rfl rfl ?_
      refine me_aload_n (p' := 50) k65_49 rfl rfl ?_
      refine me_gfr (p' := 53) k65_50 rfl (by decide) rfl (b := 27) rfl ?_
      refine me_iconst (p' := 54) k65_53 rfl (v := nI 2) (by decide) ?_
      refine me_aald (p' := 55) k65_54 rfl (by decide) rfl ⟨by decide, by decide⟩ (j := 2) rfl (by omega) (by decide) (b := 30) rfl ?_
      refine me_iload_n (p' := 56) k65_55 rfl rfl ?_
      refine me_iald (p' := 57) k65_56 rfl (by decide) rfl (j := p) rfl (by omega) (by decide) rfl ?_
      rw [mg_une (by omega)]
      rw [sgR26p2 (I := I) (c := p) (by omega)]
      refine me_iast (p' := 58) k65_57 rfl (by decide) rfl (j := p) rfl (by omega) (by decide) rfl ?_
      refine me_goto k65_58 ?_
      refine me_retv k65_73 rt_65 ?_
      refine hQ _ ((mFr.up (by decide)).tr (mFr.up (by decide))) ?_
      rw [sgU26p3 hp, sgU26c3 (by omega), sp_enter, if_neg c1, c2, if_neg (by decide)]
    · skip
      refine me_aload_n (p' := 62) k65_61 rfl rfl ?_
      refine me_gfr (p' := 65) k65_62 rfl (by decide) rfl (b := 32) rfl ?_
      refine me_iconst (p' := 66) k65_65 rfl (v := nI 4) (by decide) ?_
      refine me_aald (p' := 67) k65_66 rfl (by decide) rfl ⟨by decide, by decide⟩ (j := 4) rfl (by omega) (by decide) (b := 37) rfl ?_
      refine me_iload_n (p' := 68) k65_67 rfl rfl ?_
      refine me_dup2 (p' := 69) k65_68 rfl rfl ?_
      refine me_iald (p' := 70) k65_69 rfl (by decide) rfl (j := c) rfl (by omega) (by decide) rfl ?_
      rw [sgR26c4 (I := I) (c := c) (by omega)]
      refine me_iconst (p' := 71) k65_70 rfl (v := nI 1) (by decide) ?_
      refine me_iadd (p' := 72) k65_71 rfl rfl ?_
      refine me_iast (p' := 73) k65_72 rfl (by decide) rfl (j := c) rfl (by omega) (by decide) rfl ?_
      refine me_retv k65_73 rt_65 ?_
      refine hQ _ (mFr.up (by decide)) ?_
      obtain ⟨v, hv, hv2⟩ := hk.se p hp
      rw [hv] at c2
      have hv0 : 0 < nI v := by
        rw [cI_gt0 (by omega)]
        rcases Nat.eq_zero_or_pos v with z | z
        · subst z; exact absurd rfl c2
        · exact z
      rw [sgU26c4 (by omega), sp_enter, if_neg c1, hv, if_pos hv0]
theorem ct_goOn26 {d L : Nat} {xs : Nat → Int32} {I : Nat → Nat → Int32} {Q : Option Value → mj_H → Prop} {T : mT} {n c : Nat} (hx : cTx I T) (hcg : cCg I 26 T) (hk : mOk (mSg 26 128 I) n) (hc : c < n) (hQ : ∀ I2, mFr (mRg 26 ++ mSk) I I2 → mSg 26 128 I2 = sp_goes T (mSg 26 128 I) (-1) n c → Q none (mg_h L xs I2)) : mj_Cl (d + 3) 64 [.ref 26, .int (nI c)] (mg_h L xs I) Q := by
  have hn8 := hk.hn.2
  refine cl_start mx_64 (ls := [.ref 26, .int (nI c), mj_no, mj_no, mj_no]) rfl ?_
  refine me_aload_n (p' := 1) k64_0 rfl rfl ?_
  refine me_gfr (p' := 4) k64_1 rfl (by decide) rfl (b := 32) rfl ?_
  refine me_iconst (p' := 5) k64_4 rfl (v := nI 1) (by decide) ?_
  refine me_aald (p' := 6) k64_5 rfl (by decide) rfl ⟨by decide, by decide⟩ (j := 1) rfl (by omega) (by decide) (b := 34) rfl ?_
  refine me_iload_n (p' := 7) k64_6 rfl rfl ?_
  refine me_iald (p' := 8) k64_7 rfl (by decide) rfl (j := c) rfl (by omega) (by decide) rfl ?_
  rw [sgR26c1 (I := I) (c := c) (by omega)]
  rw [(hk.ft c hc).1]
  have hF0 := (hk.ft c hc).2
  refine me_istore_n (p' := 9) k64_8 rfl ⟨Nat.le_of_ble_eq_true rfl, rfl⟩ rfl ?_
  refine me_iconst (p' := 10) k64_9 rfl (v := nI 0) (by decide) ?_
  refine me_aload_n (p' := 11) k64_10 rfl rfl ?_
  refine me_iload_n (p' := 12) k64_11 rfl rfl ?_
  refine me_cv (p' := 15) k64_12 rfl rfl (by decide) rfl (by decide) (by decide) dp_32 rfl rfl (cl_le mx_32 rfl) (by decide) (cl_sum rfl) (ct_roomOf26 hk hc ?_)
  refine me_aload_n (p' := 16) k64_15 rfl rfl ?_
  refine me_iload_n (p' := 17) k64_16 rfl rfl ?_
  refine me_aload_n (p' := 18) k64_17 rfl rfl ?_
  refine me_iload_n (p' := 19) k64_18 rfl rfl ?_
  refine me_cv (p' := 22) k64_19 rfl rfl (by decide) rfl (by decide) (by decide) dp_20 rfl rfl (cl_le mx_20 rfl) (by decide) (cl_sum rfl) (ct_partOf26 hk hc ?_)
  refine me_cv (p' := 25) k64_22 rfl rfl (by decide) rfl (by decide) (by decide) dp_21 rfl rfl (cl_le mx_21 rfl) (by decide) (cl_sum rfl) (ct_paceIn26 hx hcg hk hc (by omega) (fun I1 hI1 => ?_))
  have e1 : mSg 26 128 I1 = mSg 26 128 I := sg_fr hI1 (by decide)
  obtain ⟨pv, hpv, hpv1, hpv2⟩ : ∃ k, sp_pc T (mSg 26 128 I) c (sF (mSg 26 128 I) c / 20) = nI k ∧ 1 ≤ k ∧ k ≤ 20 := sp_gain_rng
  rw [hpv]
  refine me_min (p' := 28) k64_25 rfl (cl_sum rfl) rfl ?_
  refine me_max (p' := 31) k64_28 rfl (cl_sum rfl) rfl ?_
  rw [sp_mm (by omega), ← hpv, show sp_within (sp_room (mSg 26 128 I) (-1) c n) (nI 0) (sp_pc T (mSg 26 128 I) c (sF (mSg 26 128 I) c / 20)) = nI (sp_by T (mSg 26 128 I) (-1) n c) from sp_by_eq.1]
  have hB : sp_by T (mSg 26 128 I) (-1) n c ≤ 20 := sp_by_eq.2
  generalize hbe : sp_by T (mSg 26 128 I) (-1) n c = b at *
  generalize hFe : sF (mSg 26 128 I) c = F at *
  refine me_istore_n (p' := 32) k64_31 rfl ⟨Nat.le_of_ble_eq_true rfl, rfl⟩ rfl ?_
  refine me_iload_n (p' := 33) k64_32 rfl rfl ?_
  refine me_if_ne (p' := 36) k64_33 rfl (fun c1 => ?_) (fun c1 => ?_)
  · skip
    rw [cI_eq0 (a := b) (by omega)] at c1
    refine me_aload_n (p' := 37) k64_36 rfl rfl ?_
    refine me_gfr (p' := 40) k64_37 rfl (by decide) rfl (b := 32) rfl ?_
    refine me_iconst (p' := 41) k64_40 rfl (v := nI 5) (by decide) ?_
    refine me_aald (p' := 42) k64_41 rfl (by decide) rfl ⟨by decide, by decide⟩ (j := 5) rfl (by omega) (by decide) (b := 38) rfl ?_
    refine me_iload_n (p' := 43) k64_42 rfl rfl ?_
    refine me_dup2 (p' := 44) k64_43 rfl rfl ?_
    refine me_iald (p' := 45) k64_44 rfl (by decide) rfl (j := c) rfl (by omega) (by decide) rfl ?_
    rw [sgR26c5 (I := I1) (c := c) (by omega)]
    refine me_iconst (p' := 46) k64_45 rfl (v := nI 1) (by decide) ?_
    refine me_iadd (p' := 47) k64_46 rfl rfl ?_
    refine me_iast (p' := 48) k64_47 rfl (by decide) rfl (j := c) rfl (by omega) (by decide) rfl ?_
    refine me_iload_n (p' := 49) k64_48 rfl rfl ?_
    refine me_iload_n (p' := 50) k64_49 rfl rfl ?_
    refine me_iadd (p' := 51) k64_50 rfl (v := nI (F + b)) (mI_add _ _) ?_
    refine me_sipush (p' := 54) k64_51 rfl (v := nI 240) (by decide) ?_
    refine me_ic_lt (p' := 57) k64_54 rfl (fun c2 => ?_) (fun c2 => ?_)
    · skip
      rw [cI_lt (a := F + b) (b := 240) (by omega) (by omega)] at c2
      refine me_aload_n (p' := 71) k64_70 rfl rfl ?_
      refine me_gfr (p' := 74) k64_71 rfl (by decide) rfl (b := 32) rfl ?_
      refine me_iconst (p' := 75) k64_74 rfl (v := nI 1) (by decide) ?_
      refine me_aald (p' := 76) k64_75 rfl (by decide) rfl ⟨by decide, by decide⟩ (j := 1) rfl (by omega) (by decide) (b := 34) rfl ?_
      refine me_iload_n (p' := 77) k64_76 rfl rfl ?_
      refine me_iload_n (p' := 78) k64_77 rfl rfl ?_
      refine me_iload_n (p' := 79) k64_78 rfl rfl ?_
      refine me_iadd (p' := 80) k64_79 rfl (v := nI (F + b)) (mI_add _ _) ?_
      refine me_sipush (p' := 83) k64_80 rfl (v := nI 240) (by decide) ?_
      refine me_irem (p' := 84) k64_83 rfl (nI_ne0 (by omega) (by omega)) (v := nI ((F + b) % 240)) (mI_mod (by omega) (by omega)) ?_
      refine me_iast (p' := 85) k64_84 rfl (by decide) rfl (j := c) rfl (by omega) (by decide) rfl ?_
      have hJ0 : mFr (mRg 26 ++ mSk) I1 (mg_u (mg_u I1 38 c (((mSg 26 128 I1) (53 + 7 * c + 5)) + nI 1)) 34 c (nI ((F + b) % 240))) := (mFr.up (by decide)).tr (mFr.up (by decide))
      have hJ1 : mSg 26 128 (mg_u (mg_u I1 38 c (((mSg 26 128 I1) (53 + 7 * c + 5)) + nI 1)) 34 c (nI ((F + b) % 240))) = sp_go1 (mSg 26 128 I) c F b := by rw [sgU26c1 (by omega), sgU26c5 (by omega), e1, sp_go1_a c1 (by omega)]
      generalize hJe : (mg_u (mg_u I1 38 c (((mSg 26 128 I1) (53 + 7 * c + 5)) + nI 1)) 34 c (nI ((F + b) % 240))) = J at *
      refine me_iload_n (p' := 86) k64_85 rfl rfl ?_
      refine me_bipush (p' := 88) k64_86 rfl (v := nI 20) (by decide) ?_
      refine me_idiv (p' := 89) k64_88 rfl (nI_ne0 (by omega) (by omega)) (v := nI (F / 20)) (mI_div (by omega) (by omega)) ?_
      refine me_iconst (p' := 90) k64_89 rfl (v := nI 1) (by decide) ?_
      refine me_iadd (p' := 91) k64_90 rfl (v := nI ((F / 20) + 1)) (mI_add _ _) ?_
      refine me_istore (p' := 93) k64_91 rfl ⟨Nat.le_of_ble_eq_true rfl, rfl⟩ rfl ?_
      refine me_iload (p' := 95) k64_93 rfl rfl ?_
      refine me_iload_n (p' := 96) k64_95 rfl rfl ?_
      refine me_iload_n (p' := 97) k64_96 rfl rfl ?_
      refine me_iadd (p' := 98) k64_97 rfl (v := nI (F + b)) (mI_add _ _) ?_
      refine me_bipush (p' := 100) k64_98 rfl (v := nI 20) (by decide) ?_
      refine me_idiv (p' := 101) k64_100 rfl (nI_ne0 (by omega) (by omega)) (v := nI ((F + b) / 20)) (mI_div (by omega) (by omega)) ?_
      refine me_ic_gt (p' := 104) k64_101 rfl (fun c3 => ?_) (fun c3 => ?_)
      · skip
        rw [cI_lt (a := (F + b) / 20) (b := (F / 20) + 1) (by omega) (by omega)] at c3
        refine me_retv k64_120 rt_64 ?_
        refine hQ _ ((hI1.sub (by decide)).tr hJ0) ?_
        unfold sp_goes
        rw [hbe, hFe, if_pos (by omega)]
        exact hJ1
      · skip
        rw [cI_lt (a := (F + b) / 20) (b := (F / 20) + 1) (by omega) (by omega)] at c3
        refine me_aload_n (p' := 105) k64_104 rfl rfl ?_
        refine me_iload_n (p' := 106) k64_105 rfl rfl ?_
        refine me_iload (p' := 108) k64_106 rfl rfl ?_
        refine me_bipush (p' := 110) k64_108 rfl (v := nI 12) (by decide) ?_
        refine me_irem (p' := 111) k64_110 rfl (nI_ne0 (by omega) (by omega)) (v := nI (((F / 20) + 1) % 12)) (mI_mod (by omega) (by omega)) ?_
        refine me_cv (p' := 114) k64_111 rfl rfl (by decide) rfl (by decide) (by decide) dp_65 rfl rfl (cl_le mx_65 rfl) (by decide) (cl_sum rfl) (ct_enter26 (by rw [hJ1]; exact hk.go1 (by omega)) hc (by omega) (fun J2 hJ2 hJ3 => ?_))
        refine me_iinc (p' := 117) k64_114 rfl rfl rfl (v := nI ((F / 20) + 1 + 1)) (mI_inc (by decide)) rfl ?_
        refine me_goto k64_117 ?_
        refine me_iload (p' := 95) k64_93 rfl rfl ?_
        refine me_iload_n (p' := 96) k64_95 rfl rfl ?_
        refine me_iload_n (p' := 97) k64_96 rfl rfl ?_
        refine me_iadd (p' := 98) k64_97 rfl (v := nI (F + b)) (mI_add _ _) ?_
        refine me_bipush (p' := 100) k64_98 rfl (v := nI 20) (by decide) ?_
        refine me_idiv (p' := 101) k64_100 rfl (nI_ne0 (by omega) (by omega)) (v := nI ((F + b) / 20)) (mI_div (by omega) (by omega)) ?_
        refine me_ic_gt (p' := 104) k64_101 rfl (fun c4 => ?_) (fun c4 => ?_)
        · skip
          rw [cI_lt (a := (F + b) / 20) (b := (F / 20) + 1 + 1) (by omega) (by omega)] at c4
          refine me_retv k64_120 rt_64 ?_
          refine hQ _ (((hI1.sub (by decide)).tr hJ0).tr (hJ2.sub (by decide))) ?_
          unfold sp_goes
          rw [hbe, hFe, if_neg (by omega), hJ3, hJ1, show (F + b) / 20 % 12 = (F / 20 + 1) % 12 by omega]
        · skip
          rw [cI_lt (a := (F + b) / 20) (b := (F / 20) + 1 + 1) (by omega) (by omega)] at c4
          exfalso
          omega
    · skip
      rw [cI_lt (a := F + b) (b := 240) (by omega) (by omega)] at c2
      exfalso
      omega
  · skip
    rw [cI_eq0 (a := b) (by omega)] at c1
    refine me_iload_n (p' := 49) k64_48 rfl rfl ?_
    refine me_iload_n (p' := 50) k64_49 rfl rfl ?_
    refine me_iadd (p' := 51) k64_50 rfl (v := nI (F + b)) (mI_add _ _) ?_
    refine me_sipush (p' := 54) k64_51 rfl (v := nI 240) (by decide) ?_
    refine me_ic_lt (p' := 57) k64_54 rfl (fun c5 => ?_) (fun c5 => ?_)
    · skip
      rw [cI_lt (a := F + b) (b := 240) (by omega) (by omega)] at c5
      refine me_aload_n (p' := 71) k64_70 rfl rfl ?_
      refine me_gfr (p' := 74) k64_71 rfl (by decide) rfl (b := 32) rfl ?_
      refine me_iconst (p' := 75) k64_74 rfl (v := nI 1) (by decide) ?_
      refine me_aald (p' := 76) k64_75 rfl (by decide) rfl ⟨by decide, by decide⟩ (j := 1) rfl (by omega) (by decide) (b := 34) rfl ?_
      refine me_iload_n (p' := 77) k64_76 rfl rfl ?_
      refine me_iload_n (p' := 78) k64_77 rfl rfl ?_
      refine me_iload_n (p' := 79) k64_78 rfl rfl ?_
      refine me_iadd (p' := 80) k64_79 rfl (v := nI (F + b)) (mI_add _ _) ?_
      refine me_sipush (p' := 83) k64_80 rfl (v := nI 240) (by decide) ?_
      refine me_irem (p' := 84) k64_83 rfl (nI_ne0 (by omega) (by omega)) (v := nI ((F + b) % 240)) (mI_mod (by omega) (by omega)) ?_
      refine me_iast (p' := 85) k64_84 rfl (by decide) rfl (j := c) rfl (by omega) (by decide) rfl ?_
      have hJ0 : mFr (mRg 26 ++ mSk) I1 (mg_u I1 34 c (nI ((F + b) % 240))) := mFr.up (by decide)
      have hJ1 : mSg 26 128 (mg_u I1 34 c (nI ((F + b) % 240))) = sp_go1 (mSg 26 128 I) c F b := by rw [sgU26c1 (by omega), e1, sp_go1_b c1 (by omega)]
      generalize hJe : (mg_u I1 34 c (nI ((F + b) % 240))) = J at *
      refine me_iload_n (p' := 86) k64_85 rfl rfl ?_
      refine me_bipush (p' := 88) k64_86 rfl (v := nI 20) (by decide) ?_
      refine me_idiv (p' := 89) k64_88 rfl (nI_ne0 (by omega) (by omega)) (v := nI (F / 20)) (mI_div (by omega) (by omega)) ?_
      refine me_iconst (p' := 90) k64_89 rfl (v := nI 1) (by decide) ?_
      refine me_iadd (p' := 91) k64_90 rfl (v := nI ((F / 20) + 1)) (mI_add _ _) ?_
      refine me_istore (p' := 93) k64_91 rfl ⟨Nat.le_of_ble_eq_true rfl, rfl⟩ rfl ?_
      refine me_iload (p' := 95) k64_93 rfl rfl ?_
      refine me_iload_n (p' := 96) k64_95 rfl rfl ?_
      refine me_iload_n (p' := 97) k64_96 rfl rfl ?_
      refine me_iadd (p' := 98) k64_97 rfl (v := nI (F + b)) (mI_add _ _) ?_
      refine me_bipush (p' := 100) k64_98 rfl (v := nI 20) (by decide) ?_
      refine me_idiv (p' := 101) k64_100 rfl (nI_ne0 (by omega) (by omega)) (v := nI ((F + b) / 20)) (mI_div (by omega) (by omega)) ?_
      refine me_ic_gt (p' := 104) k64_101 rfl (fun c6 => ?_) (fun c6 => ?_)
      · skip
        rw [cI_lt (a := (F + b) / 20) (b := (F / 20) + 1) (by omega) (by omega)] at c6
        refine me_retv k64_120 rt_64 ?_
        refine hQ _ ((hI1.sub (by decide)).tr hJ0) ?_
        unfold sp_goes
        rw [hbe, hFe, if_pos (by omega)]
        exact hJ1
      · skip
        rw [cI_lt (a := (F + b) / 20) (b := (F / 20) + 1) (by omega) (by omega)] at c6
        refine me_aload_n (p' := 105) k64_104 rfl rfl ?_
        refine me_iload_n (p' := 106) k64_105 rfl rfl ?_
        refine me_iload (p' := 108) k64_106 rfl rfl ?_
        refine me_bipush (p' := 110) k64_108 rfl (v := nI 12) (by decide) ?_
        refine me_irem (p' := 111) k64_110 rfl (nI_ne0 (by omega) (by omega)) (v := nI (((F / 20) + 1) % 12)) (mI_mod (by omega) (by omega)) ?_
        refine me_cv (p' := 114) k64_111 rfl rfl (by decide) rfl (by decide) (by decide) dp_65 rfl rfl (cl_le mx_65 rfl) (by decide) (cl_sum rfl) (ct_enter26 (by rw [hJ1]; exact hk.go1 (by omega)) hc (by omega) (fun J2 hJ2 hJ3 => ?_))
        refine me_iinc (p' := 117) k64_114 rfl rfl rfl (v := nI ((F / 20) + 1 + 1)) (mI_inc (by decide)) rfl ?_
        refine me_goto k64_117 ?_
        refine me_iload (p' := 95) k64_93 rfl rfl ?_
        refine me_iload_n (p' := 96) k64_95 rfl rfl ?_
        refine me_iload_n (p' := 97) k64_96 rfl rfl ?_
        refine me_iadd (p' := 98) k64_97 rfl (v := nI (F + b)) (mI_add _ _) ?_
        refine me_bipush (p' := 100) k64_98 rfl (v := nI 20) (by decide) ?_
        refine me_idiv (p' := 101) k64_100 rfl (nI_ne0 (by omega) (by omega)) (v := nI ((F + b) / 20)) (mI_div (by omega) (by omega)) ?_
        refine me_ic_gt (p' := 104) k64_101 rfl (fun c7 => ?_) (fun c7 => ?_)
        · skip
          rw [cI_lt (a := (F + b) / 20) (b := (F / 20) + 1 + 1) (by omega) (by omega)] at c7
          refine me_retv k64_120 rt_64 ?_
          refine hQ _ (((hI1.sub (by decide)).tr hJ0).tr (hJ2.sub (by decide))) ?_
          unfold sp_goes
          rw [hbe, hFe, if_neg (by omega), hJ3, hJ1, show (F + b) / 20 % 12 = (F / 20 + 1) % 12 by omega]
        · skip
          rw [cI_lt (a := (F + b) / 20) (b := (F / 20) + 1 + 1) (by omega) (by omega)] at c7
          exfalso
          omega
    · skip
      rw [cI_lt (a := F + b) (b := 240) (by omega) (by omega)] at c5
      refine me_aload_n (p' := 58) k64_57 rfl rfl ?_
      refine me_gfr (p' := 61) k64_58 rfl (by decide) rfl (b := 32) rfl ?_
      refine me_bipush (p' := 63) k64_61 rfl (v := nI 6) (by decide) ?_
      refine me_aald (p' := 64) k64_63 rfl (by decide) rfl ⟨by decide, by decide⟩ (j := 6) rfl (by omega) (by decide) (b := 39) rfl ?_
      refine me_iload_n (p' := 65) k64_64 rfl rfl ?_
      refine me_dup2 (p' := 66) k64_65 rfl rfl ?_
      refine me_iald (p' := 67) k64_66 rfl (by decide) rfl (j := c) rfl (by omega) (by decide) rfl ?_
      rw [sgR26c6 (I := I1) (c := c) (by omega)]
      refine me_iconst (p' := 68) k64_67 rfl (v := nI 1) (by decide) ?_
      refine me_iadd (p' := 69) k64_68 rfl rfl ?_
      refine me_iast (p' := 70) k64_69 rfl (by decide) rfl (j := c) rfl (by omega) (by decide) rfl ?_
      refine me_aload_n (p' := 71) k64_70 rfl rfl ?_
      refine me_gfr (p' := 74) k64_71 rfl (by decide) rfl (b := 32) rfl ?_
      refine me_iconst (p' := 75) k64_74 rfl (v := nI 1) (by decide) ?_
      refine me_aald (p' := 76) k64_75 rfl (by decide) rfl ⟨by decide, by decide⟩ (j := 1) rfl (by omega) (by decide) (b := 34) rfl ?_
      refine me_iload_n (p' := 77) k64_76 rfl rfl ?_
      refine me_iload_n (p' := 78) k64_77 rfl rfl ?_
      refine me_iload_n (p' := 79) k64_78 rfl rfl ?_
      refine me_iadd (p' := 80) k64_79 rfl (v := nI (F + b)) (mI_add _ _) ?_
      refine me_sipush (p' := 83) k64_80 rfl (v := nI 240) (by decide) ?_
      refine me_irem (p' := 84) k64_83 rfl (nI_ne0 (by omega) (by omega)) (v := nI ((F + b) % 240)) (mI_mod (by omega) (by omega)) ?_
      refine me_iast (p' := 85) k64_84 rfl (by decide) rfl (j := c) rfl (by omega) (by decide) rfl ?_
      have hJ0 : mFr (mRg 26 ++ mSk) I1 (mg_u (mg_u I1 39 c (((mSg 26 128 I1) (53 + 7 * c + 6)) + nI 1)) 34 c (nI ((F + b) % 240))) := (mFr.up (by decide)).tr (mFr.up (by decide))
      have hJ1 : mSg 26 128 (mg_u (mg_u I1 39 c (((mSg 26 128 I1) (53 + 7 * c + 6)) + nI 1)) 34 c (nI ((F + b) % 240))) = sp_go1 (mSg 26 128 I) c F b := by rw [sgU26c1 (by omega), sgU26c6 (by omega), e1, sp_go1_c c1 (by omega)]
      generalize hJe : (mg_u (mg_u I1 39 c (((mSg 26 128 I1) (53 + 7 * c + 6)) + nI 1)) 34 c (nI ((F + b) % 240))) = J at *
      refine me_iload_n (p' := 86) k64_85 rfl rfl ?_
      refine me_bipush (p' := 88) k64_86 rfl (v := nI 20) (by decide) ?_
      refine me_idiv (p' := 89) k64_88 rfl (nI_ne0 (by omega) (by omega)) (v := nI (F / 20)) (mI_div (by omega) (by omega)) ?_
      refine me_iconst (p' := 90) k64_89 rfl (v := nI 1) (by decide) ?_
      refine me_iadd (p' := 91) k64_90 rfl (v := nI ((F / 20) + 1)) (mI_add _ _) ?_
      refine me_istore (p' := 93) k64_91 rfl ⟨Nat.le_of_ble_eq_true rfl, rfl⟩ rfl ?_
      refine me_iload (p' := 95) k64_93 rfl rfl ?_
      refine me_iload_n (p' := 96) k64_95 rfl rfl ?_
      refine me_iload_n (p' := 97) k64_96 rfl rfl ?_
      refine me_iadd (p' := 98) k64_97 rfl (v := nI (F + b)) (mI_add _ _) ?_
      refine me_bipush (p' := 100) k64_98 rfl (v := nI 20) (by decide) ?_
      refine me_idiv (p' := 101) k64_100 rfl (nI_ne0 (by omega) (by omega)) (v := nI ((F + b) / 20)) (mI_div (by omega) (by omega)) ?_
      refine me_ic_gt (p' := 104) k64_101 rfl (fun c8 => ?_) (fun c8 => ?_)
      · skip
        rw [cI_lt (a := (F + b) / 20) (b := (F / 20) + 1) (by omega) (by omega)] at c8
        refine me_retv k64_120 rt_64 ?_
        refine hQ _ ((hI1.sub (by decide)).tr hJ0) ?_
        unfold sp_goes
        rw [hbe, hFe, if_pos (by omega)]
        exact hJ1
      · skip
        rw [cI_lt (a := (F + b) / 20) (b := (F / 20) + 1) (by omega) (by omega)] at c8
        refine me_aload_n (p' := 105) k64_104 rfl rfl ?_
        refine me_iload_n (p' := 106) k64_105 rfl rfl ?_
        refine me_iload (p' := 108) k64_106 rfl rfl ?_
        refine me_bipush (p' := 110) k64_108 rfl (v := nI 12) (by decide) ?_
        refine me_irem (p' := 111) k64_110 rfl (nI_ne0 (by omega) (by omega)) (v := nI (((F / 20) + 1) % 12)) (mI_mod (by omega) (by omega)) ?_
        refine me_cv (p' := 114) k64_111 rfl rfl (by decide) rfl (by decide) (by decide) dp_65 rfl rfl (cl_le mx_65 rfl) (by decide) (cl_sum rfl) (ct_enter26 (by rw [hJ1]; exact hk.go1 (by omega)) hc (by omega) (fun J2 hJ2 hJ3 => ?_))
        refine me_iinc (p' := 117) k64_114 rfl rfl rfl (v := nI ((F / 20) + 1 + 1)) (mI_inc (by decide)) rfl ?_
        refine me_goto k64_117 ?_
        refine me_iload (p' := 95) k64_93 rfl rfl ?_
        refine me_iload_n (p' := 96) k64_95 rfl rfl ?_
        refine me_iload_n (p' := 97) k64_96 rfl rfl ?_
        refine me_iadd (p' := 98) k64_97 rfl (v := nI (F + b)) (mI_add _ _) ?_
        refine me_bipush (p' := 100) k64_98 rfl (v := nI 20) (by decide) ?_
        refine me_idiv (p' := 101) k64_100 rfl (nI_ne0 (by omega) (by omega)) (v := nI ((F + b) / 20)) (mI_div (by omega) (by omega)) ?_
        refine me_ic_gt (p' := 104) k64_101 rfl (fun c9 => ?_) (fun c9 => ?_)
        · skip
          rw [cI_lt (a := (F + b) / 20) (b := (F / 20) + 1 + 1) (by omega) (by omega)] at c9
          refine me_retv k64_120 rt_64 ?_
          refine hQ _ (((hI1.sub (by decide)).tr hJ0).tr (hJ2.sub (by decide))) ?_
          unfold sp_goes
          rw [hbe, hFe, if_neg (by omega), hJ3, hJ1, show (F + b) / 20 % 12 = (F / 20 + 1) % 12 by omega]
        · skip
          rw [cI_lt (a := (F + b) / 20) (b := (F / 20) + 1 + 1) (by omega) (by omega)] at c9
          exfalso
          omega
