/-! ===== the model: weighed ===== -/
/-- FOOT of a CAR behind k SECONDS with a WEIGHT -/
def sp_ft (T : mT) (s : Nat → Int32) (n c w k : Nat) : Nat := sF (sp_secs T (up s (53 + (7 * c) + 2) (nI w)) (-1) n k) c
def sp_df (v : Int32) (f : Nat) : Nat := if v = (-1000000005) then 0 else (v.toInt - f).natAbs
def sp_wd (W : Nat → Nat → Int32) (T : mT) (s : Nat → Int32) (n j c w : Nat) : Nat → Nat
  | 0 => 0
  | k + 1 => sp_wd W T s n j c w k + sp_df (W 2 (24 * j + k)) (sp_ft T s n c w k)
/-- the first of the least -/
def sp_mn (f : Nat → Nat) : Nat → Nat × Nat
  | 0 => (0, f 0)
  | k + 1 => if f (k + 1) < (sp_mn f k).2 then (k + 1, f (k + 1)) else sp_mn f k
def sp_wf (W : Nat → Nat → Int32) (T : mT) (s : Nat → Int32) (n j c i : Nat) : Nat := sp_wd W T s n j c (1 + 5 * i) (sN W j)
def sp_weighed (W : Nat → Nat → Int32) (T : mT) (s : Nat → Int32) (n : Nat) (a car what : Int32) : Int32 := match sp_rg 4 a with
  | none => (-1000000001)
  | some j => match sp_rg n car with
    | none => (-1000000001)
    | some c => match sp_rg 2 what with
      | none => (-1000000001)
      | some k => if W 0 j < 0 then (-1000000011) else if k = 0 then nI (1 + 5 * (sp_mn (sp_wf W T s n j c) 19).1) else nI (sp_mn (sp_wf W T s n j c) 19).2
theorem sp_df_le {v : Int32} {f : Nat} (hv : v = (-1000000005) ∨ (-99999 ≤ v ∧ v ≤ nI 99999)) (hf : f < 240) : sp_df v f ≤ 100239 := by
  unfold sp_df
  split
  · omega
  · rcases hv with h | ⟨h1, h2⟩
    · contradiction
    · rw [Int32.le_iff_toInt_le] at h1 h2
      have e1 : (-99999 : Int32).toInt = -99999 := by decide
      have e2 : (nI 99999).toInt = 99999 := by decide
      omega
theorem sp_wd_le {W : Nat → Nat → Int32} {T : mT} {s : Nat → Int32} {n j c w : Nat} (hwk : mWk W) (hk : mOk s n) (hj : j < 4) (hc : c < n) (hw : 1 ≤ w ∧ w ≤ 99) : ∀ k : Nat, k ≤ sN W j → sp_wd W T s n j c w k ≤ 100239 * k
  | 0, _ => Nat.le_refl _
  | k + 1, h => by
    have h1 := sp_wd_le (T := T) hwk hk hj hc hw k (by omega)
    have h2 : sp_ft T s n c w k < 240 := (((hk.upW hc hw.1 hw.2).secs (T := T) (aw := -1) k).ft c hc).2
    have h3 := sp_df_le (hwk.vl hj (show k < sN W j by omega)) h2
    unfold sp_wd
    omega
theorem mL_add (a b : Nat) : Int64.ofNat a + Int64.ofNat b = Int64.ofNat (a + b) := (Int64.ofNat_add a b).symm
theorem mL_toInt {a : Nat} (h : a < 2 ^ 62) : (Int64.ofNat a).toInt = a := by
  exact Int64.toInt_ofNat_of_lt (by omega)
theorem mL_le {a b : Nat} (ha : a < 2 ^ 62) (hb : b < 2 ^ 62) : Int64.ofNat a ≤ Int64.ofNat b ↔ a ≤ b := by
  rw [Int64.le_iff_toInt_le, mL_toInt ha, mL_toInt hb]
  omega
theorem mL_sub {v : Int32} {f : Nat} (hv : -99999 ≤ v ∧ v ≤ nI 99999) (hf : f < 240) : (Int32.toInt64 v - Int32.toInt64 (nI f)).toInt = v.toInt - f := by
  have h1 := hv.1
  have h2 := hv.2
  rw [Int32.le_iff_toInt_le] at h1 h2
  have e1 : (-99999 : Int32).toInt = -99999 := by decide
  have e2 : (nI 99999).toInt = 99999 := by decide
  rw [Int64.toInt_sub, Int32.toInt_toInt64, Int32.toInt_toInt64, nI_toInt (by omega)]
  exact Int.bmod_eq_of_le_mul_two (by omega) (by omega)
theorem mL_pos {v : Int32} {f : Nat} (hn : ¬ v = (-1000000005)) (hv : -99999 ≤ v ∧ v ≤ nI 99999) (hf : f < 240) (h : 0 ≤ lg_cmp (Int32.toInt64 v - Int32.toInt64 (nI f)) (0 : Int64)) : Int32.toInt64 v - Int32.toInt64 (nI f) = Int64.ofNat (sp_df v f) := by
  have h9 := sp_df_le (Or.inr hv) hf
  rw [lg_cmp_ge, Int64.le_iff_toInt_le, mL_sub hv hf] at h
  have h0 : (0 : Int64).toInt = 0 := by decide
  apply Int64.toInt_inj.mp
  rw [mL_sub hv hf, mL_toInt (by omega)]
  unfold sp_df
  rw [if_neg hn]
  omega
theorem mL_neg {v : Int32} {f : Nat} (hn : ¬ v = (-1000000005)) (hv : -99999 ≤ v ∧ v ≤ nI 99999) (hf : f < 240) (h : ¬ 0 ≤ lg_cmp (Int32.toInt64 v - Int32.toInt64 (nI f)) (0 : Int64)) : -(Int32.toInt64 v - Int32.toInt64 (nI f)) = Int64.ofNat (sp_df v f) := by
  have h9 := sp_df_le (Or.inr hv) hf
  rw [lg_cmp_ge, Int64.le_iff_toInt_le, mL_sub hv hf] at h
  have h0 : (0 : Int64).toInt = 0 := by decide
  have h1 := hv.1
  have h2 := hv.2
  rw [Int32.le_iff_toInt_le] at h1 h2
  have e1 : (-99999 : Int32).toInt = -99999 := by decide
  have e2 : (nI 99999).toInt = 99999 := by decide
  apply Int64.toInt_inj.mp
  rw [Int64.toInt_neg, mL_sub hv hf, mL_toInt (by omega), Int.bmod_eq_of_le_mul_two (by omega) (by omega)]
  unfold sp_df
  rw [if_neg hn]
  omega
theorem mL_i {a : Nat} (h : a < 2 ^ 31) : Int64.toInt32 (Int64.ofNat a) = nI a := by
  apply Int32.toInt_inj.mp
  rw [Int64.toInt_toInt32, mL_toInt (by omega), nI_toInt h]
  exact Int.bmod_eq_of_le_mul_two (by omega) (by omega)
theorem sp_mn_le {f : Nat → Nat} {B : Nat} (h : ∀ k, f k ≤ B) : ∀ k : Nat, (sp_mn f k).2 ≤ B ∧ (sp_mn f k).1 ≤ k
  | 0 => ⟨h 0, Nat.le_refl _⟩
  | k + 1 => by
    have := sp_mn_le h k
    unfold sp_mn
    split
    · exact ⟨h _, Nat.le_refl _⟩
    · exact ⟨this.1, by omega⟩
theorem lp_offBy {d L : Nat} {xs : Nat → Int32} {I : Nat → Nat → Int32} {Q : Option Value → mj_H → Prop} {J : Nat → Nat → Int32} {T : mT} {n j c w : Nat} {W : Nat → Nat → Int32} (hx : mTx I T) (hk : mOk (I 128) n) (haw : I 127 4 = -1) (hW : mW I = W) (hwk : mWk W) (hj : j < 4) (hc : c < n) (hw : 1 ≤ w ∧ w ≤ 99) (hJ : mTh I J) (hQ : ∀ K, mTh I K → Q (some (.long (Int64.ofNat (sp_wd W T (I 128) n j c w (sN W j))))) (mg_h L xs K)) : ∀ k : Nat, k ≤ sN W j → ∀ I1, mFr [128, 138, 139] (mg_u J 128 (53 + 7 * c + 2) (nI w)) I1 → I1 128 = sp_secs T (up (I 128) (53 + (7 * c) + 2) (nI w)) (-1) n k → ∀ u7 u8 u9 : Value, mj_Ev (d + 5) 183 21 [.ref 127, .int (nI j), .int (nI c), .int (nI w), .long (Int64.ofNat (sp_wd W T (I 128) n j c w k)), mj_no, .int (nI k), u7, u8, u9] [] (mg_h L xs I1) Q := by
  have hn8 := hk.hn.2
  have hsz := hwk.le hj
  have hok := hk.upW hc hw.1 hw.2
  refine loop_ind (n := sN W j) (fun k hkn ih => ?_)
  intro I1 hfr e1 u7 u8 u9
  have h1 : mOk (I1 128) n := by rw [e1]; exact hok.secs _
  have ha1 : I1 127 4 = -1 := (hfr 127 4 (by decide)).trans (by rw [mg_un1 (by decide), hJ.e127, haw])
  have hx0 : mTx (mg_u J 128 (53 + 7 * c + 2) (nI w)) T := (hJ.tx hx).kp (fun j hj => by rw [mg_une (by omega)])
  have hx1 : mTx I1 T := hx0.td (fun j hj => by rw [e1, sp_secs_kp hok hj, mg_ui, hJ.e128])
  have hW1 : mW I1 = W := (mW_fr hfr (by decide)).trans ((mW_fr (S := [128]) (mFr.up (by decide)) (by decide)).trans ((mW_fr hJ.1 (by decide)).trans hW))
  refine me_iload (p' := 23) k183_21 rfl rfl ?_
  refine me_aload_n (p' := 24) k183_23 rfl rfl ?_
  refine me_gfr (p' := 27) k183_24 rfl (by decide) rfl (b := 141) rfl ?_
  refine me_iload_n (p' := 28) k183_27 rfl rfl ?_
  refine me_iald (p' := 29) k183_28 rfl (by decide) rfl (j := j) rfl (by omega) (by decide) rfl ?_
  rw [show I1 141 j = W 1 j from by rw [← hW1]; rfl, hwk.sz hj]
  refine me_ic_ge (p' := 32) k183_29 rfl (fun c1 => ?_) (fun c1 => ?_)
  · skip
    rw [cI_le (a := sN W j) (b := k) (by omega) (by omega)] at c1
    refine me_aload_n (p' := 101) k183_100 rfl rfl ?_
    refine me_cv (p' := 104) k183_101 rfl rfl (by decide) rfl (by decide) (by decide) dp_172 rfl rfl (cl_le mx_172 rfl) (by decide) (cl_sum rfl) (ct_putsBack ?_)
    refine me_lload (p' := 106) k183_104 rfl rfl ?_
    refine me_retl k183_106 rt_183 ?_
    obtain rfl : k = sN W j := by omega
    exact hQ _ (hJ.back haw (((mFr.up (by decide)).tr (hfr.mono (by simp)))) (fun k _ => by rw [hfr 127 k (by decide), mg_un1 (by decide)]) (fun j hj => by rw [e1, sp_secs_kp hok (by unfold mTd; omega), up_ne (by omega), hJ.e128]))
  · skip
    rw [cI_le (a := sN W j) (b := k) (by omega) (by omega)] at c1
    refine me_aload_n (p' := 33) k183_32 rfl rfl ?_
    refine me_gfr (p' := 36) k183_33 rfl (by decide) rfl (b := 142) rfl ?_
    refine me_bipush (p' := 38) k183_36 rfl (v := nI 24) (by decide) ?_
    refine me_iload_n (p' := 39) k183_38 rfl rfl ?_
    refine me_imul (p' := 40) k183_39 rfl (v := nI (24 * j)) (mI_mul _ _) ?_
    refine me_iload (p' := 42) k183_40 rfl rfl ?_
    refine me_iadd (p' := 43) k183_42 rfl (v := nI ((24 * j) + k)) (mI_add _ _) ?_
    refine me_iald (p' := 44) k183_43 rfl (by decide) rfl (j := (24 * j) + k) rfl (by omega) (by decide) rfl ?_
    rw [show I1 142 (24 * j + k) = W 2 (24 * j + k) from by rw [← hW1]; rfl]
    refine me_istore (p' := 46) k183_44 rfl ⟨Nat.le_of_ble_eq_true rfl, rfl⟩ rfl ?_
    refine me_iload (p' := 48) k183_46 rfl rfl ?_
    refine me_i2l (p' := 49) k183_48 rfl rfl ?_
    refine me_aload_n (p' := 50) k183_49 rfl rfl ?_
    refine me_iload_n (p' := 51) k183_50 rfl rfl ?_
    refine me_iconst (p' := 52) k183_51 rfl (v := nI 1) (by decide) ?_
    refine me_cv (p' := 55) k183_52 rfl rfl (by decide) rfl (by decide) (by decide) dp_141 rfl rfl (cl_le mx_141 rfl) (by decide) (cl_sum rfl) (ct_of (by omega) ?_)
    rw [show I1 128 (53 + 7 * c + 1) = nI (sp_ft T (I 128) n c w k) from by rw [e1]; exact (hok.secs _ |>.ft c hc).1]
    have hf9 : sp_ft T (I 128) n c w k < 240 := (hok.secs _ |>.ft c hc).2
    have hv9 := hwk.vl hj (show k < sN W j by omega)
    refine me_i2l (p' := 56) k183_55 rfl rfl ?_
    refine me_lsub (p' := 57) k183_56 rfl rfl ?_
    refine me_lstore (p' := 59) k183_57 rfl ⟨Nat.le_of_ble_eq_true rfl, rfl⟩ rfl ?_
    refine me_lload (p' := 61) k183_59 rfl rfl ?_
    refine me_iload (p' := 63) k183_61 rfl rfl ?_
    refine me_ldc (p' := 65) k183_63 rfl (v := (-1000000005)) (by decide) ?_
    refine me_ic_ne (p' := 68) k183_65 rfl (fun c2 => ?_) (fun c2 => ?_)
    · skip
      refine me_lconst (p' := 69) k183_68 rfl (v := 0) (by decide) ?_
      refine me_goto k183_69 ?_
      refine me_ladd (p' := 88) k183_87 rfl rfl ?_
      rw [show (Int64.ofNat (sp_wd W T (I 128) n j c w k)) + (0 : Int64) = (Int64.ofNat (sp_wd W T (I 128) n j c w (k + 1))) from by rw [show (0 : Int64) = Int64.ofNat 0 from rfl, mL_add, sp_wd, show sp_df (W 2 (24 * j + k)) (sp_ft T (I 128) n c w k) = 0 from by unfold sp_df; rw [if_pos c2]]]
      refine me_lstore (p' := 90) k183_88 rfl ⟨Nat.le_of_ble_eq_true rfl, rfl⟩ rfl ?_
      refine me_aload_n (p' := 91) k183_90 rfl rfl ?_
      refine me_cv (p' := 94) k183_91 rfl rfl (by decide) rfl (by decide) (by decide) dp_163 rfl rfl (cl_le mx_163 rfl) (by decide) (cl_sum rfl) (ct_second hx1 h1 (fun I2 hI2 hI3 => ?_))
      refine me_iinc (p' := 97) k183_94 rfl rfl rfl (v := nI (k + 1)) (mI_inc (by decide)) rfl ?_
      refine me_goto k183_97 ?_
      refine ih (by omega) I2 (hfr.tr hI2) ?_ _ _ _
      rw [hI3, e1, ha1, sp_secs]
    · skip
      refine me_lload (p' := 74) k183_72 rfl rfl ?_
      refine me_lconst (p' := 75) k183_74 rfl (v := 0) (by decide) ?_
      refine me_lcmp (p' := 76) k183_75 rfl rfl ?_
      refine me_if_ge (p' := 79) k183_76 rfl (fun c3 => ?_) (fun c3 => ?_)
      · skip
        refine me_lload (p' := 87) k183_85 rfl rfl ?_
        refine me_ladd (p' := 88) k183_87 rfl rfl ?_
        rw [mL_pos c2 (hv9.elim (fun z => absurd z c2) id) hf9 c3, mL_add, show sp_wd W T (I 128) n j c w k + sp_df (W 2 (24 * j + k)) (sp_ft T (I 128) n c w k) = sp_wd W T (I 128) n j c w (k + 1) from rfl]
        refine me_lstore (p' := 90) k183_88 rfl ⟨Nat.le_of_ble_eq_true rfl, rfl⟩ rfl ?_
        refine me_aload_n (p' := 91) k183_90 rfl rfl ?_
        refine me_cv (p' := 94) k183_91 rfl rfl (by decide) rfl (by decide) (by decide) dp_163 rfl rfl (cl_le mx_163 rfl) (by decide) (cl_sum rfl) (ct_second hx1 h1 (fun I2 hI2 hI3 => ?_))
        refine me_iinc (p' := 97) k183_94 rfl rfl rfl (v := nI (k + 1)) (mI_inc (by decide)) rfl ?_
        refine me_goto k183_97 ?_
        refine ih (by omega) I2 (hfr.tr hI2) ?_ _ _ _
        rw [hI3, e1, ha1, sp_secs]
      · skip
        refine me_lload (p' := 81) k183_79 rfl rfl ?_
        refine me_lneg (p' := 82) k183_81 rfl rfl ?_
        refine me_goto k183_82 ?_
        refine me_ladd (p' := 88) k183_87 rfl rfl ?_
        rw [mL_neg c2 (hv9.elim (fun z => absurd z c2) id) hf9 c3, mL_add, show sp_wd W T (I 128) n j c w k + sp_df (W 2 (24 * j + k)) (sp_ft T (I 128) n c w k) = sp_wd W T (I 128) n j c w (k + 1) from rfl]
        refine me_lstore (p' := 90) k183_88 rfl ⟨Nat.le_of_ble_eq_true rfl, rfl⟩ rfl ?_
        refine me_aload_n (p' := 91) k183_90 rfl rfl ?_
        refine me_cv (p' := 94) k183_91 rfl rfl (by decide) rfl (by decide) (by decide) dp_163 rfl rfl (cl_le mx_163 rfl) (by decide) (cl_sum rfl) (ct_second hx1 h1 (fun I2 hI2 hI3 => ?_))
        refine me_iinc (p' := 97) k183_94 rfl rfl rfl (v := nI (k + 1)) (mI_inc (by decide)) rfl ?_
        refine me_goto k183_97 ?_
        refine ih (by omega) I2 (hfr.tr hI2) ?_ _ _ _
        rw [hI3, e1, ha1, sp_secs]
theorem ct_offBy {d L : Nat} {xs : Nat → Int32} {I : Nat → Nat → Int32} {Q : Option Value → mj_H → Prop} {J : Nat → Nat → Int32} {T : mT} {n j c w : Nat} {W : Nat → Nat → Int32} (hx : mTx I T) (hk : mOk (I 128) n) (haw : I 127 4 = -1) (hW : mW I = W) (hwk : mWk W) (hj : j < 4) (hc : c < n) (hw : 1 ≤ w ∧ w ≤ 99) (hJ : mTh I J) (hQ : ∀ K, mTh I K → Q (some (.long (Int64.ofNat (sp_wd W T (I 128) n j c w (sN W j))))) (mg_h L xs K)) : mj_Cl (d + 5) 183 [.ref 127, .int (nI j), .int (nI c), .int (nI w)] (mg_h L xs J) Q := by
  have hn8 := hk.hn.2
  refine cl_start mx_183 (ls := [.ref 127, .int (nI j), .int (nI c), .int (nI w), mj_no, mj_no, mj_no, mj_no, mj_no, mj_no]) rfl ?_
  refine me_aload_n (p' := 1) k183_0 rfl rfl ?_
  refine me_gfr (p' := 4) k183_1 rfl (by decide) rfl (b := 128) rfl ?_
  refine me_bipush (p' := 6) k183_4 rfl (v := nI 53) (by decide) ?_
  refine me_bipush (p' := 8) k183_6 rfl (v := nI 7) (by decide) ?_
  refine me_iload_n (p' := 9) k183_8 rfl rfl ?_
  refine me_imul (p' := 10) k183_9 rfl (v := nI (7 * c)) (mI_mul _ _) ?_
  refine me_iadd (p' := 11) k183_10 rfl (v := nI (53 + (7 * c))) (mI_add _ _) ?_
  refine me_iconst (p' := 12) k183_11 rfl (v := nI 2) (by decide) ?_
  refine me_iadd (p' := 13) k183_12 rfl (v := nI ((53 + (7 * c)) + 2)) (mI_add _ _) ?_
  refine me_iload_n (p' := 14) k183_13 rfl rfl ?_
  refine me_iast (p' := 15) k183_14 rfl (by decide) rfl (j := (53 + (7 * c)) + 2) rfl (by omega) (by decide) rfl ?_
  refine me_lconst (p' := 16) k183_15 rfl (v := 0) (by decide) ?_
  refine me_lstore (p' := 18) k183_16 rfl ⟨Nat.le_of_ble_eq_true rfl, rfl⟩ rfl ?_
  refine me_iconst (p' := 19) k183_18 rfl (v := nI 0) (by decide) ?_
  refine me_istore (p' := 21) k183_19 rfl ⟨Nat.le_of_ble_eq_true rfl, rfl⟩ rfl ?_
  exact lp_offBy hx hk haw hW hwk hj hc hw hJ hQ 0 (Nat.zero_le _) _ mFr.rf (by rw [mg_ui, hJ.e128]; rfl) _ _ _
theorem lp_weighed {d L : Nat} {xs : Nat → Int32} {I : Nat → Nat → Int32} {Q : Option Value → mj_H → Prop} {T : mT} {n j c wh : Nat} {W : Nat → Nat → Int32} (hx : mTx I T) (hk : mOk (I 128) n) (haw : I 127 4 = -1) (hW : mW I = W) (hwk : mWk W) (hj : j < 4) (hc : c < n) (hwh : wh < 2) (hE0 : wh = 0 → ∀ K, mTh I K → Q (some (.int (nI (1 + 5 * (sp_mn (sp_wf W T (I 128) n j c) 19).1)))) (mg_h L xs K)) (hE1 : ¬ wh = 0 → ∀ K, mTh I K → Q (some (.int (nI (sp_mn (sp_wf W T (I 128) n j c) 19).2))) (mg_h L xs K)) : ∀ k : Nat, k ≤ 19 → ∀ J, mTh I J → ∀ u8 u9 : Value, mj_Ev (d + 6) 181 59 [.ref 127, .int (nI j), .int (nI c), .int (nI wh), .int (nI (1 + 5 * (sp_mn (sp_wf W T (I 128) n j c) k).1)), .long (Int64.ofNat (sp_mn (sp_wf W T (I 128) n j c) k).2), mj_no, .int (nI (6 + 5 * k)), u8, u9] [] (mg_h L xs J) Q := by
  have hn8 := hk.hn.2
  have hsz := hwk.le hj
  have hF : ∀ q : Nat, (sp_wf W T (I 128) n j c) q ≤ 2405736 ∨ 19 < q := fun q => by
    rcases Nat.lt_or_ge 19 q with h | h
    · exact Or.inr h
    · left
      have := sp_wd_le (T := T) (w := 1 + 5 * q) hwk hk hj hc (by omega) (sN W j) (Nat.le_refl _)
      show sp_wd W T (I 128) n j c (1 + 5 * q) (sN W j) ≤ _
      omega
  have hB : ∀ k : Nat, k ≤ 19 → (sp_mn (sp_wf W T (I 128) n j c) k).2 ≤ 2405736 ∧ (sp_mn (sp_wf W T (I 128) n j c) k).1 ≤ k := by
    intro k
    induction k with
    | zero => intro _; exact ⟨by have := hF 0; show (sp_wf W T (I 128) n j c) 0 ≤ _; omega, Nat.le_refl _⟩
    | succ k ih =>
      intro hk9
      have h1 := ih (by omega)
      have h2 := hF (k + 1)
      unfold sp_mn
      split
      · exact ⟨by show (sp_wf W T (I 128) n j c) (k + 1) ≤ _; omega, Nat.le_refl _⟩
      · exact ⟨h1.1, by omega⟩
  refine loop_ind (n := 19) (fun k hkn ih => ?_)
  intro J hJ u8 u9
  have hb7 := hB k hkn
  refine me_iload (p' := 61) k181_59 rfl rfl ?_
  refine me_bipush (p' := 63) k181_61 rfl (v := nI 96) (by decide) ?_
  refine me_ic_gt (p' := 66) k181_63 rfl (fun c1 => ?_) (fun c1 => ?_)
  · skip
    rw [cI_lt (a := 96) (b := 6 + 5 * k) (by omega) (by omega)] at c1
    obtain rfl : k = 19 := by omega
    refine me_iload_n (p' := 117) k181_116 rfl rfl ?_
    refine me_if_ne (p' := 120) k181_117 rfl (fun c2 => ?_) (fun c2 => ?_)
    · skip
      rw [cI_eq0 (a := wh) (by omega)] at c2
      refine me_iload (p' := 122) k181_120 rfl rfl ?_
      refine me_goto k181_122 ?_
      refine me_reti k181_128 rt_181 rfl ?_
      exact hE0 c2 _ hJ
    · skip
      rw [cI_eq0 (a := wh) (by omega)] at c2
      refine me_lload (p' := 127) k181_125 rfl rfl ?_
      refine me_l2i (p' := 128) k181_127 rfl rfl ?_
      have hb9 := hB 19 (Nat.le_refl _)
      rw [mL_i (by omega)]
      refine me_reti k181_128 rt_181 rfl ?_
      exact hE1 c2 _ hJ
  · skip
    rw [cI_lt (a := 96) (b := 6 + 5 * k) (by omega) (by omega)] at c1
    refine me_aload_n (p' := 67) k181_66 rfl rfl ?_
    refine me_iload_n (p' := 68) k181_67 rfl rfl ?_
    refine me_iload_n (p' := 69) k181_68 rfl rfl ?_
    refine me_iload (p' := 71) k181_69 rfl rfl ?_
    refine me_cv (p' := 74) k181_71 rfl rfl (by decide) rfl (by decide) (by decide) dp_183 rfl rfl (cl_le mx_183 rfl) (by decide) (cl_sum rfl) (ct_offBy hx hk haw hW hwk hj hc (by omega) hJ (fun K380 hK381 => ?_))
    rw [show sp_wd W T (I 128) n j c (6 + 5 * k) (sN W j) = (sp_wf W T (I 128) n j c) (k + 1) from by unfold sp_wf; congr 1; omega]
    refine me_lstore (p' := 76) k181_74 rfl ⟨Nat.le_of_ble_eq_true rfl, rfl⟩ rfl ?_
    refine me_lload (p' := 78) k181_76 rfl rfl ?_
    refine me_lload (p' := 80) k181_78 rfl rfl ?_
    refine me_lcmp (p' := 81) k181_80 rfl rfl ?_
    refine me_if_ge (p' := 84) k181_81 rfl (fun c3 => ?_) (fun c3 => ?_)
    · skip
      refine me_iload (p' := 91) k181_89 rfl rfl ?_
      refine me_istore (p' := 93) k181_91 rfl ⟨Nat.le_of_ble_eq_true rfl, rfl⟩ rfl ?_
      refine me_lload (p' := 95) k181_93 rfl rfl ?_
      refine me_lload (p' := 97) k181_95 rfl rfl ?_
      refine me_lcmp (p' := 98) k181_97 rfl rfl ?_
      refine me_if_ge (p' := 101) k181_98 rfl (fun c4 => ?_) (fun c4 => ?_)
      · skip
        refine me_lload (p' := 108) k181_106 rfl rfl ?_
        refine me_lstore (p' := 110) k181_108 rfl ⟨Nat.le_of_ble_eq_true rfl, rfl⟩ rfl ?_
        refine me_iinc (p' := 113) k181_110 rfl rfl rfl (v := nI (6 + 5 * k + 5)) (mI_inc (by decide)) rfl ?_
        refine me_goto k181_113 ?_
        have hb9 := hB k hkn
        have hb8 := hF (k + 1)
        rw [lg_cmp_ge, mL_le (by omega) (by omega)] at c3
        have e9 : sp_mn (sp_wf W T (I 128) n j c) (k + 1) = sp_mn (sp_wf W T (I 128) n j c) k := by rw [sp_mn, if_neg (by omega)]
        rw [← e9]
        exact ih (by omega) _ hK381 _ _
      · skip
        refine me_lload (p' := 103) k181_101 rfl rfl ?_
        refine me_goto k181_103 ?_
        refine me_lstore (p' := 110) k181_108 rfl ⟨Nat.le_of_ble_eq_true rfl, rfl⟩ rfl ?_
        refine me_iinc (p' := 113) k181_110 rfl rfl rfl (v := nI (6 + 5 * k + 5)) (mI_inc (by decide)) rfl ?_
        refine me_goto k181_113 ?_
        exfalso
        exact absurd c3 c4
    · skip
      refine me_iload (p' := 86) k181_84 rfl rfl ?_
      refine me_goto k181_86 ?_
      refine me_istore (p' := 93) k181_91 rfl ⟨Nat.le_of_ble_eq_true rfl, rfl⟩ rfl ?_
      refine me_lload (p' := 95) k181_93 rfl rfl ?_
      refine me_lload (p' := 97) k181_95 rfl rfl ?_
      refine me_lcmp (p' := 98) k181_97 rfl rfl ?_
      refine me_if_ge (p' := 101) k181_98 rfl (fun c5 => ?_) (fun c5 => ?_)
      · skip
        refine me_lload (p' := 108) k181_106 rfl rfl ?_
        refine me_lstore (p' := 110) k181_108 rfl ⟨Nat.le_of_ble_eq_true rfl, rfl⟩ rfl ?_
        refine me_iinc (p' := 113) k181_110 rfl rfl rfl (v := nI (6 + 5 * k + 5)) (mI_inc (by decide)) rfl ?_
        refine me_goto k181_113 ?_
        exfalso
        exact absurd c5 c3
      · skip
        refine me_lload (p' := 103) k181_101 rfl rfl ?_
        refine me_goto k181_103 ?_
        refine me_lstore (p' := 110) k181_108 rfl ⟨Nat.le_of_ble_eq_true rfl, rfl⟩ rfl ?_
        refine me_iinc (p' := 113) k181_110 rfl rfl rfl (v := nI (6 + 5 * k + 5)) (mI_inc (by decide)) rfl ?_
        refine me_goto k181_113 ?_
        have hb9 := hB k hkn
        have hb8 := hF (k + 1)
        rw [lg_cmp_ge, mL_le (by omega) (by omega)] at c3
        have e9 : sp_mn (sp_wf W T (I 128) n j c) (k + 1) = (k + 1, (sp_wf W T (I 128) n j c) (k + 1)) := by rw [sp_mn, if_pos (by omega)]
        rw [show nI (6 + 5 * k) = nI (1 + 5 * (sp_mn (sp_wf W T (I 128) n j c) (k + 1)).1) from by rw [e9]; congr 1; omega, show (sp_wf W T (I 128) n j c) (k + 1) = (sp_mn (sp_wf W T (I 128) n j c) (k + 1)).2 from by rw [e9]]
        exact ih (by omega) _ hK381 _ _
theorem ct_Mweighed {d L : Nat} {xs : Nat → Int32} {I : Nat → Nat → Int32} {Q : Option Value → mj_H → Prop} {T : mT} {n : Nat} (hx : mTx I T) (hk : mOk (I 128) n) (haw : I 127 4 = -1) {W : Nat → Nat → Int32} (hW : mW I = W) (hwk : mWk W) {a car wh : Int32} (hQ : ∀ I2, mFr [131, 138, 139] I I2 → Q (some (.int (sp_weighed W T (I 128) n a car wh))) (mg_h L xs I2)) : mj_Cl (d + 6) 181 [.ref 127, .int a, .int car, .int wh] (mg_h L xs I) Q := by
  have hn8 := hk.hn.2
  refine cl_start mx_181 (ls := [.ref 127, .int a, .int car, .int wh, mj_no, mj_no, mj_no, mj_no, mj_no, mj_no]) rfl ?_
  refine me_iload_n (p' := 1) k181_0 rfl rfl ?_
  refine me_cs (p' := 4) k181_1 rfl rfl rfl rfl rfl (cl_le mx_182 rfl) (by decide) (cl_sum rfl) (ct_MisSheet (fun k382 hk383 he => ?_) (fun hz384 => ?_))
  · skip
    subst he
    refine me_if_eq (p' := 7) k181_4 rfl (fun h => absurd h (by decide)) (fun _ => ?_)
    refine me_aload_n (p' := 8) k181_7 rfl rfl ?_
    refine me_iload_n (p' := 9) k181_8 rfl rfl ?_
    refine me_cv (p' := 12) k181_9 rfl rfl (by decide) rfl (by decide) (by decide) dp_137 rfl rfl (cl_le mx_137 rfl) (by decide) (cl_sum rfl) (ct_MisCar hk.hn (fun k385 hk386 he => ?_) (fun hz387 => ?_))
    · skip
      subst he
      refine me_if_eq (p' := 15) k181_12 rfl (fun h => absurd h (by decide)) (fun _ => ?_)
      refine me_iload_n (p' := 16) k181_15 rfl rfl ?_
      refine me_iconst (p' := 17) k181_16 rfl (v := nI 0) (by decide) ?_
      refine me_iconst (p' := 18) k181_17 rfl (v := nI 1) (by decide) ?_
      refine me_cs (p' := 21) k181_18 rfl rfl rfl rfl rfl (cl_le mx_134 rfl) (by decide) (cl_sum rfl) (ct_in (fun e388 => ?_) (fun e388 => ?_))
      · skip
        obtain ⟨k389, hk390, rfl⟩ := mI_in1 (n := 1) (by omega) e388
        have hk390 : k389 < 2 := by omega
        refine me_if_ne (p' := 24) k181_21 rfl (fun h => absurd h (by decide)) (fun _ => ?_)
        refine me_aload_n (p' := 28) k181_27 rfl rfl ?_
        refine me_gfr (p' := 31) k181_28 rfl (by decide) rfl (b := 140) rfl ?_
        refine me_iload_n (p' := 32) k181_31 rfl rfl ?_
        refine me_iald (p' := 33) k181_32 rfl (by decide) rfl (j := k382) rfl (by omega) (by decide) rfl ?_
        rw [show I 140 k382 = W 0 k382 from by rw [← hW]; rfl]
        rcases hwk.so (j := k382) (by omega) with hso | hso | hso
        · skip
          rw [hso]
          refine me_if_ge (p' := 36) k181_33 rfl (fun c1 => ?_) (fun c1 => ?_)
          · skip
            exact absurd c1 (by decide)
          · skip
            refine me_ldc (p' := 38) k181_36 rfl (v := (-1000000011)) (by decide) ?_
            refine me_reti k181_38 rt_181 rfl ?_
            simp only [sp_weighed, sp_rg_s hk383 (by omega), sp_rg_s hk386 (by omega), sp_rg_s (m := 2) hk390 (by omega), hso, (show (-1 : Int32) < 0 by decide), c1, if_true, if_false, true_and, and_true, and_self] at hQ
            exact hQ _ mFr.rf
        · skip
          rw [hso]
          refine me_if_ge (p' := 36) k181_33 rfl (fun _ => ?_) (fun h => absurd (by decide) h)
          refine me_aload_n (p' := 40) k181_39 rfl rfl ?_
          refine me_cv (p' := 43) k181_40 rfl rfl (by decide) rfl (by decide) (by decide) dp_171 rfl rfl (cl_le mx_171 rfl) (by decide) (cl_sum rfl) (ct_thinks ?_)
          generalize hJe : mw I 131 (fun j => if j < 109 then I 128 j else I 131 j) = J
          have hJ : mTh I J := by rw [← hJe]; exact mTh.thinks
          refine me_iconst (p' := 44) k181_43 rfl (v := nI 1) (by decide) ?_
          refine me_istore (p' := 46) k181_44 rfl ⟨Nat.le_of_ble_eq_true rfl, rfl⟩ rfl ?_
          refine me_aload_n (p' := 47) k181_46 rfl rfl ?_
          refine me_iload_n (p' := 48) k181_47 rfl rfl ?_
          refine me_iload_n (p' := 49) k181_48 rfl rfl ?_
          refine me_iconst (p' := 50) k181_49 rfl (v := nI 1) (by decide) ?_
          refine me_cv (p' := 53) k181_50 rfl rfl (by decide) rfl (by decide) (by decide) dp_183 rfl rfl (cl_le mx_183 rfl) (by decide) (cl_sum rfl) (ct_offBy hx hk haw hW hwk (by omega) (by omega) (by omega) hJ (fun K0 hK0 => ?_))
          show mj_Ev _ _ _ _ (.long (Int64.ofNat (sp_mn (sp_wf W T (I 128) n k382 k385) 0).2) :: _) _ _
          refine me_lstore (p' := 55) k181_53 rfl ⟨Nat.le_of_ble_eq_true rfl, rfl⟩ rfl ?_
          refine me_bipush (p' := 57) k181_55 rfl (v := nI 6) (by decide) ?_
          refine me_istore (p' := 59) k181_57 rfl ⟨Nat.le_of_ble_eq_true rfl, rfl⟩ rfl ?_
          simp only [sp_weighed, sp_rg_s hk383 (by omega), sp_rg_s hk386 (by omega), sp_rg_s (m := 2) hk390 (by omega), hso, (show ¬ (nI 0 : Int32) < 0 by decide), if_true, if_false, true_and, and_true, and_self] at hQ
          refine lp_weighed (j := k382) (c := k385) hx hk haw hW hwk (by omega) (by omega) (by omega) (fun e K hK => ?_) (fun e K hK => ?_) 0 (Nat.zero_le _) _ hK0 _ _
          · simp only [e, if_true] at hQ
            exact hQ _ hK.1
          · simp only [e, if_false] at hQ
            exact hQ _ hK.1
        · skip
          rw [hso]
          refine me_if_ge (p' := 36) k181_33 rfl (fun _ => ?_) (fun h => absurd (by decide) h)
          refine me_aload_n (p' := 40) k181_39 rfl rfl ?_
          refine me_cv (p' := 43) k181_40 rfl rfl (by decide) rfl (by decide) (by decide) dp_171 rfl rfl (cl_le mx_171 rfl) (by decide) (cl_sum rfl) (ct_thinks ?_)
          generalize hJe : mw I 131 (fun j => if j < 109 then I 128 j else I 131 j) = J
          have hJ : mTh I J := by rw [← hJe]; exact mTh.thinks
          refine me_iconst (p' := 44) k181_43 rfl (v := nI 1) (by decide) ?_
          refine me_istore (p' := 46) k181_44 rfl ⟨Nat.le_of_ble_eq_true rfl, rfl⟩ rfl ?_
          refine me_aload_n (p' := 47) k181_46 rfl rfl ?_
          refine me_iload_n (p' := 48) k181_47 rfl rfl ?_
          refine me_iload_n (p' := 49) k181_48 rfl rfl ?_
          refine me_iconst (p' := 50) k181_49 rfl (v := nI 1) (by decide) ?_
          refine me_cv (p' := 53) k181_50 rfl rfl (by decide) rfl (by decide) (by decide) dp_183 rfl rfl (cl_le mx_183 rfl) (by decide) (cl_sum rfl) (ct_offBy hx hk haw hW hwk (by omega) (by omega) (by omega) hJ (fun K0 hK0 => ?_))
          show mj_Ev _ _ _ _ (.long (Int64.ofNat (sp_mn (sp_wf W T (I 128) n k382 k385) 0).2) :: _) _ _
          refine me_lstore (p' := 55) k181_53 rfl ⟨Nat.le_of_ble_eq_true rfl, rfl⟩ rfl ?_
          refine me_bipush (p' := 57) k181_55 rfl (v := nI 6) (by decide) ?_
          refine me_istore (p' := 59) k181_57 rfl ⟨Nat.le_of_ble_eq_true rfl, rfl⟩ rfl ?_
          simp only [sp_weighed, sp_rg_s hk383 (by omega), sp_rg_s hk386 (by omega), sp_rg_s (m := 2) hk390 (by omega), hso, (show ¬ (nI 1 : Int32) < 0 by decide), (show ¬ nI 1 = nI 0 by decide), if_true, if_false, true_and, and_true, and_self] at hQ
          refine lp_weighed (j := k382) (c := k385) hx hk haw hW hwk (by omega) (by omega) (by omega) (fun e K hK => ?_) (fun e K hK => ?_) 0 (Nat.zero_le _) _ hK0 _ _
          · simp only [e, if_true] at hQ
            exact hQ _ hK.1
          · simp only [e, if_false] at hQ
            exact hQ _ hK.1
      · skip
        have hz391 : ∀ k : Nat, k < 2 → wh ≠ nI k := fun k hk => mI_in0 (n := 1) (by omega) e388 (by omega)
        refine me_if_ne (p' := 24) k181_21 rfl (fun _ => ?_) (fun h => absurd (by decide) h)
        refine me_ldc (p' := 26) k181_24 rfl (v := (-1000000001)) (by decide) ?_
        refine me_reti k181_26 rt_181 rfl ?_
        simp only [sp_weighed, sp_rg_s hk383 (by omega), sp_rg_s hk386 (by omega), sp_rg_n (m := 2) (by omega) hz391, if_true, if_false, true_and, and_true, and_self] at hQ
        exact hQ _ mFr.rf
    · skip
      refine me_if_eq (p' := 15) k181_12 rfl (fun _ => ?_) (fun h => absurd (by decide) h)
      refine me_ldc (p' := 26) k181_24 rfl (v := (-1000000001)) (by decide) ?_
      refine me_reti k181_26 rt_181 rfl ?_
      simp only [sp_weighed, sp_rg_s hk383 (by omega), sp_rg_n (by omega) hz387, if_true, if_false, true_and, and_true, and_self] at hQ
      exact hQ _ mFr.rf
  · skip
    refine me_if_eq (p' := 7) k181_4 rfl (fun _ => ?_) (fun h => absurd (by decide) h)
    refine me_ldc (p' := 26) k181_24 rfl (v := (-1000000001)) (by decide) ?_
    refine me_reti k181_26 rt_181 rfl ?_
    simp only [sp_weighed, sp_rg_n (by omega) hz384, if_true, if_false, true_and, and_true, and_self] at hQ
    exact hQ _ mFr.rf
