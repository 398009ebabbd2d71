/-! ===== the class: what will be ===== -/
/-- it is thought: the ring 26 stands at s, all else as at I -/
def cAt (T : mT) (I J : Nat → Nat → Int32) (s : Nat → Int32) : Prop := mFr (mRc 26 ++ mSk) I J ∧ mSg 26 128 J = s ∧ cCg J 26 T
theorem cAt.fr {T : mT} {I J : Nat → Nat → Int32} {s : Nat → Int32} (h : cAt T I J s) : mFr (mRc 26 ++ mSk) I J := h.1
theorem cAt.sg {T : mT} {I J : Nat → Nat → Int32} {s : Nat → Int32} (h : cAt T I J s) : mSg 26 128 J = s := h.2.1
theorem cAt.cg {T : mT} {I J : Nat → Nat → Int32} {s : Nat → Int32} (h : cAt T I J s) : cCg J 26 T := h.2.2
theorem cTx.th {I J : Nat → Nat → Int32} {T : mT} (hx : cTx I T) (h : mFr (mRc 26 ++ mSk) I J) : cTx J T := hx.fr h (by decide)
theorem th_s11 {I J : Nat → Nat → Int32} (h : mFr (mRc 26 ++ mSk) I J) : mSg 11 128 J = mSg 11 128 I := sg_fr h (by decide)
theorem th_cg {I J : Nat → Nat → Int32} {T : mT} (hcg : cCg I 11 T) (h : mFr (mRc 26 ++ mSk) I J) : cCg J 11 T := hcg.fr h (by decide)
theorem cAt.w {T : mT} {I J K : Nat → Nat → Int32} {s s' : Nat → Int32} (h : cAt T I J s) (h1 : mFr (mRg 26 ++ mSk) J K) (h2 : mSg 26 128 K = s') : cAt T I K s' := ⟨h.1.tr (h1.sub (by decide)), h2, h.2.2.fr h1 (by decide)⟩
theorem cAt.uB {T : mT} {I J : Nat → Nat → Int32} {s : Nat → Int32} {p : Nat} {v : Int32} (h : cAt T I J s) (hp : p < 12) : cAt T I (mg_u J 29 p v) (up s (17 + p) v) := h.w (mFr.up (by decide)) (by rw [sgU26p1 hp, h.sg])
theorem cAt.uK {T : mT} {I J : Nat → Nat → Int32} {s : Nat → Int32} {c : Nat} {v : Int32} (h : cAt T I J s) (hc : c < 8) : cAt T I (mg_u J 33 c v) (up s (53 + (7 * c)) v) := h.w (mFr.up (by decide)) (by rw [sgU26c0 hc, h.sg]; rfl)
theorem cAt.uW {T : mT} {I J : Nat → Nat → Int32} {s : Nat → Int32} {c : Nat} {v : Int32} (h : cAt T I J s) (hc : c < 8) : cAt T I (mg_u J 35 c v) (up s (53 + (7 * c) + 2) v) := h.w (mFr.up (by decide)) (by rw [sgU26c2 hc, h.sg])
theorem cAt.uG {T : mT} {I J : Nat → Nat → Int32} {s : Nat → Int32} {v : Int32} (h : cAt T I J s) : cAt T I (mg_u J 26 6 v) (up s 3 v) := h.w (mFr.up (by decide)) (by rw [sgU26f3, h.sg])
theorem ct_bec {d L : Nat} {xs : Nat → Int32} {I J : Nat → Nat → Int32} {Q : Option Value → mj_H → Prop} {T : mT} (h : mFr (mRc 26 ++ mSk) I J) (hcg : cCg I 11 T) (hQ : ∀ K, cAt T I K (mSg 11 128 I) → Q none (mg_h L xs K)) : mj_Cl d 70 [.ref 26, .ref 11] (mg_h L xs J) Q := by
  refine ct_become26_11 (b := 128) (b' := 128) fun K h1 h2 h3 => hQ K ⟨h.tr (h1.sub (by decide)), ?_, fun k hk => ?_⟩
  · rw [← th_s11 h]
    funext k
    rcases Nat.lt_or_ge k 109 with e | e
    · exact h2 k e
    · rw [sg_far e, sg_far e]
      exact h1 128 k (by decide)
  · exact (h3 k hk).trans ((th_cg hcg h) k hk)
theorem ct_pass {d L : Nat} {xs : Nat → Int32} {I J : Nat → Nat → Int32} {Q : Option Value → mj_H → Prop} {T : mT} {s : Nat → Int32} {n m : Nat} (h : cAt T I J s) (hx : cTx I T) (hk : mOk s n) (hm : m < 100000) (hQ : ∀ K, cAt T I K (sp_secs T s (-1) n m) → Q none (mg_h L xs K)) : mj_Cl (d + 4) 63 [.ref 26, .int (nI m)] (mg_h L xs J) Q :=
  ct_passSeconds26 hm (hx.th h.fr) h.cg (by rw [h.sg]; exact hk) fun K h1 h2 => hQ K (h.w h1 (by rw [h2, h.sg]))
theorem ct_tot {d L : Nat} {xs : Nat → Int32} {I J : Nat → Nat → Int32} {Q : Option Value → mj_H → Prop} {T : mT} {s : Nat → Int32} {n w : Nat} (h : cAt T I J s) (hk : mOk s n) (hw : w < 7) (hQ : Q (some (.int (sp_sum s (-1) w n))) (mg_h L xs J)) : mj_Cl d 62 [.ref 26, .int (nI w)] (mg_h L xs J) Q :=
  ct_totalOf26 (by rw [h.sg]; exact hk) hw (by rw [h.sg]; exact hQ)
theorem ct_tot11 {d L : Nat} {xs : Nat → Int32} {I J : Nat → Nat → Int32} {Q : Option Value → mj_H → Prop} {T : mT} {n w : Nat} (h : mFr (mRc 26 ++ mSk) I J) (hk : mOk (mSg 11 128 I) n) (hw : w < 7) (hQ : Q (some (.int (sp_sum (mSg 11 128 I) (-1) w n))) (mg_h L xs J)) : mj_Cl d 62 [.ref 11, .int (nI w)] (mg_h L xs J) Q :=
  ct_totalOf11 (by rw [th_s11 h]; exact hk) hw (by rw [th_s11 h]; exact hQ)
theorem ct_CisCarJ {d L : Nat} {xs : Nat → Int32} {I J : Nat → Nat → Int32} {Q : Option Value → mj_H → Prop} {T : mT} {n : Nat} (h : mFr (mRc 26 ++ mSk) I J) (hk : mOk (mSg 11 128 I) n) {v : Int32} (h1 : ∀ k : Nat, k < n → v = nI k → Q (some (.int (nI 1))) (mg_h L xs J)) (h0 : (∀ k : Nat, k < n → v ≠ nI k) → Q (some (.int (nI 0))) (mg_h L xs J)) : mj_Cl d 19 [.ref 0, .int v] (mg_h L xs J) Q :=
  ct_CisCar (by rw [th_s11 h]; exact hk) h1 h0
theorem ct_thought {d L : Nat} {xs : Nat → Int32} {I J : Nat → Nat → Int32} {Q : Option Value → mj_H → Prop} {T : mT} {s : Nat → Int32} {n m : Nat} (hJ : cAt T I J s) (hx : cTx I T) (hk : mOk s n) (hm : m < 100000) (hQ : ∀ K, cAt T I K (sp_secs T s (-1) n m) → Q (some (.int (sp_scm T s (-1) n m))) (mg_h L xs K)) : mj_Cl (d + 5) 74 [.ref 0, .int (nI m)] (mg_h L xs J) Q := by
  refine cl_start mx_74 (ls := [.ref 0, .int (nI m)]) rfl ?_
  refine me_aload_n (p' := 1) k74_0 rfl rfl ?_
  refine me_gfr (p' := 4) k74_1 rfl (by decide) rfl (b := 26) rfl ?_
  refine me_iload_n (p' := 5) k74_4 rfl rfl ?_
  refine me_cv (p' := 8) k74_5 rfl rfl (by decide) rfl (by decide) (by decide) dp_63 rfl rfl (cl_le mx_63 rfl) (by decide) (cl_sum rfl) (ct_pass hJ hx hk hm (fun K hK => ?_))
  refine me_aload_n (p' := 9) k74_8 rfl rfl ?_
  refine me_gfr (p' := 12) k74_9 rfl (by decide) rfl (b := 26) rfl ?_
  refine me_iconst (p' := 13) k74_12 rfl (v := nI 3) (by decide) ?_
  refine me_cv (p' := 16) k74_13 rfl rfl (by decide) rfl (by decide) (by decide) dp_62 rfl rfl (cl_le mx_62 rfl) (by decide) (cl_sum rfl) (ct_tot hK (hk.secs _) (by decide) ?_)
  show mj_Ev _ _ _ _ (.int (sp_scm T s (-1) n m) :: _) _ _
  refine me_reti k74_16 rt_74 rfl ?_
  exact hQ _ hK
theorem ct_Ckiss {d L : Nat} {xs : Nat → Int32} {I : Nat → Nat → Int32} {Q : Option Value → mj_H → Prop} {T : mT} {n : Nat} (hx : cTx I T) (hcg : cCg I 11 T) (hk : mOk (mSg 11 128 I) n) {pt v : Int32} (hQ : ∀ I2, mFr (mRc 26 ++ mSk) I I2 → Q (some (.int (sp_kiss T (mSg 11 128 I) n pt v))) (mg_h L xs I2)) : mj_Cl (d + 6) 80 [.ref 0, .int pt, .int v] (mg_h L xs I) Q := by
  have hn8 := hk.hn.2
  refine cl_start mx_80 (ls := [.ref 0, .int pt, .int v, mj_no]) rfl ?_
  refine me_iload_n (p' := 1) k80_0 rfl rfl ?_
  refine me_cs (p' := 4) k80_1 rfl rfl rfl rfl rfl (cl_le mx_45 rfl) (by decide) (cl_sum rfl) (ct_CisPart (fun k242 hk243 he => ?_) (fun hz244 => ?_))
  · skip
    subst he
    refine me_if_eq (p' := 7) k80_4 rfl (fun h => absurd h (by decide)) (fun _ => ?_)
    refine me_iload_n (p' := 8) k80_7 rfl rfl ?_
    refine me_cs (p' := 11) k80_8 rfl rfl rfl rfl rfl (cl_le mx_73 rfl) (by decide) (cl_sum rfl) (ct_isFar (fun e245 => ?_) (fun e245 => ?_))
    · skip
      refine me_if_ne (p' := 14) k80_11 rfl (fun h => absurd h (by decide)) (fun _ => ?_)
      obtain ⟨m, rfl, hm⟩ : ∃ m : Nat, v = nI m ∧ m ≤ 100 ∧ 1 ≤ m := by
        obtain ⟨m, rfl, hm⟩ := mI_of (Int32.le_trans (nI_pos' (show 1 < 2 ^ 31 by omega)) e245.1)
        exact ⟨m, rfl, (cI_le hm (by decide)).mp e245.2, (cI_le (by decide) hm).mp e245.1⟩
      refine me_aload_n (p' := 18) k80_17 rfl rfl ?_
      refine me_gfr (p' := 21) k80_18 rfl (by decide) rfl (b := 26) rfl ?_
      refine me_aload_n (p' := 22) k80_21 rfl rfl ?_
      refine me_gfr (p' := 25) k80_22 rfl (by decide) rfl (b := 11) rfl ?_
      refine me_cv (p' := 28) k80_25 rfl rfl (by decide) rfl (by decide) (by decide) dp_70 rfl rfl (cl_le mx_70 rfl) (by decide) (cl_sum rfl) (ct_bec mFr.rf hcg (fun K246 hK247 => ?_))
      refine me_aload_n (p' := 29) k80_28 rfl rfl ?_
      refine me_iload_n (p' := 30) k80_29 rfl rfl ?_
      refine me_cv (p' := 33) k80_30 rfl rfl (by decide) rfl (by decide) (by decide) dp_74 rfl rfl (cl_le mx_74 rfl) (by decide) (cl_sum rfl) (ct_thought hK247 hx hk (by omega) (fun K248 hK249 => ?_))
      refine me_istore_n (p' := 34) k80_33 rfl ⟨Nat.le_of_ble_eq_true rfl, rfl⟩ rfl ?_
      refine me_aload_n (p' := 35) k80_34 rfl rfl ?_
      refine me_gfr (p' := 38) k80_35 rfl (by decide) rfl (b := 26) rfl ?_
      refine me_aload_n (p' := 39) k80_38 rfl rfl ?_
      refine me_gfr (p' := 42) k80_39 rfl (by decide) rfl (b := 11) rfl ?_
      refine me_cv (p' := 45) k80_42 rfl rfl (by decide) rfl (by decide) (by decide) dp_70 rfl rfl (cl_le mx_70 rfl) (by decide) (cl_sum rfl) (ct_bec hK249.fr hcg (fun K250 hK251 => ?_))
      refine me_aload_n (p' := 46) k80_45 rfl rfl ?_
      refine me_gfr (p' := 49) k80_46 rfl (by decide) rfl (b := 26) rfl ?_
      refine me_gfr (p' := 52) k80_49 rfl (by decide) rfl (b := 27) rfl ?_
      refine me_iconst (p' := 53) k80_52 rfl (v := nI 1) (by decide) ?_
      refine me_aald (p' := 54) k80_53 rfl (by decide) rfl ⟨by decide, by decide⟩ (j := 1) rfl (by omega) (by decide) (b := 29) rfl ?_
      refine me_iload_n (p' := 55) k80_54 rfl rfl ?_
      refine me_bipush (p' := 57) k80_55 rfl (v := nI 9) (by decide) ?_
      refine me_iast (p' := 58) k80_57 rfl (by decide) rfl (j := k242) rfl (by omega) (by decide) rfl ?_
      have hK253 : cAt T I (mg_u K250 29 k242 (nI 9)) (up (mSg 11 128 I) (17 + k242) (nI 9)) := hK251.uB (by omega)
      generalize hgeK252 : (mg_u K250 29 k242 (nI 9)) = K252 at *
      refine me_iload_n (p' := 59) k80_58 rfl rfl ?_
      refine me_aload_n (p' := 60) k80_59 rfl rfl ?_
      refine me_iload_n (p' := 61) k80_60 rfl rfl ?_
      refine me_cv (p' := 64) k80_61 rfl rfl (by decide) rfl (by decide) (by decide) dp_74 rfl rfl (cl_le mx_74 rfl) (by decide) (cl_sum rfl) (ct_thought hK253 hx (mOk.upX (k := 17 + k242) (v := (nI 9)) hk (by omega) (by omega) (by omega)) (by omega) (fun K254 hK255 => ?_))
      refine me_isub (p' := 65) k80_64 rfl rfl ?_
      refine me_reti k80_65 rt_80 rfl ?_
      simp only [sp_kiss, sp_rg_s hk243 (by omega), if_pos e245, nI_clamp (show m < 2 ^ 31 by omega), if_true, if_false] at hQ
      exact hQ _ hK255.fr
    · skip
      refine me_if_ne (p' := 14) k80_11 rfl (fun _ => ?_) (fun h => absurd (by decide) h)
      refine me_ldc (p' := 16) k80_14 rfl (v := (-1000000001)) (by decide) ?_
      refine me_reti k80_16 rt_80 rfl ?_
      simp only [sp_kiss, sp_rg_s hk243 (by omega), if_neg e245, if_true, if_false] at hQ
      exact hQ _ mFr.rf
  · skip
    refine me_if_eq (p' := 7) k80_4 rfl (fun _ => ?_) (fun h => absurd (by decide) h)
    refine me_ldc (p' := 16) k80_14 rfl (v := (-1000000001)) (by decide) ?_
    refine me_reti k80_16 rt_80 rfl ?_
    simp only [sp_kiss, sp_rg_n (by omega) hz244, if_true, if_false] at hQ
    exact hQ _ mFr.rf
theorem ct_Cmoved {d L : Nat} {xs : Nat → Int32} {I : Nat → Nat → Int32} {Q : Option Value → mj_H → Prop} {T : mT} {n : Nat} (hx : cTx I T) (hcg : cCg I 11 T) (hk : mOk (mSg 11 128 I) n) {pt ot v : Int32} (hQ : ∀ I2, mFr (mRc 26 ++ mSk) I I2 → Q (some (.int (sp_moved T (mSg 11 128 I) n pt ot v))) (mg_h L xs I2)) : mj_Cl (d + 6) 75 [.ref 0, .int pt, .int ot, .int v] (mg_h L xs I) Q := by
  have hn8 := hk.hn.2
  refine cl_start mx_75 (ls := [.ref 0, .int pt, .int ot, .int v, mj_no]) rfl ?_
  refine me_iload_n (p' := 1) k75_0 rfl rfl ?_
  refine me_cs (p' := 4) k75_1 rfl rfl rfl rfl rfl (cl_le mx_45 rfl) (by decide) (cl_sum rfl) (ct_CisPart (fun k256 hk257 he => ?_) (fun hz258 => ?_))
  · skip
    subst he
    refine me_if_eq (p' := 7) k75_4 rfl (fun h => absurd h (by decide)) (fun _ => ?_)
    refine me_iload_n (p' := 8) k75_7 rfl rfl ?_
    refine me_cs (p' := 11) k75_8 rfl rfl rfl rfl rfl (cl_le mx_45 rfl) (by decide) (cl_sum rfl) (ct_CisPart (fun k259 hk260 he => ?_) (fun hz261 => ?_))
    · skip
      subst he
      refine me_if_eq (p' := 14) k75_11 rfl (fun h => absurd h (by decide)) (fun _ => ?_)
      refine me_iload_n (p' := 15) k75_14 rfl rfl ?_
      refine me_iload_n (p' := 16) k75_15 rfl rfl ?_
      rcases Nat.decEq k256 k259 with e16 | e16
      · skip
        refine me_ic_eq (p' := 19) k75_16 rfl (fun c1 => ?_) (fun c1 => ?_)
        · skip
          rw [cI_eq (a := k256) (b := k259) (by omega) (by omega)] at c1
          exact absurd c1 e16
        · skip
          rw [cI_eq (a := k256) (b := k259) (by omega) (by omega)] at c1
          refine me_iload_n (p' := 20) k75_19 rfl rfl ?_
          refine me_cs (p' := 23) k75_20 rfl rfl rfl rfl rfl (cl_le mx_73 rfl) (by decide) (cl_sum rfl) (ct_isFar (fun e262 => ?_) (fun e262 => ?_))
          · skip
            refine me_if_ne (p' := 26) k75_23 rfl (fun h => absurd h (by decide)) (fun _ => ?_)
            obtain ⟨m, rfl, hm⟩ : ∃ m : Nat, v = nI m ∧ m ≤ 100 ∧ 1 ≤ m := by
              obtain ⟨m, rfl, hm⟩ := mI_of (Int32.le_trans (nI_pos' (show 1 < 2 ^ 31 by omega)) e262.1)
              exact ⟨m, rfl, (cI_le hm (by decide)).mp e262.2, (cI_le (by decide) hm).mp e262.1⟩
            refine me_aload_n (p' := 30) k75_29 rfl rfl ?_
            refine me_gfr (p' := 33) k75_30 rfl (by decide) rfl (b := 26) rfl ?_
            refine me_aload_n (p' := 34) k75_33 rfl rfl ?_
            refine me_gfr (p' := 37) k75_34 rfl (by decide) rfl (b := 11) rfl ?_
            refine me_cv (p' := 40) k75_37 rfl rfl (by decide) rfl (by decide) (by decide) dp_70 rfl rfl (cl_le mx_70 rfl) (by decide) (cl_sum rfl) (ct_bec mFr.rf hcg (fun K263 hK264 => ?_))
            refine me_aload_n (p' := 41) k75_40 rfl rfl ?_
            refine me_iload_n (p' := 42) k75_41 rfl rfl ?_
            refine me_cv (p' := 45) k75_42 rfl rfl (by decide) rfl (by decide) (by decide) dp_74 rfl rfl (cl_le mx_74 rfl) (by decide) (cl_sum rfl) (ct_thought hK264 hx hk (by omega) (fun K265 hK266 => ?_))
            refine me_istore (p' := 47) k75_45 rfl ⟨Nat.le_of_ble_eq_true rfl, rfl⟩ rfl ?_
            refine me_aload_n (p' := 48) k75_47 rfl rfl ?_
            refine me_gfr (p' := 51) k75_48 rfl (by decide) rfl (b := 26) rfl ?_
            refine me_aload_n (p' := 52) k75_51 rfl rfl ?_
            refine me_gfr (p' := 55) k75_52 rfl (by decide) rfl (b := 11) rfl ?_
            refine me_cv (p' := 58) k75_55 rfl rfl (by decide) rfl (by decide) (by decide) dp_70 rfl rfl (cl_le mx_70 rfl) (by decide) (cl_sum rfl) (ct_bec hK266.fr hcg (fun K267 hK268 => ?_))
            refine me_aload_n (p' := 59) k75_58 rfl rfl ?_
            refine me_gfr (p' := 62) k75_59 rfl (by decide) rfl (b := 26) rfl ?_
            refine me_iload_n (p' := 63) k75_62 rfl rfl ?_
            refine me_iload_n (p' := 64) k75_63 rfl rfl ?_
            refine me_cv (p' := 67) k75_64 rfl rfl (by decide) rfl (by decide) (by decide) dp_76 rfl rfl (cl_le mx_76 rfl) (by decide) (cl_sum rfl) (ct_changeScares (by omega) (by omega) (fun K269 h8a h8b => ?_))
            have hK270 : cAt T I K269 (sp_swap (mSg 11 128 I) k256 k259) := hK268.w (h8a.sub (by decide)) (by rw [h8b, hK268.sg])
            refine me_aload_n (p' := 68) k75_67 rfl rfl ?_
            refine me_iload_n (p' := 69) k75_68 rfl rfl ?_
            refine me_cv (p' := 72) k75_69 rfl rfl (by decide) rfl (by decide) (by decide) dp_74 rfl rfl (cl_le mx_74 rfl) (by decide) (cl_sum rfl) (ct_thought hK270 hx (mOk.swap (p := k256) (o := k259) hk (by omega) (by omega)) (by omega) (fun K271 hK272 => ?_))
            refine me_iload (p' := 74) k75_72 rfl rfl ?_
            refine me_isub (p' := 75) k75_74 rfl rfl ?_
            refine me_reti k75_75 rt_75 rfl ?_
            simp only [sp_moved, sp_rg_s hk257 (by omega), sp_rg_s hk260 (by omega), if_neg e16, if_pos e262, nI_clamp (show m < 2 ^ 31 by omega), if_true, if_false] at hQ
            exact hQ _ hK272.fr
          · skip
            refine me_if_ne (p' := 26) k75_23 rfl (fun _ => ?_) (fun h => absurd (by decide) h)
            refine me_ldc (p' := 28) k75_26 rfl (v := (-1000000001)) (by decide) ?_
            refine me_reti k75_28 rt_75 rfl ?_
            simp only [sp_moved, sp_rg_s hk257 (by omega), sp_rg_s hk260 (by omega), if_neg e16, if_neg e262, if_true, if_false] at hQ
            exact hQ _ mFr.rf
      · skip
        refine me_ic_eq (p' := 19) k75_16 rfl (fun c2 => ?_) (fun c2 => ?_)
        · skip
          rw [cI_eq (a := k256) (b := k259) (by omega) (by omega)] at c2
          refine me_ldc (p' := 28) k75_26 rfl (v := (-1000000001)) (by decide) ?_
          refine me_reti k75_28 rt_75 rfl ?_
          simp only [sp_moved, sp_rg_s hk257 (by omega), sp_rg_s hk260 (by omega), if_pos e16, if_true, if_false] at hQ
          exact hQ _ mFr.rf
        · skip
          rw [cI_eq (a := k256) (b := k259) (by omega) (by omega)] at c2
          exact absurd e16 c2
    · skip
      refine me_if_eq (p' := 14) k75_11 rfl (fun _ => ?_) (fun h => absurd (by decide) h)
      refine me_ldc (p' := 28) k75_26 rfl (v := (-1000000001)) (by decide) ?_
      refine me_reti k75_28 rt_75 rfl ?_
      simp only [sp_moved, sp_rg_s hk257 (by omega), sp_rg_n (by omega) hz261, if_true, if_false] at hQ
      exact hQ _ mFr.rf
  · skip
    refine me_if_eq (p' := 7) k75_4 rfl (fun _ => ?_) (fun h => absurd (by decide) h)
    refine me_ldc (p' := 28) k75_26 rfl (v := (-1000000001)) (by decide) ?_
    refine me_reti k75_28 rt_75 rfl ?_
    simp only [sp_moved, sp_rg_n (by omega) hz258, if_true, if_false] at hQ
    exact hQ _ mFr.rf
def sp_c1 (f : Nat → Int32) : Nat → Int32
  | 0 => (-1000000005)
  | k + 1 => nI (sp_bst f k).1
theorem sp_c_none {f : Nat → Int32} {k : Nat} (hk : k < 1000) : sp_c1 f k = (-1000000005) ↔ k = 0 := by
  cases k with
  | zero => exact ⟨fun _ => rfl, fun _ => rfl⟩
  | succ k =>
    have := sp_bst_le f k
    refine ⟨fun z => ?_, fun z => by omega⟩
    have h : ¬ nI (sp_bst f k).1 < 0 := nI_pos (by omega)
    rw [show nI (sp_bst f k).1 = (-1000000005) from z] at h
    exact absurd (by decide) h
theorem sp_c_hit {z : Int32} {f : Nat → Int32} {k : Nat} (hk : k < 1000) (h : sp_c1 f k = (-1000000005) ∨ sp_b2 z f k < f k) : nI k = sp_c1 f (k + 1) ∧ f k = sp_b2 z f (k + 1) := by
  have := sp_b_hit (z := z) (f := f) hk (h.imp (fun e => (sp_b_neg hk).mpr ((sp_c_none hk).mp e)) id)
  exact ⟨this.1, this.2⟩
theorem sp_c_miss {z : Int32} {f : Nat → Int32} {k : Nat} (hk : k < 1000) (h1 : ¬ sp_c1 f k = (-1000000005)) (h2 : ¬ sp_b2 z f k < f k) : sp_c1 f k = sp_c1 f (k + 1) ∧ sp_b2 z f k = sp_b2 z f (k + 1) := by
  have h0 : k ≠ 0 := fun e => h1 ((sp_c_none hk).mpr e)
  have := sp_b_miss (z := z) (f := f) hk (fun e => h0 ((sp_b_neg hk).mp e)) h2
  cases k with
  | zero => exact absurd rfl h0
  | succ k => exact this
theorem lp_Cbrake {d L : Nat} {xs : Nat → Int32} {I : Nat → Nat → Int32} {Q : Option Value → mj_H → Prop} {T : mT} {n p m wh : Nat} (hp : p < 12) (hm : m ≤ 100) (hwh : wh < 2) (hx : cTx I T) (hcg : cCg I 11 T) (hk : mOk (mSg 11 128 I) n) (hE0 : wh = 0 → ∀ J, mFr (mRc 26 ++ mSk) I J → Q (some (.int (sp_c1 (sp_brk T (mSg 11 128 I) n p m) 10))) (mg_h L xs J)) (hE1 : ¬ wh = 0 → ∀ J, mFr (mRc 26 ++ mSk) I J → Q (some (.int (sp_b2 (nI 0) (sp_brk T (mSg 11 128 I) n p m) 10))) (mg_h L xs J)) : ∀ k : Nat, k ≤ 10 → ∀ J, mFr (mRc 26 ++ mSk) I J → ∀ u7 : Value, mj_Ev (d + 6) 72 36 [.ref 0, .int (nI p), .int (nI m), .int (nI wh), .int (sp_c1 (sp_brk T (mSg 11 128 I) n p m) k), .int (sp_b2 (nI 0) (sp_brk T (mSg 11 128 I) n p m) k), .int (nI k), u7] [] (mg_h L xs J) Q := by
  have hn8 := hk.hn.2
  refine loop_ind (n := 10) (fun k hkn ih => ?_)
  intro J hJ0 u7
  refine me_iload (p' := 38) k72_36 rfl rfl ?_
  refine me_bipush (p' := 40) k72_38 rfl (v := nI 9) (by decide) ?_
  refine me_ic_gt (p' := 43) k72_40 rfl (fun c1 => ?_) (fun c1 => ?_)
  · skip
    rw [cI_lt (a := 9) (b := k) (by omega) (by omega)] at c1
    refine me_iload_n (p' := 112) k72_111 rfl rfl ?_
    refine me_if_ne (p' := 115) k72_112 rfl (fun c2 => ?_) (fun c2 => ?_)
    · skip
      rw [cI_eq0 (a := wh) (by omega)] at c2
      refine me_iload (p' := 117) k72_115 rfl rfl ?_
      refine me_goto k72_117 ?_
      refine me_reti k72_122 rt_72 rfl ?_
      have e8 : k = 10 := by omega
      subst e8
      exact hE0 c2 J hJ0
    · skip
      rw [cI_eq0 (a := wh) (by omega)] at c2
      refine me_iload (p' := 122) k72_120 rfl rfl ?_
      refine me_reti k72_122 rt_72 rfl ?_
      have e8 : k = 10 := by omega
      subst e8
      exact hE1 c2 J hJ0
  · skip
    rw [cI_lt (a := 9) (b := k) (by omega) (by omega)] at c1
    refine me_aload_n (p' := 44) k72_43 rfl rfl ?_
    refine me_gfr (p' := 47) k72_44 rfl (by decide) rfl (b := 26) rfl ?_
    refine me_aload_n (p' := 48) k72_47 rfl rfl ?_
    refine me_gfr (p' := 51) k72_48 rfl (by decide) rfl (b := 11) rfl ?_
    refine me_cv (p' := 54) k72_51 rfl rfl (by decide) rfl (by decide) (by decide) dp_70 rfl rfl (cl_le mx_70 rfl) (by decide) (cl_sum rfl) (ct_bec hJ0 hcg (fun K273 hK274 => ?_))
    refine me_aload_n (p' := 55) k72_54 rfl rfl ?_
    refine me_gfr (p' := 58) k72_55 rfl (by decide) rfl (b := 26) rfl ?_
    refine me_gfr (p' := 61) k72_58 rfl (by decide) rfl (b := 27) rfl ?_
    refine me_iconst (p' := 62) k72_61 rfl (v := nI 1) (by decide) ?_
    refine me_aald (p' := 63) k72_62 rfl (by decide) rfl ⟨by decide, by decide⟩ (j := 1) rfl (by omega) (by decide) (b := 29) rfl ?_
    refine me_iload_n (p' := 64) k72_63 rfl rfl ?_
    refine me_iload (p' := 66) k72_64 rfl rfl ?_
    refine me_iast (p' := 67) k72_66 rfl (by decide) rfl (j := p) rfl (by omega) (by decide) rfl ?_
    have hK276 : cAt T I (mg_u K273 29 p (nI k)) (up (mSg 11 128 I) (17 + p) (nI k)) := hK274.uB (by omega)
    generalize hgeK275 : (mg_u K273 29 p (nI k)) = K275 at *
    refine me_aload_n (p' := 68) k72_67 rfl rfl ?_
    refine me_iload_n (p' := 69) k72_68 rfl rfl ?_
    refine me_cv (p' := 72) k72_69 rfl rfl (by decide) rfl (by decide) (by decide) dp_74 rfl rfl (cl_le mx_74 rfl) (by decide) (cl_sum rfl) (ct_thought hK276 hx (mOk.upX (k := 17 + p) (v := (nI k)) hk (by omega) (by omega) (by omega)) (by omega) (fun K277 hK278 => ?_))
    refine me_aload_n (p' := 73) k72_72 rfl rfl ?_
    refine me_gfr (p' := 76) k72_73 rfl (by decide) rfl (b := 26) rfl ?_
    refine me_iconst (p' := 77) k72_76 rfl (v := nI 5) (by decide) ?_
    refine me_cv (p' := 80) k72_77 rfl rfl (by decide) rfl (by decide) (by decide) dp_62 rfl rfl (cl_le mx_62 rfl) (by decide) (cl_sum rfl) (ct_tot hK278 (mOk.secs (T := T) (aw := -1) (mOk.upX (k := 17 + p) (v := (nI k)) hk (by omega) (by omega) (by omega)) m) (by omega) ?_)
    refine me_isub (p' := 81) k72_80 rfl rfl ?_
    show mj_Ev _ _ _ _ (.int ((sp_brk T (mSg 11 128 I) n p m) k) :: _) _ _
    refine me_istore (p' := 83) k72_81 rfl ⟨Nat.le_of_ble_eq_true rfl, rfl⟩ rfl ?_
    refine me_iload (p' := 85) k72_83 rfl rfl ?_
    refine me_ldc (p' := 87) k72_85 rfl (v := (-1000000005)) (by decide) ?_
    refine me_ic_eq (p' := 90) k72_87 rfl (fun c3 => ?_) (fun c3 => ?_)
    · skip
      refine me_iload (p' := 99) k72_97 rfl rfl ?_
      refine me_istore (p' := 101) k72_99 rfl ⟨Nat.le_of_ble_eq_true rfl, rfl⟩ rfl ?_
      refine me_iload (p' := 103) k72_101 rfl rfl ?_
      refine me_istore (p' := 105) k72_103 rfl ⟨Nat.le_of_ble_eq_true rfl, rfl⟩ rfl ?_
      refine me_iinc (p' := 108) k72_105 rfl rfl rfl (v := nI (k + 1)) (mI_inc (by decide)) rfl ?_
      refine me_goto k72_108 ?_
      rw [(sp_c_hit (z := (nI 0)) (f := (sp_brk T (mSg 11 128 I) n p m)) (by omega) (Or.inl c3)).1, (sp_c_hit (z := (nI 0)) (f := (sp_brk T (mSg 11 128 I) n p m)) (by omega) (Or.inl c3)).2]
      exact ih (by omega) _ hK278.fr _
    · skip
      refine me_iload (p' := 92) k72_90 rfl rfl ?_
      refine me_iload (p' := 94) k72_92 rfl rfl ?_
      refine me_ic_le (p' := 97) k72_94 rfl (fun c4 => ?_) (fun c4 => ?_)
      · skip
        refine me_iinc (p' := 108) k72_105 rfl rfl rfl (v := nI (k + 1)) (mI_inc (by decide)) rfl ?_
        refine me_goto k72_108 ?_
        rw [(sp_c_miss (z := (nI 0)) (f := (sp_brk T (mSg 11 128 I) n p m)) (by omega) c3 (Int32.not_lt.mpr c4)).1, (sp_c_miss (z := (nI 0)) (f := (sp_brk T (mSg 11 128 I) n p m)) (by omega) c3 (Int32.not_lt.mpr c4)).2]
        exact ih (by omega) _ hK278.fr _
      · skip
        refine me_iload (p' := 99) k72_97 rfl rfl ?_
        refine me_istore (p' := 101) k72_99 rfl ⟨Nat.le_of_ble_eq_true rfl, rfl⟩ rfl ?_
        refine me_iload (p' := 103) k72_101 rfl rfl ?_
        refine me_istore (p' := 105) k72_103 rfl ⟨Nat.le_of_ble_eq_true rfl, rfl⟩ rfl ?_
        refine me_iinc (p' := 108) k72_105 rfl rfl rfl (v := nI (k + 1)) (mI_inc (by decide)) rfl ?_
        refine me_goto k72_108 ?_
        rw [(sp_c_hit (z := (nI 0)) (f := (sp_brk T (mSg 11 128 I) n p m)) (by omega) (Or.inr (Int32.not_le.mp c4))).1, (sp_c_hit (z := (nI 0)) (f := (sp_brk T (mSg 11 128 I) n p m)) (by omega) (Or.inr (Int32.not_le.mp c4))).2]
        exact ih (by omega) _ hK278.fr _
theorem ct_Cbrake {d L : Nat} {xs : Nat → Int32} {I : Nat → Nat → Int32} {Q : Option Value → mj_H → Prop} {T : mT} {n : Nat} (hx : cTx I T) (hcg : cCg I 11 T) (hk : mOk (mSg 11 128 I) n) {pt v wh : Int32} (hQ : ∀ I2, mFr (mRc 26 ++ mSk) I I2 → Q (some (.int (sp_brake T (mSg 11 128 I) n pt v wh))) (mg_h L xs I2)) : mj_Cl (d + 6) 72 [.ref 0, .int pt, .int v, .int wh] (mg_h L xs I) Q := by
  have hn8 := hk.hn.2
  refine cl_start mx_72 (ls := [.ref 0, .int pt, .int v, .int wh, mj_no, mj_no, mj_no, mj_no]) rfl ?_
  refine me_iload_n (p' := 1) k72_0 rfl rfl ?_
  refine me_cs (p' := 4) k72_1 rfl rfl rfl rfl rfl (cl_le mx_45 rfl) (by decide) (cl_sum rfl) (ct_CisPart (fun k279 hk280 he => ?_) (fun hz281 => ?_))
  · skip
    subst he
    refine me_if_eq (p' := 7) k72_4 rfl (fun h => absurd h (by decide)) (fun _ => ?_)
    refine me_iload_n (p' := 8) k72_7 rfl rfl ?_
    refine me_cs (p' := 11) k72_8 rfl rfl rfl rfl rfl (cl_le mx_73 rfl) (by decide) (cl_sum rfl) (ct_isFar (fun e282 => ?_) (fun e282 => ?_))
    · skip
      refine me_if_eq (p' := 14) k72_11 rfl (fun h => absurd h (by decide)) (fun _ => ?_)
      refine me_iload_n (p' := 15) k72_14 rfl rfl ?_
      refine me_iconst (p' := 16) k72_15 rfl (v := nI 0) (by decide) ?_
      refine me_iconst (p' := 17) k72_16 rfl (v := nI 1) (by decide) ?_
      refine me_cs (p' := 20) k72_17 rfl rfl rfl rfl rfl (cl_le mx_16 rfl) (by decide) (cl_sum rfl) (ct_isWithin (fun e283 => ?_) (fun e283 => ?_))
      · skip
        obtain ⟨k284, hk285, rfl⟩ := mI_in1 (n := 1) (by omega) e283
        have hk285 : k284 < 2 := by omega
        refine me_if_ne (p' := 23) k72_20 rfl (fun h => absurd h (by decide)) (fun _ => ?_)
        obtain ⟨m, rfl, hm⟩ : ∃ m : Nat, v = nI m ∧ m ≤ 100 ∧ 1 ≤ m := by
          obtain ⟨m, rfl, hm⟩ := mI_of (Int32.le_trans (nI_pos' (show 1 < 2 ^ 31 by omega)) e282.1)
          exact ⟨m, rfl, (cI_le hm (by decide)).mp e282.2, (cI_le (by decide) hm).mp e282.1⟩
        refine me_ldc (p' := 28) k72_26 rfl (v := (-1000000005)) (by decide) ?_
        refine me_istore (p' := 30) k72_28 rfl ⟨Nat.le_of_ble_eq_true rfl, rfl⟩ rfl ?_
        refine me_iconst (p' := 31) k72_30 rfl (v := nI 0) (by decide) ?_
        refine me_istore (p' := 33) k72_31 rfl ⟨Nat.le_of_ble_eq_true rfl, rfl⟩ rfl ?_
        refine me_iconst (p' := 34) k72_33 rfl (v := nI 0) (by decide) ?_
        refine me_istore (p' := 36) k72_34 rfl ⟨Nat.le_of_ble_eq_true rfl, rfl⟩ rfl ?_
        simp only [sp_brake, sp_rg_s hk280 (by omega), if_pos e282, sp_rg_s (m := 2) hk285 (by omega), nI_clamp (show m < 2 ^ 31 by omega), if_true, if_false] at hQ
        refine lp_Cbrake (by omega) (by omega) (by omega) hx hcg hk (fun e J hJ => ?_) (fun e J hJ => ?_) 0 (Nat.zero_le _) I mFr.rf _
        · simp only [e, if_true] at hQ
          exact hQ _ hJ
        · simp only [e, if_false] at hQ
          exact hQ _ hJ
      · skip
        have hz286 : ∀ k : Nat, k < 2 → wh ≠ nI k := fun k hk => mI_in0 (n := 1) (by omega) e283 (by omega)
        refine me_if_ne (p' := 23) k72_20 rfl (fun _ => ?_) (fun h => absurd (by decide) h)
        refine me_ldc (p' := 25) k72_23 rfl (v := (-1000000001)) (by decide) ?_
        refine me_reti k72_25 rt_72 rfl ?_
        simp only [sp_brake, sp_rg_s hk280 (by omega), if_pos e282, sp_rg_n (m := 2) (by omega) hz286, if_true, if_false] at hQ
        exact hQ _ mFr.rf
    · skip
      refine me_if_eq (p' := 14) k72_11 rfl (fun _ => ?_) (fun h => absurd (by decide) h)
      refine me_ldc (p' := 25) k72_23 rfl (v := (-1000000001)) (by decide) ?_
      refine me_reti k72_25 rt_72 rfl ?_
      simp only [sp_brake, sp_rg_s hk280 (by omega), if_neg e282, if_true, if_false] at hQ
      exact hQ _ mFr.rf
  · skip
    refine me_if_eq (p' := 7) k72_4 rfl (fun _ => ?_) (fun h => absurd (by decide) h)
    refine me_ldc (p' := 25) k72_23 rfl (v := (-1000000001)) (by decide) ?_
    refine me_reti k72_25 rt_72 rfl ?_
    simp only [sp_brake, sp_rg_n (by omega) hz281, if_true, if_false] at hQ
    exact hQ _ mFr.rf
theorem lp_Ckind {d L : Nat} {xs : Nat → Int32} {I : Nat → Nat → Int32} {Q : Option Value → mj_H → Prop} {T : mT} {n c m wh : Nat} (hc : c < n) (hm : m ≤ 100) (hwh : wh < 2) (hx : cTx I T) (hcg : cCg I 11 T) (hk : mOk (mSg 11 128 I) n) (hE0 : wh = 0 → ∀ J, mFr (mRc 26 ++ mSk) I J → Q (some (.int (sp_c1 (sp_kndF T (mSg 11 128 I) n c m) 6))) (mg_h L xs J)) (hE1 : ¬ wh = 0 → ∀ J, mFr (mRc 26 ++ mSk) I J → Q (some (.int (sp_b2 (nI 0) (sp_kndF T (mSg 11 128 I) n c m) 6))) (mg_h L xs J)) : ∀ k : Nat, k ≤ 6 → ∀ J, mFr (mRc 26 ++ mSk) I J → ∀ u7 : Value, mj_Ev (d + 6) 79 37 [.ref 0, .int (nI c), .int (nI m), .int (nI wh), .int (sp_c1 (sp_kndF T (mSg 11 128 I) n c m) k), .int (sp_b2 (nI 0) (sp_kndF T (mSg 11 128 I) n c m) k), .int (nI k), u7] [] (mg_h L xs J) Q := by
  have hn8 := hk.hn.2
  refine loop_ind (n := 6) (fun k hkn ih => ?_)
  intro J hJ0 u7
  refine me_iload (p' := 39) k79_37 rfl rfl ?_
  refine me_bipush (p' := 41) k79_39 rfl (v := nI 6) (by decide) ?_
  refine me_ic_ge (p' := 44) k79_41 rfl (fun c1 => ?_) (fun c1 => ?_)
  · skip
    rw [cI_le (a := 6) (b := k) (by omega) (by omega)] at c1
    refine me_iload_n (p' := 104) k79_103 rfl rfl ?_
    refine me_if_ne (p' := 107) k79_104 rfl (fun c2 => ?_) (fun c2 => ?_)
    · skip
      rw [cI_eq0 (a := wh) (by omega)] at c2
      refine me_iload (p' := 109) k79_107 rfl rfl ?_
      refine me_goto k79_109 ?_
      refine me_reti k79_114 rt_79 rfl ?_
      have e8 : k = 6 := by omega
      subst e8
      exact hE0 c2 J hJ0
    · skip
      rw [cI_eq0 (a := wh) (by omega)] at c2
      refine me_iload (p' := 114) k79_112 rfl rfl ?_
      refine me_reti k79_114 rt_79 rfl ?_
      have e8 : k = 6 := by omega
      subst e8
      exact hE1 c2 J hJ0
  · skip
    rw [cI_le (a := 6) (b := k) (by omega) (by omega)] at c1
    refine me_aload_n (p' := 45) k79_44 rfl rfl ?_
    refine me_gfr (p' := 48) k79_45 rfl (by decide) rfl (b := 26) rfl ?_
    refine me_aload_n (p' := 49) k79_48 rfl rfl ?_
    refine me_gfr (p' := 52) k79_49 rfl (by decide) rfl (b := 11) rfl ?_
    refine me_cv (p' := 55) k79_52 rfl rfl (by decide) rfl (by decide) (by decide) dp_70 rfl rfl (cl_le mx_70 rfl) (by decide) (cl_sum rfl) (ct_bec hJ0 hcg (fun K287 hK288 => ?_))
    refine me_aload_n (p' := 56) k79_55 rfl rfl ?_
    refine me_gfr (p' := 59) k79_56 rfl (by decide) rfl (b := 26) rfl ?_
    refine me_gfr (p' := 62) k79_59 rfl (by decide) rfl (b := 32) rfl ?_
    refine me_iconst (p' := 63) k79_62 rfl (v := nI 0) (by decide) ?_
    refine me_aald (p' := 64) k79_63 rfl (by decide) rfl ⟨by decide, by decide⟩ (j := 0) rfl (by omega) (by decide) (b := 33) rfl ?_
    refine me_iload_n (p' := 65) k79_64 rfl rfl ?_
    refine me_iload (p' := 67) k79_65 rfl rfl ?_
    refine me_iast (p' := 68) k79_67 rfl (by decide) rfl (j := c) rfl (by omega) (by decide) rfl ?_
    have hK290 : cAt T I (mg_u K287 33 c (nI k)) (up (mSg 11 128 I) (53 + (7 * c)) (nI k)) := hK288.uK (by omega)
    generalize hgeK289 : (mg_u K287 33 c (nI k)) = K289 at *
    refine me_aload_n (p' := 69) k79_68 rfl rfl ?_
    refine me_iload_n (p' := 70) k79_69 rfl rfl ?_
    refine me_cv (p' := 73) k79_70 rfl rfl (by decide) rfl (by decide) (by decide) dp_74 rfl rfl (cl_le mx_74 rfl) (by decide) (cl_sum rfl) (ct_thought hK290 hx (mOk.upK (q := k) hk (by omega) (by omega)) (by omega) (fun K291 hK292 => ?_))
    show mj_Ev _ _ _ _ (.int ((sp_kndF T (mSg 11 128 I) n c m) k) :: _) _ _
    refine me_istore (p' := 75) k79_73 rfl ⟨Nat.le_of_ble_eq_true rfl, rfl⟩ rfl ?_
    refine me_iload (p' := 77) k79_75 rfl rfl ?_
    refine me_ldc (p' := 79) k79_77 rfl (v := (-1000000005)) (by decide) ?_
    refine me_ic_eq (p' := 82) k79_79 rfl (fun c3 => ?_) (fun c3 => ?_)
    · skip
      refine me_iload (p' := 91) k79_89 rfl rfl ?_
      refine me_istore (p' := 93) k79_91 rfl ⟨Nat.le_of_ble_eq_true rfl, rfl⟩ rfl ?_
      refine me_iload (p' := 95) k79_93 rfl rfl ?_
      refine me_istore (p' := 97) k79_95 rfl ⟨Nat.le_of_ble_eq_true rfl, rfl⟩ rfl ?_
      refine me_iinc (p' := 100) k79_97 rfl rfl rfl (v := nI (k + 1)) (mI_inc (by decide)) rfl ?_
      refine me_goto k79_100 ?_
      rw [(sp_c_hit (z := (nI 0)) (f := (sp_kndF T (mSg 11 128 I) n c m)) (by omega) (Or.inl c3)).1, (sp_c_hit (z := (nI 0)) (f := (sp_kndF T (mSg 11 128 I) n c m)) (by omega) (Or.inl c3)).2]
      exact ih (by omega) _ hK292.fr _
    · skip
      refine me_iload (p' := 84) k79_82 rfl rfl ?_
      refine me_iload (p' := 86) k79_84 rfl rfl ?_
      refine me_ic_le (p' := 89) k79_86 rfl (fun c4 => ?_) (fun c4 => ?_)
      · skip
        refine me_iinc (p' := 100) k79_97 rfl rfl rfl (v := nI (k + 1)) (mI_inc (by decide)) rfl ?_
        refine me_goto k79_100 ?_
        rw [(sp_c_miss (z := (nI 0)) (f := (sp_kndF T (mSg 11 128 I) n c m)) (by omega) c3 (Int32.not_lt.mpr c4)).1, (sp_c_miss (z := (nI 0)) (f := (sp_kndF T (mSg 11 128 I) n c m)) (by omega) c3 (Int32.not_lt.mpr c4)).2]
        exact ih (by omega) _ hK292.fr _
      · skip
        refine me_iload (p' := 91) k79_89 rfl rfl ?_
        refine me_istore (p' := 93) k79_91 rfl ⟨Nat.le_of_ble_eq_true rfl, rfl⟩ rfl ?_
        refine me_iload (p' := 95) k79_93 rfl rfl ?_
        refine me_istore (p' := 97) k79_95 rfl ⟨Nat.le_of_ble_eq_true rfl, rfl⟩ rfl ?_
        refine me_iinc (p' := 100) k79_97 rfl rfl rfl (v := nI (k + 1)) (mI_inc (by decide)) rfl ?_
        refine me_goto k79_100 ?_
        rw [(sp_c_hit (z := (nI 0)) (f := (sp_kndF T (mSg 11 128 I) n c m)) (by omega) (Or.inr (Int32.not_le.mp c4))).1, (sp_c_hit (z := (nI 0)) (f := (sp_kndF T (mSg 11 128 I) n c m)) (by omega) (Or.inr (Int32.not_le.mp c4))).2]
        exact ih (by omega) _ hK292.fr _
theorem ct_Ckind {d L : Nat} {xs : Nat → Int32} {I : Nat → Nat → Int32} {Q : Option Value → mj_H → Prop} {T : mT} {n : Nat} (hx : cTx I T) (hcg : cCg I 11 T) (hk : mOk (mSg 11 128 I) n) {car v wh : Int32} (hQ : ∀ I2, mFr (mRc 26 ++ mSk) I I2 → Q (some (.int (sp_kind T (mSg 11 128 I) n car v wh))) (mg_h L xs I2)) : mj_Cl (d + 6) 79 [.ref 0, .int car, .int v, .int wh] (mg_h L xs I) Q := by
  have hn8 := hk.hn.2
  refine cl_start mx_79 (ls := [.ref 0, .int car, .int v, .int wh, mj_no, mj_no, mj_no, mj_no]) rfl ?_
  refine me_aload_n (p' := 1) k79_0 rfl rfl ?_
  refine me_iload_n (p' := 2) k79_1 rfl rfl ?_
  refine me_cv (p' := 5) k79_2 rfl rfl (by decide) rfl (by decide) (by decide) dp_19 rfl rfl (cl_le mx_19 rfl) (by decide) (cl_sum rfl) (ct_CisCar hk (fun k293 hk294 he => ?_) (fun hz295 => ?_))
  · skip
    subst he
    refine me_if_eq (p' := 8) k79_5 rfl (fun h => absurd h (by decide)) (fun _ => ?_)
    refine me_iload_n (p' := 9) k79_8 rfl rfl ?_
    refine me_cs (p' := 12) k79_9 rfl rfl rfl rfl rfl (cl_le mx_73 rfl) (by decide) (cl_sum rfl) (ct_isFar (fun e296 => ?_) (fun e296 => ?_))
    · skip
      refine me_if_eq (p' := 15) k79_12 rfl (fun h => absurd h (by decide)) (fun _ => ?_)
      refine me_iload_n (p' := 16) k79_15 rfl rfl ?_
      refine me_iconst (p' := 17) k79_16 rfl (v := nI 0) (by decide) ?_
      refine me_iconst (p' := 18) k79_17 rfl (v := nI 1) (by decide) ?_
      refine me_cs (p' := 21) k79_18 rfl rfl rfl rfl rfl (cl_le mx_16 rfl) (by decide) (cl_sum rfl) (ct_isWithin (fun e297 => ?_) (fun e297 => ?_))
      · skip
        obtain ⟨k298, hk299, rfl⟩ := mI_in1 (n := 1) (by omega) e297
        have hk299 : k298 < 2 := by omega
        refine me_if_ne (p' := 24) k79_21 rfl (fun h => absurd h (by decide)) (fun _ => ?_)
        obtain ⟨m, rfl, hm⟩ : ∃ m : Nat, v = nI m ∧ m ≤ 100 ∧ 1 ≤ m := by
          obtain ⟨m, rfl, hm⟩ := mI_of (Int32.le_trans (nI_pos' (show 1 < 2 ^ 31 by omega)) e296.1)
          exact ⟨m, rfl, (cI_le hm (by decide)).mp e296.2, (cI_le (by decide) hm).mp e296.1⟩
        refine me_ldc (p' := 29) k79_27 rfl (v := (-1000000005)) (by decide) ?_
        refine me_istore (p' := 31) k79_29 rfl ⟨Nat.le_of_ble_eq_true rfl, rfl⟩ rfl ?_
        refine me_iconst (p' := 32) k79_31 rfl (v := nI 0) (by decide) ?_
        refine me_istore (p' := 34) k79_32 rfl ⟨Nat.le_of_ble_eq_true rfl, rfl⟩ rfl ?_
        refine me_iconst (p' := 35) k79_34 rfl (v := nI 0) (by decide) ?_
        refine me_istore (p' := 37) k79_35 rfl ⟨Nat.le_of_ble_eq_true rfl, rfl⟩ rfl ?_
        simp only [sp_kind, sp_rg_s hk294 (by omega), if_pos e296, sp_rg_s (m := 2) hk299 (by omega), nI_clamp (show m < 2 ^ 31 by omega), if_true, if_false] at hQ
        refine lp_Ckind (by omega) (by omega) (by omega) hx hcg hk (fun e J hJ => ?_) (fun e J hJ => ?_) 0 (Nat.zero_le _) I mFr.rf _
        · simp only [e, if_true] at hQ
          exact hQ _ hJ
        · simp only [e, if_false] at hQ
          exact hQ _ hJ
      · skip
        have hz300 : ∀ k : Nat, k < 2 → wh ≠ nI k := fun k hk => mI_in0 (n := 1) (by omega) e297 (by omega)
        refine me_if_ne (p' := 24) k79_21 rfl (fun _ => ?_) (fun h => absurd (by decide) h)
        refine me_ldc (p' := 26) k79_24 rfl (v := (-1000000001)) (by decide) ?_
        refine me_reti k79_26 rt_79 rfl ?_
        simp only [sp_kind, sp_rg_s hk294 (by omega), if_pos e296, sp_rg_n (m := 2) (by omega) hz300, if_true, if_false] at hQ
        exact hQ _ mFr.rf
    · skip
      refine me_if_eq (p' := 15) k79_12 rfl (fun _ => ?_) (fun h => absurd (by decide) h)
      refine me_ldc (p' := 26) k79_24 rfl (v := (-1000000001)) (by decide) ?_
      refine me_reti k79_26 rt_79 rfl ?_
      simp only [sp_kind, sp_rg_s hk294 (by omega), if_neg e296, if_true, if_false] at hQ
      exact hQ _ mFr.rf
  · skip
    refine me_if_eq (p' := 8) k79_5 rfl (fun _ => ?_) (fun h => absurd (by decide) h)
    refine me_ldc (p' := 26) k79_24 rfl (v := (-1000000001)) (by decide) ?_
    refine me_reti k79_26 rt_79 rfl ?_
    simp only [sp_kind, sp_rg_n (by omega) hz295, if_true, if_false] at hQ
    exact hQ _ mFr.rf
theorem lp_Coff {d L : Nat} {xs : Nat → Int32} {I : Nat → Nat → Int32} {Q : Option Value → mj_H → Prop} {T : mT} {n m wh : Nat} (hm : m ≤ 100) (hwh : wh < 2) (hx : cTx I T) (hcg : cCg I 11 T) (hk : mOk (mSg 11 128 I) n) (hE0 : wh = 0 → ∀ J, mFr (mRc 26 ++ mSk) I J → Q (some (.int (sp_c1 (sp_offF T (mSg 11 128 I) n m) n))) (mg_h L xs J)) (hE1 : ¬ wh = 0 → ∀ J, mFr (mRc 26 ++ mSk) I J → Q (some (.int (sp_b2 (-1000000005) (sp_offF T (mSg 11 128 I) n m) n))) (mg_h L xs J)) : ∀ k : Nat, k ≤ n → ∀ J, mFr (mRc 26 ++ mSk) I J → ∀ u7 : Value, mj_Ev (d + 6) 77 29 [.ref 0, .int (nI m), .int (nI wh), .int (sp_c1 (sp_offF T (mSg 11 128 I) n m) k), .int (sp_b2 (-1000000005) (sp_offF T (mSg 11 128 I) n m) k), .int (nI k), u7] [] (mg_h L xs J) Q := by
  have hn8 := hk.hn.2
  refine loop_ind (n := n) (fun k hkn ih => ?_)
  intro J hJ0 u7
  refine me_iload (p' := 31) k77_29 rfl rfl ?_
  refine me_aload_n (p' := 32) k77_31 rfl rfl ?_
  refine me_gfr (p' := 35) k77_32 rfl (by decide) rfl (b := 11) rfl ?_
  refine me_gfi (p' := 38) k77_35 rfl (by decide) rfl rfl ?_
  rw [show J 11 5 = nI n from by rw [hJ0 11 5 (by decide)]; exact hk.hn.1]
  refine me_ic_ge (p' := 41) k77_38 rfl (fun c1 => ?_) (fun c1 => ?_)
  · skip
    rw [cI_le (a := n) (b := k) (by omega) (by omega)] at c1
    refine me_iload_n (p' := 95) k77_94 rfl rfl ?_
    refine me_if_ne (p' := 98) k77_95 rfl (fun c2 => ?_) (fun c2 => ?_)
    · skip
      rw [cI_eq0 (a := wh) (by omega)] at c2
      refine me_iload_n (p' := 99) k77_98 rfl rfl ?_
      refine me_goto k77_99 ?_
      refine me_reti k77_104 rt_77 rfl ?_
      have e8 : k = n := by omega
      subst e8
      exact hE0 c2 J hJ0
    · skip
      rw [cI_eq0 (a := wh) (by omega)] at c2
      refine me_iload (p' := 104) k77_102 rfl rfl ?_
      refine me_reti k77_104 rt_77 rfl ?_
      have e8 : k = n := by omega
      subst e8
      exact hE1 c2 J hJ0
  · skip
    rw [cI_le (a := n) (b := k) (by omega) (by omega)] at c1
    refine me_aload_n (p' := 42) k77_41 rfl rfl ?_
    refine me_gfr (p' := 45) k77_42 rfl (by decide) rfl (b := 26) rfl ?_
    refine me_aload_n (p' := 46) k77_45 rfl rfl ?_
    refine me_gfr (p' := 49) k77_46 rfl (by decide) rfl (b := 11) rfl ?_
    refine me_cv (p' := 52) k77_49 rfl rfl (by decide) rfl (by decide) (by decide) dp_70 rfl rfl (cl_le mx_70 rfl) (by decide) (cl_sum rfl) (ct_bec hJ0 hcg (fun K301 hK302 => ?_))
    refine me_aload_n (p' := 53) k77_52 rfl rfl ?_
    refine me_gfr (p' := 56) k77_53 rfl (by decide) rfl (b := 26) rfl ?_
    refine me_iload (p' := 58) k77_56 rfl rfl ?_
    refine me_cv (p' := 61) k77_58 rfl rfl (by decide) rfl (by decide) (by decide) dp_78 rfl rfl (cl_le mx_78 rfl) (by decide) (cl_sum rfl) (ct_dropCar (n := n) (by rw [hK302.sg]; exact hk.hn) (by omega) (fun K303 h8a h8b => ?_))
    have hK304 : cAt T I K303 (sp_drop (mSg 11 128 I) n k) := hK302.w (h8a.sub (by decide)) (by rw [h8b, hK302.sg])
    refine me_aload_n (p' := 62) k77_61 rfl rfl ?_
    refine me_iload_n (p' := 63) k77_62 rfl rfl ?_
    refine me_cv (p' := 66) k77_63 rfl rfl (by decide) rfl (by decide) (by decide) dp_74 rfl rfl (cl_le mx_74 rfl) (by decide) (cl_sum rfl) (ct_thought hK304 hx (mOk.drop hk (show k < n by omega)) (by omega) (fun K305 hK306 => ?_))
    rw [sp_scm_drop (by omega) (by omega) (hk.drop (by omega))]
    refine me_istore (p' := 68) k77_66 rfl ⟨Nat.le_of_ble_eq_true rfl, rfl⟩ rfl ?_
    refine me_iload_n (p' := 69) k77_68 rfl rfl ?_
    refine me_ldc (p' := 71) k77_69 rfl (v := (-1000000005)) (by decide) ?_
    refine me_ic_eq (p' := 74) k77_71 rfl (fun c3 => ?_) (fun c3 => ?_)
    · skip
      refine me_iload (p' := 83) k77_81 rfl rfl ?_
      refine me_istore_n (p' := 84) k77_83 rfl ⟨Nat.le_of_ble_eq_true rfl, rfl⟩ rfl ?_
      refine me_iload (p' := 86) k77_84 rfl rfl ?_
      refine me_istore (p' := 88) k77_86 rfl ⟨Nat.le_of_ble_eq_true rfl, rfl⟩ rfl ?_
      refine me_iinc (p' := 91) k77_88 rfl rfl rfl (v := nI (k + 1)) (mI_inc (by decide)) rfl ?_
      refine me_goto k77_91 ?_
      rw [(sp_c_hit (z := (-1000000005)) (f := (sp_offF T (mSg 11 128 I) n m)) (by omega) (Or.inl c3)).1, (sp_c_hit (z := (-1000000005)) (f := (sp_offF T (mSg 11 128 I) n m)) (by omega) (Or.inl c3)).2]
      exact ih (by omega) _ hK306.fr _
    · skip
      refine me_iload (p' := 76) k77_74 rfl rfl ?_
      refine me_iload (p' := 78) k77_76 rfl rfl ?_
      refine me_ic_le (p' := 81) k77_78 rfl (fun c4 => ?_) (fun c4 => ?_)
      · skip
        refine me_iinc (p' := 91) k77_88 rfl rfl rfl (v := nI (k + 1)) (mI_inc (by decide)) rfl ?_
        refine me_goto k77_91 ?_
        rw [(sp_c_miss (z := (-1000000005)) (f := (sp_offF T (mSg 11 128 I) n m)) (by omega) c3 (Int32.not_lt.mpr c4)).1, (sp_c_miss (z := (-1000000005)) (f := (sp_offF T (mSg 11 128 I) n m)) (by omega) c3 (Int32.not_lt.mpr c4)).2]
        exact ih (by omega) _ hK306.fr _
      · skip
        refine me_iload (p' := 83) k77_81 rfl rfl ?_
        refine me_istore_n (p' := 84) k77_83 rfl ⟨Nat.le_of_ble_eq_true rfl, rfl⟩ rfl ?_
        refine me_iload (p' := 86) k77_84 rfl rfl ?_
        refine me_istore (p' := 88) k77_86 rfl ⟨Nat.le_of_ble_eq_true rfl, rfl⟩ rfl ?_
        refine me_iinc (p' := 91) k77_88 rfl rfl rfl (v := nI (k + 1)) (mI_inc (by decide)) rfl ?_
        refine me_goto k77_91 ?_
        rw [(sp_c_hit (z := (-1000000005)) (f := (sp_offF T (mSg 11 128 I) n m)) (by omega) (Or.inr (Int32.not_le.mp c4))).1, (sp_c_hit (z := (-1000000005)) (f := (sp_offF T (mSg 11 128 I) n m)) (by omega) (Or.inr (Int32.not_le.mp c4))).2]
        exact ih (by omega) _ hK306.fr _
theorem ct_Coff {d L : Nat} {xs : Nat → Int32} {I : Nat → Nat → Int32} {Q : Option Value → mj_H → Prop} {T : mT} {n : Nat} (hx : cTx I T) (hcg : cCg I 11 T) (hk : mOk (mSg 11 128 I) n) {v wh : Int32} (hQ : ∀ I2, mFr (mRc 26 ++ mSk) I I2 → Q (some (.int (sp_off T (mSg 11 128 I) n v wh))) (mg_h L xs I2)) : mj_Cl (d + 6) 77 [.ref 0, .int v, .int wh] (mg_h L xs I) Q := by
  have hn8 := hk.hn.2
  refine cl_start mx_77 (ls := [.ref 0, .int v, .int wh, mj_no, mj_no, mj_no, mj_no]) rfl ?_
  refine me_iload_n (p' := 1) k77_0 rfl rfl ?_
  refine me_cs (p' := 4) k77_1 rfl rfl rfl rfl rfl (cl_le mx_73 rfl) (by decide) (cl_sum rfl) (ct_isFar (fun e307 => ?_) (fun e307 => ?_))
  · skip
    refine me_if_eq (p' := 7) k77_4 rfl (fun h => absurd h (by decide)) (fun _ => ?_)
    refine me_iload_n (p' := 8) k77_7 rfl rfl ?_
    refine me_iconst (p' := 9) k77_8 rfl (v := nI 0) (by decide) ?_
    refine me_iconst (p' := 10) k77_9 rfl (v := nI 1) (by decide) ?_
    refine me_cs (p' := 13) k77_10 rfl rfl rfl rfl rfl (cl_le mx_16 rfl) (by decide) (cl_sum rfl) (ct_isWithin (fun e308 => ?_) (fun e308 => ?_))
    · skip
      obtain ⟨k309, hk310, rfl⟩ := mI_in1 (n := 1) (by omega) e308
      have hk310 : k309 < 2 := by omega
      refine me_if_ne (p' := 16) k77_13 rfl (fun h => absurd h (by decide)) (fun _ => ?_)
      obtain ⟨m, rfl, hm⟩ : ∃ m : Nat, v = nI m ∧ m ≤ 100 ∧ 1 ≤ m := by
        obtain ⟨m, rfl, hm⟩ := mI_of (Int32.le_trans (nI_pos' (show 1 < 2 ^ 31 by omega)) e307.1)
        exact ⟨m, rfl, (cI_le hm (by decide)).mp e307.2, (cI_le (by decide) hm).mp e307.1⟩
      refine me_ldc (p' := 21) k77_19 rfl (v := (-1000000005)) (by decide) ?_
      refine me_istore_n (p' := 22) k77_21 rfl ⟨Nat.le_of_ble_eq_true rfl, rfl⟩ rfl ?_
      refine me_ldc (p' := 24) k77_22 rfl (v := (-1000000005)) (by decide) ?_
      refine me_istore (p' := 26) k77_24 rfl ⟨Nat.le_of_ble_eq_true rfl, rfl⟩ rfl ?_
      refine me_iconst (p' := 27) k77_26 rfl (v := nI 0) (by decide) ?_
      refine me_istore (p' := 29) k77_27 rfl ⟨Nat.le_of_ble_eq_true rfl, rfl⟩ rfl ?_
      simp only [sp_off, if_pos e307, sp_rg_s (m := 2) hk310 (by omega), nI_clamp (show m < 2 ^ 31 by omega), if_true, if_false] at hQ
      refine lp_Coff (by omega) (by omega) hx hcg hk (fun e J hJ => ?_) (fun e J hJ => ?_) 0 (Nat.zero_le _) I mFr.rf _
      · cases n with
        | zero =>
          exact hQ _ hJ
        | succ n =>
          simp only [e, Nat.succ_ne_zero, if_true, if_false] at hQ
          exact hQ _ hJ
      · cases n with
        | zero =>
          exact hQ _ hJ
        | succ n =>
          simp only [e, Nat.succ_ne_zero, if_false] at hQ
          exact hQ _ hJ
    · skip
      have hz311 : ∀ k : Nat, k < 2 → wh ≠ nI k := fun k hk => mI_in0 (n := 1) (by omega) e308 (by omega)
      refine me_if_ne (p' := 16) k77_13 rfl (fun _ => ?_) (fun h => absurd (by decide) h)
      refine me_ldc (p' := 18) k77_16 rfl (v := (-1000000001)) (by decide) ?_
      refine me_reti k77_18 rt_77 rfl ?_
      simp only [sp_off, if_pos e307, sp_rg_n (m := 2) (by omega) hz311, if_true, if_false] at hQ
      exact hQ _ mFr.rf
  · skip
    refine me_if_eq (p' := 7) k77_4 rfl (fun _ => ?_) (fun h => absurd (by decide) h)
    refine me_ldc (p' := 18) k77_16 rfl (v := (-1000000001)) (by decide) ?_
    refine me_reti k77_18 rt_77 rfl ?_
    simp only [sp_off, if_neg e307, if_true, if_false] at hQ
    exact hQ _ mFr.rf
