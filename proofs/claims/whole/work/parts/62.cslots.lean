/-! ===== the class: SLOTS ===== -/
theorem cW.slot {I W I' W' : Nat → Nat → Int32} {l : Nat} (h : cW I W) (hwk : mWk W) (hl : l < 5) (hI : ∀ i k : Nat, i ≠ 112 + 3 * l → i ≠ 113 + 3 * l → i ≠ 114 + 3 * l → I' i k = I i k)
    (hW : ∀ q k : Nat, q < 3 → W' q k = W q k) (hW2 : ∀ q k : Nat, 3 ≤ q → q < 6 → k ≠ l → W' q k = W q k) (hW3 : ∀ k : Nat, ¬ (24 * l ≤ k ∧ k < 24 * l + 24) → W' 6 k = W 6 k)
    (hs : I' (112 + 3 * l) 0 = W' 3 l ∧ (W' 3 l = nI 1 → I' (112 + 3 * l) 1 = nI (2 + sN2 W' l) ∧ W' 5 l = sp_worth (sN2 W' l) (I' (112 + 3 * l) 2)) ∧ (W' 3 l = nI 2 → I' (113 + 3 * l) 2 = W' 4 l ∧ ∀ k : Nat, k < sN2 W' l → I' (114 + 3 * l) k = W' 6 (24 * l + k)) ∧ (W' 3 l = nI 3 → I' (112 + 3 * l) 4 = W' 4 l)) : cW I' W' := by
  refine ⟨fun i hi => ?_, fun i hi => ?_⟩
  · obtain ⟨h1, h2, h3⟩ := h.1 i hi
    rw [hI _ _ (by omega) (by omega) (by omega), hI _ _ (by omega) (by omega) (by omega), hW 0 _ (by decide), hW 1 _ (by decide)]
    refine ⟨h1, h2, fun k hk => ?_⟩
    have hk2 : k < sN W i := by
      unfold sN at hk ⊢
      rw [hW 1 _ (by decide)] at hk
      exact hk
    rw [hI _ _ (by omega) (by omega) (by omega), hW 2 _ (by decide)]
    exact h3 k hk2
  · by_cases e : i = l
    · subst e
      exact hs
    · obtain ⟨h1, h2, h3, h4⟩ := h.2 i hi
      have n2 : sN2 W' i = sN2 W i := by unfold sN2; rw [hW2 4 _ (by decide) (by decide) e]
      rw [hW2 3 _ (by decide) (by decide) e, hW2 4 _ (by decide) (by decide) e, hW2 5 _ (by decide) (by decide) e, n2, hI _ _ (by omega) (by omega) (by omega), hI _ _ (by omega) (by omega) (by omega), hI _ _ (by omega) (by omega) (by omega), hI _ _ (by omega) (by omega) (by omega), hI _ _ (by omega) (by omega) (by omega)]
      refine ⟨h1, h2, fun z => ⟨(h3 z).1, fun k hk => ?_⟩, h4⟩
      rw [hI _ _ (by omega) (by omega) (by omega), hW3 _ (by have : sN2 W i ≤ 24 := by
        { obtain ⟨t, q1, q2, q3, q4⟩ := hwk.tg hi
          rw [q1] at z
          exact (q4 ((cI_eq (by omega) (by omega)).mp z)).2 }
                                                             omega)]
      exact (h3 z).2 k hk
theorem ly_3 {W : Nat → Nat → Int32} {l : Nat} {t A B : Int32} : sp_lyW W l t A B 3 l = t ∧ sp_lyW W l t A B 4 l = A ∧ sp_lyW W l t A B 5 l = B := by
  unfold sp_lyW
  refine ⟨?_, ?_, ?_⟩
  · rw [mg_un1 (by decide), mg_un1 (by decide), mg_ueq]
  · rw [mg_un1 (by decide), mg_ueq]
  · rw [mg_ueq]
theorem ly_o {W : Nat → Nat → Int32} {l q k : Nat} {t A B : Int32} (h : k ≠ l ∨ q < 3 ∨ 5 < q) : sp_lyW W l t A B q k = W q k := by
  unfold sp_lyW
  rw [mg_une (by omega), mg_une (by omega), mg_une (by omega)]
theorem cW.lay1 {I W : Nat → Nat → Int32} {l q : Nat} {w : Int32} (h : cW I W) (hwk : mWk W) (hl : l < 5) (hq : q < 6) : cW (mg_u (mg_u (mg_u I (112 + 3 * l) 0 (nI 1)) (112 + 3 * l) 1 (nI (2 + q))) (112 + 3 * l) 2 w) (sp_lyW W l (nI 1) (nI q) (sp_worth q w)) := by
  have n2 : sN2 (sp_lyW W l (nI 1) (nI q) (sp_worth q w)) l = q := by unfold sN2; rw [ly_3.2.1, nI_clamp (by omega)]
  refine h.slot hwk hl (fun i k h1 h2 h3 => by rw [mg_un1 h1, mg_un1 h1, mg_un1 h1]) (fun q k hq => ly_o (Or.inr (Or.inl hq))) (fun q k _ _ hk => ly_o (Or.inl hk)) (fun k _ => ly_o (Or.inr (Or.inr (by decide)))) ⟨?_, fun _ => ⟨?_, ?_⟩, fun z => ?_, fun z => ?_⟩
  · rw [ly_3.1, mg_une (by omega), mg_une (by omega), mg_ueq]
  · rw [n2, mg_une (by omega), mg_ueq]
  · rw [n2, ly_3.2.2, mg_ueq]
  · rw [ly_3.1] at z; exact absurd z (by decide)
  · rw [ly_3.1] at z; exact absurd z (by decide)
theorem cW.lay3 {I W : Nat → Nat → Int32} {l t : Nat} {k : Int32} (h : cW I W) (hwk : mWk W) (hl : l < 5) (ht : t = 0 ∨ t = 3) : cW (mg_u (mg_u I (112 + 3 * l) 0 (nI t)) (112 + 3 * l) 4 k) (sp_lyW W l (nI t) k (nI 0)) := by
  refine h.slot hwk hl (fun i k h1 h2 h3 => by rw [mg_un1 h1, mg_un1 h1]) (fun q k hq => ly_o (Or.inr (Or.inl hq))) (fun q k _ _ hk => ly_o (Or.inl hk)) (fun k _ => ly_o (Or.inr (Or.inr (by decide)))) ⟨?_, fun z => ?_, fun z => ?_, fun z => ?_⟩
  · rw [ly_3.1, mg_une (by omega), mg_ueq]
  · rw [ly_3.1] at z; have := (cI_eq (by omega) (by omega)).mp z; omega
  · rw [ly_3.1] at z; have := (cI_eq (by omega) (by omega)).mp z; omega
  · rw [ly_3.2.1, mg_ueq]
theorem cW.lay2 {I W I' : Nat → Nat → Int32} {l j : Nat} (h : cW I W) (hwk : mWk W) (hl : l < 5) (hj : j < 4) (hI : ∀ i k : Nat, i ≠ 112 + 3 * l → i ≠ 113 + 3 * l → i ≠ 114 + 3 * l → I' i k = I i k) (h0 : I' (112 + 3 * l) 0 = nI 2) (h2 : I' (113 + 3 * l) 2 = I (104 + 2 * j) 2) (h3 : ∀ k : Nat, k < 24 → I' (114 + 3 * l) k = I (105 + 2 * j) k) :
    cW I' (mw (sp_lyW W l (nI 2) (W 1 j) (nI 0)) 6 (fun q => if 24 * l ≤ q ∧ q < 24 * l + 24 then W 2 (24 * j + (q - 24 * l)) else W 6 q)) := by
  have e : ∀ q k, q ≠ 6 → (mw (sp_lyW W l (nI 2) (W 1 j) (nI 0)) 6 (fun q => if 24 * l ≤ q ∧ q < 24 * l + 24 then W 2 (24 * j + (q - 24 * l)) else W 6 q)) q k = sp_lyW W l (nI 2) (W 1 j) (nI 0) q k := fun q k hq => mw_ne hq
  have e6 : ∀ k, (mw (sp_lyW W l (nI 2) (W 1 j) (nI 0)) 6 (fun q => if 24 * l ≤ q ∧ q < 24 * l + 24 then W 2 (24 * j + (q - 24 * l)) else W 6 q)) 6 k = if 24 * l ≤ k ∧ k < 24 * l + 24 then W 2 (24 * j + (k - 24 * l)) else W 6 k := fun k => mw_eq
  have n2 : sN2 (mw (sp_lyW W l (nI 2) (W 1 j) (nI 0)) 6 (fun q => if 24 * l ≤ q ∧ q < 24 * l + 24 then W 2 (24 * j + (q - 24 * l)) else W 6 q)) l = sN W j := by
    unfold sN2
    rw [e 4 _ (by decide), ly_3.2.1]
    rfl
  have h24 := hwk.le hj
  refine h.slot hwk hl hI (fun q k hq => (e q k (by omega)).trans (ly_o (Or.inr (Or.inl hq)))) (fun q k _ h6 hk => (e q k (by omega)).trans (ly_o (Or.inl hk))) (fun k hk => (e6 k).trans (if_neg hk)) ⟨?_, fun z => ?_, fun _ => ⟨?_, fun k hk => ?_⟩, fun z => ?_⟩
  · rw [e 3 _ (by decide), ly_3.1, h0]
  · rw [e 3 _ (by decide), ly_3.1] at z; exact absurd z (by decide)
  · rw [e 4 _ (by decide), ly_3.2.1, h2]
    exact (h.1 j hj).2.1
  · rw [n2] at hk
    rw [h3 k (by omega), e6, if_pos (by omega), show 24 * l + k - 24 * l = k by omega]
    exact h.vl hj hk
  · rw [e 3 _ (by decide), ly_3.1] at z; exact absurd z (by decide)
theorem kn_ref {q : Nat} (hq : q < 6) : (if nI (2 + q) = 0 then Value.null else Value.ref (nI (2 + q)).toNatClampNeg) = Value.ref (2 + q) := by
  rw [if_neg (fun z => by have := (cI_eq0 (by omega)).mp z; omega), nI_clamp (by omega)]
theorem mI_mod1 (x : Int32) : x % (-1) = nI 0 := by
  apply Int32.toInt_inj.mp
  rw [Int32.toInt_mod, show (-1 : Int32).toInt = -1 from by decide, Int.tmod_neg, Int.tmod_one]
  rfl
theorem mI_ex4 (v : Int32) : v = nI 0 ∨ v = nI 1 ∨ v = nI 2 ∨ v = nI 3 ∨ (∀ k : Nat, k < 4 → v ≠ nI k) := by
  rcases mI_ex 4 (by decide) v with ⟨k, hk, rfl⟩ | h
  · rcases (show k = 0 ∨ k = 1 ∨ k = 2 ∨ k = 3 by omega) with rfl | rfl | rfl | rfl <;> simp
  · exact Or.inr (Or.inr (Or.inr (Or.inr h)))
theorem ct_Clay {d L : Nat} {xs : Nat → Int32} {I : Nat → Nat → Int32} {Q : Option Value → mj_H → Prop} {W : Nat → Nat → Int32} (hc : cW I W) (hwk : mWk W) {n : Nat} (hk : mOk (mSg 11 128 I) n) {sl th k : Int32} (hQ : ∀ I2, mFr mShL I I2 → cW I2 (sp_lay W (mSg 11 128 I) n sl th k).2 → Q (some (.int (sp_lay W (mSg 11 128 I) n sl th k).1)) (mg_h L xs I2)) : mj_Cl (d + 1) 120 [.ref 0, .int sl, .int th, .int k] (mg_h L xs I) Q := by
  have hn8 := hk.hn.2
  refine cl_start mx_120 (ls := [.ref 0, .int sl, .int th, .int k, mj_no, mj_no, mj_no]) rfl ?_
  rcases mI_ex4 th with rfl | rfl | rfl | rfl | hz432
  · skip
    refine me_iload_n (p' := 1) k120_0 rfl rfl ?_
    refine me_if_eq (p' := 4) k120_1 rfl (fun _ => ?_) (fun h => absurd (by decide) h)
    refine me_iconst (p' := 35) k120_34 rfl (v := nI 1) (by decide) ?_
    refine me_goto k120_35 ?_
    refine me_istore (p' := 41) k120_39 rfl ⟨Nat.le_of_ble_eq_true rfl, rfl⟩ rfl ?_
    refine me_iload_n (p' := 42) k120_41 rfl rfl ?_
    refine me_cs (p' := 45) k120_42 rfl rfl rfl rfl rfl (cl_le mx_121 rfl) (by decide) (cl_sum rfl) (ct_CisSlot (fun k433 hk434 he => ?_) (fun hz435 => ?_))
    · skip
      subst he
      refine me_if_eq (p' := 48) k120_45 rfl (fun h => absurd h (by decide)) (fun _ => ?_)
      refine me_iload (p' := 50) k120_48 rfl rfl ?_
      refine me_if_ne (p' := 53) k120_50 rfl (fun h => absurd h (by decide)) (fun _ => ?_)
      refine me_iload_n (p' := 57) k120_56 rfl rfl ?_
      refine me_iconst (p' := 58) k120_57 rfl (v := nI 2) (by decide) ?_
      refine me_ic_ne (p' := 61) k120_58 rfl (fun h => absurd h (by decide)) (fun _ => ?_)
      refine me_aload_n (p' := 77) k120_76 rfl rfl ?_
      refine me_gfr (p' := 80) k120_77 rfl (by decide) rfl (b := 57) rfl ?_
      refine me_iload_n (p' := 81) k120_80 rfl rfl ?_
      refine me_aald (p' := 82) k120_81 rfl (by decide) rfl ⟨by decide, by decide⟩ (j := k433) rfl (by omega) (by decide) (b := 112 + 3 * k433) (rc_57 k433 (by omega)) ?_
      refine me_astore (p' := 84) k120_82 rfl ⟨Nat.le_of_ble_eq_true rfl, rfl⟩ rfl ?_
      refine me_aload (p' := 86) k120_84 rfl rfl ?_
      refine me_gfi (p' := 89) k120_86 rfl (show 112 + 3 * k433 < 149 by omega) (congrArg Prod.fst (tb_L k433 (by omega)).1) (tb_L k433 (by omega)).2.1 ?_
      rw [hc.tg (j := k433) (by omega)]
      refine me_istore (p' := 91) k120_89 rfl ⟨Nat.le_of_ble_eq_true rfl, rfl⟩ rfl ?_
      refine me_aload (p' := 93) k120_91 rfl rfl ?_
      refine me_iload_n (p' := 94) k120_93 rfl rfl ?_
      refine me_pfi (p' := 97) k120_94 rfl (show 112 + 3 * k433 < 149 by omega) (congrArg Prod.fst (tb_L k433 (by omega)).1) (tb_L k433 (by omega)).2.1 rfl rfl ?_
      refine me_iload_n (p' := 98) k120_97 rfl rfl ?_
      refine me_iconst (p' := 99) k120_98 rfl (v := nI 1) (by decide) ?_
      refine me_ic_ne (p' := 102) k120_99 rfl (fun h => absurd h (by decide)) (fun _ => ?_)
      refine me_iload_n (p' := 135) k120_134 rfl rfl ?_
      refine me_iconst (p' := 136) k120_135 rfl (v := nI 2) (by decide) ?_
      refine me_ic_ne (p' := 139) k120_136 rfl (fun h => absurd h (by decide)) (fun _ => ?_)
      refine me_aload (p' := 158) k120_156 rfl rfl ?_
      refine me_iload_n (p' := 159) k120_158 rfl rfl ?_
      refine me_pfi (p' := 162) k120_159 rfl (show 112 + 3 * k433 < 149 by omega) (congrArg Prod.fst (tb_L k433 (by omega)).1) (tb_L k433 (by omega)).2.2.2.2.2 rfl rfl ?_
      refine me_iload (p' := 164) k120_162 rfl rfl ?_
      refine me_reti k120_164 rt_120 rfl ?_
      simp only [sp_lay, sp_rg_s (show 0 < 4 by decide) (by decide), sp_rg_s hk434 (by omega), if_true, if_false, true_and, and_true, and_self] at hQ
      exact hQ _ ((mFr.up (ml_L k433 (by omega)).1).tr (mFr.up (ml_L k433 (by omega)).1)) (hc.lay3 hwk (by omega) (by decide))
    · skip
      refine me_if_eq (p' := 48) k120_45 rfl (fun _ => ?_) (fun h => absurd (by decide) h)
      refine me_ldc (p' := 55) k120_53 rfl (v := (-1000000001)) (by decide) ?_
      refine me_reti k120_55 rt_120 rfl ?_
      simp only [sp_lay, sp_rg_s (show 0 < 4 by decide) (by decide), sp_rg_n (by omega) hz435, if_true, if_false, true_and, and_true, and_self] at hQ
      exact hQ _ mFr.rf hc
  · skip
    refine me_iload_n (p' := 1) k120_0 rfl rfl ?_
    refine me_if_eq (p' := 4) k120_1 rfl (fun h => absurd h (by decide)) (fun _ => ?_)
    refine me_iload_n (p' := 5) k120_4 rfl rfl ?_
    refine me_iconst (p' := 6) k120_5 rfl (v := nI 3) (by decide) ?_
    refine me_ic_eq (p' := 9) k120_6 rfl (fun h => absurd h (by decide)) (fun _ => ?_)
    refine me_iload_n (p' := 10) k120_9 rfl rfl ?_
    refine me_iconst (p' := 11) k120_10 rfl (v := nI 1) (by decide) ?_
    refine me_ic_ne (p' := 14) k120_11 rfl (fun _ => ?_) (fun h => absurd (by decide) h)
    refine me_aload_n (p' := 15) k120_14 rfl rfl ?_
    refine me_iload_n (p' := 16) k120_15 rfl rfl ?_
    refine me_cv (p' := 19) k120_16 rfl rfl (by decide) rfl (by decide) (by decide) dp_19 rfl rfl (cl_le mx_19 rfl) (by decide) (cl_sum rfl) (ct_CisCar hk (fun k436 hk437 he => ?_) (fun hz438 => ?_))
    · skip
      subst he
      refine me_if_ne (p' := 22) k120_19 rfl (fun h => absurd h (by decide)) (fun _ => ?_)
      refine me_iconst (p' := 35) k120_34 rfl (v := nI 1) (by decide) ?_
      refine me_goto k120_35 ?_
      refine me_istore (p' := 41) k120_39 rfl ⟨Nat.le_of_ble_eq_true rfl, rfl⟩ rfl ?_
      refine me_iload_n (p' := 42) k120_41 rfl rfl ?_
      refine me_cs (p' := 45) k120_42 rfl rfl rfl rfl rfl (cl_le mx_121 rfl) (by decide) (cl_sum rfl) (ct_CisSlot (fun k439 hk440 he => ?_) (fun hz441 => ?_))
      · skip
        subst he
        refine me_if_eq (p' := 48) k120_45 rfl (fun h => absurd h (by decide)) (fun _ => ?_)
        refine me_iload (p' := 50) k120_48 rfl rfl ?_
        refine me_if_ne (p' := 53) k120_50 rfl (fun h => absurd h (by decide)) (fun _ => ?_)
        refine me_iload_n (p' := 57) k120_56 rfl rfl ?_
        refine me_iconst (p' := 58) k120_57 rfl (v := nI 2) (by decide) ?_
        refine me_ic_ne (p' := 61) k120_58 rfl (fun h => absurd h (by decide)) (fun _ => ?_)
        refine me_aload_n (p' := 77) k120_76 rfl rfl ?_
        refine me_gfr (p' := 80) k120_77 rfl (by decide) rfl (b := 57) rfl ?_
        refine me_iload_n (p' := 81) k120_80 rfl rfl ?_
        refine me_aald (p' := 82) k120_81 rfl (by decide) rfl ⟨by decide, by decide⟩ (j := k439) rfl (by omega) (by decide) (b := 112 + 3 * k439) (rc_57 k439 (by omega)) ?_
        refine me_astore (p' := 84) k120_82 rfl ⟨Nat.le_of_ble_eq_true rfl, rfl⟩ rfl ?_
        refine me_aload (p' := 86) k120_84 rfl rfl ?_
        refine me_gfi (p' := 89) k120_86 rfl (show 112 + 3 * k439 < 149 by omega) (congrArg Prod.fst (tb_L k439 (by omega)).1) (tb_L k439 (by omega)).2.1 ?_
        rw [hc.tg (j := k439) (by omega)]
        refine me_istore (p' := 91) k120_89 rfl ⟨Nat.le_of_ble_eq_true rfl, rfl⟩ rfl ?_
        refine me_aload (p' := 93) k120_91 rfl rfl ?_
        refine me_iload_n (p' := 94) k120_93 rfl rfl ?_
        refine me_pfi (p' := 97) k120_94 rfl (show 112 + 3 * k439 < 149 by omega) (congrArg Prod.fst (tb_L k439 (by omega)).1) (tb_L k439 (by omega)).2.1 rfl rfl ?_
        refine me_iload_n (p' := 98) k120_97 rfl rfl ?_
        refine me_iconst (p' := 99) k120_98 rfl (v := nI 1) (by decide) ?_
        refine me_ic_ne (p' := 102) k120_99 rfl (fun _ => ?_) (fun h => absurd (by decide) h)
        have hsg : mSg 11 128 (mg_u I (112 + 3 * k439) 0 (nI 1)) = (mSg 11 128 I) := sg_fr (mFr.up (S := mShL) (ml_L k439 (by omega)).1) (by decide)
        refine me_aload (p' := 104) k120_102 rfl rfl ?_
        refine me_aload_n (p' := 105) k120_104 rfl rfl ?_
        refine me_gfr (p' := 108) k120_105 rfl (by decide) rfl (b := 11) rfl ?_
        refine me_iload_n (p' := 109) k120_108 rfl rfl ?_
        refine me_cv (p' := 112) k120_109 rfl rfl (by decide) rfl (by decide) (by decide) dp_24 rfl rfl (cl_le mx_24 rfl) (by decide) (cl_sum rfl) (ct_kindOf11 (n := n) (by rw [hsg]; exact hk) (by omega) ?_)
        rw [hsg]
        have hq6 := (hk.kd k436 (by omega)).2
        refine me_pfk (p' := 115) k120_112 rfl (show 112 + 3 * k439 < 149 by omega) (congrArg Prod.fst (tb_L k439 (by omega)).1) (tb_L k439 (by omega)).2.2.1 ⟨by omega, by omega⟩ rfl rfl ?_
        refine me_aload (p' := 117) k120_115 rfl rfl ?_
        refine me_aload_n (p' := 118) k120_117 rfl rfl ?_
        refine me_gfr (p' := 121) k120_118 rfl (by decide) rfl (b := 11) rfl ?_
        refine me_gfr (p' := 124) k120_121 rfl (by decide) rfl (b := 17) rfl ?_
        refine me_iconst (p' := 125) k120_124 rfl (v := nI 2) (by decide) ?_
        refine me_aald (p' := 126) k120_125 rfl (by decide) rfl ⟨by decide, by decide⟩ (j := 2) rfl (by omega) (by decide) (b := 20) rfl ?_
        refine me_iload_n (p' := 127) k120_126 rfl rfl ?_
        refine me_iald (p' := 128) k120_127 rfl (by decide) rfl (j := k436) rfl (by omega) (by decide) rfl ?_
        rw [show (mg_u (mg_u I (112 + 3 * k439) 0 (nI 1)) (112 + 3 * k439) 1 (nI (2 + sQ (mSg 11 128 I) k436))) 20 k436 = (mSg 11 128 I) (53 + 7 * k436 + 2) from by rw [mg_un1 (by omega), mg_un1 (by omega)]; exact sgR11c2 (by omega)]
        refine me_pfi (p' := 131) k120_128 rfl (show 112 + 3 * k439 < 149 by omega) (congrArg Prod.fst (tb_L k439 (by omega)).1) (tb_L k439 (by omega)).2.2.2.1 rfl rfl ?_
        refine me_goto k120_131 ?_
        refine me_iload (p' := 164) k120_162 rfl rfl ?_
        refine me_reti k120_164 rt_120 rfl ?_
        simp only [sp_lay, sp_rg_s (show 1 < 4 by decide) (by decide), sp_rg_s hk437 (by omega), sp_rg_s hk440 (by omega), if_true, if_false, true_and, and_true, and_self] at hQ
        refine hQ _ (((mFr.up (ml_L k439 (by omega)).1).tr (mFr.up (ml_L k439 (by omega)).1)).tr (mFr.up (ml_L k439 (by omega)).1)) ?_
        rw [(hk.kd k436 (by omega)).1]
        exact hc.lay1 hwk (by omega) hq6
      · skip
        refine me_if_eq (p' := 48) k120_45 rfl (fun _ => ?_) (fun h => absurd (by decide) h)
        refine me_ldc (p' := 55) k120_53 rfl (v := (-1000000001)) (by decide) ?_
        refine me_reti k120_55 rt_120 rfl ?_
        simp only [sp_lay, sp_rg_s (show 1 < 4 by decide) (by decide), sp_rg_s hk437 (by omega), sp_rg_n (by omega) hz441, if_true, if_false, true_and, and_true, and_self] at hQ
        exact hQ _ mFr.rf hc
    · skip
      refine me_if_ne (p' := 22) k120_19 rfl (fun _ => ?_) (fun h => absurd (by decide) h)
      refine me_iload_n (p' := 23) k120_22 rfl rfl ?_
      refine me_iconst (p' := 24) k120_23 rfl (v := nI 2) (by decide) ?_
      refine me_ic_ne (p' := 27) k120_24 rfl (fun h => absurd h (by decide)) (fun _ => ?_)
      refine me_iconst (p' := 39) k120_38 rfl (v := nI 0) (by decide) ?_
      refine me_istore (p' := 41) k120_39 rfl ⟨Nat.le_of_ble_eq_true rfl, rfl⟩ rfl ?_
      refine me_iload_n (p' := 42) k120_41 rfl rfl ?_
      refine me_cs (p' := 45) k120_42 rfl rfl rfl rfl rfl (cl_le mx_121 rfl) (by decide) (cl_sum rfl) (ct_CisSlot (fun k442 hk443 he => ?_) (fun hz444 => ?_))
      · skip
        subst he
        refine me_if_eq (p' := 48) k120_45 rfl (fun h => absurd h (by decide)) (fun _ => ?_)
        refine me_iload (p' := 50) k120_48 rfl rfl ?_
        refine me_if_ne (p' := 53) k120_50 rfl (fun _ => ?_) (fun h => absurd (by decide) h)
        refine me_ldc (p' := 55) k120_53 rfl (v := (-1000000001)) (by decide) ?_
        refine me_reti k120_55 rt_120 rfl ?_
        simp only [sp_lay, sp_rg_s (show 1 < 4 by decide) (by decide), sp_rg_n (by omega) hz438, sp_rg_s hk443 (by omega), if_true, if_false, true_and, and_true, and_self] at hQ
        exact hQ _ mFr.rf hc
      · skip
        refine me_if_eq (p' := 48) k120_45 rfl (fun _ => ?_) (fun h => absurd (by decide) h)
        refine me_ldc (p' := 55) k120_53 rfl (v := (-1000000001)) (by decide) ?_
        refine me_reti k120_55 rt_120 rfl ?_
        simp only [sp_lay, sp_rg_s (show 1 < 4 by decide) (by decide), sp_rg_n (by omega) hz438, sp_rg_n (by omega) hz444, if_true, if_false, true_and, and_true, and_self] at hQ
        exact hQ _ mFr.rf hc
  · skip
    refine me_iload_n (p' := 1) k120_0 rfl rfl ?_
    refine me_if_eq (p' := 4) k120_1 rfl (fun h => absurd h (by decide)) (fun _ => ?_)
    refine me_iload_n (p' := 5) k120_4 rfl rfl ?_
    refine me_iconst (p' := 6) k120_5 rfl (v := nI 3) (by decide) ?_
    refine me_ic_eq (p' := 9) k120_6 rfl (fun h => absurd h (by decide)) (fun _ => ?_)
    refine me_iload_n (p' := 10) k120_9 rfl rfl ?_
    refine me_iconst (p' := 11) k120_10 rfl (v := nI 1) (by decide) ?_
    refine me_ic_ne (p' := 14) k120_11 rfl (fun h => absurd h (by decide)) (fun _ => ?_)
    refine me_iload_n (p' := 23) k120_22 rfl rfl ?_
    refine me_iconst (p' := 24) k120_23 rfl (v := nI 2) (by decide) ?_
    refine me_ic_ne (p' := 27) k120_24 rfl (fun _ => ?_) (fun h => absurd (by decide) h)
    refine me_iload_n (p' := 28) k120_27 rfl rfl ?_
    refine me_cs (p' := 31) k120_28 rfl rfl rfl rfl rfl (cl_le mx_84 rfl) (by decide) (cl_sum rfl) (ct_CisSheet (fun k445 hk446 he => ?_) (fun hz447 => ?_))
    · skip
      subst he
      refine me_if_eq (p' := 34) k120_31 rfl (fun h => absurd h (by decide)) (fun _ => ?_)
      refine me_iconst (p' := 35) k120_34 rfl (v := nI 1) (by decide) ?_
      refine me_goto k120_35 ?_
      refine me_istore (p' := 41) k120_39 rfl ⟨Nat.le_of_ble_eq_true rfl, rfl⟩ rfl ?_
      refine me_iload_n (p' := 42) k120_41 rfl rfl ?_
      refine me_cs (p' := 45) k120_42 rfl rfl rfl rfl rfl (cl_le mx_121 rfl) (by decide) (cl_sum rfl) (ct_CisSlot (fun k448 hk449 he => ?_) (fun hz450 => ?_))
      · skip
        subst he
        refine me_if_eq (p' := 48) k120_45 rfl (fun h => absurd h (by decide)) (fun _ => ?_)
        refine me_iload (p' := 50) k120_48 rfl rfl ?_
        refine me_if_ne (p' := 53) k120_50 rfl (fun h => absurd h (by decide)) (fun _ => ?_)
        refine me_iload_n (p' := 57) k120_56 rfl rfl ?_
        refine me_iconst (p' := 58) k120_57 rfl (v := nI 2) (by decide) ?_
        refine me_ic_ne (p' := 61) k120_58 rfl (fun _ => ?_) (fun h => absurd (by decide) h)
        rcases hwk.so (j := k445) (by omega) with hso | hso | hso
        · skip
          refine me_aload_n (p' := 62) k120_61 rfl rfl ?_
          refine me_gfr (p' := 65) k120_62 rfl (by decide) rfl (b := 56) rfl ?_
          refine me_iload_n (p' := 66) k120_65 rfl rfl ?_
          refine me_aald (p' := 67) k120_66 rfl (by decide) rfl ⟨by decide, by decide⟩ (j := k445) rfl (by omega) (by decide) (b := 104 + 2 * k445) (rc_56 k445 (by omega)) ?_
          refine me_cv (p' := 70) k120_67 rfl rfl (hs_S k445 (by omega)).1 (congrArg Prod.fst (hs_S k445 (by omega)).2.1) (by decide) (by decide) dp_85 rfl rfl (cl_le mx_85 rfl) (by decide) (cl_sum rfl) (ct_isMissing (hs_S k445 (by omega)) (fun _ => ?_) (fun z => absurd ((hc.so (by omega)).trans hso) z))
          refine me_if_eq (p' := 73) k120_70 rfl (fun h => absurd h (by decide)) (fun _ => ?_)
          refine me_ldc (p' := 75) k120_73 rfl (v := (-1000000011)) (by decide) ?_
          refine me_reti k120_75 rt_120 rfl ?_
          simp only [sp_lay, sp_rg_s (show 2 < 4 by decide) (by decide), sp_rg_s hk446 (by omega), sp_rg_s hk449 (by omega), hso, (show (-1 : Int32) < 0 by decide), if_true, if_false, true_and, and_true, and_self] at hQ
          exact hQ _ mFr.rf hc
        · skip
          refine me_aload_n (p' := 62) k120_61 rfl rfl ?_
          refine me_gfr (p' := 65) k120_62 rfl (by decide) rfl (b := 56) rfl ?_
          refine me_iload_n (p' := 66) k120_65 rfl rfl ?_
          refine me_aald (p' := 67) k120_66 rfl (by decide) rfl ⟨by decide, by decide⟩ (j := k445) rfl (by omega) (by decide) (b := 104 + 2 * k445) (rc_56 k445 (by omega)) ?_
          refine me_cv (p' := 70) k120_67 rfl rfl (hs_S k445 (by omega)).1 (congrArg Prod.fst (hs_S k445 (by omega)).2.1) (by decide) (by decide) dp_85 rfl rfl (cl_le mx_85 rfl) (by decide) (cl_sum rfl) (ct_isMissing (hs_S k445 (by omega)) (fun z => absurd (z.symm.trans ((hc.so (by omega)).trans hso)) (by decide)) (fun _ => ?_))
          refine me_if_eq (p' := 73) k120_70 rfl (fun _ => ?_) (fun h => absurd (by decide) h)
          refine me_aload_n (p' := 77) k120_76 rfl rfl ?_
          refine me_gfr (p' := 80) k120_77 rfl (by decide) rfl (b := 57) rfl ?_
          refine me_iload_n (p' := 81) k120_80 rfl rfl ?_
          refine me_aald (p' := 82) k120_81 rfl (by decide) rfl ⟨by decide, by decide⟩ (j := k448) rfl (by omega) (by decide) (b := 112 + 3 * k448) (rc_57 k448 (by omega)) ?_
          refine me_astore (p' := 84) k120_82 rfl ⟨Nat.le_of_ble_eq_true rfl, rfl⟩ rfl ?_
          refine me_aload (p' := 86) k120_84 rfl rfl ?_
          refine me_gfi (p' := 89) k120_86 rfl (show 112 + 3 * k448 < 149 by omega) (congrArg Prod.fst (tb_L k448 (by omega)).1) (tb_L k448 (by omega)).2.1 ?_
          rw [hc.tg (j := k448) (by omega)]
          refine me_istore (p' := 91) k120_89 rfl ⟨Nat.le_of_ble_eq_true rfl, rfl⟩ rfl ?_
          refine me_aload (p' := 93) k120_91 rfl rfl ?_
          refine me_iload_n (p' := 94) k120_93 rfl rfl ?_
          refine me_pfi (p' := 97) k120_94 rfl (show 112 + 3 * k448 < 149 by omega) (congrArg Prod.fst (tb_L k448 (by omega)).1) (tb_L k448 (by omega)).2.1 rfl rfl ?_
          refine me_iload_n (p' := 98) k120_97 rfl rfl ?_
          refine me_iconst (p' := 99) k120_98 rfl (v := nI 1) (by decide) ?_
          refine me_ic_ne (p' := 102) k120_99 rfl (fun h => absurd h (by decide)) (fun _ => ?_)
          refine me_iload_n (p' := 135) k120_134 rfl rfl ?_
          refine me_iconst (p' := 136) k120_135 rfl (v := nI 2) (by decide) ?_
          refine me_ic_ne (p' := 139) k120_136 rfl (fun _ => ?_) (fun h => absurd (by decide) h)
          refine me_aload (p' := 141) k120_139 rfl rfl ?_
          refine me_gfr (p' := 144) k120_141 rfl (show 112 + 3 * k448 < 149 by omega) (congrArg Prod.fst (tb_L k448 (by omega)).1) (b := 113 + 3 * k448) (tb_L k448 (by omega)).2.2.2.2.1 ?_
          refine me_aload_n (p' := 145) k120_144 rfl rfl ?_
          refine me_gfr (p' := 148) k120_145 rfl (by decide) rfl (b := 56) rfl ?_
          refine me_iload_n (p' := 149) k120_148 rfl rfl ?_
          refine me_aald (p' := 150) k120_149 rfl (by decide) rfl ⟨by decide, by decide⟩ (j := k445) rfl (by omega) (by decide) (b := 104 + 2 * k445) (rc_56 k445 (by omega)) ?_
          refine me_cv (p' := 153) k120_150 rfl rfl (hs_L k448 (by omega)).1 (congrArg Prod.fst (hs_L k448 (by omega)).2.1) (by decide) (by decide) dp_122 rfl rfl (cl_le mx_122 rfl) (by decide) (cl_sum rfl) (ct_rowbecome (hs_L k448 (by omega)) (hs_S k445 (by omega)) ?_)
          refine me_goto k120_153 ?_
          refine me_iload (p' := 164) k120_162 rfl rfl ?_
          refine me_reti k120_164 rt_120 rfl ?_
          simp only [sp_lay, sp_rg_s (show 2 < 4 by decide) (by decide), sp_rg_s hk446 (by omega), sp_rg_s hk449 (by omega), hso, (show ¬ (nI 0 : Int32) < 0 by decide), if_true, if_false, true_and, and_true, and_self] at hQ
          refine hQ _ ((((mFr.up (ml_L k448 (by omega)).1).tr (mFr.up (ml_L k448 (by omega)).2.1)).tr (mFr.up (ml_L k448 (by omega)).2.1)).tr (mFr.cp (ml_L k448 (by omega)).2.2)) (hc.lay2 hwk (by omega) (by omega) (fun i k h1 h2 h3 => ?_) ?_ ?_ (fun k hk24 => ?_))
          · rw [mc_ne h3, mg_un1 h2, mg_un1 h2, mg_un1 h1]
          · rw [mc_ne (by omega), mg_un1 (by omega), mg_un1 (by omega), mg_ueq]
          · rw [mc_ne (by omega), mg_ueq, mg_un1 (by omega), mg_un1 (by omega)]
          · rw [mc_eq (Nat.zero_le _) (by omega), mg_un1 (by omega), mg_un1 (by omega), mg_un1 (by omega), Nat.zero_add, Nat.sub_zero]
        · skip
          refine me_aload_n (p' := 62) k120_61 rfl rfl ?_
          refine me_gfr (p' := 65) k120_62 rfl (by decide) rfl (b := 56) rfl ?_
          refine me_iload_n (p' := 66) k120_65 rfl rfl ?_
          refine me_aald (p' := 67) k120_66 rfl (by decide) rfl ⟨by decide, by decide⟩ (j := k445) rfl (by omega) (by decide) (b := 104 + 2 * k445) (rc_56 k445 (by omega)) ?_
          refine me_cv (p' := 70) k120_67 rfl rfl (hs_S k445 (by omega)).1 (congrArg Prod.fst (hs_S k445 (by omega)).2.1) (by decide) (by decide) dp_85 rfl rfl (cl_le mx_85 rfl) (by decide) (cl_sum rfl) (ct_isMissing (hs_S k445 (by omega)) (fun z => absurd (z.symm.trans ((hc.so (by omega)).trans hso)) (by decide)) (fun _ => ?_))
          refine me_if_eq (p' := 73) k120_70 rfl (fun _ => ?_) (fun h => absurd (by decide) h)
          refine me_aload_n (p' := 77) k120_76 rfl rfl ?_
          refine me_gfr (p' := 80) k120_77 rfl (by decide) rfl (b := 57) rfl ?_
          refine me_iload_n (p' := 81) k120_80 rfl rfl ?_
          refine me_aald (p' := 82) k120_81 rfl (by decide) rfl ⟨by decide, by decide⟩ (j := k448) rfl (by omega) (by decide) (b := 112 + 3 * k448) (rc_57 k448 (by omega)) ?_
          refine me_astore (p' := 84) k120_82 rfl ⟨Nat.le_of_ble_eq_true rfl, rfl⟩ rfl ?_
          refine me_aload (p' := 86) k120_84 rfl rfl ?_
          refine me_gfi (p' := 89) k120_86 rfl (show 112 + 3 * k448 < 149 by omega) (congrArg Prod.fst (tb_L k448 (by omega)).1) (tb_L k448 (by omega)).2.1 ?_
          rw [hc.tg (j := k448) (by omega)]
          refine me_istore (p' := 91) k120_89 rfl ⟨Nat.le_of_ble_eq_true rfl, rfl⟩ rfl ?_
          refine me_aload (p' := 93) k120_91 rfl rfl ?_
          refine me_iload_n (p' := 94) k120_93 rfl rfl ?_
          refine me_pfi (p' := 97) k120_94 rfl (show 112 + 3 * k448 < 149 by omega) (congrArg Prod.fst (tb_L k448 (by omega)).1) (tb_L k448 (by omega)).2.1 rfl rfl ?_
          refine me_iload_n (p' := 98) k120_97 rfl rfl ?_
          refine me_iconst (p' := 99) k120_98 rfl (v := nI 1) (by decide) ?_
          refine me_ic_ne (p' := 102) k120_99 rfl (fun h => absurd h (by decide)) (fun _ => ?_)
          refine me_iload_n (p' := 135) k120_134 rfl rfl ?_
          refine me_iconst (p' := 136) k120_135 rfl (v := nI 2) (by decide) ?_
          refine me_ic_ne (p' := 139) k120_136 rfl (fun _ => ?_) (fun h => absurd (by decide) h)
          refine me_aload (p' := 141) k120_139 rfl rfl ?_
          refine me_gfr (p' := 144) k120_141 rfl (show 112 + 3 * k448 < 149 by omega) (congrArg Prod.fst (tb_L k448 (by omega)).1) (b := 113 + 3 * k448) (tb_L k448 (by omega)).2.2.2.2.1 ?_
          refine me_aload_n (p' := 145) k120_144 rfl rfl ?_
          refine me_gfr (p' := 148) k120_145 rfl (by decide) rfl (b := 56) rfl ?_
          refine me_iload_n (p' := 149) k120_148 rfl rfl ?_
          refine me_aald (p' := 150) k120_149 rfl (by decide) rfl ⟨by decide, by decide⟩ (j := k445) rfl (by omega) (by decide) (b := 104 + 2 * k445) (rc_56 k445 (by omega)) ?_
          refine me_cv (p' := 153) k120_150 rfl rfl (hs_L k448 (by omega)).1 (congrArg Prod.fst (hs_L k448 (by omega)).2.1) (by decide) (by decide) dp_122 rfl rfl (cl_le mx_122 rfl) (by decide) (cl_sum rfl) (ct_rowbecome (hs_L k448 (by omega)) (hs_S k445 (by omega)) ?_)
          refine me_goto k120_153 ?_
          refine me_iload (p' := 164) k120_162 rfl rfl ?_
          refine me_reti k120_164 rt_120 rfl ?_
          simp only [sp_lay, sp_rg_s (show 2 < 4 by decide) (by decide), sp_rg_s hk446 (by omega), sp_rg_s hk449 (by omega), hso, (show ¬ (nI 1 : Int32) < 0 by decide), (show ¬ nI 1 = nI 0 by decide), if_true, if_false, true_and, and_true, and_self] at hQ
          refine hQ _ ((((mFr.up (ml_L k448 (by omega)).1).tr (mFr.up (ml_L k448 (by omega)).2.1)).tr (mFr.up (ml_L k448 (by omega)).2.1)).tr (mFr.cp (ml_L k448 (by omega)).2.2)) (hc.lay2 hwk (by omega) (by omega) (fun i k h1 h2 h3 => ?_) ?_ ?_ (fun k hk24 => ?_))
          · rw [mc_ne h3, mg_un1 h2, mg_un1 h2, mg_un1 h1]
          · rw [mc_ne (by omega), mg_un1 (by omega), mg_un1 (by omega), mg_ueq]
          · rw [mc_ne (by omega), mg_ueq, mg_un1 (by omega), mg_un1 (by omega)]
          · rw [mc_eq (Nat.zero_le _) (by omega), mg_un1 (by omega), mg_un1 (by omega), mg_un1 (by omega), Nat.zero_add, Nat.sub_zero]
      · skip
        refine me_if_eq (p' := 48) k120_45 rfl (fun _ => ?_) (fun h => absurd (by decide) h)
        refine me_ldc (p' := 55) k120_53 rfl (v := (-1000000001)) (by decide) ?_
        refine me_reti k120_55 rt_120 rfl ?_
        simp only [sp_lay, sp_rg_s (show 2 < 4 by decide) (by decide), sp_rg_s hk446 (by omega), sp_rg_n (by omega) hz450, if_true, if_false, true_and, and_true, and_self] at hQ
        exact hQ _ mFr.rf hc
    · skip
      refine me_if_eq (p' := 34) k120_31 rfl (fun _ => ?_) (fun h => absurd (by decide) h)
      refine me_iconst (p' := 39) k120_38 rfl (v := nI 0) (by decide) ?_
      refine me_istore (p' := 41) k120_39 rfl ⟨Nat.le_of_ble_eq_true rfl, rfl⟩ rfl ?_
      refine me_iload_n (p' := 42) k120_41 rfl rfl ?_
      refine me_cs (p' := 45) k120_42 rfl rfl rfl rfl rfl (cl_le mx_121 rfl) (by decide) (cl_sum rfl) (ct_CisSlot (fun k451 hk452 he => ?_) (fun hz453 => ?_))
      · skip
        subst he
        refine me_if_eq (p' := 48) k120_45 rfl (fun h => absurd h (by decide)) (fun _ => ?_)
        refine me_iload (p' := 50) k120_48 rfl rfl ?_
        refine me_if_ne (p' := 53) k120_50 rfl (fun _ => ?_) (fun h => absurd (by decide) h)
        refine me_ldc (p' := 55) k120_53 rfl (v := (-1000000001)) (by decide) ?_
        refine me_reti k120_55 rt_120 rfl ?_
        simp only [sp_lay, sp_rg_s (show 2 < 4 by decide) (by decide), sp_rg_n (by omega) hz447, sp_rg_s hk452 (by omega), if_true, if_false, true_and, and_true, and_self] at hQ
        exact hQ _ mFr.rf hc
      · skip
        refine me_if_eq (p' := 48) k120_45 rfl (fun _ => ?_) (fun h => absurd (by decide) h)
        refine me_ldc (p' := 55) k120_53 rfl (v := (-1000000001)) (by decide) ?_
        refine me_reti k120_55 rt_120 rfl ?_
        simp only [sp_lay, sp_rg_s (show 2 < 4 by decide) (by decide), sp_rg_n (by omega) hz447, sp_rg_n (by omega) hz453, if_true, if_false, true_and, and_true, and_self] at hQ
        exact hQ _ mFr.rf hc
  · skip
    refine me_iload_n (p' := 1) k120_0 rfl rfl ?_
    refine me_if_eq (p' := 4) k120_1 rfl (fun h => absurd h (by decide)) (fun _ => ?_)
    refine me_iload_n (p' := 5) k120_4 rfl rfl ?_
    refine me_iconst (p' := 6) k120_5 rfl (v := nI 3) (by decide) ?_
    refine me_ic_eq (p' := 9) k120_6 rfl (fun _ => ?_) (fun h => absurd (by decide) h)
    refine me_iconst (p' := 35) k120_34 rfl (v := nI 1) (by decide) ?_
    refine me_goto k120_35 ?_
    refine me_istore (p' := 41) k120_39 rfl ⟨Nat.le_of_ble_eq_true rfl, rfl⟩ rfl ?_
    refine me_iload_n (p' := 42) k120_41 rfl rfl ?_
    refine me_cs (p' := 45) k120_42 rfl rfl rfl rfl rfl (cl_le mx_121 rfl) (by decide) (cl_sum rfl) (ct_CisSlot (fun k454 hk455 he => ?_) (fun hz456 => ?_))
    · skip
      subst he
      refine me_if_eq (p' := 48) k120_45 rfl (fun h => absurd h (by decide)) (fun _ => ?_)
      refine me_iload (p' := 50) k120_48 rfl rfl ?_
      refine me_if_ne (p' := 53) k120_50 rfl (fun h => absurd h (by decide)) (fun _ => ?_)
      refine me_iload_n (p' := 57) k120_56 rfl rfl ?_
      refine me_iconst (p' := 58) k120_57 rfl (v := nI 2) (by decide) ?_
      refine me_ic_ne (p' := 61) k120_58 rfl (fun h => absurd h (by decide)) (fun _ => ?_)
      refine me_aload_n (p' := 77) k120_76 rfl rfl ?_
      refine me_gfr (p' := 80) k120_77 rfl (by decide) rfl (b := 57) rfl ?_
      refine me_iload_n (p' := 81) k120_80 rfl rfl ?_
      refine me_aald (p' := 82) k120_81 rfl (by decide) rfl ⟨by decide, by decide⟩ (j := k454) rfl (by omega) (by decide) (b := 112 + 3 * k454) (rc_57 k454 (by omega)) ?_
      refine me_astore (p' := 84) k120_82 rfl ⟨Nat.le_of_ble_eq_true rfl, rfl⟩ rfl ?_
      refine me_aload (p' := 86) k120_84 rfl rfl ?_
      refine me_gfi (p' := 89) k120_86 rfl (show 112 + 3 * k454 < 149 by omega) (congrArg Prod.fst (tb_L k454 (by omega)).1) (tb_L k454 (by omega)).2.1 ?_
      rw [hc.tg (j := k454) (by omega)]
      refine me_istore (p' := 91) k120_89 rfl ⟨Nat.le_of_ble_eq_true rfl, rfl⟩ rfl ?_
      refine me_aload (p' := 93) k120_91 rfl rfl ?_
      refine me_iload_n (p' := 94) k120_93 rfl rfl ?_
      refine me_pfi (p' := 97) k120_94 rfl (show 112 + 3 * k454 < 149 by omega) (congrArg Prod.fst (tb_L k454 (by omega)).1) (tb_L k454 (by omega)).2.1 rfl rfl ?_
      refine me_iload_n (p' := 98) k120_97 rfl rfl ?_
      refine me_iconst (p' := 99) k120_98 rfl (v := nI 1) (by decide) ?_
      refine me_ic_ne (p' := 102) k120_99 rfl (fun h => absurd h (by decide)) (fun _ => ?_)
      refine me_iload_n (p' := 135) k120_134 rfl rfl ?_
      refine me_iconst (p' := 136) k120_135 rfl (v := nI 2) (by decide) ?_
      refine me_ic_ne (p' := 139) k120_136 rfl (fun h => absurd h (by decide)) (fun _ => ?_)
      refine me_aload (p' := 158) k120_156 rfl rfl ?_
      refine me_iload_n (p' := 159) k120_158 rfl rfl ?_
      refine me_pfi (p' := 162) k120_159 rfl (show 112 + 3 * k454 < 149 by omega) (congrArg Prod.fst (tb_L k454 (by omega)).1) (tb_L k454 (by omega)).2.2.2.2.2 rfl rfl ?_
      refine me_iload (p' := 164) k120_162 rfl rfl ?_
      refine me_reti k120_164 rt_120 rfl ?_
      simp only [sp_lay, sp_rg_s (show 3 < 4 by decide) (by decide), sp_rg_s hk455 (by omega), if_true, if_false, true_and, and_true, and_self] at hQ
      exact hQ _ ((mFr.up (ml_L k454 (by omega)).1).tr (mFr.up (ml_L k454 (by omega)).1)) (hc.lay3 hwk (by omega) (by decide))
    · skip
      refine me_if_eq (p' := 48) k120_45 rfl (fun _ => ?_) (fun h => absurd (by decide) h)
      refine me_ldc (p' := 55) k120_53 rfl (v := (-1000000001)) (by decide) ?_
      refine me_reti k120_55 rt_120 rfl ?_
      simp only [sp_lay, sp_rg_s (show 3 < 4 by decide) (by decide), sp_rg_n (by omega) hz456, if_true, if_false, true_and, and_true, and_self] at hQ
      exact hQ _ mFr.rf hc
  · skip
    refine me_iload_n (p' := 1) k120_0 rfl rfl ?_
    refine me_if_eq (p' := 4) k120_1 rfl (fun c1 => ?_) (fun c1 => ?_)
    · skip
      exact absurd c1 (hz432 0 (by decide))
    · skip
      refine me_iload_n (p' := 5) k120_4 rfl rfl ?_
      refine me_iconst (p' := 6) k120_5 rfl (v := nI 3) (by decide) ?_
      refine me_ic_eq (p' := 9) k120_6 rfl (fun c2 => ?_) (fun c2 => ?_)
      · skip
        exact absurd c2 (hz432 3 (by decide))
      · skip
        refine me_iload_n (p' := 10) k120_9 rfl rfl ?_
        refine me_iconst (p' := 11) k120_10 rfl (v := nI 1) (by decide) ?_
        refine me_ic_ne (p' := 14) k120_11 rfl (fun c3 => ?_) (fun c3 => ?_)
        · skip
          exact absurd c3 (hz432 1 (by decide))
        · skip
          refine me_iload_n (p' := 23) k120_22 rfl rfl ?_
          refine me_iconst (p' := 24) k120_23 rfl (v := nI 2) (by decide) ?_
          refine me_ic_ne (p' := 27) k120_24 rfl (fun c4 => ?_) (fun c4 => ?_)
          · skip
            exact absurd c4 (hz432 2 (by decide))
          · skip
            refine me_iconst (p' := 39) k120_38 rfl (v := nI 0) (by decide) ?_
            refine me_istore (p' := 41) k120_39 rfl ⟨Nat.le_of_ble_eq_true rfl, rfl⟩ rfl ?_
            refine me_iload_n (p' := 42) k120_41 rfl rfl ?_
            refine me_cs (p' := 45) k120_42 rfl rfl rfl rfl rfl (cl_le mx_121 rfl) (by decide) (cl_sum rfl) (ct_CisSlot (fun k457 hk458 he => ?_) (fun hz459 => ?_))
            · skip
              subst he
              refine me_if_eq (p' := 48) k120_45 rfl (fun h => absurd h (by decide)) (fun _ => ?_)
              refine me_iload (p' := 50) k120_48 rfl rfl ?_
              refine me_if_ne (p' := 53) k120_50 rfl (fun _ => ?_) (fun h => absurd (by decide) h)
              refine me_ldc (p' := 55) k120_53 rfl (v := (-1000000001)) (by decide) ?_
              refine me_reti k120_55 rt_120 rfl ?_
              simp only [sp_lay, sp_rg_n (m := 4) (by decide) hz432, sp_rg_s hk458 (by omega), if_true, if_false, true_and, and_true, and_self] at hQ
              exact hQ _ mFr.rf hc
            · skip
              refine me_if_eq (p' := 48) k120_45 rfl (fun _ => ?_) (fun h => absurd (by decide) h)
              refine me_ldc (p' := 55) k120_53 rfl (v := (-1000000001)) (by decide) ?_
              refine me_reti k120_55 rt_120 rfl ?_
              simp only [sp_lay, sp_rg_n (m := 4) (by decide) hz432, sp_rg_n (by omega) hz459, if_true, if_false, true_and, and_true, and_self] at hQ
              exact hQ _ mFr.rf hc
theorem ct_Cask {d L : Nat} {xs : Nat → Int32} {I : Nat → Nat → Int32} {Q : Option Value → mj_H → Prop} {W : Nat → Nat → Int32} (hc : cW I W) (hwk : mWk W) {sl kd : Int32} (hQ : Q (some (.int (sp_ask W sl kd))) (mg_h L xs I)) : mj_Cl (d + 3) 123 [.ref 0, .int sl, .int kd] (mg_h L xs I) Q := by
  refine cl_start mx_123 (ls := [.ref 0, .int sl, .int kd, mj_no]) rfl ?_
  refine me_iload_n (p' := 1) k123_0 rfl rfl ?_
  refine me_cs (p' := 4) k123_1 rfl rfl rfl rfl rfl (cl_le mx_121 rfl) (by decide) (cl_sum rfl) (ct_CisSlot (fun k460 hk461 he => ?_) (fun hz462 => ?_))
  · skip
    subst he
    refine me_if_eq (p' := 7) k123_4 rfl (fun h => absurd h (by decide)) (fun _ => ?_)
    refine me_iload_n (p' := 8) k123_7 rfl rfl ?_
    refine me_cs (p' := 11) k123_8 rfl rfl rfl rfl rfl (cl_le mx_13 rfl) (by decide) (cl_sum rfl) (ct_CisKind (fun k463 hk464 he => ?_) (fun hz465 => ?_))
    · skip
      subst he
      refine me_if_ne (p' := 14) k123_11 rfl (fun h => absurd h (by decide)) (fun _ => ?_)
      refine me_aload_n (p' := 18) k123_17 rfl rfl ?_
      refine me_gfr (p' := 21) k123_18 rfl (by decide) rfl (b := 57) rfl ?_
      refine me_iload_n (p' := 22) k123_21 rfl rfl ?_
      refine me_aald (p' := 23) k123_22 rfl (by decide) rfl ⟨by decide, by decide⟩ (j := k460) rfl (by omega) (by decide) (b := 112 + 3 * k460) (rc_57 k460 (by omega)) ?_
      refine me_astore_n (p' := 24) k123_23 rfl ⟨Nat.le_of_ble_eq_true rfl, rfl⟩ rfl ?_
      obtain ⟨t9, htg, ht4, htk, hts⟩ := hwk.tg (j := k460) (by omega)
      rcases (show t9 = 0 ∨ t9 = 1 ∨ t9 = 2 ∨ t9 = 3 by omega) with rfl | rfl | rfl | rfl
      · skip
        refine me_aload_n (p' := 25) k123_24 rfl rfl ?_
        refine me_gfi (p' := 28) k123_25 rfl (show 112 + 3 * k460 < 149 by omega) (congrArg Prod.fst (tb_L k460 (by omega)).1) (tb_L k460 (by omega)).2.1 ?_
        rw [hc.tg (j := k460) (by omega), htg]
        refine me_if_ne (p' := 31) k123_28 rfl (fun _ => ?_) (fun h => absurd (by decide) h)
        refine me_ldc (p' := 33) k123_31 rfl (v := (-1000000011)) (by decide) ?_
        refine me_reti k123_33 rt_123 rfl ?_
        simp only [sp_ask, sp_rg_s hk461 (by omega), sp_rg_s hk464 (by omega), htg, (show ¬ nI 0 = nI 1 by decide), (show ¬ nI 0 = nI 2 by decide), (show ¬ nI 0 = nI 3 by decide), if_true, if_false, true_and, and_true, and_self] at hQ
        exact hQ
      · skip
        refine me_aload_n (p' := 25) k123_24 rfl rfl ?_
        refine me_gfi (p' := 28) k123_25 rfl (show 112 + 3 * k460 < 149 by omega) (congrArg Prod.fst (tb_L k460 (by omega)).1) (tb_L k460 (by omega)).2.1 ?_
        rw [hc.tg (j := k460) (by omega), htg]
        refine me_if_ne (p' := 31) k123_28 rfl (fun h => absurd h (by decide)) (fun _ => ?_)
        refine me_aload_n (p' := 35) k123_34 rfl rfl ?_
        refine me_gfi (p' := 38) k123_35 rfl (show 112 + 3 * k460 < 149 by omega) (congrArg Prod.fst (tb_L k460 (by omega)).1) (tb_L k460 (by omega)).2.1 ?_
        rw [hc.tg (j := k460) (by omega), htg]
        refine me_iconst (p' := 39) k123_38 rfl (v := nI 1) (by decide) ?_
        refine me_ic_ne (p' := 42) k123_39 rfl (fun _ => ?_) (fun h => absurd (by decide) h)
        refine me_aload_n (p' := 43) k123_42 rfl rfl ?_
        refine me_gfk (p' := 46) k123_43 rfl (show 112 + 3 * k460 < 149 by omega) (congrArg Prod.fst (tb_L k460 (by omega)).1) (tb_L k460 (by omega)).2.2.1 (v := .ref (2 + sN2 W k460)) (by rw [((hc.2 k460 (by omega)).2.1 htg).1]; exact kn_ref (htk rfl).2) ?_
        refine me_ifnull1 (p' := 49) k123_46 rfl ?_
        refine me_aload_n (p' := 50) k123_49 rfl rfl ?_
        refine me_gfk (p' := 53) k123_50 rfl (show 112 + 3 * k460 < 149 by omega) (congrArg Prod.fst (tb_L k460 (by omega)).1) (tb_L k460 (by omega)).2.2.1 (v := .ref (2 + sN2 W k460)) (by rw [((hc.2 k460 (by omega)).2.1 htg).1]; exact kn_ref (htk rfl).2) ?_
        refine me_iload_n (p' := 54) k123_53 rfl rfl ?_
        refine me_cg0 (p' := 57) k123_54 rfl (htk rfl).2 rfl rfl rfl (Nat.le_of_ble_eq_true rfl) (cl_sum rfl) (cg_isUnder (htk rfl).2 (by omega) (fun e466 => ?_) (fun e466 => ?_))
        · skip
          refine me_if_ne (p' := 60) k123_57 rfl (fun h => absurd h (by decide)) (fun _ => ?_)
          refine me_aload_n (p' := 64) k123_63 rfl rfl ?_
          refine me_gfk (p' := 67) k123_64 rfl (show 112 + 3 * k460 < 149 by omega) (congrArg Prod.fst (tb_L k460 (by omega)).1) (tb_L k460 (by omega)).2.2.1 (v := .ref (2 + sN2 W k460)) (by rw [((hc.2 k460 (by omega)).2.1 htg).1]; exact kn_ref (htk rfl).2) ?_
          refine me_aload_n (p' := 68) k123_67 rfl rfl ?_
          refine me_gfi (p' := 71) k123_68 rfl (show 112 + 3 * k460 < 149 by omega) (congrArg Prod.fst (tb_L k460 (by omega)).1) (tb_L k460 (by omega)).2.2.2.1 ?_
          refine me_cg3 (p' := 74) k123_71 rfl (htk rfl).2 rfl rfl rfl (Nat.le_of_ble_eq_true rfl) (cl_sum rfl) (cg_worth (htk rfl).2 ?_)
          rw [← ((hc.2 k460 (by omega)).2.1 htg).2]
          refine me_reti k123_74 rt_123 rfl ?_
          simp only [sp_ask, sp_rg_s hk461 (by omega), sp_rg_s hk464 (by omega), htg, (show ¬ nI 1 = nI 0 by decide), (show ¬ nI 1 = nI 2 by decide), (show ¬ nI 1 = nI 3 by decide), if_pos e466, if_true, if_false, true_and, and_true, and_self] at hQ
          exact hQ
        · skip
          refine me_if_ne (p' := 60) k123_57 rfl (fun _ => ?_) (fun h => absurd (by decide) h)
          refine me_ldc (p' := 62) k123_60 rfl (v := (-1000000012)) (by decide) ?_
          refine me_reti k123_62 rt_123 rfl ?_
          simp only [sp_ask, sp_rg_s hk461 (by omega), sp_rg_s hk464 (by omega), htg, (show ¬ nI 1 = nI 0 by decide), (show ¬ nI 1 = nI 2 by decide), (show ¬ nI 1 = nI 3 by decide), if_neg e466, if_true, if_false, true_and, and_true, and_self] at hQ
          exact hQ
      · skip
        refine me_aload_n (p' := 25) k123_24 rfl rfl ?_
        refine me_gfi (p' := 28) k123_25 rfl (show 112 + 3 * k460 < 149 by omega) (congrArg Prod.fst (tb_L k460 (by omega)).1) (tb_L k460 (by omega)).2.1 ?_
        rw [hc.tg (j := k460) (by omega), htg]
        refine me_if_ne (p' := 31) k123_28 rfl (fun h => absurd h (by decide)) (fun _ => ?_)
        refine me_aload_n (p' := 35) k123_34 rfl rfl ?_
        refine me_gfi (p' := 38) k123_35 rfl (show 112 + 3 * k460 < 149 by omega) (congrArg Prod.fst (tb_L k460 (by omega)).1) (tb_L k460 (by omega)).2.1 ?_
        rw [hc.tg (j := k460) (by omega), htg]
        refine me_iconst (p' := 39) k123_38 rfl (v := nI 1) (by decide) ?_
        refine me_ic_ne (p' := 42) k123_39 rfl (fun h => absurd h (by decide)) (fun _ => ?_)
        refine me_ldc (p' := 62) k123_60 rfl (v := (-1000000012)) (by decide) ?_
        refine me_reti k123_62 rt_123 rfl ?_
        simp only [sp_ask, sp_rg_s hk461 (by omega), sp_rg_s hk464 (by omega), htg, (show ¬ nI 2 = nI 0 by decide), (show ¬ nI 2 = nI 1 by decide), (show ¬ nI 2 = nI 3 by decide), if_true, if_false, true_and, and_true, and_self] at hQ
        exact hQ
      · skip
        refine me_aload_n (p' := 25) k123_24 rfl rfl ?_
        refine me_gfi (p' := 28) k123_25 rfl (show 112 + 3 * k460 < 149 by omega) (congrArg Prod.fst (tb_L k460 (by omega)).1) (tb_L k460 (by omega)).2.1 ?_
        rw [hc.tg (j := k460) (by omega), htg]
        refine me_if_ne (p' := 31) k123_28 rfl (fun h => absurd h (by decide)) (fun _ => ?_)
        refine me_aload_n (p' := 35) k123_34 rfl rfl ?_
        refine me_gfi (p' := 38) k123_35 rfl (show 112 + 3 * k460 < 149 by omega) (congrArg Prod.fst (tb_L k460 (by omega)).1) (tb_L k460 (by omega)).2.1 ?_
        rw [hc.tg (j := k460) (by omega), htg]
        refine me_iconst (p' := 39) k123_38 rfl (v := nI 1) (by decide) ?_
        refine me_ic_ne (p' := 42) k123_39 rfl (fun h => absurd h (by decide)) (fun _ => ?_)
        refine me_ldc (p' := 62) k123_60 rfl (v := (-1000000012)) (by decide) ?_
        refine me_reti k123_62 rt_123 rfl ?_
        simp only [sp_ask, sp_rg_s hk461 (by omega), sp_rg_s hk464 (by omega), htg, (show ¬ nI 3 = nI 0 by decide), (show ¬ nI 3 = nI 1 by decide), (show ¬ nI 3 = nI 2 by decide), if_true, if_false, true_and, and_true, and_self] at hQ
        exact hQ
    · skip
      refine me_if_ne (p' := 14) k123_11 rfl (fun _ => ?_) (fun h => absurd (by decide) h)
      refine me_ldc (p' := 16) k123_14 rfl (v := (-1000000001)) (by decide) ?_
      refine me_reti k123_16 rt_123 rfl ?_
      simp only [sp_ask, sp_rg_s hk461 (by omega), sp_rg_n (by omega) hz465, if_true, if_false, true_and, and_true, and_self] at hQ
      exact hQ
  · skip
    refine me_if_eq (p' := 7) k123_4 rfl (fun _ => ?_) (fun h => absurd (by decide) h)
    refine me_ldc (p' := 16) k123_14 rfl (v := (-1000000001)) (by decide) ?_
    refine me_reti k123_16 rt_123 rfl ?_
    simp only [sp_ask, sp_rg_n (by omega) hz462, if_true, if_false, true_and, and_true, and_self] at hQ
    exact hQ
theorem ct_Citem {d L : Nat} {xs : Nat → Int32} {I : Nat → Nat → Int32} {Q : Option Value → mj_H → Prop} {W : Nat → Nat → Int32} (hc : cW I W) (hwk : mWk W) {sl pl : Int32} (hQ : Q (some (.int (sp_item W sl pl))) (mg_h L xs I)) : mj_Cl (d + 1) 124 [.ref 0, .int sl, .int pl] (mg_h L xs I) Q := by
  refine cl_start mx_124 (ls := [.ref 0, .int sl, .int pl, mj_no]) rfl ?_
  refine me_iload_n (p' := 1) k124_0 rfl rfl ?_
  refine me_cs (p' := 4) k124_1 rfl rfl rfl rfl rfl (cl_le mx_121 rfl) (by decide) (cl_sum rfl) (ct_CisSlot (fun k467 hk468 he => ?_) (fun hz469 => ?_))
  · skip
    subst he
    refine me_if_ne (p' := 7) k124_4 rfl (fun h => absurd h (by decide)) (fun _ => ?_)
    refine me_aload_n (p' := 11) k124_10 rfl rfl ?_
    refine me_gfr (p' := 14) k124_11 rfl (by decide) rfl (b := 57) rfl ?_
    refine me_iload_n (p' := 15) k124_14 rfl rfl ?_
    refine me_aald (p' := 16) k124_15 rfl (by decide) rfl ⟨by decide, by decide⟩ (j := k467) rfl (by omega) (by decide) (b := 112 + 3 * k467) (rc_57 k467 (by omega)) ?_
    refine me_astore_n (p' := 17) k124_16 rfl ⟨Nat.le_of_ble_eq_true rfl, rfl⟩ rfl ?_
    obtain ⟨t9, htg, ht4, htk, hts⟩ := hwk.tg (j := k467) (by omega)
    rcases (show t9 = 0 ∨ t9 = 1 ∨ t9 = 2 ∨ t9 = 3 by omega) with rfl | rfl | rfl | rfl
    · skip
      refine me_aload_n (p' := 18) k124_17 rfl rfl ?_
      refine me_gfi (p' := 21) k124_18 rfl (show 112 + 3 * k467 < 149 by omega) (congrArg Prod.fst (tb_L k467 (by omega)).1) (tb_L k467 (by omega)).2.1 ?_
      rw [hc.tg (j := k467) (by omega), htg]
      refine me_if_ne (p' := 24) k124_21 rfl (fun _ => ?_) (fun h => absurd (by decide) h)
      refine me_ldc (p' := 26) k124_24 rfl (v := (-1000000011)) (by decide) ?_
      refine me_reti k124_26 rt_124 rfl ?_
      simp only [sp_item, sp_rg_s hk468 (by omega), htg, (show ¬ nI 0 = nI 1 by decide), (show ¬ nI 0 = nI 2 by decide), (show ¬ nI 0 = nI 3 by decide), if_true, if_false, true_and, and_true, and_self] at hQ
      exact hQ
    · skip
      refine me_aload_n (p' := 18) k124_17 rfl rfl ?_
      refine me_gfi (p' := 21) k124_18 rfl (show 112 + 3 * k467 < 149 by omega) (congrArg Prod.fst (tb_L k467 (by omega)).1) (tb_L k467 (by omega)).2.1 ?_
      rw [hc.tg (j := k467) (by omega), htg]
      refine me_if_ne (p' := 24) k124_21 rfl (fun h => absurd h (by decide)) (fun _ => ?_)
      refine me_aload_n (p' := 28) k124_27 rfl rfl ?_
      refine me_gfi (p' := 31) k124_28 rfl (show 112 + 3 * k467 < 149 by omega) (congrArg Prod.fst (tb_L k467 (by omega)).1) (tb_L k467 (by omega)).2.1 ?_
      rw [hc.tg (j := k467) (by omega), htg]
      refine me_iconst (p' := 32) k124_31 rfl (v := nI 2) (by decide) ?_
      refine me_ic_eq (p' := 35) k124_32 rfl (fun h => absurd h (by decide)) (fun _ => ?_)
      refine me_ldc (p' := 37) k124_35 rfl (v := (-1000000012)) (by decide) ?_
      refine me_reti k124_37 rt_124 rfl ?_
      simp only [sp_item, sp_rg_s hk468 (by omega), htg, (show ¬ nI 1 = nI 0 by decide), (show ¬ nI 1 = nI 2 by decide), (show ¬ nI 1 = nI 3 by decide), if_true, if_false, true_and, and_true, and_self] at hQ
      exact hQ
    · skip
      refine me_aload_n (p' := 18) k124_17 rfl rfl ?_
      refine me_gfi (p' := 21) k124_18 rfl (show 112 + 3 * k467 < 149 by omega) (congrArg Prod.fst (tb_L k467 (by omega)).1) (tb_L k467 (by omega)).2.1 ?_
      rw [hc.tg (j := k467) (by omega), htg]
      refine me_if_ne (p' := 24) k124_21 rfl (fun h => absurd h (by decide)) (fun _ => ?_)
      refine me_aload_n (p' := 28) k124_27 rfl rfl ?_
      refine me_gfi (p' := 31) k124_28 rfl (show 112 + 3 * k467 < 149 by omega) (congrArg Prod.fst (tb_L k467 (by omega)).1) (tb_L k467 (by omega)).2.1 ?_
      rw [hc.tg (j := k467) (by omega), htg]
      refine me_iconst (p' := 32) k124_31 rfl (v := nI 2) (by decide) ?_
      refine me_ic_eq (p' := 35) k124_32 rfl (fun _ => ?_) (fun h => absurd (by decide) h)
      refine me_aload_n (p' := 39) k124_38 rfl rfl ?_
      refine me_gfr (p' := 42) k124_39 rfl (show 112 + 3 * k467 < 149 by omega) (congrArg Prod.fst (tb_L k467 (by omega)).1) (b := 113 + 3 * k467) (tb_L k467 (by omega)).2.2.2.2.1 ?_
      refine me_iload_n (p' := 43) k124_42 rfl rfl ?_
      refine me_iconst (p' := 44) k124_43 rfl (v := nI 1) (by decide) ?_
      refine me_cv (p' := 47) k124_44 rfl rfl (hs_L k467 (by omega)).1 (congrArg Prod.fst (hs_L k467 (by omega)).2.1) (by decide) (by decide) dp_116 rfl rfl (cl_le mx_116 rfl) (by decide) (cl_sum rfl) (ct_has (N := sN2 W k467) (hs_L k467 (by omega)) ⟨((hc.2 k467 (by omega)).2.2.1 htg).1.trans (hts rfl).1, (hts rfl).2⟩ (fun e470 => ?_) (fun e470 => ?_))
      · skip
        have hs24 := (hts rfl).2
        obtain ⟨p471, hk472, rfl⟩ := (sp_has1 hs24).mp e470
        refine me_if_ne (p' := 50) k124_47 rfl (fun h => absurd h (by decide)) (fun _ => ?_)
        refine me_aload_n (p' := 54) k124_53 rfl rfl ?_
        refine me_gfr (p' := 57) k124_54 rfl (show 112 + 3 * k467 < 149 by omega) (congrArg Prod.fst (tb_L k467 (by omega)).1) (b := 113 + 3 * k467) (tb_L k467 (by omega)).2.2.2.2.1 ?_
        refine me_iload_n (p' := 58) k124_57 rfl rfl ?_
        refine me_cv (p' := 61) k124_58 rfl rfl (hs_L k467 (by omega)).1 (congrArg Prod.fst (hs_L k467 (by omega)).2.1) (by decide) (by decide) dp_87 rfl rfl (cl_le mx_87 rfl) (by decide) (cl_sum rfl) (ct_isNumber (hs_L k467 (by omega)) (by omega) (fun e9 => ?_) (fun e9 => ?_))
        · skip
          rw [((hc.2 k467 (by omega)).2.2.1 htg).2 _ (by omega)] at e9
          refine me_if_eq (p' := 64) k124_61 rfl (fun h => absurd h (by decide)) (fun _ => ?_)
          refine me_aload_n (p' := 65) k124_64 rfl rfl ?_
          refine me_gfr (p' := 68) k124_65 rfl (show 112 + 3 * k467 < 149 by omega) (congrArg Prod.fst (tb_L k467 (by omega)).1) (b := 113 + 3 * k467) (tb_L k467 (by omega)).2.2.2.2.1 ?_
          refine me_gfr (p' := 71) k124_68 rfl (hs_L k467 (by omega)).1 (congrArg Prod.fst (hs_L k467 (by omega)).2.1) (b := 114 + 3 * k467) (hs_L k467 (by omega)).2.2.1 ?_
          refine me_iload_n (p' := 72) k124_71 rfl rfl ?_
          refine me_iald (p' := 73) k124_72 rfl (hs_L k467 (by omega)).2.2.2.2.2.1 (hs_L k467 (by omega)).2.2.2.2.2.2.1 (j := p471) rfl (by omega) (by decide) (rc_nil _ (Nat.lt_of_lt_of_le (hs_L k467 (by omega)).2.2.2.2.2.1 (by decide)) (hs_L k467 (by omega)).2.2.2.2.2.2.2 _) ?_
          rw [((hc.2 k467 (by omega)).2.2.1 htg).2 p471 (by omega)]
          refine me_goto k124_73 ?_
          refine me_reti k124_78 rt_124 rfl ?_
          simp only [sp_item, sp_rg_s hk468 (by omega), htg, (show ¬ nI 2 = nI 0 by decide), (show ¬ nI 2 = nI 1 by decide), (show ¬ nI 2 = nI 3 by decide), sp_rg_s hk472 (by omega), e9, if_true, if_false, true_and, and_true, and_self] at hQ
          exact hQ
        · skip
          rw [((hc.2 k467 (by omega)).2.2.1 htg).2 _ (by omega)] at e9
          refine me_if_eq (p' := 64) k124_61 rfl (fun _ => ?_) (fun h => absurd (by decide) h)
          refine me_ldc (p' := 78) k124_76 rfl (v := (-1000000012)) (by decide) ?_
          refine me_reti k124_78 rt_124 rfl ?_
          simp only [sp_item, sp_rg_s hk468 (by omega), htg, (show ¬ nI 2 = nI 0 by decide), (show ¬ nI 2 = nI 1 by decide), (show ¬ nI 2 = nI 3 by decide), sp_rg_s hk472 (by omega), (eq_true e9), if_true, if_false, true_and, and_true, and_self] at hQ
          exact hQ
      · skip
        have hs24 := (hts rfl).2
        have hz473 : ∀ k : Nat, k < sN2 W k467 → pl ≠ nI k := fun k hk hp => e470 ((sp_has1 hs24).mpr ⟨k, hk, hp⟩)
        refine me_if_ne (p' := 50) k124_47 rfl (fun _ => ?_) (fun h => absurd (by decide) h)
        refine me_ldc (p' := 52) k124_50 rfl (v := (-1000000013)) (by decide) ?_
        refine me_reti k124_52 rt_124 rfl ?_
        simp only [sp_item, sp_rg_s hk468 (by omega), htg, (show ¬ nI 2 = nI 0 by decide), (show ¬ nI 2 = nI 1 by decide), (show ¬ nI 2 = nI 3 by decide), sp_rg_n (by omega) hz473, if_true, if_false, true_and, and_true, and_self] at hQ
        exact hQ
    · skip
      refine me_aload_n (p' := 18) k124_17 rfl rfl ?_
      refine me_gfi (p' := 21) k124_18 rfl (show 112 + 3 * k467 < 149 by omega) (congrArg Prod.fst (tb_L k467 (by omega)).1) (tb_L k467 (by omega)).2.1 ?_
      rw [hc.tg (j := k467) (by omega), htg]
      refine me_if_ne (p' := 24) k124_21 rfl (fun h => absurd h (by decide)) (fun _ => ?_)
      refine me_aload_n (p' := 28) k124_27 rfl rfl ?_
      refine me_gfi (p' := 31) k124_28 rfl (show 112 + 3 * k467 < 149 by omega) (congrArg Prod.fst (tb_L k467 (by omega)).1) (tb_L k467 (by omega)).2.1 ?_
      rw [hc.tg (j := k467) (by omega), htg]
      refine me_iconst (p' := 32) k124_31 rfl (v := nI 2) (by decide) ?_
      refine me_ic_eq (p' := 35) k124_32 rfl (fun h => absurd h (by decide)) (fun _ => ?_)
      refine me_ldc (p' := 37) k124_35 rfl (v := (-1000000012)) (by decide) ?_
      refine me_reti k124_37 rt_124 rfl ?_
      simp only [sp_item, sp_rg_s hk468 (by omega), htg, (show ¬ nI 3 = nI 0 by decide), (show ¬ nI 3 = nI 1 by decide), (show ¬ nI 3 = nI 2 by decide), if_true, if_false, true_and, and_true, and_self] at hQ
      exact hQ
  · skip
    refine me_if_ne (p' := 7) k124_4 rfl (fun _ => ?_) (fun h => absurd (by decide) h)
    refine me_ldc (p' := 9) k124_7 rfl (v := (-1000000001)) (by decide) ?_
    refine me_reti k124_9 rt_124 rfl ?_
    simp only [sp_item, sp_rg_n (by omega) hz469, if_true, if_false, true_and, and_true, and_self] at hQ
    exact hQ
theorem ct_Crest {d L : Nat} {xs : Nat → Int32} {I : Nat → Nat → Int32} {Q : Option Value → mj_H → Prop} {W : Nat → Nat → Int32} (hc : cW I W) (hwk : mWk W) {sl v : Int32} (hQ : Q (some (.int (sp_rest W sl v))) (mg_h L xs I)) : mj_Cl (d + 1) 125 [.ref 0, .int sl, .int v] (mg_h L xs I) Q := by
  refine cl_start mx_125 (ls := [.ref 0, .int sl, .int v, mj_no]) rfl ?_
  refine me_iload_n (p' := 1) k125_0 rfl rfl ?_
  refine me_cs (p' := 4) k125_1 rfl rfl rfl rfl rfl (cl_le mx_121 rfl) (by decide) (cl_sum rfl) (ct_CisSlot (fun k474 hk475 he => ?_) (fun hz476 => ?_))
  · skip
    subst he
    refine me_if_ne (p' := 7) k125_4 rfl (fun h => absurd h (by decide)) (fun _ => ?_)
    refine me_aload_n (p' := 11) k125_10 rfl rfl ?_
    refine me_gfr (p' := 14) k125_11 rfl (by decide) rfl (b := 57) rfl ?_
    refine me_iload_n (p' := 15) k125_14 rfl rfl ?_
    refine me_aald (p' := 16) k125_15 rfl (by decide) rfl ⟨by decide, by decide⟩ (j := k474) rfl (by assumption) (by decide) (b := 112 + 3 * k474) (rc_57 k474 (by omega)) ?_
    refine me_astore_n (p' := 17) k125_16 rfl ⟨Nat.le_of_ble_eq_true rfl, rfl⟩ rfl ?_
    obtain ⟨t9, htg, ht4, htk, hts⟩ := hwk.tg (j := k474) (by omega)
    rcases (show t9 = 0 ∨ t9 = 1 ∨ t9 = 2 ∨ t9 = 3 by omega) with rfl | rfl | rfl | rfl
    · skip
      refine me_aload_n (p' := 18) k125_17 rfl rfl ?_
      refine me_gfi (p' := 21) k125_18 rfl (show 112 + 3 * k474 < 149 by omega) (congrArg Prod.fst (tb_L k474 (by omega)).1) (tb_L k474 (by omega)).2.1 ?_
      rw [hc.tg (j := k474) (by omega), htg]
      refine me_if_ne (p' := 24) k125_21 rfl (fun _ => ?_) (fun h => absurd (by decide) h)
      refine me_ldc (p' := 26) k125_24 rfl (v := (-1000000011)) (by decide) ?_
      refine me_reti k125_26 rt_125 rfl ?_
      simp only [sp_rest, sp_rg_s hk475 (by omega), htg, (show ¬ nI 0 = nI 1 by decide), (show ¬ nI 0 = nI 2 by decide), (show ¬ nI 0 = nI 3 by decide), if_true, if_false, true_and, and_true, and_self] at hQ
      exact hQ
    · skip
      refine me_aload_n (p' := 18) k125_17 rfl rfl ?_
      refine me_gfi (p' := 21) k125_18 rfl (show 112 + 3 * k474 < 149 by omega) (congrArg Prod.fst (tb_L k474 (by omega)).1) (tb_L k474 (by omega)).2.1 ?_
      rw [hc.tg (j := k474) (by omega), htg]
      refine me_if_ne (p' := 24) k125_21 rfl (fun h => absurd h (by decide)) (fun _ => ?_)
      refine me_aload_n (p' := 28) k125_27 rfl rfl ?_
      refine me_gfi (p' := 31) k125_28 rfl (show 112 + 3 * k474 < 149 by omega) (congrArg Prod.fst (tb_L k474 (by omega)).1) (tb_L k474 (by omega)).2.1 ?_
      rw [hc.tg (j := k474) (by omega), htg]
      refine me_iconst (p' := 32) k125_31 rfl (v := nI 3) (by decide) ?_
      refine me_ic_eq (p' := 35) k125_32 rfl (fun h => absurd h (by decide)) (fun _ => ?_)
      refine me_ldc (p' := 37) k125_35 rfl (v := (-1000000012)) (by decide) ?_
      refine me_reti k125_37 rt_125 rfl ?_
      simp only [sp_rest, sp_rg_s hk475 (by omega), htg, (show ¬ nI 1 = nI 0 by decide), (show ¬ nI 1 = nI 2 by decide), (show ¬ nI 1 = nI 3 by decide), if_true, if_false, true_and, and_true, and_self] at hQ
      exact hQ
    · skip
      refine me_aload_n (p' := 18) k125_17 rfl rfl ?_
      refine me_gfi (p' := 21) k125_18 rfl (show 112 + 3 * k474 < 149 by omega) (congrArg Prod.fst (tb_L k474 (by omega)).1) (tb_L k474 (by omega)).2.1 ?_
      rw [hc.tg (j := k474) (by omega), htg]
      refine me_if_ne (p' := 24) k125_21 rfl (fun h => absurd h (by decide)) (fun _ => ?_)
      refine me_aload_n (p' := 28) k125_27 rfl rfl ?_
      refine me_gfi (p' := 31) k125_28 rfl (show 112 + 3 * k474 < 149 by omega) (congrArg Prod.fst (tb_L k474 (by omega)).1) (tb_L k474 (by omega)).2.1 ?_
      rw [hc.tg (j := k474) (by omega), htg]
      refine me_iconst (p' := 32) k125_31 rfl (v := nI 3) (by decide) ?_
      refine me_ic_eq (p' := 35) k125_32 rfl (fun h => absurd h (by decide)) (fun _ => ?_)
      refine me_ldc (p' := 37) k125_35 rfl (v := (-1000000012)) (by decide) ?_
      refine me_reti k125_37 rt_125 rfl ?_
      simp only [sp_rest, sp_rg_s hk475 (by omega), htg, (show ¬ nI 2 = nI 0 by decide), (show ¬ nI 2 = nI 1 by decide), (show ¬ nI 2 = nI 3 by decide), if_true, if_false, true_and, and_true, and_self] at hQ
      exact hQ
    · skip
      refine me_aload_n (p' := 18) k125_17 rfl rfl ?_
      refine me_gfi (p' := 21) k125_18 rfl (show 112 + 3 * k474 < 149 by omega) (congrArg Prod.fst (tb_L k474 (by omega)).1) (tb_L k474 (by omega)).2.1 ?_
      rw [hc.tg (j := k474) (by omega), htg]
      refine me_if_ne (p' := 24) k125_21 rfl (fun h => absurd h (by decide)) (fun _ => ?_)
      refine me_aload_n (p' := 28) k125_27 rfl rfl ?_
      refine me_gfi (p' := 31) k125_28 rfl (show 112 + 3 * k474 < 149 by omega) (congrArg Prod.fst (tb_L k474 (by omega)).1) (tb_L k474 (by omega)).2.1 ?_
      rw [hc.tg (j := k474) (by omega), htg]
      refine me_iconst (p' := 32) k125_31 rfl (v := nI 3) (by decide) ?_
      refine me_ic_eq (p' := 35) k125_32 rfl (fun _ => ?_) (fun h => absurd (by decide) h)
      refine me_iload_n (p' := 39) k125_38 rfl rfl ?_
      refine me_if_ne (p' := 42) k125_39 rfl (fun c1 => ?_) (fun c1 => ?_)
      · skip
        refine me_ldcw (p' := 45) k125_42 rfl (v := (-1000000002)) (by decide) ?_
        refine me_goto k125_45 ?_
        refine me_reti k125_54 rt_125 rfl ?_
        simp only [sp_rest, sp_rg_s hk475 (by omega), htg, (show ¬ nI 3 = nI 0 by decide), (show ¬ nI 3 = nI 1 by decide), (show ¬ nI 3 = nI 2 by decide), (eq_true c1), if_true, if_false, true_and, and_true, and_self] at hQ
        exact hQ
      · skip
        refine me_aload_n (p' := 49) k125_48 rfl rfl ?_
        refine me_gfi (p' := 52) k125_49 rfl (show 112 + 3 * k474 < 149 by omega) (congrArg Prod.fst (tb_L k474 (by omega)).1) (tb_L k474 (by omega)).2.2.2.2.2 ?_
        rw [(hc.2 k474 (by omega)).2.2.2 htg]
        refine me_iload_n (p' := 53) k125_52 rfl rfl ?_
        refine me_irem (p' := 54) k125_53 rfl (by assumption) rfl ?_
        refine me_reti k125_54 rt_125 rfl ?_
        by_cases e8 : v = (-1)
        · subst e8
          rw [mI_mod1]
          simp only [sp_rest, show ¬ ((-1 : Int32) = 0) from by decide, sp_rg_s hk475 (by omega), htg, (show ¬ nI 3 = nI 0 by decide), (show ¬ nI 3 = nI 1 by decide), (show ¬ nI 3 = nI 2 by decide), c1, if_true, if_false, true_and, and_true, and_self] at hQ
          exact hQ
        · simp only [sp_rest, e8, sp_rg_s hk475 (by omega), htg, (show ¬ nI 3 = nI 0 by decide), (show ¬ nI 3 = nI 1 by decide), (show ¬ nI 3 = nI 2 by decide), c1, if_true, if_false, true_and, and_true, and_self] at hQ
          exact hQ
  · skip
    refine me_if_ne (p' := 7) k125_4 rfl (fun _ => ?_) (fun h => absurd (by decide) h)
    refine me_ldc (p' := 9) k125_7 rfl (v := (-1000000001)) (by decide) ?_
    refine me_reti k125_9 rt_125 rfl ?_
    simp only [sp_rest, sp_rg_n (by omega) hz476, if_true, if_false, true_and, and_true, and_self] at hQ
    exact hQ
