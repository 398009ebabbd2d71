/-! ===== the law: its loop ===== -/
theorem nI_lt_of {i L : Nat} (hi : i < 2 ^ 30) (hL : L ≤ 3072) (h : ¬ nI L - nI 6 < nI i) : i + 6 ≤ L := by
  rcases Nat.lt_or_ge L 6 with z | z
  · exfalso
    apply h
    refine Int32.lt_of_lt_of_le (b := 0) ?_ (nI_pos' (by omega))
    rcases (show L = 0 ∨ L = 1 ∨ L = 2 ∨ L = 3 ∨ L = 4 ∨ L = 5 by omega) with rfl | rfl | rfl | rfl | rfl | rfl <;> decide
  · rw [mI_sub z, cI_lt (by omega) (by omega)] at h
    omega
theorem lp_law {L : Nat} {xs : Nat → Int32} {Q : Option Value → mj_H → Prop} (hL : L ≤ 3072) (hQ : ∀ J, Q (some (.int (nI 1))) (mg_h L xs J)) : ∀ (f i : Nat) (I : Nat → Nat → Int32), L ≤ i + f → i ≤ L → mRel I → mj_Ev 96 219 18 (mLw i) [] (mg_h L xs I) Q := by
  intro f
  induction f with
  | zero =>
    intro i I hf hi hR
    refine me_iload_n (p' := 19) k219_18 rfl rfl ?_
    refine me_aload_n (p' := 20) k219_19 rfl rfl ?_
    refine me_xlen (p' := 21) k219_20 rfl (v := nI L) rfl ?_
    refine me_bipush (p' := 23) k219_21 rfl (v := nI 6) (by decide) ?_
    refine me_isub (p' := 24) k219_23 rfl rfl ?_
    refine me_ic_gt (p' := 27) k219_24 rfl (fun c1 => ?_) (fun c1 => ?_)
    · refine me_iconst (p' := 1563) k219_1562 rfl (v := nI 1) (by decide) ?_
      exact me_reti k219_1563 rt_219 (by decide) (hQ I)
    · exact absurd (nI_lt_of (by omega) hL c1) (by omega)
  | succ f ih =>
    intro i I hf hi hR
    refine me_iload_n (p' := 19) k219_18 rfl rfl ?_
    refine me_aload_n (p' := 20) k219_19 rfl rfl ?_
    refine me_xlen (p' := 21) k219_20 rfl (v := nI L) rfl ?_
    refine me_bipush (p' := 23) k219_21 rfl (v := nI 6) (by decide) ?_
    refine me_isub (p' := 24) k219_23 rfl rfl ?_
    refine me_ic_gt (p' := 27) k219_24 rfl (fun c1 => ?_) (fun c1 => ?_)
    · refine me_iconst (p' := 1563) k219_1562 rfl (v := nI 1) (by decide) ?_
      exact me_reti k219_1563 rt_219 (by decide) (hQ I)
    · have hi6 := nI_lt_of (by omega) hL c1
      have hS : ∀ J, mRel J → mj_Ev 96 219 1556 (mLw i) [] (mg_h L xs J) Q := fun J hJ => by
        refine me_iinc (p' := 1559) k219_1556 rfl rfl rfl (v := nI (i + 6)) (mI_inc (by decide)) rfl ?_
        refine me_goto k219_1559 ?_
        exact ih (i + 6) J (by omega) hi6 hJ
      obtain ⟨k, hk, e⟩ : ∃ k, k < 64 ∧ xs i &&& nI 63 = nI k := ⟨_, Nat.mod_lt _ (by decide), mI_and63 _⟩
      refine me_aload_n (p' := 28) k219_27 rfl rfl ?_
      refine me_iload_n (p' := 29) k219_28 rfl rfl ?_
      refine me_xald (p' := 30) k219_29 rfl (j := i) rfl (by omega) (by omega) ?_
      refine me_bipush (p' := 32) k219_30 rfl (v := nI 63) (by decide) ?_
      refine me_iand (p' := 33) k219_32 rfl e ?_
      rcases (show k = 0 ∨ k = 1 ∨ k = 2 ∨ k = 3 ∨ k = 4 ∨ k = 5 ∨ k = 6 ∨ k = 7 ∨ k = 8 ∨ k = 9 ∨ k = 10 ∨ k = 11 ∨ k = 12 ∨ k = 13 ∨ k = 14 ∨ k = 15 ∨ k = 16 ∨ k = 17 ∨ k = 18 ∨ k = 19 ∨ k = 20 ∨ k = 21 ∨ k = 22 ∨ k = 23 ∨ k = 24 ∨ k = 25 ∨ k = 26 ∨ k = 27 ∨ k = 28 ∨ k = 29 ∨ k = 30 ∨ k = 31 ∨ k = 32 ∨ k = 33 ∨ k = 34 ∨ k = 35 ∨ k = 36 ∨ k = 37 ∨ k = 38 ∨ k = 39 ∨ k = 40 ∨ k = 41 ∨ k = 42 ∨ k = 43 ∨ 44 ≤ k by omega) with rfl | rfl | rfl | rfl | rfl | rfl | rfl | rfl | rfl | rfl | rfl | rfl | rfl | rfl | rfl | rfl | rfl | rfl | rfl | rfl | rfl | rfl | rfl | rfl | rfl | rfl | rfl | rfl | rfl | rfl | rfl | rfl | rfl | rfl | rfl | rfl | rfl | rfl | rfl | rfl | rfl | rfl | rfl | rfl | hge
      · exact me_tsw (p' := 224) k219_33 (by decide) (lw_0 hi6 hL hR hS)
      · exact me_tsw (p' := 267) k219_33 (by decide) (lw_1 hi6 hL hR hS)
      · exact me_tsw (p' := 300) k219_33 (by decide) (lw_2 hi6 hL hR hS)
      · exact me_tsw (p' := 333) k219_33 (by decide) (lw_3 hi6 hL hR hS)
      · exact me_tsw (p' := 366) k219_33 (by decide) (lw_4 hi6 hL hR hS)
      · exact me_tsw (p' := 399) k219_33 (by decide) (lw_5 hi6 hL hR hS)
      · exact me_tsw (p' := 442) k219_33 (by decide) (lw_6 hi6 hL hR hS)
      · exact me_tsw (p' := 475) k219_33 (by decide) (lw_7 hi6 hL hR hS)
      · exact me_tsw (p' := 518) k219_33 (by decide) (lw_8 hi6 hL hR hS)
      · exact me_tsw (p' := 541) k219_33 (by decide) (lw_9 hi6 hL hR hS)
      · exact me_tsw (p' := 564) k219_33 (by decide) (lw_10 hi6 hL hR hS)
      · exact me_tsw (p' := 587) k219_33 (by decide) (lw_11 hi6 hL hR hS)
      · exact me_tsw (p' := 610) k219_33 (by decide) (lw_12 hi6 hL hR hS)
      · exact me_tsw (p' := 633) k219_33 (by decide) (lw_13 hi6 hL hR hS)
      · exact me_tsw (p' := 646) k219_33 (by decide) (lw_14 hi6 hL hR hS)
      · exact me_tsw (p' := 679) k219_33 (by decide) (lw_15 hi6 hL hR hS)
      · exact me_tsw (p' := 692) k219_33 (by decide) (lw_16 hi6 hL hR hS)
      · exact me_tsw (p' := 735) k219_33 (by decide) (lw_17 hi6 hL hR hS)
      · exact me_tsw (p' := 778) k219_33 (by decide) (lw_18 hi6 hL hR hS)
      · exact me_tsw (p' := 811) k219_33 (by decide) (lw_19 hi6 hL hR hS)
      · exact me_tsw (p' := 854) k219_33 (by decide) (lw_20 hi6 hL hR hS)
      · exact me_tsw (p' := 887) k219_33 (by decide) (lw_21 hi6 hL hR hS)
      · exact me_tsw (p' := 910) k219_33 (by decide) (lw_22 hi6 hL hR hS)
      · exact me_tsw (p' := 953) k219_33 (by decide) (lw_23 hi6 hL hR hS)
      · exact me_tsw (p' := 966) k219_33 (by decide) (lw_24 hi6 hL hR hS)
      · exact me_tsw (p' := 989) k219_33 (by decide) (lw_25 hi6 hL hR hS)
      · exact me_tsw (p' := 1032) k219_33 (by decide) (lw_26 hi6 hL hR hS)
      · exact me_tsw (p' := 1055) k219_33 (by decide) (lw_27 hi6 hL hR hS)
      · exact me_tsw (p' := 1068) k219_33 (by decide) (lw_28 hi6 hL hR hS)
      · exact me_tsw (p' := 1101) k219_33 (by decide) (lw_29 hi6 hL hR hS)
      · exact me_tsw (p' := 1124) k219_33 (by decide) (lw_30 hi6 hL hR hS)
      · exact me_tsw (p' := 1167) k219_33 (by decide) (lw_31 hi6 hL hR hS)
      · exact me_tsw (p' := 1210) k219_33 (by decide) (lw_32 hi6 hL hR hS)
      · exact me_tsw (p' := 1233) k219_33 (by decide) (lw_33 hi6 hL hR hS)
      · exact me_tsw (p' := 1256) k219_33 (by decide) (lw_34 hi6 hL hR hS)
      · exact me_tsw (p' := 1319) k219_33 (by decide) (lw_35 hi6 hL hR hS)
      · exact me_tsw (p' := 1362) k219_33 (by decide) (lw_36 hi6 hL hR hS)
      · exact me_tsw (p' := 1395) k219_33 (by decide) (lw_37 hi6 hL hR hS)
      · exact me_tsw (p' := 1428) k219_33 (by decide) (lw_38 hi6 hL hR hS)
      · exact me_tsw (p' := 1461) k219_33 (by decide) (lw_39 hi6 hL hR hS)
      · exact me_tsw (p' := 1484) k219_33 (by decide) (lw_40 hi6 hL hR hS)
      · exact me_tsw (p' := 1507) k219_33 (by decide) (lw_41 hi6 hL hR hS)
      · exact me_tsw (p' := 1520) k219_33 (by decide) (lw_42 hi6 hL hR hS)
      · exact me_tsw (p' := 1533) k219_33 (by decide) (lw_43 hi6 hL hR hS)
      · refine me_tsw (p' := 1556) k219_33 ?_ (hS I hR)
        have e1 : (nI k).toInt = (k : Int) := Int32.toInt_ofNat_of_lt (by omega)
        rw [e1, if_pos (Or.inr (by omega))]
        rfl
