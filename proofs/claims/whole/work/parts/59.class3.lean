/-! ===== the class: tell, feed, trim, keep, back, count, check ===== -/
theorem ct_Ctell {d L : Nat} {xs : Nat → Int32} {I : Nat → Nat → Int32} {Q : Option Value → mj_H → Prop} {v : Int32} {w : Nat} (hw : I 0 10 = nI w ∧ w ≤ 60) (hQ0 : w = 60 → Q (some (.int (-1000000003))) (mg_h L xs I)) (hQ1 : ¬ w = 60 → Q (some (.int (nI (w + 1)))) (mg_h L xs (mg_u (mg_u I 58 w v) 0 10 (nI (w + 1))))) : mj_Cl d 126 [.ref 0, .int v] (mg_h L xs I) Q := by
  have hw2 := hw.2
  refine cl_start mx_126 (ls := [.ref 0, .int v]) rfl ?_
  refine me_aload_n (p' := 1) k126_0 rfl rfl ?_
  refine me_gfi (p' := 4) k126_1 rfl (by decide) rfl rfl ?_
  rw [hw.1]
  refine me_bipush (p' := 6) k126_4 rfl (v := nI 60) (by decide) ?_
  refine me_ic_lt (p' := 9) k126_6 rfl (fun c1 => ?_) (fun c1 => ?_)
  · skip
    rw [cI_lt (a := w) (b := 60) (by omega) (by omega)] at c1
    refine me_aload_n (p' := 13) k126_12 rfl rfl ?_
    refine me_gfr (p' := 16) k126_13 rfl (by decide) rfl (b := 58) rfl ?_
    refine me_aload_n (p' := 17) k126_16 rfl rfl ?_
    refine me_gfi (p' := 20) k126_17 rfl (by decide) rfl rfl ?_
    rw [hw.1]
    refine me_iload_n (p' := 21) k126_20 rfl rfl ?_
    refine me_iast (p' := 22) k126_21 rfl (by decide) rfl (j := w) rfl (by omega) (by decide) rfl ?_
    refine me_aload_n (p' := 23) k126_22 rfl rfl ?_
    refine me_dup (p' := 24) k126_23 rfl rfl ?_
    refine me_gfi (p' := 27) k126_24 rfl (by decide) rfl rfl ?_
    rw [mg_un1 (by decide), hw.1]
    refine me_iconst (p' := 28) k126_27 rfl (v := nI 1) (by decide) ?_
    refine me_iadd (p' := 29) k126_28 rfl (v := nI (w + 1)) (mI_add _ _) ?_
    refine me_pfi (p' := 32) k126_29 rfl (by decide) rfl rfl rfl rfl ?_
    refine me_aload_n (p' := 33) k126_32 rfl rfl ?_
    refine me_gfi (p' := 36) k126_33 rfl (by decide) rfl rfl ?_
    rw [mg_ueq]
    refine me_reti k126_36 rt_126 rfl ?_
    exact hQ1 (by omega)
  · skip
    rw [cI_lt (a := w) (b := 60) (by omega) (by omega)] at c1
    refine me_ldc (p' := 11) k126_9 rfl (v := (-1000000003)) (by decide) ?_
    refine me_reti k126_11 rt_126 rfl ?_
    exact hQ0 (by omega)
theorem af_0 {I : Nat → Nat → Int32} {x : Int32} {tl : Nat} (h : I 9 1 = nI tl) : (mg_u (mw I 10 (fun q => if tl ≤ q ∧ q < tl + 0 then nI (sp_byN x (q - tl)) else I 10 q)) 9 1 (nI (tl + 0))) = I := by
  funext a b
  by_cases e : a = 9 ∧ b = 1
  · obtain ⟨rfl, rfl⟩ := e
    rw [mg_ueq, h, Nat.add_zero]
  · rw [mg_une e]
    by_cases e2 : a = 10
    · subst e2
      rw [mw_eq, if_neg (by omega)]
    · rw [mw_ne e2]
theorem af_s {I : Nat → Nat → Int32} {x : Int32} {tl j : Nat} : mg_u (mg_u (mg_u (mw I 10 (fun q => if tl ≤ q ∧ q < tl + j then nI (sp_byN x (q - tl)) else I 10 q)) 9 1 (nI (tl + j))) 10 (tl + j) (nI (sp_byN x j))) 9 1 (nI (tl + j + 1)) = (mg_u (mw I 10 (fun q => if tl ≤ q ∧ q < tl + (j + 1) then nI (sp_byN x (q - tl)) else I 10 q)) 9 1 (nI (tl + (j + 1)))) := by
  funext a b
  by_cases e : a = 9 ∧ b = 1
  · obtain ⟨rfl, rfl⟩ := e
    rw [mg_ueq, mg_ueq, Nat.add_assoc]
  · rw [mg_une e, mg_une e]
    by_cases e2 : a = 10
    · subst e2
      rw [mw_eq]
      by_cases e3 : b = tl + j
      · subst e3
        rw [mg_ueq, if_pos (by omega), show tl + j - tl = j by omega]
      · rw [mg_une (fun z => e3 z.2), mg_un1 (by decide), mw_eq]
        by_cases e4 : tl ≤ b ∧ b < tl + j
        · rw [if_pos e4, if_pos (by omega)]
        · rw [if_neg e4, if_neg (by omega)]
    · rw [mg_un1 e2, mg_une e, mw_ne e2, mw_ne e2]
theorem ct_addFour {d L : Nat} {xs : Nat → Int32} {I : Nat → Nat → Int32} {Q : Option Value → mj_H → Prop} {x : Int32} {tl : Nat} (ht : I 9 1 = nI tl) (ht2 : tl ≤ 92) (hQ : Q none (mg_h L xs (mg_u (mw I 10 (fun q => if tl ≤ q ∧ q < tl + 4 then nI (sp_byN x (q - tl)) else I 10 q)) 9 1 (nI (tl + 4))))) : mj_Cl d 91 [.ref 9, .int x] (mg_h L xs I) Q := by
  refine cl_start mx_91 (ls := [.ref 9, .int x, mj_no]) rfl ?_
  refine me_bipush (p' := 2) k91_0 rfl (v := nI 24) (by decide) ?_
  refine me_istore_n (p' := 3) k91_2 rfl ⟨Nat.le_of_ble_eq_true rfl, rfl⟩ rfl ?_
  rw [← af_0 (x := x) ht]
  refine me_iload_n (p' := 4) k91_3 rfl rfl ?_
  refine me_if_lt (p' := 7) k91_4 rfl (fun h => absurd h (by decide)) (fun _ => ?_)
  refine me_aload_n (p' := 8) k91_7 rfl rfl ?_
  refine me_gfi (p' := 11) k91_8 rfl (by decide) rfl rfl ?_
  rw [mg_ueq]
  refine me_aload_n (p' := 12) k91_11 rfl rfl ?_
  refine me_gfr (p' := 15) k91_12 rfl (by decide) rfl (b := 10) rfl ?_
  refine me_alen (p' := 16) k91_15 rfl (by decide) rfl ⟨by decide, by decide⟩ (v := nI 96) rfl ?_
  refine me_ic_ge (p' := 19) k91_16 rfl (fun c1 => ?_) (fun c1 => ?_)
  · skip
    rw [cI_le (a := 96) (b := tl + 0) (by omega) (by omega)] at c1
    exfalso
    omega
  · skip
    rw [cI_le (a := 96) (b := tl + 0) (by omega) (by omega)] at c1
    refine me_aload_n (p' := 20) k91_19 rfl rfl ?_
    refine me_gfr (p' := 23) k91_20 rfl (by decide) rfl (b := 10) rfl ?_
    refine me_aload_n (p' := 24) k91_23 rfl rfl ?_
    refine me_gfi (p' := 27) k91_24 rfl (by decide) rfl rfl ?_
    rw [mg_ueq]
    refine me_iload_n (p' := 28) k91_27 rfl rfl ?_
    refine me_iload_n (p' := 29) k91_28 rfl rfl ?_
    refine me_iushr (p' := 30) k91_29 rfl rfl ?_
    refine me_sipush (p' := 33) k91_30 rfl (v := nI 255) (by decide) ?_
    refine me_iand (p' := 34) k91_33 rfl rfl ?_
    rw [show (((Int32.toUInt32 (x) >>> (Int32.toUInt32 ((nI 24)) &&& Int32.toUInt32 31)).toInt32) &&& (nI 255)) = nI (sp_byN x 0) from mI_byC x 0 (by decide)]
    refine me_iast (p' := 35) k91_34 rfl (by decide) rfl (j := tl + 0) rfl (by omega) (by decide) rfl ?_
    refine me_aload_n (p' := 36) k91_35 rfl rfl ?_
    refine me_dup (p' := 37) k91_36 rfl rfl ?_
    refine me_gfi (p' := 40) k91_37 rfl (by decide) rfl rfl ?_
    rw [mg_un1 (by decide), mg_ueq]
    refine me_iconst (p' := 41) k91_40 rfl (v := nI 1) (by decide) ?_
    refine me_iadd (p' := 42) k91_41 rfl (v := nI ((tl + 0) + 1)) (mI_add _ _) ?_
    refine me_pfi (p' := 45) k91_42 rfl (by decide) rfl rfl rfl rfl ?_
    rw [af_s (j := 0)]
    refine me_iinc (p' := 48) k91_45 rfl rfl rfl (v := nI 16) (by decide) rfl ?_
    refine me_goto k91_48 ?_
    refine me_iload_n (p' := 4) k91_3 rfl rfl ?_
    refine me_if_lt (p' := 7) k91_4 rfl (fun h => absurd h (by decide)) (fun _ => ?_)
    refine me_aload_n (p' := 8) k91_7 rfl rfl ?_
    refine me_gfi (p' := 11) k91_8 rfl (by decide) rfl rfl ?_
    rw [mg_ueq]
    refine me_aload_n (p' := 12) k91_11 rfl rfl ?_
    refine me_gfr (p' := 15) k91_12 rfl (by decide) rfl (b := 10) rfl ?_
    refine me_alen (p' := 16) k91_15 rfl (by decide) rfl ⟨by decide, by decide⟩ (v := nI 96) rfl ?_
    refine me_ic_ge (p' := 19) k91_16 rfl (fun c2 => ?_) (fun c2 => ?_)
    · skip
      rw [cI_le (a := 96) (b := tl + 1) (by omega) (by omega)] at c2
      exfalso
      omega
    · skip
      rw [cI_le (a := 96) (b := tl + 1) (by omega) (by omega)] at c2
      refine me_aload_n (p' := 20) k91_19 rfl rfl ?_
      refine me_gfr (p' := 23) k91_20 rfl (by decide) rfl (b := 10) rfl ?_
      refine me_aload_n (p' := 24) k91_23 rfl rfl ?_
      refine me_gfi (p' := 27) k91_24 rfl (by decide) rfl rfl ?_
      rw [mg_ueq]
      refine me_iload_n (p' := 28) k91_27 rfl rfl ?_
      refine me_iload_n (p' := 29) k91_28 rfl rfl ?_
      refine me_iushr (p' := 30) k91_29 rfl rfl ?_
      refine me_sipush (p' := 33) k91_30 rfl (v := nI 255) (by decide) ?_
      refine me_iand (p' := 34) k91_33 rfl rfl ?_
      rw [show (((Int32.toUInt32 (x) >>> (Int32.toUInt32 ((nI 16)) &&& Int32.toUInt32 31)).toInt32) &&& (nI 255)) = nI (sp_byN x 1) from mI_byC x 1 (by decide)]
      refine me_iast (p' := 35) k91_34 rfl (by decide) rfl (j := tl + 1) rfl (by omega) (by decide) rfl ?_
      refine me_aload_n (p' := 36) k91_35 rfl rfl ?_
      refine me_dup (p' := 37) k91_36 rfl rfl ?_
      refine me_gfi (p' := 40) k91_37 rfl (by decide) rfl rfl ?_
      rw [mg_un1 (by decide), mg_ueq]
      refine me_iconst (p' := 41) k91_40 rfl (v := nI 1) (by decide) ?_
      refine me_iadd (p' := 42) k91_41 rfl (v := nI ((tl + 1) + 1)) (mI_add _ _) ?_
      refine me_pfi (p' := 45) k91_42 rfl (by decide) rfl rfl rfl rfl ?_
      rw [af_s (j := 1)]
      refine me_iinc (p' := 48) k91_45 rfl rfl rfl (v := nI 8) (by decide) rfl ?_
      refine me_goto k91_48 ?_
      refine me_iload_n (p' := 4) k91_3 rfl rfl ?_
      refine me_if_lt (p' := 7) k91_4 rfl (fun h => absurd h (by decide)) (fun _ => ?_)
      refine me_aload_n (p' := 8) k91_7 rfl rfl ?_
      refine me_gfi (p' := 11) k91_8 rfl (by decide) rfl rfl ?_
      rw [mg_ueq]
      refine me_aload_n (p' := 12) k91_11 rfl rfl ?_
      refine me_gfr (p' := 15) k91_12 rfl (by decide) rfl (b := 10) rfl ?_
      refine me_alen (p' := 16) k91_15 rfl (by decide) rfl ⟨by decide, by decide⟩ (v := nI 96) rfl ?_
      refine me_ic_ge (p' := 19) k91_16 rfl (fun c3 => ?_) (fun c3 => ?_)
      · skip
        rw [cI_le (a := 96) (b := tl + 2) (by omega) (by omega)] at c3
        exfalso
        omega
      · skip
        rw [cI_le (a := 96) (b := tl + 2) (by omega) (by omega)] at c3
        refine me_aload_n (p' := 20) k91_19 rfl rfl ?_
        refine me_gfr (p' := 23) k91_20 rfl (by decide) rfl (b := 10) rfl ?_
        refine me_aload_n (p' := 24) k91_23 rfl rfl ?_
        refine me_gfi (p' := 27) k91_24 rfl (by decide) rfl rfl ?_
        rw [mg_ueq]
        refine me_iload_n (p' := 28) k91_27 rfl rfl ?_
        refine me_iload_n (p' := 29) k91_28 rfl rfl ?_
        refine me_iushr (p' := 30) k91_29 rfl rfl ?_
        refine me_sipush (p' := 33) k91_30 rfl (v := nI 255) (by decide) ?_
        refine me_iand (p' := 34) k91_33 rfl rfl ?_
        rw [show (((Int32.toUInt32 (x) >>> (Int32.toUInt32 ((nI 8)) &&& Int32.toUInt32 31)).toInt32) &&& (nI 255)) = nI (sp_byN x 2) from mI_byC x 2 (by decide)]
        refine me_iast (p' := 35) k91_34 rfl (by decide) rfl (j := tl + 2) rfl (by omega) (by decide) rfl ?_
        refine me_aload_n (p' := 36) k91_35 rfl rfl ?_
        refine me_dup (p' := 37) k91_36 rfl rfl ?_
        refine me_gfi (p' := 40) k91_37 rfl (by decide) rfl rfl ?_
        rw [mg_un1 (by decide), mg_ueq]
        refine me_iconst (p' := 41) k91_40 rfl (v := nI 1) (by decide) ?_
        refine me_iadd (p' := 42) k91_41 rfl (v := nI ((tl + 2) + 1)) (mI_add _ _) ?_
        refine me_pfi (p' := 45) k91_42 rfl (by decide) rfl rfl rfl rfl ?_
        rw [af_s (j := 2)]
        refine me_iinc (p' := 48) k91_45 rfl rfl rfl (v := nI 0) (by decide) rfl ?_
        refine me_goto k91_48 ?_
        refine me_iload_n (p' := 4) k91_3 rfl rfl ?_
        refine me_if_lt (p' := 7) k91_4 rfl (fun h => absurd h (by decide)) (fun _ => ?_)
        refine me_aload_n (p' := 8) k91_7 rfl rfl ?_
        refine me_gfi (p' := 11) k91_8 rfl (by decide) rfl rfl ?_
        rw [mg_ueq]
        refine me_aload_n (p' := 12) k91_11 rfl rfl ?_
        refine me_gfr (p' := 15) k91_12 rfl (by decide) rfl (b := 10) rfl ?_
        refine me_alen (p' := 16) k91_15 rfl (by decide) rfl ⟨by decide, by decide⟩ (v := nI 96) rfl ?_
        refine me_ic_ge (p' := 19) k91_16 rfl (fun c4 => ?_) (fun c4 => ?_)
        · skip
          rw [cI_le (a := 96) (b := tl + 3) (by omega) (by omega)] at c4
          exfalso
          omega
        · skip
          rw [cI_le (a := 96) (b := tl + 3) (by omega) (by omega)] at c4
          refine me_aload_n (p' := 20) k91_19 rfl rfl ?_
          refine me_gfr (p' := 23) k91_20 rfl (by decide) rfl (b := 10) rfl ?_
          refine me_aload_n (p' := 24) k91_23 rfl rfl ?_
          refine me_gfi (p' := 27) k91_24 rfl (by decide) rfl rfl ?_
          rw [mg_ueq]
          refine me_iload_n (p' := 28) k91_27 rfl rfl ?_
          refine me_iload_n (p' := 29) k91_28 rfl rfl ?_
          refine me_iushr (p' := 30) k91_29 rfl rfl ?_
          refine me_sipush (p' := 33) k91_30 rfl (v := nI 255) (by decide) ?_
          refine me_iand (p' := 34) k91_33 rfl rfl ?_
          rw [show (((Int32.toUInt32 (x) >>> (Int32.toUInt32 ((nI 0)) &&& Int32.toUInt32 31)).toInt32) &&& (nI 255)) = nI (sp_byN x 3) from mI_byC x 3 (by decide)]
          refine me_iast (p' := 35) k91_34 rfl (by decide) rfl (j := tl + 3) rfl (by omega) (by decide) rfl ?_
          refine me_aload_n (p' := 36) k91_35 rfl rfl ?_
          refine me_dup (p' := 37) k91_36 rfl rfl ?_
          refine me_gfi (p' := 40) k91_37 rfl (by decide) rfl rfl ?_
          rw [mg_un1 (by decide), mg_ueq]
          refine me_iconst (p' := 41) k91_40 rfl (v := nI 1) (by decide) ?_
          refine me_iadd (p' := 42) k91_41 rfl (v := nI ((tl + 3) + 1)) (mI_add _ _) ?_
          refine me_pfi (p' := 45) k91_42 rfl (by decide) rfl rfl rfl rfl ?_
          rw [af_s (j := 3)]
          refine me_iinc (p' := 48) k91_45 rfl rfl rfl (v := (-8)) (by decide) rfl ?_
          refine me_goto k91_48 ?_
          refine me_iload_n (p' := 4) k91_3 rfl rfl ?_
          refine me_if_lt (p' := 7) k91_4 rfl (fun c5 => ?_) (fun c5 => ?_)
          · skip
            refine me_retv k91_51 rt_91 ?_
            exact hQ
          · skip
            exact absurd (by decide) c5
theorem ct_Cfeed {d L : Nat} {xs : Nat → Int32} {I : Nat → Nat → Int32} {Q : Option Value → mj_H → Prop} {a b c : Int32} {tl : Nat} (ht : I 9 1 = nI tl ∧ tl ≤ 96) (hQ0 : ¬ tl ≤ 84 → Q (some (.int (-1000000003))) (mg_h L xs I)) (hQ1 : tl ≤ 84 → ∀ I2, mFr [9, 10] I I2 → (∀ q, q ≠ 1 → I2 9 q = I 9 q) → I2 9 1 = nI (tl + 12) → (∀ q, q < tl + 12 → I2 10 q = if q < tl then I 10 q else nI (sp_fd a b c (q - tl))) → Q (some (.int (nI (tl + 12)))) (mg_h L xs I2)) : mj_Cl (d + 1) 90 [.ref 0, .int a, .int b, .int c] (mg_h L xs I) Q := by
  have ht2 := ht.2
  refine cl_start mx_90 (ls := [.ref 0, .int a, .int b, .int c]) rfl ?_
  refine me_aload_n (p' := 1) k90_0 rfl rfl ?_
  refine me_gfr (p' := 4) k90_1 rfl (by decide) rfl (b := 9) rfl ?_
  refine me_gfi (p' := 7) k90_4 rfl (by decide) rfl rfl ?_
  rw [ht.1]
  refine me_bipush (p' := 9) k90_7 rfl (v := nI 84) (by decide) ?_
  refine me_ic_le (p' := 12) k90_9 rfl (fun c1 => ?_) (fun c1 => ?_)
  · skip
    rw [cI_le (a := tl) (b := 84) (by omega) (by omega)] at c1
    refine me_aload_n (p' := 16) k90_15 rfl rfl ?_
    refine me_gfr (p' := 19) k90_16 rfl (by decide) rfl (b := 9) rfl ?_
    refine me_iload_n (p' := 20) k90_19 rfl rfl ?_
    refine me_cv (p' := 23) k90_20 rfl rfl (by decide) rfl (by decide) (by decide) dp_91 rfl rfl (cl_le mx_91 rfl) (by decide) (cl_sum rfl) (ct_addFour (tl := tl) ht.1 (by omega) ?_)
    generalize hg1 : (mg_u (mw I 10 (fun q => if tl ≤ q ∧ q < tl + 4 then nI (sp_byN a (q - (tl))) else I 10 q)) 9 1 (nI (tl + 4))) = J1
    have ht1 : J1 9 1 = nI (tl + 4) := by rw [← hg1, mg_ueq]
    have hf1 : mFr [9, 10] I J1 := by rw [← hg1]; exact (mFr.w (by decide)).tr (mFr.up (by decide))
    have hv1 : ∀ q, J1 10 q = if tl ≤ q ∧ q < tl + 4 then nI (sp_byN a (q - (tl))) else I 10 q := fun q => by rw [← hg1, mg_un1 (by decide), mw_eq]
    have hl1 : ∀ q, q ≠ 1 → J1 9 q = I 9 q := fun q hq => by rw [← hg1, mg_une (fun z => hq z.2), mw_ne (by decide)]
    refine me_aload_n (p' := 24) k90_23 rfl rfl ?_
    refine me_gfr (p' := 27) k90_24 rfl (by decide) rfl (b := 9) rfl ?_
    refine me_iload_n (p' := 28) k90_27 rfl rfl ?_
    refine me_cv (p' := 31) k90_28 rfl rfl (by decide) rfl (by decide) (by decide) dp_91 rfl rfl (cl_le mx_91 rfl) (by decide) (cl_sum rfl) (ct_addFour (tl := tl + 4) ht1 (by omega) ?_)
    generalize hg2 : (mg_u (mw J1 10 (fun q => if tl + 4 ≤ q ∧ q < tl + 4 + 4 then nI (sp_byN b (q - (tl + 4))) else J1 10 q)) 9 1 (nI (tl + 4 + 4))) = J2
    have ht2_ : J2 9 1 = nI (tl + 4 + 4) := by rw [← hg2, mg_ueq]
    have hf2 : mFr [9, 10] J1 J2 := by rw [← hg2]; exact (mFr.w (by decide)).tr (mFr.up (by decide))
    have hv2 : ∀ q, J2 10 q = if tl + 4 ≤ q ∧ q < tl + 4 + 4 then nI (sp_byN b (q - (tl + 4))) else J1 10 q := fun q => by rw [← hg2, mg_un1 (by decide), mw_eq]
    have hl2 : ∀ q, q ≠ 1 → J2 9 q = J1 9 q := fun q hq => by rw [← hg2, mg_une (fun z => hq z.2), mw_ne (by decide)]
    refine me_aload_n (p' := 32) k90_31 rfl rfl ?_
    refine me_gfr (p' := 35) k90_32 rfl (by decide) rfl (b := 9) rfl ?_
    refine me_iload_n (p' := 36) k90_35 rfl rfl ?_
    refine me_cv (p' := 39) k90_36 rfl rfl (by decide) rfl (by decide) (by decide) dp_91 rfl rfl (cl_le mx_91 rfl) (by decide) (cl_sum rfl) (ct_addFour (tl := tl + 8) ht2_ (by omega) ?_)
    generalize hg3 : (mg_u (mw J2 10 (fun q => if tl + 8 ≤ q ∧ q < tl + 8 + 4 then nI (sp_byN c (q - (tl + 8))) else J2 10 q)) 9 1 (nI (tl + 8 + 4))) = J3
    have ht3_ : J3 9 1 = nI (tl + 8 + 4) := by rw [← hg3, mg_ueq]
    have hf3 : mFr [9, 10] J2 J3 := by rw [← hg3]; exact (mFr.w (by decide)).tr (mFr.up (by decide))
    have hv3 : ∀ q, J3 10 q = if tl + 8 ≤ q ∧ q < tl + 8 + 4 then nI (sp_byN c (q - (tl + 8))) else J2 10 q := fun q => by rw [← hg3, mg_un1 (by decide), mw_eq]
    have hl3 : ∀ q, q ≠ 1 → J3 9 q = J2 9 q := fun q hq => by rw [← hg3, mg_une (fun z => hq z.2), mw_ne (by decide)]
    refine me_aload_n (p' := 40) k90_39 rfl rfl ?_
    refine me_gfr (p' := 43) k90_40 rfl (by decide) rfl (b := 9) rfl ?_
    refine me_gfi (p' := 46) k90_43 rfl (by decide) rfl rfl ?_
    rw [ht3_]
    show mj_Ev _ _ _ _ (.int (nI (tl + 12)) :: _) _ _
    refine me_reti k90_46 rt_90 rfl ?_
    refine hQ1 (by omega) J3 ((hf1.tr hf2).tr hf3) (fun q hq => (hl3 q hq).trans ((hl2 q hq).trans (hl1 q hq))) ht3_ (fun q hq => ?_)
    rw [hv3, hv2, hv1]
    by_cases e0 : q < tl
    · rw [if_pos e0, if_neg (by omega), if_neg (by omega), if_neg (by omega)]
    · rw [if_neg e0]
      by_cases e1 : q < tl + 4
      · rw [if_neg (by omega), if_neg (by omega), if_pos (by omega)]
        unfold sp_fd
        rw [if_pos (by omega), show (q - tl) % 4 = q - tl by omega]
      · by_cases e2 : q < tl + 8
        · rw [if_neg (by omega), if_pos (by omega)]
          unfold sp_fd
          rw [if_neg (by omega), if_pos (by omega), show (q - tl) % 4 = q - (tl + 4) by omega]
        · rw [if_pos (by omega)]
          unfold sp_fd
          rw [if_neg (by omega), if_neg (by omega), show (q - tl) % 4 = q - (tl + 8) by omega]
  · skip
    rw [cI_le (a := tl) (b := 84) (by omega) (by omega)] at c1
    refine me_ldc (p' := 14) k90_12 rfl (v := (-1000000003)) (by decide) ?_
    refine me_reti k90_14 rt_90 rfl ?_
    exact hQ0 (by omega)
theorem ct_Ctrim {d L : Nat} {xs : Nat → Int32} {I : Nat → Nat → Int32} {Q : Option Value → mj_H → Prop} {v : Int32} {tl : Nat} (ht : I 9 1 = nI tl ∧ tl ≤ 96) (hQ0 : (∀ k : Nat, k < tl + 1 → v ≠ nI k) → Q (some (.int (-1000000001))) (mg_h L xs I)) (hQ1 : ∀ k : Nat, k < tl + 1 → v = nI k → Q (some (.int (nI k))) (mg_h L xs (mg_u I 9 1 (nI k)))) : mj_Cl (d + 1) 92 [.ref 0, .int v] (mg_h L xs I) Q := by
  have ht2 := ht.2
  refine cl_start mx_92 (ls := [.ref 0, .int v]) rfl ?_
  refine me_iload_n (p' := 1) k92_0 rfl rfl ?_
  refine me_iconst (p' := 2) k92_1 rfl (v := nI 0) (by decide) ?_
  refine me_aload_n (p' := 3) k92_2 rfl rfl ?_
  refine me_gfr (p' := 6) k92_3 rfl (by decide) rfl (b := 9) rfl ?_
  refine me_gfi (p' := 9) k92_6 rfl (by decide) rfl rfl ?_
  rw [ht.1]
  refine me_cs (p' := 12) k92_9 rfl rfl rfl rfl rfl (cl_le mx_16 rfl) (by decide) (cl_sum rfl) (ct_isWithin (fun e393 => ?_) (fun e393 => ?_))
  · skip
    obtain ⟨k394, hk395, rfl⟩ := mI_in1 (n := tl) (by omega) e393
    have hk395 : k394 < tl + 1 := by omega
    refine me_if_ne (p' := 15) k92_12 rfl (fun h => absurd h (by decide)) (fun _ => ?_)
    refine me_aload_n (p' := 19) k92_18 rfl rfl ?_
    refine me_gfr (p' := 22) k92_19 rfl (by decide) rfl (b := 9) rfl ?_
    refine me_iload_n (p' := 23) k92_22 rfl rfl ?_
    refine me_pfi (p' := 26) k92_23 rfl (by decide) rfl rfl rfl rfl ?_
    refine me_iload_n (p' := 27) k92_26 rfl rfl ?_
    refine me_reti k92_27 rt_92 rfl ?_
    exact hQ1 k394 (by omega) rfl
  · skip
    have hz396 : ∀ k : Nat, k < tl + 1 → v ≠ nI k := fun k hk => mI_in0 (n := tl) (by omega) e393 (by omega)
    refine me_if_ne (p' := 15) k92_12 rfl (fun _ => ?_) (fun h => absurd (by decide) h)
    refine me_ldc (p' := 17) k92_15 rfl (v := (-1000000001)) (by decide) ?_
    refine me_reti k92_17 rt_92 rfl ?_
    exact hQ0 hz396
theorem ct_Ckeep {d L : Nat} {xs : Nat → Int32} {I : Nat → Nat → Int32} {Q : Option Value → mj_H → Prop}  (hQ : ∀ K, mFr (mRc 41) I K → (∀ k, k < 109 → mSg 41 129 K k = mSg 11 128 I k) → (∀ k, k < 3 → K 55 k = I 25 k) → Q (some (.int (I 11 5))) (mg_h L xs (mg_u K 0 6 (nI 1)))) : mj_Cl (d + 1) 128 [.ref 0] (mg_h L xs I) Q := by
  refine cl_start mx_128 (ls := [.ref 0]) rfl ?_
  refine me_aload_n (p' := 1) k128_0 rfl rfl ?_
  refine me_gfr (p' := 4) k128_1 rfl (by decide) rfl (b := 41) rfl ?_
  refine me_aload_n (p' := 5) k128_4 rfl rfl ?_
  refine me_gfr (p' := 8) k128_5 rfl (by decide) rfl (b := 11) rfl ?_
  refine me_cv (p' := 11) k128_8 rfl rfl (by decide) rfl (by decide) (by decide) dp_70 rfl rfl (cl_le mx_70 rfl) (by decide) (cl_sum rfl) (ct_become41_11 (b := 129) (b' := 128) (fun K hK1 hK2 hK3 => ?_))
  refine me_aload_n (p' := 12) k128_11 rfl rfl ?_
  refine me_iconst (p' := 13) k128_12 rfl (v := nI 1) (by decide) ?_
  refine me_pfi (p' := 16) k128_13 rfl (by decide) rfl rfl rfl rfl ?_
  refine me_aload_n (p' := 17) k128_16 rfl rfl ?_
  refine me_gfr (p' := 20) k128_17 rfl (by decide) rfl (b := 11) rfl ?_
  refine me_gfi (p' := 23) k128_20 rfl (by decide) rfl rfl ?_
  refine me_reti k128_23 rt_128 rfl ?_
  rw [show mg_u K 0 6 (nI 1) 11 5 = I 11 5 from by rw [mg_un1 (by decide), hK1 11 5 (by decide)]]
  exact hQ K hK1 hK2 hK3
theorem ct_Cback {d L : Nat} {xs : Nat → Int32} {I : Nat → Nat → Int32} {Q : Option Value → mj_H → Prop}  (hQ0 : I 0 6 = 0 → Q (some (.int (-1000000002))) (mg_h L xs I)) (hQ1 : ¬ I 0 6 = 0 → ∀ K, mFr (mRc 11) I K → (∀ k, k < 109 → mSg 11 128 K k = mSg 41 129 I k) → (∀ k, k < 3 → K 25 k = I 55 k) → Q (some (.int (K 11 5))) (mg_h L xs K)) : mj_Cl (d + 1) 129 [.ref 0] (mg_h L xs I) Q := by
  refine cl_start mx_129 (ls := [.ref 0]) rfl ?_
  refine me_aload_n (p' := 1) k129_0 rfl rfl ?_
  refine me_gfi (p' := 4) k129_1 rfl (by decide) rfl rfl ?_
  refine me_if_ne (p' := 7) k129_4 rfl (fun c1 => ?_) (fun c1 => ?_)
  · skip
    refine me_ldcw (p' := 10) k129_7 rfl (v := (-1000000002)) (by decide) ?_
    refine me_reti k129_10 rt_129 rfl ?_
    exact hQ0 c1
  · skip
    refine me_aload_n (p' := 12) k129_11 rfl rfl ?_
    refine me_gfr (p' := 15) k129_12 rfl (by decide) rfl (b := 11) rfl ?_
    refine me_aload_n (p' := 16) k129_15 rfl rfl ?_
    refine me_gfr (p' := 19) k129_16 rfl (by decide) rfl (b := 41) rfl ?_
    refine me_cv (p' := 22) k129_19 rfl rfl (by decide) rfl (by decide) (by decide) dp_70 rfl rfl (cl_le mx_70 rfl) (by decide) (cl_sum rfl) (ct_become11_41 (b := 128) (b' := 129) (fun K hK1 hK2 hK3 => ?_))
    refine me_aload_n (p' := 23) k129_22 rfl rfl ?_
    refine me_gfr (p' := 26) k129_23 rfl (by decide) rfl (b := 11) rfl ?_
    refine me_gfi (p' := 29) k129_26 rfl (by decide) rfl rfl ?_
    refine me_reti k129_29 rt_129 rfl ?_
    exact hQ1 c1 K hK1 hK2 hK3
theorem ct_Ccount {d L : Nat} {xs : Nat → Int32} {I : Nat → Nat → Int32} {Q : Option Value → mj_H → Prop} {v : Int32} (hQ : Q (some (.int (sp_count (mSg 11 128 I) (I 0 10) (I 9 1) v))) (mg_h L xs I)) : mj_Cl (d + 1) 130 [.ref 0, .int v] (mg_h L xs I) Q := by
  refine cl_start mx_130 (ls := [.ref 0, .int v]) rfl ?_
  refine me_iload_n (p' := 1) k130_0 rfl rfl ?_
  rcases mI_ex 8 (by decide) v with ⟨k398, hk9, rfl⟩ | hz397
  rotate_left
  · refine me_tsw (p' := 109) k130_1 (by rw [if_pos (show (v).toInt < 0 ∨ 7 < (v).toInt from by have := mI_tout (m := 8) (by decide) hz397; omega)]; rfl) ?_
    refine me_ldc (p' := 111) k130_109 rfl (v := (-1000000001)) (by decide) ?_
    refine me_reti k130_111 rt_130 rfl ?_
    simp only [sp_count, sp_rg_n (m := 8) (by omega) hz397, if_true, if_false] at hQ
    exact hQ
  rcases (show k398 = 0 ∨ k398 = 1 ∨ k398 = 2 ∨ k398 = 3 ∨ k398 = 4 ∨ k398 = 5 ∨ k398 = 6 ∨ k398 = 7 by omega) with rfl | rfl | rfl | rfl | rfl | rfl | rfl | rfl
  · skip
    refine me_tsw (p' := 48) k130_1 (by decide) ?_
    refine me_aload_n (p' := 49) k130_48 rfl rfl ?_
    refine me_gfr (p' := 52) k130_49 rfl (by decide) rfl (b := 11) rfl ?_
    refine me_gfi (p' := 55) k130_52 rfl (by decide) rfl rfl ?_
    refine me_reti k130_55 rt_130 rfl ?_
    simp only [sp_count, sp_rg_s (show 0 < 8 by decide) (by decide), if_true, if_false] at hQ
    exact hQ
  · skip
    refine me_tsw (p' := 56) k130_1 (by decide) ?_
    refine me_aload_n (p' := 57) k130_56 rfl rfl ?_
    refine me_gfr (p' := 60) k130_57 rfl (by decide) rfl (b := 11) rfl ?_
    refine me_gfi (p' := 63) k130_60 rfl (by decide) rfl rfl ?_
    refine me_reti k130_63 rt_130 rfl ?_
    simp only [sp_count, sp_rg_s (show 1 < 8 by decide) (by decide), if_true, if_false] at hQ
    exact hQ
  · skip
    refine me_tsw (p' := 64) k130_1 (by decide) ?_
    refine me_aload_n (p' := 65) k130_64 rfl rfl ?_
    refine me_gfr (p' := 68) k130_65 rfl (by decide) rfl (b := 11) rfl ?_
    refine me_gfi (p' := 71) k130_68 rfl (by decide) rfl rfl ?_
    refine me_reti k130_71 rt_130 rfl ?_
    simp only [sp_count, sp_rg_s (show 2 < 8 by decide) (by decide), if_true, if_false] at hQ
    exact hQ
  · skip
    refine me_tsw (p' := 72) k130_1 (by decide) ?_
    refine me_aload_n (p' := 73) k130_72 rfl rfl ?_
    refine me_gfr (p' := 76) k130_73 rfl (by decide) rfl (b := 11) rfl ?_
    refine me_cv (p' := 79) k130_76 rfl rfl (by decide) rfl (by decide) (by decide) dp_131 rfl rfl (cl_le mx_131 rfl) (by decide) (cl_sum rfl) (ct_scareCount ?_)
    refine me_reti k130_79 rt_130 rfl ?_
    simp only [sp_count, sp_rg_s (show 3 < 8 by decide) (by decide), if_true, if_false] at hQ
    exact hQ
  · skip
    refine me_tsw (p' := 80) k130_1 (by decide) ?_
    refine me_aload_n (p' := 81) k130_80 rfl rfl ?_
    refine me_gfr (p' := 84) k130_81 rfl (by decide) rfl (b := 11) rfl ?_
    refine me_gfi (p' := 87) k130_84 rfl (by decide) rfl rfl ?_
    refine me_reti k130_87 rt_130 rfl ?_
    simp only [sp_count, sp_rg_s (show 4 < 8 by decide) (by decide), if_true, if_false] at hQ
    exact hQ
  · skip
    refine me_tsw (p' := 88) k130_1 (by decide) ?_
    refine me_aload_n (p' := 89) k130_88 rfl rfl ?_
    refine me_gfi (p' := 92) k130_89 rfl (by decide) rfl rfl ?_
    refine me_reti k130_92 rt_130 rfl ?_
    simp only [sp_count, sp_rg_s (show 5 < 8 by decide) (by decide), if_true, if_false] at hQ
    exact hQ
  · skip
    refine me_tsw (p' := 93) k130_1 (by decide) ?_
    refine me_aload_n (p' := 94) k130_93 rfl rfl ?_
    refine me_gfr (p' := 97) k130_94 rfl (by decide) rfl (b := 9) rfl ?_
    refine me_gfi (p' := 100) k130_97 rfl (by decide) rfl rfl ?_
    refine me_reti k130_100 rt_130 rfl ?_
    simp only [sp_count, sp_rg_s (show 6 < 8 by decide) (by decide), if_true, if_false] at hQ
    exact hQ
  · skip
    refine me_tsw (p' := 101) k130_1 (by decide) ?_
    refine me_aload_n (p' := 102) k130_101 rfl rfl ?_
    refine me_gfr (p' := 105) k130_102 rfl (by decide) rfl (b := 11) rfl ?_
    refine me_gfi (p' := 108) k130_105 rfl (by decide) rfl rfl ?_
    refine me_reti k130_108 rt_130 rfl ?_
    simp only [sp_count, sp_rg_s (show 7 < 8 by decide) (by decide), if_true, if_false] at hQ
    exact hQ
theorem lp_Ccheck {d L : Nat} {xs : Nat → Int32} {I : Nat → Nat → Int32} {Q : Option Value → mj_H → Prop} {T : mT} {s : Nat → Int32} {n m w due : Nat} (hx : cTx I T) (hk : mOk s n) (hw : w ≤ 60) (hd : due ≤ 60) : ∀ r : Nat, r ≤ due → (hQ : ∀ K, mFr (mRc 26 ++ mSk) I K → Q (some (.int (sp_chk (sp_tld T s n) w (I 58) due r))) (mg_h L xs K)) → ∀ (i : Nat) (J : Nat → Nat → Int32) (u5 : Value), i = due - r → cAt T I J (sp_secs T s (-1) n ((i + 1) / 2)) → mj_Ev (d + 5) 127 66 [.ref 0, .int (nI m), .int (nI w), .int (nI due), .int (nI i), u5] [] (mg_h L xs J) Q := by
  have hn8 := hk.hn.2
  intro r
  induction r with
  | zero =>
    intro hr hQ i J u5 hir hJ0
    rw [sp_chk] at hQ
    refine me_iload (p' := 68) k127_66 rfl rfl ?_
    refine me_iload_n (p' := 69) k127_68 rfl rfl ?_
    refine me_ic_ge (p' := 72) k127_69 rfl (fun c1 => ?_) (fun c1 => ?_)
    · skip
      rw [cI_le (a := due) (b := i) (by omega) (by omega)] at c1
      refine me_iload_n (p' := 138) k127_137 rfl rfl ?_
      refine me_iload_n (p' := 139) k127_138 rfl rfl ?_
      refine me_ic_le (p' := 142) k127_139 rfl (fun c2 => ?_) (fun c2 => ?_)
      · skip
        rw [cI_le (a := w) (b := due) (by omega) (by omega)] at c2
        refine me_iconst (p' := 149) k127_148 rfl (v := nI 0) (by decide) ?_
        refine me_reti k127_149 rt_127 rfl ?_
        rw [if_neg (by omega)] at hQ
        exact hQ _ hJ0.fr
      · skip
        rw [cI_le (a := w) (b := due) (by omega) (by omega)] at c2
        refine me_iconst (p' := 143) k127_142 rfl (v := nI 1) (by decide) ?_
        refine me_iload_n (p' := 144) k127_143 rfl rfl ?_
        refine me_iadd (p' := 145) k127_144 rfl (v := nI (1 + due)) (mI_add _ _) ?_
        refine me_goto k127_145 ?_
        refine me_reti k127_149 rt_127 rfl ?_
        rw [if_pos (by omega)] at hQ
        exact hQ _ hJ0.fr
    · skip
      rw [cI_le (a := due) (b := i) (by omega) (by omega)] at c1
      exfalso
      omega
  | succ r ih =>
    intro hr hQ i J u5 hir hJ0
    refine me_iload (p' := 68) k127_66 rfl rfl ?_
    refine me_iload_n (p' := 69) k127_68 rfl rfl ?_
    refine me_ic_ge (p' := 72) k127_69 rfl (fun c1 => ?_) (fun c1 => ?_)
    · skip
      rw [cI_le (a := due) (b := i) (by omega) (by omega)] at c1
      exfalso
      omega
    · skip
      rw [cI_le (a := due) (b := i) (by omega) (by omega)] at c1
      refine me_iload (p' := 74) k127_72 rfl rfl ?_
      refine me_iconst (p' := 75) k127_74 rfl (v := nI 2) (by decide) ?_
      refine me_irem (p' := 76) k127_75 rfl (nI_ne0 (by omega) (by omega)) (v := nI (i % 2)) (mI_mod (by omega) (by omega)) ?_
      refine me_if_ne (p' := 79) k127_76 rfl (fun c2 => ?_) (fun c2 => ?_)
      · skip
        rw [cI_eq0 (a := i % 2) (by omega)] at c2
        refine me_aload_n (p' := 80) k127_79 rfl rfl ?_
        refine me_gfr (p' := 83) k127_80 rfl (by decide) rfl (b := 26) rfl ?_
        refine me_iconst (p' := 84) k127_83 rfl (v := nI 1) (by decide) ?_
        refine me_cv (p' := 87) k127_84 rfl rfl (by decide) rfl (by decide) (by decide) dp_63 rfl rfl (cl_le mx_63 rfl) (by decide) (cl_sum rfl) (ct_pass hJ0 hx (hk.secs _) (by omega) (fun K hK => ?_))
        have hK2 : cAt T I K (sp_secs T s (-1) n (i / 2 + 1)) := by
          have := hK
          rw [← sp_secs_add, show (i + 1) / 2 + 1 = i / 2 + 1 by omega] at this
          exact this
        refine me_aload_n (p' := 88) k127_87 rfl rfl ?_
        refine me_gfr (p' := 91) k127_88 rfl (by decide) rfl (b := 26) rfl ?_
        refine me_iload (p' := 93) k127_91 rfl rfl ?_
        refine me_iconst (p' := 94) k127_93 rfl (v := nI 2) (by decide) ?_
        refine me_irem (p' := 95) k127_94 rfl (nI_ne0 (by omega) (by omega)) (v := nI (i % 2)) (mI_mod (by omega) (by omega)) ?_
        refine me_if_ne (p' := 98) k127_95 rfl (fun c3 => ?_) (fun c3 => ?_)
        · skip
          rw [cI_eq0 (a := i % 2) (by omega)] at c3
          refine me_iconst (p' := 99) k127_98 rfl (v := nI 1) (by decide) ?_
          refine me_goto k127_99 ?_
          refine me_cv (p' := 106) k127_103 rfl rfl (by decide) rfl (by decide) (by decide) dp_62 rfl rfl (cl_le mx_62 rfl) (by decide) (cl_sum rfl) (ct_tot hK2 (hk.secs _) (by omega) ?_)
          rw [show sp_sum (sp_secs T s (-1) n (i / 2 + 1)) (-1) 1 n = (sp_tld T s n) i from by unfold sp_tld; rw [if_pos (by omega)]]
          refine me_istore (p' := 108) k127_106 rfl ⟨Nat.le_of_ble_eq_true rfl, rfl⟩ rfl ?_
          refine me_iload (p' := 110) k127_108 rfl rfl ?_
          refine me_iload_n (p' := 111) k127_110 rfl rfl ?_
          refine me_ic_ge (p' := 114) k127_111 rfl (fun c4 => ?_) (fun c4 => ?_)
          · skip
            rw [cI_le (a := w) (b := i) (by omega) (by omega)] at c4
            refine me_iconst (p' := 127) k127_126 rfl (v := nI 1) (by decide) ?_
            refine me_iload (p' := 129) k127_127 rfl rfl ?_
            refine me_iadd (p' := 130) k127_129 rfl (v := nI (1 + i)) (mI_add _ _) ?_
            refine me_reti k127_130 rt_127 rfl ?_
            rw [sp_chk, ← hir, if_neg (by omega)] at hQ
            exact hQ _ hK2.fr
          · skip
            rw [cI_le (a := w) (b := i) (by omega) (by omega)] at c4
            refine me_aload_n (p' := 115) k127_114 rfl rfl ?_
            refine me_gfr (p' := 118) k127_115 rfl (by decide) rfl (b := 58) rfl ?_
            refine me_iload (p' := 120) k127_118 rfl rfl ?_
            refine me_iald (p' := 121) k127_120 rfl (by decide) rfl (j := i) rfl (by omega) (by decide) rfl ?_
            rw [show K 58 i = I 58 i from hK2.fr 58 _ (by decide)]
            refine me_iload (p' := 123) k127_121 rfl rfl ?_
            refine me_ic_eq (p' := 126) k127_123 rfl (fun c5 => ?_) (fun c5 => ?_)
            · skip
              refine me_iinc (p' := 134) k127_131 rfl rfl rfl (v := nI (i + 1)) (mI_inc (by decide)) rfl ?_
              refine me_goto k127_134 ?_
              refine ih (by omega) (fun K hK => by have := hQ K hK; rw [sp_chk, ← hir, if_pos (by omega), if_pos c5] at this; exact this) _ _ _ (by omega) ?_
              rw [show (i + 1 + 1) / 2 = i / 2 + 1 by omega]
              exact hK2
            · skip
              refine me_iconst (p' := 127) k127_126 rfl (v := nI 1) (by decide) ?_
              refine me_iload (p' := 129) k127_127 rfl rfl ?_
              refine me_iadd (p' := 130) k127_129 rfl (v := nI (1 + i)) (mI_add _ _) ?_
              refine me_reti k127_130 rt_127 rfl ?_
              rw [sp_chk, ← hir, if_pos (by omega), if_neg c5] at hQ
              exact hQ _ hK2.fr
        · skip
          rw [cI_eq0 (a := i % 2) (by omega)] at c3
          exfalso
          omega
      · skip
        rw [cI_eq0 (a := i % 2) (by omega)] at c2
        have hJ1 : cAt T I J (sp_secs T s (-1) n (i / 2 + 1)) := by
          rw [show i / 2 + 1 = (i + 1) / 2 by omega]
          exact hJ0
        refine me_aload_n (p' := 88) k127_87 rfl rfl ?_
        refine me_gfr (p' := 91) k127_88 rfl (by decide) rfl (b := 26) rfl ?_
        refine me_iload (p' := 93) k127_91 rfl rfl ?_
        refine me_iconst (p' := 94) k127_93 rfl (v := nI 2) (by decide) ?_
        refine me_irem (p' := 95) k127_94 rfl (nI_ne0 (by omega) (by omega)) (v := nI (i % 2)) (mI_mod (by omega) (by omega)) ?_
        refine me_if_ne (p' := 98) k127_95 rfl (fun c6 => ?_) (fun c6 => ?_)
        · skip
          rw [cI_eq0 (a := i % 2) (by omega)] at c6
          exfalso
          omega
        · skip
          rw [cI_eq0 (a := i % 2) (by omega)] at c6
          refine me_iconst (p' := 103) k127_102 rfl (v := nI 3) (by decide) ?_
          refine me_cv (p' := 106) k127_103 rfl rfl (by decide) rfl (by decide) (by decide) dp_62 rfl rfl (cl_le mx_62 rfl) (by decide) (cl_sum rfl) (ct_tot hJ1 (hk.secs _) (by omega) ?_)
          rw [show sp_sum (sp_secs T s (-1) n (i / 2 + 1)) (-1) 3 n = (sp_tld T s n) i from by unfold sp_tld; rw [if_neg (by omega)]]
          refine me_istore (p' := 108) k127_106 rfl ⟨Nat.le_of_ble_eq_true rfl, rfl⟩ rfl ?_
          refine me_iload (p' := 110) k127_108 rfl rfl ?_
          refine me_iload_n (p' := 111) k127_110 rfl rfl ?_
          refine me_ic_ge (p' := 114) k127_111 rfl (fun c7 => ?_) (fun c7 => ?_)
          · skip
            rw [cI_le (a := w) (b := i) (by omega) (by omega)] at c7
            refine me_iconst (p' := 127) k127_126 rfl (v := nI 1) (by decide) ?_
            refine me_iload (p' := 129) k127_127 rfl rfl ?_
            refine me_iadd (p' := 130) k127_129 rfl (v := nI (1 + i)) (mI_add _ _) ?_
            refine me_reti k127_130 rt_127 rfl ?_
            rw [sp_chk, ← hir, if_neg (by omega)] at hQ
            exact hQ _ hJ0.fr
          · skip
            rw [cI_le (a := w) (b := i) (by omega) (by omega)] at c7
            refine me_aload_n (p' := 115) k127_114 rfl rfl ?_
            refine me_gfr (p' := 118) k127_115 rfl (by decide) rfl (b := 58) rfl ?_
            refine me_iload (p' := 120) k127_118 rfl rfl ?_
            refine me_iald (p' := 121) k127_120 rfl (by decide) rfl (j := i) rfl (by omega) (by decide) rfl ?_
            rw [show J 58 i = I 58 i from hJ0.fr 58 _ (by decide)]
            refine me_iload (p' := 123) k127_121 rfl rfl ?_
            refine me_ic_eq (p' := 126) k127_123 rfl (fun c8 => ?_) (fun c8 => ?_)
            · skip
              refine me_iinc (p' := 134) k127_131 rfl rfl rfl (v := nI (i + 1)) (mI_inc (by decide)) rfl ?_
              refine me_goto k127_134 ?_
              refine ih (by omega) (fun K hK => by have := hQ K hK; rw [sp_chk, ← hir, if_pos (by omega), if_pos c8] at this; exact this) _ _ _ (by omega) ?_
              rw [show (i + 1 + 1) / 2 = i / 2 + 1 by omega]
              exact hJ1
            · skip
              refine me_iconst (p' := 127) k127_126 rfl (v := nI 1) (by decide) ?_
              refine me_iload (p' := 129) k127_127 rfl rfl ?_
              refine me_iadd (p' := 130) k127_129 rfl (v := nI (1 + i)) (mI_add _ _) ?_
              refine me_reti k127_130 rt_127 rfl ?_
              rw [sp_chk, ← hir, if_pos (by omega), if_neg c8] at hQ
              exact hQ _ hJ0.fr
theorem ct_Ccheck {d L : Nat} {xs : Nat → Int32} {I : Nat → Nat → Int32} {Q : Option Value → mj_H → Prop} {T : mT} {n w : Nat} (hw : I 0 10 = nI w ∧ w ≤ 60) (hi : ¬ I 0 6 = 0 → cTx I T ∧ cCg I 41 T ∧ mOk (mSg 41 129 I) n ∧ ∃ t, mSg 41 129 I 2 = nI t ∧ t ≤ 9999) {v : Int32} (hQ : ∀ K, mFr (mRc 26 ++ mSk) (mg_u I 0 10 (nI 0)) K → Q (some (.int (sp_check (I 0 6) T (mSg 41 129 I) n w (I 58) v))) (mg_h L xs K)) : mj_Cl (d + 5) 127 [.ref 0, .int v] (mg_h L xs I) Q := by
  refine cl_start mx_127 (ls := [.ref 0, .int v, mj_no, mj_no, mj_no, mj_no]) rfl ?_
  refine me_aload_n (p' := 1) k127_0 rfl rfl ?_
  refine me_gfi (p' := 4) k127_1 rfl (by decide) rfl rfl ?_
  rw [hw.1]
  refine me_istore_n (p' := 5) k127_4 rfl ⟨Nat.le_of_ble_eq_true rfl, rfl⟩ rfl ?_
  refine me_aload_n (p' := 6) k127_5 rfl rfl ?_
  refine me_iconst (p' := 7) k127_6 rfl (v := nI 0) (by decide) ?_
  refine me_pfi (p' := 10) k127_7 rfl (by decide) rfl rfl rfl rfl ?_
  refine me_iload_n (p' := 11) k127_10 rfl rfl ?_
  refine me_iconst (p' := 12) k127_11 rfl (v := nI 1) (by decide) ?_
  refine me_bipush (p' := 14) k127_12 rfl (v := nI 30) (by decide) ?_
  refine me_cs (p' := 17) k127_14 rfl rfl rfl rfl rfl (cl_le mx_16 rfl) (by decide) (cl_sum rfl) (ct_isWithin (fun e399 => ?_) (fun e399 => ?_))
  · skip
    refine me_if_ne (p' := 20) k127_17 rfl (fun h => absurd h (by decide)) (fun _ => ?_)
    obtain ⟨m, rfl, hm⟩ : ∃ m : Nat, v = nI m ∧ m ≤ 30 ∧ 1 ≤ m := by
      obtain ⟨m, rfl, hm⟩ := mI_of (Int32.le_trans (nI_pos' (show 1 < 2 ^ 31 by omega)) e399.1)
      exact ⟨m, rfl, (cI_le hm (by decide)).mp e399.2, (cI_le (by decide) hm).mp e399.1⟩
    refine me_aload_n (p' := 24) k127_23 rfl rfl ?_
    refine me_gfi (p' := 27) k127_24 rfl (by decide) rfl rfl ?_
    rw [mg_une (by decide)]
    refine me_if_ne (p' := 30) k127_27 rfl (fun c1 => ?_) (fun c1 => ?_)
    · skip
      refine me_ldcw (p' := 33) k127_30 rfl (v := (-1000000002)) (by decide) ?_
      refine me_reti k127_33 rt_127 rfl ?_
      simp only [sp_check, if_pos e399, nI_clamp (show m < 2 ^ 31 by omega), (eq_true c1), if_true, if_false, true_and, and_true, and_self] at hQ
      exact hQ _ mFr.rf
    · skip
      obtain ⟨hxI, hcgI, hkI, t, ht, ht2⟩ := hi c1
      have hhas := c1
      refine me_aload_n (p' := 35) k127_34 rfl rfl ?_
      refine me_gfr (p' := 38) k127_35 rfl (by decide) rfl (b := 26) rfl ?_
      refine me_aload_n (p' := 39) k127_38 rfl rfl ?_
      refine me_gfr (p' := 42) k127_39 rfl (by decide) rfl (b := 41) rfl ?_
      refine me_cv (p' := 45) k127_42 rfl rfl (by decide) rfl (by decide) (by decide) dp_70 rfl rfl (cl_le mx_70 rfl) (by decide) (cl_sum rfl) (ct_become26_41 (b := 128) (b' := 129) (fun K hK1 hK2 hK3 => ?_))
      have hagK : mAg (mSg 41 129 I) (mSg 26 128 K) := fun k hk => (hK2 k hk).trans (congrFun (sg_fr (mFr.up (S := [0]) (by decide)) (by decide)) k)
      have hcK : cAt T (mg_u I 0 10 (nI 0)) K (mSg 26 128 K) := ⟨hK1.sub (by decide), rfl, fun k hk => (hK3 k hk).trans ((mg_un1 (by decide)).trans (hcgI k hk))⟩
      refine me_iconst (p' := 46) k127_45 rfl (v := nI 2) (by decide) ?_
      refine me_iload_n (p' := 47) k127_46 rfl rfl ?_
      refine me_sipush (p' := 50) k127_47 rfl (v := nI 9999) (by decide) ?_
      refine me_aload_n (p' := 51) k127_50 rfl rfl ?_
      refine me_gfr (p' := 54) k127_51 rfl (by decide) rfl (b := 41) rfl ?_
      refine me_gfi (p' := 57) k127_54 rfl (by decide) rfl rfl ?_
      rw [show K 41 7 = nI t from by rw [hK1 41 7 (by decide), mg_un1 (by decide)]; exact ht]
      refine me_isub (p' := 58) k127_57 rfl rfl ?_
      rw [mI_sub ht2]
      refine me_min (p' := 61) k127_58 rfl (cl_sum rfl) rfl ?_
      rw [mI_min8 (by omega) (by omega)]
      refine me_imul (p' := 62) k127_61 rfl (v := nI (2 * (min m (9999 - t)))) (mI_mul _ _) ?_
      refine me_istore_n (p' := 63) k127_62 rfl ⟨Nat.le_of_ble_eq_true rfl, rfl⟩ rfl ?_
      refine me_iconst (p' := 64) k127_63 rfl (v := nI 0) (by decide) ?_
      refine me_istore (p' := 66) k127_64 rfl ⟨Nat.le_of_ble_eq_true rfl, rfl⟩ rfl ?_
      refine lp_Ccheck (I := (mg_u I 0 10 (nI 0))) (T := T) (s := mSg 26 128 K) (n := n) (hxI.fr (mFr.up (S := [0]) (by decide)) (by decide)) (hkI.ag hagK) hw.2 (by omega) (2 * (min m (9999 - t))) (Nat.le_refl _) (fun K2 hK4 => ?_) 0 K _ (by omega) hcK
      have := hQ K2 hK4
      rw [sp_check, if_pos e399, if_neg hhas, nI_clamp (show m < 2 ^ 31 by omega), ht, nI_clamp (show t < 2 ^ 31 by omega)] at this
      rw [sp_tld_ag hagK hkI, show (mg_u I 0 10 (nI 0)) 58 = I 58 from mg_un (by decide)]
      exact this
  · skip
    refine me_if_ne (p' := 20) k127_17 rfl (fun _ => ?_) (fun h => absurd (by decide) h)
    refine me_ldc (p' := 22) k127_20 rfl (v := (-1000000001)) (by decide) ?_
    refine me_reti k127_22 rt_127 rfl ?_
    simp only [sp_check, if_neg e399, if_true, if_false, true_and, and_true, and_self] at hQ
    exact hQ _ mFr.rf
