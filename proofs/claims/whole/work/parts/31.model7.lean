/-! ===== the model: worth, near, draw, comes, copies ===== -/
def sp_worth (q : Nat) (w : Int32) : Int32 := match q with
  | 0 => w
  | 1 => w + nI 8
  | 2 => nI 99 - w
  | 3 => nI 2 * (w + nI 8)
  | 4 => nI 96 - w
  | _ => nI 4
abbrev sp_under (q o : Nat) : Prop := o = 0 ∨ q = o ∨ (o = 1 ∧ q = 3) ∨ (o = 2 ∧ q = 4)
def sp_near (s : Nat → Int32) (aw : Int32) (n : Nat) : Nat → Int32
  | 0 => nI 0
  | m + 1 => sp_near s aw n m + if sp_room s aw m n < 0 then nI 1 else nI 0
def sp_scr (s : Nat → Int32) : Nat → Int32
  | 0 => nI 0
  | m + 1 => sp_scr s m + if 0 < s (29 + m) then nI 1 else nI 0
def sp_z (z : Int32) : Int32 := z * nI 1103515245 + nI 12345
def sp_dv (z : Int32) : Nat := z.toUInt32.toNat / 256
def sp_comes (s : Nat → Int32) (n : Nat) (q f w : Int32) : Nat → Int32 := fun j => if j = 1 then nI (n + 1) else if j = 53 + 7 * n + 2 then w else if j = 53 + 7 * n + 1 then f else if j = 53 + 7 * n then q else if 53 + 7 * n ≤ j ∧ j < 53 + 7 * n + 7 then nI 0 else s j
theorem mI_shr8 (x : Int32) : (x.toUInt32 >>> (Int32.toUInt32 (nI 8) &&& Int32.toUInt32 31)).toInt32 = nI (sp_dv x) := by
  unfold sp_dv
  have e : x.toUInt32 >>> (Int32.toUInt32 (nI 8) &&& Int32.toUInt32 31) = UInt32.ofNat (x.toUInt32.toNat / 256) := by
    apply UInt32.toNat_inj.mp
    rw [UInt32.toNat_shiftRight]
    have h1 : (Int32.toUInt32 (nI 8) &&& Int32.toUInt32 31).toNat % 32 = 8 := by decide
    have hlt := x.toUInt32.toNat_lt
    rw [h1, Nat.shiftRight_eq_div_pow, UInt32.toNat_ofNat_of_lt' (by show _ < 2 ^ 32; omega)]
  rw [e]
  rfl
theorem ct_worthOf {d L : Nat} {xs : Nat → Int32} {I : Nat → Nat → Int32} {Q : Option Value → mj_H → Prop} {c q : Nat} (hc : c < 8) (hk : I 128 (53 + 7 * c + 0) = nI q) (hq : q < 6) (hQ : Q (some (.int (sp_worth q (I 128 (53 + 7 * c + 2))))) (mg_h L xs I)) : mj_Cl (d + 1) 148 [.ref 127, .int (nI c)] (mg_h L xs I) Q := by
  refine cl_start mx_148 (ls := [.ref 127, .int (nI c), mj_no]) rfl ?_
  refine me_aload_n (p' := 1) k148_0 rfl rfl ?_
  refine me_iload_n (p' := 2) k148_1 rfl rfl ?_
  refine me_iconst (p' := 3) k148_2 rfl (v := nI 2) (by decide) ?_
  refine me_cv (p' := 6) k148_3 rfl rfl (by decide) rfl (by decide) (by decide) dp_141 rfl rfl (cl_le mx_141 rfl) (by decide) (cl_sum rfl) (ct_of (by omega) ?_)
  refine me_istore_n (p' := 7) k148_6 rfl ⟨Nat.le_of_ble_eq_true rfl, rfl⟩ rfl ?_
  refine me_aload_n (p' := 8) k148_7 rfl rfl ?_
  refine me_iload_n (p' := 9) k148_8 rfl rfl ?_
  refine me_iconst (p' := 10) k148_9 rfl (v := nI 0) (by decide) ?_
  refine me_cv (p' := 13) k148_10 rfl rfl (by decide) rfl (by decide) (by decide) dp_141 rfl rfl (cl_le mx_141 rfl) (by decide) (cl_sum rfl) (ct_of (by omega) ?_)
  rw [hk]
  rcases (show q = 0 ∨ q = 1 ∨ q = 2 ∨ q = 3 ∨ q = 4 ∨ q = 5 by omega) with rfl | rfl | rfl | rfl | rfl | rfl
  · skip
    refine me_tsw (p' := 72) k148_13 (by decide) ?_
    refine me_iload_n (p' := 73) k148_72 rfl rfl ?_
    refine me_reti k148_73 rt_148 rfl ?_
    exact hQ
  · skip
    refine me_tsw (p' := 48) k148_13 (by decide) ?_
    refine me_iload_n (p' := 49) k148_48 rfl rfl ?_
    refine me_bipush (p' := 51) k148_49 rfl (v := nI 8) (by decide) ?_
    refine me_iadd (p' := 52) k148_51 rfl rfl ?_
    refine me_reti k148_52 rt_148 rfl ?_
    exact hQ
  · skip
    refine me_tsw (p' := 53) k148_13 (by decide) ?_
    refine me_bipush (p' := 55) k148_53 rfl (v := nI 99) (by decide) ?_
    refine me_iload_n (p' := 56) k148_55 rfl rfl ?_
    refine me_isub (p' := 57) k148_56 rfl rfl ?_
    refine me_reti k148_57 rt_148 rfl ?_
    exact hQ
  · skip
    refine me_tsw (p' := 58) k148_13 (by decide) ?_
    refine me_iconst (p' := 59) k148_58 rfl (v := nI 2) (by decide) ?_
    refine me_iload_n (p' := 60) k148_59 rfl rfl ?_
    refine me_bipush (p' := 62) k148_60 rfl (v := nI 8) (by decide) ?_
    refine me_iadd (p' := 63) k148_62 rfl rfl ?_
    refine me_imul (p' := 64) k148_63 rfl rfl ?_
    refine me_reti k148_64 rt_148 rfl ?_
    exact hQ
  · skip
    refine me_tsw (p' := 65) k148_13 (by decide) ?_
    refine me_bipush (p' := 67) k148_65 rfl (v := nI 96) (by decide) ?_
    refine me_iload_n (p' := 68) k148_67 rfl rfl ?_
    refine me_isub (p' := 69) k148_68 rfl rfl ?_
    refine me_reti k148_69 rt_148 rfl ?_
    exact hQ
  · skip
    refine me_tsw (p' := 70) k148_13 (by decide) ?_
    refine me_iconst (p' := 71) k148_70 rfl (v := nI 4) (by decide) ?_
    refine me_reti k148_71 rt_148 rfl ?_
    exact hQ
theorem ct_MisUnder {d L : Nat} {xs : Nat → Int32} {I : Nat → Nat → Int32} {Q : Option Value → mj_H → Prop} {q o : Nat} (hq : q < 6) (ho : o < 6) (h1 : sp_under q o → Q (some (.int (nI 1))) (mg_h L xs I)) (h0 : ¬ (sp_under q o) → Q (some (.int (nI 0))) (mg_h L xs I)) : mj_Cl d 150 [.int (nI q), .int (nI o)] (mg_h L xs I) Q := by
  refine cl_start mx_150 (ls := [.int (nI q), .int (nI o)]) rfl ?_
  refine me_iload_n (p' := 1) k150_0 rfl rfl ?_
  refine me_if_eq (p' := 4) k150_1 rfl (fun c1 => ?_) (fun c1 => ?_)
  · skip
    rw [cI_eq0 (a := o) (by omega)] at c1
    refine me_iconst (p' := 30) k150_29 rfl (v := nI 1) (by decide) ?_
    refine me_goto k150_30 ?_
    refine me_reti k150_34 rt_150 (by decide) ?_
    exact h1 (by unfold sp_under; omega)
  · skip
    rw [cI_eq0 (a := o) (by omega)] at c1
    refine me_iload_n (p' := 5) k150_4 rfl rfl ?_
    refine me_iload_n (p' := 6) k150_5 rfl rfl ?_
    refine me_ic_eq (p' := 9) k150_6 rfl (fun c2 => ?_) (fun c2 => ?_)
    · skip
      rw [cI_eq (a := q) (b := o) (by omega) (by omega)] at c2
      refine me_iconst (p' := 30) k150_29 rfl (v := nI 1) (by decide) ?_
      refine me_goto k150_30 ?_
      refine me_reti k150_34 rt_150 (by decide) ?_
      exact h1 (by unfold sp_under; omega)
    · skip
      rw [cI_eq (a := q) (b := o) (by omega) (by omega)] at c2
      refine me_iload_n (p' := 10) k150_9 rfl rfl ?_
      refine me_iconst (p' := 11) k150_10 rfl (v := nI 1) (by decide) ?_
      refine me_ic_ne (p' := 14) k150_11 rfl (fun c3 => ?_) (fun c3 => ?_)
      · skip
        rw [cI_eq (a := o) (b := 1) (by omega) (by omega)] at c3
        refine me_iload_n (p' := 15) k150_14 rfl rfl ?_
        refine me_iconst (p' := 16) k150_15 rfl (v := nI 3) (by decide) ?_
        refine me_ic_eq (p' := 19) k150_16 rfl (fun c4 => ?_) (fun c4 => ?_)
        · skip
          rw [cI_eq (a := q) (b := 3) (by omega) (by omega)] at c4
          refine me_iconst (p' := 30) k150_29 rfl (v := nI 1) (by decide) ?_
          refine me_goto k150_30 ?_
          refine me_reti k150_34 rt_150 (by decide) ?_
          exact h1 (by unfold sp_under; omega)
        · skip
          rw [cI_eq (a := q) (b := 3) (by omega) (by omega)] at c4
          refine me_iload_n (p' := 20) k150_19 rfl rfl ?_
          refine me_iconst (p' := 21) k150_20 rfl (v := nI 2) (by decide) ?_
          refine me_ic_ne (p' := 24) k150_21 rfl (fun c5 => ?_) (fun c5 => ?_)
          · skip
            rw [cI_eq (a := o) (b := 2) (by omega) (by omega)] at c5
            refine me_iload_n (p' := 25) k150_24 rfl rfl ?_
            refine me_iconst (p' := 26) k150_25 rfl (v := nI 4) (by decide) ?_
            refine me_ic_ne (p' := 29) k150_26 rfl (fun c6 => ?_) (fun c6 => ?_)
            · skip
              rw [cI_eq (a := q) (b := 4) (by omega) (by omega)] at c6
              refine me_iconst (p' := 30) k150_29 rfl (v := nI 1) (by decide) ?_
              refine me_goto k150_30 ?_
              refine me_reti k150_34 rt_150 (by decide) ?_
              exact h1 (by unfold sp_under; omega)
            · skip
              rw [cI_eq (a := q) (b := 4) (by omega) (by omega)] at c6
              refine me_iconst (p' := 34) k150_33 rfl (v := nI 0) (by decide) ?_
              refine me_reti k150_34 rt_150 (by decide) ?_
              exact h0 (by unfold sp_under; omega)
          · skip
            rw [cI_eq (a := o) (b := 2) (by omega) (by omega)] at c5
            refine me_iconst (p' := 34) k150_33 rfl (v := nI 0) (by decide) ?_
            refine me_reti k150_34 rt_150 (by decide) ?_
            exact h0 (by unfold sp_under; omega)
      · skip
        rw [cI_eq (a := o) (b := 1) (by omega) (by omega)] at c3
        refine me_iload_n (p' := 20) k150_19 rfl rfl ?_
        refine me_iconst (p' := 21) k150_20 rfl (v := nI 2) (by decide) ?_
        refine me_ic_ne (p' := 24) k150_21 rfl (fun c7 => ?_) (fun c7 => ?_)
        · skip
          rw [cI_eq (a := o) (b := 2) (by omega) (by omega)] at c7
          refine me_iload_n (p' := 25) k150_24 rfl rfl ?_
          refine me_iconst (p' := 26) k150_25 rfl (v := nI 4) (by decide) ?_
          refine me_ic_ne (p' := 29) k150_26 rfl (fun c8 => ?_) (fun c8 => ?_)
          · skip
            rw [cI_eq (a := q) (b := 4) (by omega) (by omega)] at c8
            refine me_iconst (p' := 30) k150_29 rfl (v := nI 1) (by decide) ?_
            refine me_goto k150_30 ?_
            refine me_reti k150_34 rt_150 (by decide) ?_
            exact h1 (by unfold sp_under; omega)
          · skip
            rw [cI_eq (a := q) (b := 4) (by omega) (by omega)] at c8
            refine me_iconst (p' := 34) k150_33 rfl (v := nI 0) (by decide) ?_
            refine me_reti k150_34 rt_150 (by decide) ?_
            exact h0 (by unfold sp_under; omega)
        · skip
          rw [cI_eq (a := o) (b := 2) (by omega) (by omega)] at c7
          refine me_iconst (p' := 34) k150_33 rfl (v := nI 0) (by decide) ?_
          refine me_reti k150_34 rt_150 (by decide) ?_
          exact h0 (by unfold sp_under; omega)
theorem lp_near {d L : Nat} {xs : Nat → Int32} {I : Nat → Nat → Int32} {Q : Option Value → mj_H → Prop} {n : Nat} (hk : mOk (I 128) n) (hQ : Q (some (.int (sp_near (I 128) (I 127 4) n n))) (mg_h L xs I)) : ∀ k : Nat, k ≤ n → mj_Ev (d + 2) 168 4 [.ref 127, .int (sp_near (I 128) (I 127 4) n k), .int (nI k)] [] (mg_h L xs I) Q := by
  have hn8 := hk.hn.2
  refine loop_ind (n := n) (fun k hkn ih => ?_)
  refine me_iload_n (p' := 5) k168_4 rfl rfl ?_
  refine me_aload_n (p' := 6) k168_5 rfl rfl ?_
  refine me_gfr (p' := 9) k168_6 rfl (by decide) rfl (b := 128) rfl ?_
  refine me_iconst (p' := 10) k168_9 rfl (v := nI 1) (by decide) ?_
  refine me_iald (p' := 11) k168_10 rfl (by decide) rfl (j := 1) rfl (by omega) (by decide) rfl ?_
  rw [hk.hn.1]
  refine me_ic_ge (p' := 14) k168_11 rfl (fun c1 => ?_) (fun c1 => ?_)
  · skip
    rw [cI_le (a := n) (b := k) (by omega) (by omega)] at c1
    refine me_iload_n (p' := 37) k168_36 rfl rfl ?_
    refine me_reti k168_37 rt_168 rfl ?_
    have e8 : k = n := by omega
    subst e8
    exact hQ
  · skip
    rw [cI_le (a := n) (b := k) (by omega) (by omega)] at c1
    refine me_iload_n (p' := 15) k168_14 rfl rfl ?_
    refine me_aload_n (p' := 16) k168_15 rfl rfl ?_
    refine me_iload_n (p' := 17) k168_16 rfl rfl ?_
    refine me_cv (p' := 20) k168_17 rfl rfl (by decide) rfl (by decide) (by decide) dp_146 rfl rfl (cl_le mx_146 rfl) (by decide) (cl_sum rfl) (ct_roomOf hk.hn hk.ft (by omega) ?_)
    refine me_if_ge (p' := 23) k168_20 rfl (fun c2 => ?_) (fun c2 => ?_)
    · skip
      refine me_iconst (p' := 28) k168_27 rfl (v := nI 0) (by decide) ?_
      refine me_iadd (p' := 29) k168_28 rfl rfl ?_
      refine me_istore_n (p' := 30) k168_29 rfl ⟨Nat.le_of_ble_eq_true rfl, rfl⟩ rfl ?_
      refine me_iinc (p' := 33) k168_30 rfl rfl rfl (v := nI (k + 1)) (mI_inc (by decide)) rfl ?_
      refine me_goto k168_33 ?_
      have e9 : ((sp_near (I 128) (I 127 4) n k) + nI 0) = sp_near (I 128) (I 127 4) n (k + 1) := by rw [sp_near, if_neg (Int32.not_lt.mpr c2)]
      rw [e9]
      exact ih (by omega)
    · skip
      refine me_iconst (p' := 24) k168_23 rfl (v := nI 1) (by decide) ?_
      refine me_goto k168_24 ?_
      refine me_iadd (p' := 29) k168_28 rfl rfl ?_
      refine me_istore_n (p' := 30) k168_29 rfl ⟨Nat.le_of_ble_eq_true rfl, rfl⟩ rfl ?_
      refine me_iinc (p' := 33) k168_30 rfl rfl rfl (v := nI (k + 1)) (mI_inc (by decide)) rfl ?_
      refine me_goto k168_33 ?_
      have e9 : ((sp_near (I 128) (I 127 4) n k) + nI 1) = sp_near (I 128) (I 127 4) n (k + 1) := by rw [sp_near, if_pos (Int32.not_le.mp c2)]
      rw [e9]
      exact ih (by omega)
theorem ct_near {d L : Nat} {xs : Nat → Int32} {I : Nat → Nat → Int32} {Q : Option Value → mj_H → Prop} {n : Nat} (hk : mOk (I 128) n) (hQ : Q (some (.int (sp_near (I 128) (I 127 4) n n))) (mg_h L xs I)) : mj_Cl (d + 2) 168 [.ref 127] (mg_h L xs I) Q := by
  refine cl_start mx_168 (ls := [.ref 127, mj_no, mj_no]) rfl ?_
  refine me_iconst (p' := 1) k168_0 rfl (v := nI 0) (by decide) ?_
  refine me_istore_n (p' := 2) k168_1 rfl ⟨Nat.le_of_ble_eq_true rfl, rfl⟩ rfl ?_
  refine me_iconst (p' := 3) k168_2 rfl (v := nI 0) (by decide) ?_
  refine me_istore_n (p' := 4) k168_3 rfl ⟨Nat.le_of_ble_eq_true rfl, rfl⟩ rfl ?_
  exact lp_near hk hQ 0 (Nat.zero_le _)
theorem lp_scares {d L : Nat} {xs : Nat → Int32} {I : Nat → Nat → Int32} {Q : Option Value → mj_H → Prop} (hQ : Q (some (.int (sp_scr (I 128) 12))) (mg_h L xs I)) : ∀ k : Nat, k ≤ 12 → mj_Ev d 218 4 [.ref 127, .int (sp_scr (I 128) k), .int (nI k)] [] (mg_h L xs I) Q := by
  refine loop_ind (n := 12) (fun k hkn ih => ?_)
  refine me_iload_n (p' := 5) k218_4 rfl rfl ?_
  refine me_bipush (p' := 7) k218_5 rfl (v := nI 12) (by decide) ?_
  refine me_ic_ge (p' := 10) k218_7 rfl (fun c1 => ?_) (fun c1 => ?_)
  · skip
    rw [cI_le (a := 12) (b := k) (by omega) (by omega)] at c1
    refine me_iload_n (p' := 37) k218_36 rfl rfl ?_
    refine me_reti k218_37 rt_218 rfl ?_
    have e8 : k = 12 := by omega
    subst e8
    exact hQ
  · skip
    rw [cI_le (a := 12) (b := k) (by omega) (by omega)] at c1
    refine me_iload_n (p' := 11) k218_10 rfl rfl ?_
    refine me_aload_n (p' := 12) k218_11 rfl rfl ?_
    refine me_gfr (p' := 15) k218_12 rfl (by decide) rfl (b := 128) rfl ?_
    refine me_bipush (p' := 17) k218_15 rfl (v := nI 29) (by decide) ?_
    refine me_iload_n (p' := 18) k218_17 rfl rfl ?_
    refine me_iadd (p' := 19) k218_18 rfl (v := nI (29 + k)) (mI_add _ _) ?_
    refine me_iald (p' := 20) k218_19 rfl (by decide) rfl (j := 29 + k) rfl (by omega) (by decide) rfl ?_
    refine me_if_le (p' := 23) k218_20 rfl (fun c2 => ?_) (fun c2 => ?_)
    · skip
      refine me_iconst (p' := 28) k218_27 rfl (v := nI 0) (by decide) ?_
      refine me_iadd (p' := 29) k218_28 rfl rfl ?_
      refine me_istore_n (p' := 30) k218_29 rfl ⟨Nat.le_of_ble_eq_true rfl, rfl⟩ rfl ?_
      refine me_iinc (p' := 33) k218_30 rfl rfl rfl (v := nI (k + 1)) (mI_inc (by decide)) rfl ?_
      refine me_goto k218_33 ?_
      have e9 : ((sp_scr (I 128) k) + nI 0) = sp_scr (I 128) (k + 1) := by rw [sp_scr, if_neg (Int32.not_lt.mpr c2)]
      rw [e9]
      exact ih (by omega)
    · skip
      refine me_iconst (p' := 24) k218_23 rfl (v := nI 1) (by decide) ?_
      refine me_goto k218_24 ?_
      refine me_iadd (p' := 29) k218_28 rfl rfl ?_
      refine me_istore_n (p' := 30) k218_29 rfl ⟨Nat.le_of_ble_eq_true rfl, rfl⟩ rfl ?_
      refine me_iinc (p' := 33) k218_30 rfl rfl rfl (v := nI (k + 1)) (mI_inc (by decide)) rfl ?_
      refine me_goto k218_33 ?_
      have e9 : ((sp_scr (I 128) k) + nI 1) = sp_scr (I 128) (k + 1) := by rw [sp_scr, if_pos (Int32.not_le.mp c2)]
      rw [e9]
      exact ih (by omega)
theorem ct_scares {d L : Nat} {xs : Nat → Int32} {I : Nat → Nat → Int32} {Q : Option Value → mj_H → Prop}  (hQ : Q (some (.int (sp_scr (I 128) 12))) (mg_h L xs I)) : mj_Cl d 218 [.ref 127] (mg_h L xs I) Q := by
  refine cl_start mx_218 (ls := [.ref 127, mj_no, mj_no]) rfl ?_
  refine me_iconst (p' := 1) k218_0 rfl (v := nI 0) (by decide) ?_
  refine me_istore_n (p' := 2) k218_1 rfl ⟨Nat.le_of_ble_eq_true rfl, rfl⟩ rfl ?_
  refine me_iconst (p' := 3) k218_2 rfl (v := nI 0) (by decide) ?_
  refine me_istore_n (p' := 4) k218_3 rfl ⟨Nat.le_of_ble_eq_true rfl, rfl⟩ rfl ?_
  exact lp_scares hQ 0 (Nat.zero_le _)
theorem ct_draw {d L : Nat} {xs : Nat → Int32} {I : Nat → Nat → Int32} {Q : Option Value → mj_H → Prop}  (hQ : Q (some (.int (nI (sp_dv (sp_z (I 128 0)))))) (mg_h L xs (mg_u I 128 0 (sp_z (I 128 0))))) : mj_Cl d 158 [.ref 127] (mg_h L xs I) Q := by
  refine cl_start mx_158 (ls := [.ref 127]) rfl ?_
  refine me_aload_n (p' := 1) k158_0 rfl rfl ?_
  refine me_gfr (p' := 4) k158_1 rfl (by decide) rfl (b := 128) rfl ?_
  refine me_iconst (p' := 5) k158_4 rfl (v := nI 0) (by decide) ?_
  refine me_aload_n (p' := 6) k158_5 rfl rfl ?_
  refine me_gfr (p' := 9) k158_6 rfl (by decide) rfl (b := 128) rfl ?_
  refine me_iconst (p' := 10) k158_9 rfl (v := nI 0) (by decide) ?_
  refine me_iald (p' := 11) k158_10 rfl (by decide) rfl (j := 0) rfl (by omega) (by decide) rfl ?_
  refine me_ldc (p' := 13) k158_11 rfl (v := nI 1103515245) rfl ?_
  refine me_imul (p' := 14) k158_13 rfl rfl ?_
  refine me_sipush (p' := 17) k158_14 rfl (v := nI 12345) (by decide) ?_
  refine me_iadd (p' := 18) k158_17 rfl rfl ?_
  refine me_iast (p' := 19) k158_18 rfl (by decide) rfl (j := 0) rfl (by omega) (by decide) rfl ?_
  refine me_aload_n (p' := 20) k158_19 rfl rfl ?_
  refine me_gfr (p' := 23) k158_20 rfl (by decide) rfl (b := 128) rfl ?_
  refine me_iconst (p' := 24) k158_23 rfl (v := nI 0) (by decide) ?_
  refine me_iald (p' := 25) k158_24 rfl (by decide) rfl (j := 0) rfl (by omega) (by decide) rfl ?_
  refine me_bipush (p' := 27) k158_25 rfl (v := nI 8) (by decide) ?_
  refine me_iushr (p' := 28) k158_27 rfl rfl ?_
  refine me_reti k158_28 rt_158 rfl ?_
  rw [mI_shr8, mg_ueq]
  exact hQ
theorem lp_comes {d L : Nat} {xs : Nat → Int32} {I : Nat → Nat → Int32} {Q : Option Value → mj_H → Prop} {n : Nat} {q f w : Int32} (hn : n < 8) (hE : mj_Ev d 135 45 [.ref 127, .int q, .int f, .int w, .int (nI n), .int (nI (53 + 7 * n)), .int (nI 7)] [] (mg_h L xs (mw I 128 (fun j => if 53 + 7 * n ≤ j ∧ j < 53 + 7 * n + 7 then nI 0 else I 128 j))) Q) : ∀ k : Nat, k ≤ 7 → mj_Ev d 135 21 [.ref 127, .int q, .int f, .int w, .int (nI n), .int (nI (53 + 7 * n)), .int (nI k)] [] (mg_h L xs (mw I 128 (fun j => if 53 + 7 * n ≤ j ∧ j < 53 + 7 * n + k then nI 0 else I 128 j))) Q := by
  refine loop_ind (n := 7) (fun k hkn ih => ?_)
  refine me_iload (p' := 23) k135_21 rfl rfl ?_
  refine me_bipush (p' := 25) k135_23 rfl (v := nI 7) (by decide) ?_
  refine me_ic_ge (p' := 28) k135_25 rfl (fun c1 => ?_) (fun c1 => ?_)
  · skip
    rw [cI_le (a := 7) (b := k) (by omega) (by omega)] at c1
    have e8 : k = 7 := by omega
    subst e8
    exact hE
  · skip
    rw [cI_le (a := 7) (b := k) (by omega) (by omega)] at c1
    refine me_aload_n (p' := 29) k135_28 rfl rfl ?_
    refine me_gfr (p' := 32) k135_29 rfl (by decide) rfl (b := 128) rfl ?_
    refine me_iload (p' := 34) k135_32 rfl rfl ?_
    refine me_iload (p' := 36) k135_34 rfl rfl ?_
    refine me_iadd (p' := 37) k135_36 rfl (v := nI ((53 + 7 * n) + k)) (mI_add _ _) ?_
    refine me_iconst (p' := 38) k135_37 rfl (v := nI 0) (by decide) ?_
    refine me_iast (p' := 39) k135_38 rfl (by decide) rfl (j := (53 + 7 * n) + k) rfl (by omega) (by decide) rfl ?_
    refine me_iinc (p' := 42) k135_39 rfl rfl rfl (v := nI (k + 1)) (mI_inc (by decide)) rfl ?_
    refine me_goto k135_42 ?_
    rw [mw_u, show up (fun j => if 53 + 7 * n ≤ j ∧ j < 53 + 7 * n + k then nI 0 else I 128 j) (53 + 7 * n + k) (nI 0) = (fun j => if 53 + 7 * n ≤ j ∧ j < 53 + 7 * n + (k + 1) then nI 0 else I 128 j) from ?_]
    · exact ih (by omega)
    · funext j
      unfold up
      by_cases e : j = 53 + 7 * n + k
      · rw [if_pos e, if_pos (by omega)]
      · rw [if_neg e]
        dsimp only
        by_cases e2 : 53 + 7 * n ≤ j ∧ j < 53 + 7 * n + k
        · rw [if_pos e2, if_pos (by omega)]
        · rw [if_neg e2, if_neg (by omega)]
theorem ct_comes {d L : Nat} {xs : Nat → Int32} {I : Nat → Nat → Int32} {Q : Option Value → mj_H → Prop} {n : Nat} {q f w : Int32} (hn : mN (I 128) n) (hn8 : n < 8) (hQ : Q (some (.int (nI n))) (mg_h L xs (mw I 128 (sp_comes (I 128) n q f w)))) : mj_Cl d 135 [.ref 127, .int q, .int f, .int w] (mg_h L xs I) Q := by
  refine cl_start mx_135 (ls := [.ref 127, .int q, .int f, .int w, mj_no, mj_no, mj_no]) rfl ?_
  refine me_aload_n (p' := 1) k135_0 rfl rfl ?_
  refine me_gfr (p' := 4) k135_1 rfl (by decide) rfl (b := 128) rfl ?_
  refine me_iconst (p' := 5) k135_4 rfl (v := nI 1) (by decide) ?_
  refine me_iald (p' := 6) k135_5 rfl (by decide) rfl (j := 1) rfl (by omega) (by decide) rfl ?_
  rw [hn.1]
  refine me_istore (p' := 8) k135_6 rfl ⟨Nat.le_of_ble_eq_true rfl, rfl⟩ rfl ?_
  refine me_bipush (p' := 10) k135_8 rfl (v := nI 53) (by decide) ?_
  refine me_bipush (p' := 12) k135_10 rfl (v := nI 7) (by decide) ?_
  refine me_iload (p' := 14) k135_12 rfl rfl ?_
  refine me_imul (p' := 15) k135_14 rfl (v := nI (7 * n)) (mI_mul _ _) ?_
  refine me_iadd (p' := 16) k135_15 rfl (v := nI (53 + (7 * n))) (mI_add _ _) ?_
  refine me_istore (p' := 18) k135_16 rfl ⟨Nat.le_of_ble_eq_true rfl, rfl⟩ rfl ?_
  refine me_iconst (p' := 19) k135_18 rfl (v := nI 0) (by decide) ?_
  refine me_istore (p' := 21) k135_19 rfl ⟨Nat.le_of_ble_eq_true rfl, rfl⟩ rfl ?_
  have h0 := lp_comes (I := I) (Q := Q) (L := L) (xs := xs) (d := d) (q := q) (f := f) (w := w) hn8 ?_ 0 (Nat.zero_le _)
  · rw [show (fun j => if 53 + 7 * n ≤ j ∧ j < 53 + 7 * n + 0 then nI 0 else I 128 j) = I 128 from funext fun k => by rw [if_neg (by omega)]] at h0
    rw [mw_id] at h0
    exact h0
  refine me_aload_n (p' := 46) k135_45 rfl rfl ?_
  refine me_gfr (p' := 49) k135_46 rfl (by decide) rfl (b := 128) rfl ?_
  refine me_iload (p' := 51) k135_49 rfl rfl ?_
  refine me_iload_n (p' := 52) k135_51 rfl rfl ?_
  refine me_iast (p' := 53) k135_52 rfl (by decide) rfl (j := 53 + 7 * n) rfl (by omega) (by decide) rfl ?_
  refine me_aload_n (p' := 54) k135_53 rfl rfl ?_
  refine me_gfr (p' := 57) k135_54 rfl (by decide) rfl (b := 128) rfl ?_
  refine me_iload (p' := 59) k135_57 rfl rfl ?_
  refine me_iconst (p' := 60) k135_59 rfl (v := nI 1) (by decide) ?_
  refine me_iadd (p' := 61) k135_60 rfl (v := nI ((53 + 7 * n) + 1)) (mI_add _ _) ?_
  refine me_iload_n (p' := 62) k135_61 rfl rfl ?_
  refine me_iast (p' := 63) k135_62 rfl (by decide) rfl (j := (53 + 7 * n) + 1) rfl (by omega) (by decide) rfl ?_
  refine me_aload_n (p' := 64) k135_63 rfl rfl ?_
  refine me_gfr (p' := 67) k135_64 rfl (by decide) rfl (b := 128) rfl ?_
  refine me_iload (p' := 69) k135_67 rfl rfl ?_
  refine me_iconst (p' := 70) k135_69 rfl (v := nI 2) (by decide) ?_
  refine me_iadd (p' := 71) k135_70 rfl (v := nI ((53 + 7 * n) + 2)) (mI_add _ _) ?_
  refine me_iload_n (p' := 72) k135_71 rfl rfl ?_
  refine me_iast (p' := 73) k135_72 rfl (by decide) rfl (j := (53 + 7 * n) + 2) rfl (by omega) (by decide) rfl ?_
  refine me_aload_n (p' := 74) k135_73 rfl rfl ?_
  refine me_gfr (p' := 77) k135_74 rfl (by decide) rfl (b := 128) rfl ?_
  refine me_iconst (p' := 78) k135_77 rfl (v := nI 1) (by decide) ?_
  refine me_dup2 (p' := 79) k135_78 rfl rfl ?_
  refine me_iald (p' := 80) k135_79 rfl (by decide) rfl (j := 1) rfl (by omega) (by decide) rfl ?_
  rw [show (mg_u (mg_u (mg_u (mw I 128 (fun j => if 53 + 7 * n ≤ j ∧ j < 53 + 7 * n + 7 then nI 0 else I 128 j)) 128 (53 + 7 * n) q) 128 ((53 + 7 * n) + 1) f) 128 ((53 + 7 * n) + 2) w) 128 1 = nI n from by rw [mw_u, mw_u, mw_u, mw_eq, up_ne (by omega), up_ne (by omega), up_ne (by omega), if_neg (by omega)]; exact hn.1]
  refine me_iconst (p' := 81) k135_80 rfl (v := nI 1) (by decide) ?_
  refine me_iadd (p' := 82) k135_81 rfl (v := nI (n + 1)) (mI_add _ _) ?_
  refine me_iast (p' := 83) k135_82 rfl (by decide) rfl (j := 1) rfl (by omega) (by decide) rfl ?_
  refine me_iload (p' := 85) k135_83 rfl rfl ?_
  refine me_reti k135_85 rt_135 rfl ?_
  refine cast (congrArg (fun z => Q (some (.int (nI n))) (mg_h L xs z)) ?_) hQ
  rw [mw_u, mw_u, mw_u, mw_u]
  congr 1
theorem lp_copyAll {d L : Nat} {xs : Nat → Int32} {I : Nat → Nat → Int32} {Q : Option Value → mj_H → Prop} {a b : Nat} (ha : a < 149) (hb : b < 149) (ta : mg_tbl.getD a (99, 0) = (20, 1481)) (tb : mg_tbl.getD b (99, 0) = (20, 1481)) (ra : ∀ k, mg_rc a k = 0) (rb : ∀ k, mg_rc b k = 0) (hab : a ≠ b) (hQ : Q none (mg_h L xs (mw I b (fun j => if j < 1481 then I a j else I b j)))) : ∀ k : Nat, k ≤ 1481 → mj_Ev d 214 2 [.ref a, .ref b, .int (nI k)] [] (mg_h L xs (mw I b (fun j => if j < k then I a j else I b j))) Q := by
  refine loop_ind (n := 1481) (fun k hkn ih => ?_)
  refine me_iload_n (p' := 3) k214_2 rfl rfl ?_
  refine me_sipush (p' := 6) k214_3 rfl (v := nI 1481) (by decide) ?_
  refine me_ic_ge (p' := 9) k214_6 rfl (fun c1 => ?_) (fun c1 => ?_)
  · skip
    rw [cI_le (a := 1481) (b := k) (by omega) (by omega)] at c1
    refine me_retv k214_21 rt_214 ?_
    have e8 : k = 1481 := by omega
    subst e8
    exact hQ
  · skip
    rw [cI_le (a := 1481) (b := k) (by omega) (by omega)] at c1
    refine me_aload_n (p' := 10) k214_9 rfl rfl ?_
    refine me_iload_n (p' := 11) k214_10 rfl rfl ?_
    refine me_aload_n (p' := 12) k214_11 rfl rfl ?_
    refine me_iload_n (p' := 13) k214_12 rfl rfl ?_
    refine me_iald (p' := 14) k214_13 rfl ha ta (j := k) rfl (by omega) (by decide) (ra _) ?_
    refine me_iast (p' := 15) k214_14 rfl hb tb (j := k) rfl (by omega) (by decide) (rb _) ?_
    refine me_iinc (p' := 18) k214_15 rfl rfl rfl (v := nI (k + 1)) (mI_inc (by decide)) rfl ?_
    refine me_goto k214_18 ?_
    rw [mw_ne hab, mw_u, show up (fun j => if j < k then I a j else I b j) k (I a k) = (fun j => if j < k + 1 then I a j else I b j) from ?_]
    · exact ih (by omega)
    · funext j
      unfold up
      by_cases e : j = k
      · rw [if_pos e, if_pos (by omega), e]
      · rw [if_neg e]
        dsimp only
        by_cases e2 : j < k
        · rw [if_pos e2, if_pos (by omega)]
        · rw [if_neg e2, if_neg (by omega)]
theorem ct_copyAll {d L : Nat} {xs : Nat → Int32} {I : Nat → Nat → Int32} {Q : Option Value → mj_H → Prop} {a b : Nat} (ha : a < 149) (hb : b < 149) (ta : mg_tbl.getD a (99, 0) = (20, 1481)) (tb : mg_tbl.getD b (99, 0) = (20, 1481)) (ra : ∀ k, mg_rc a k = 0) (rb : ∀ k, mg_rc b k = 0) (hab : a ≠ b) (hQ : Q none (mg_h L xs (mw I b (fun j => if j < 1481 then I a j else I b j)))) : mj_Cl d 214 [.ref a, .ref b] (mg_h L xs I) Q := by
  refine cl_start mx_214 (ls := [.ref a, .ref b, mj_no]) rfl ?_
  refine me_iconst (p' := 1) k214_0 rfl (v := nI 0) (by decide) ?_
  refine me_istore_n (p' := 2) k214_1 rfl ⟨Nat.le_of_ble_eq_true rfl, rfl⟩ rfl ?_
  have h0 := lp_copyAll (d := d) ha hb ta tb ra rb hab hQ 0 (Nat.zero_le _)
  rw [show (fun j => if j < 0 then I a j else I b j) = I b from funext fun k => by rw [if_neg (by omega)], mw_id] at h0
  exact h0
theorem lp_thinks {d L : Nat} {xs : Nat → Int32} {I : Nat → Nat → Int32} {Q : Option Value → mj_H → Prop} (hQ : Q none (mg_h L xs (mw I 131 (fun j => if j < 109 then I 128 j else I 131 j)))) : ∀ k : Nat, k ≤ 109 → mj_Ev d 171 2 [.ref 127, .int (nI k)] [] (mg_h L xs (mw I 131 (fun j => if j < k then I 128 j else I 131 j))) Q := by
  refine loop_ind (n := 109) (fun k hkn ih => ?_)
  refine me_iload_n (p' := 3) k171_2 rfl rfl ?_
  refine me_bipush (p' := 5) k171_3 rfl (v := nI 109) (by decide) ?_
  refine me_ic_ge (p' := 8) k171_5 rfl (fun c1 => ?_) (fun c1 => ?_)
  · skip
    rw [cI_le (a := 109) (b := k) (by omega) (by omega)] at c1
    refine me_retv k171_26 rt_171 ?_
    have e8 : k = 109 := by omega
    subst e8
    exact hQ
  · skip
    rw [cI_le (a := 109) (b := k) (by omega) (by omega)] at c1
    refine me_aload_n (p' := 9) k171_8 rfl rfl ?_
    refine me_gfr (p' := 12) k171_9 rfl (by decide) rfl (b := 131) rfl ?_
    refine me_iload_n (p' := 13) k171_12 rfl rfl ?_
    refine me_aload_n (p' := 14) k171_13 rfl rfl ?_
    refine me_gfr (p' := 17) k171_14 rfl (by decide) rfl (b := 128) rfl ?_
    refine me_iload_n (p' := 18) k171_17 rfl rfl ?_
    refine me_iald (p' := 19) k171_18 rfl (by decide) rfl (j := k) rfl (by omega) (by decide) rfl ?_
    refine me_iast (p' := 20) k171_19 rfl (by decide) rfl (j := k) rfl (by omega) (by decide) rfl ?_
    refine me_iinc (p' := 23) k171_20 rfl rfl rfl (v := nI (k + 1)) (mI_inc (by decide)) rfl ?_
    refine me_goto k171_23 ?_
    rw [mw_ne (by decide), mw_u, show up (fun j => if j < k then I 128 j else I 131 j) k (I 128 k) = (fun j => if j < k + 1 then I 128 j else I 131 j) from ?_]
    · exact ih (by omega)
    · funext j
      unfold up
      by_cases e : j = k
      · rw [if_pos e, if_pos (by omega), e]
      · rw [if_neg e]
        dsimp only
        by_cases e2 : j < k
        · rw [if_pos e2, if_pos (by omega)]
        · rw [if_neg e2, if_neg (by omega)]
theorem ct_thinks {d L : Nat} {xs : Nat → Int32} {I : Nat → Nat → Int32} {Q : Option Value → mj_H → Prop}  (hQ : Q none (mg_h L xs (mw I 131 (fun j => if j < 109 then I 128 j else I 131 j)))) : mj_Cl d 171 [.ref 127] (mg_h L xs I) Q := by
  refine cl_start mx_171 (ls := [.ref 127, mj_no]) rfl ?_
  refine me_iconst (p' := 1) k171_0 rfl (v := nI 0) (by decide) ?_
  refine me_istore_n (p' := 2) k171_1 rfl ⟨Nat.le_of_ble_eq_true rfl, rfl⟩ rfl ?_
  have h0 := lp_thinks (d := d) hQ 0 (Nat.zero_le _)
  rw [show (fun j => if j < 0 then I 128 j else I 131 j) = I 131 from funext fun k => by rw [if_neg (by omega)], mw_id] at h0
  exact h0
theorem lp_putsBack {d L : Nat} {xs : Nat → Int32} {I : Nat → Nat → Int32} {Q : Option Value → mj_H → Prop} (hQ : Q none (mg_h L xs (mg_u (mw I 128 (fun j => if j < 109 then I 131 j else I 128 j)) 127 4 (-1)))) : ∀ k : Nat, k ≤ 109 → mj_Ev d 172 2 [.ref 127, .int (nI k)] [] (mg_h L xs (mw I 128 (fun j => if j < k then I 131 j else I 128 j))) Q := by
  refine loop_ind (n := 109) (fun k hkn ih => ?_)
  refine me_iload_n (p' := 3) k172_2 rfl rfl ?_
  refine me_bipush (p' := 5) k172_3 rfl (v := nI 109) (by decide) ?_
  refine me_ic_ge (p' := 8) k172_5 rfl (fun c1 => ?_) (fun c1 => ?_)
  · skip
    rw [cI_le (a := 109) (b := k) (by omega) (by omega)] at c1
    refine me_aload_n (p' := 27) k172_26 rfl rfl ?_
    refine me_iconst (p' := 28) k172_27 rfl (v := (-1)) (by decide) ?_
    refine me_pfi (p' := 31) k172_28 rfl (by decide) rfl rfl rfl rfl ?_
    refine me_retv k172_31 rt_172 ?_
    have e8 : k = 109 := by omega
    subst e8
    exact hQ
  · skip
    rw [cI_le (a := 109) (b := k) (by omega) (by omega)] at c1
    refine me_aload_n (p' := 9) k172_8 rfl rfl ?_
    refine me_gfr (p' := 12) k172_9 rfl (by decide) rfl (b := 128) rfl ?_
    refine me_iload_n (p' := 13) k172_12 rfl rfl ?_
    refine me_aload_n (p' := 14) k172_13 rfl rfl ?_
    refine me_gfr (p' := 17) k172_14 rfl (by decide) rfl (b := 131) rfl ?_
    refine me_iload_n (p' := 18) k172_17 rfl rfl ?_
    refine me_iald (p' := 19) k172_18 rfl (by decide) rfl (j := k) rfl (by omega) (by decide) rfl ?_
    refine me_iast (p' := 20) k172_19 rfl (by decide) rfl (j := k) rfl (by omega) (by decide) rfl ?_
    refine me_iinc (p' := 23) k172_20 rfl rfl rfl (v := nI (k + 1)) (mI_inc (by decide)) rfl ?_
    refine me_goto k172_23 ?_
    rw [mw_ne (by decide), mw_u, show up (fun j => if j < k then I 131 j else I 128 j) k (I 131 k) = (fun j => if j < k + 1 then I 131 j else I 128 j) from ?_]
    · exact ih (by omega)
    · funext j
      unfold up
      by_cases e : j = k
      · rw [if_pos e, if_pos (by omega), e]
      · rw [if_neg e]
        dsimp only
        by_cases e2 : j < k
        · rw [if_pos e2, if_pos (by omega)]
        · rw [if_neg e2, if_neg (by omega)]
theorem ct_putsBack {d L : Nat} {xs : Nat → Int32} {I : Nat → Nat → Int32} {Q : Option Value → mj_H → Prop}  (hQ : Q none (mg_h L xs (mg_u (mw I 128 (fun j => if j < 109 then I 131 j else I 128 j)) 127 4 (-1)))) : mj_Cl d 172 [.ref 127] (mg_h L xs I) Q := by
  refine cl_start mx_172 (ls := [.ref 127, mj_no]) rfl ?_
  refine me_iconst (p' := 1) k172_0 rfl (v := nI 0) (by decide) ?_
  refine me_istore_n (p' := 2) k172_1 rfl ⟨Nat.le_of_ble_eq_true rfl, rfl⟩ rfl ?_
  have h0 := lp_putsBack (d := d) hQ 0 (Nat.zero_le _)
  rw [show (fun j => if j < 0 then I 131 j else I 128 j) = I 128 from funext fun k => by rw [if_neg (by omega)], mw_id] at h0
  exact h0
theorem ct_screamsBehind {d L : Nat} {xs : Nat → Int32} {I : Nat → Nat → Int32} {Q : Option Value → mj_H → Prop} {T : mT} {n m : Nat} {s0 : Nat → Int32} (hm : m < 100000) (hx : mTx I T) (hk : mOk (I 128) n) (hb : ∀ j : Nat, j < 109 → I 131 j = s0 j) (hb2 : ∀ j : Nat, 109 ≤ j → I 128 j = s0 j) (hQ : ∀ I2, mFr [127, 128, 138, 139] I I2 → I2 127 = up (I 127) 4 (-1) → I2 128 = s0 → Q (some (.int (sp_sum (sp_secs T (I 128) (I 127 4) n m) (I 127 4) 3 n))) (mg_h L xs I2)) : mj_Cl (d + 6) 176 [.ref 127, .int (nI m)] (mg_h L xs I) Q := by
  refine cl_start mx_176 (ls := [.ref 127, .int (nI m), mj_no]) rfl ?_
  refine me_aload_n (p' := 1) k176_0 rfl rfl ?_
  refine me_iload_n (p' := 2) k176_1 rfl rfl ?_
  refine me_cv (p' := 5) k176_2 rfl rfl (by decide) rfl (by decide) (by decide) dp_162 rfl rfl (cl_le mx_162 rfl) (by decide) (cl_sum rfl) (ct_goesOn hm hx hk (fun I1 hI1 hI2 => ?_))
  have h1 : mOk (I1 128) n := by rw [hI2]; exact hk.secs m
  have ha : I1 127 4 = I 127 4 := hI1 127 4 (by decide)
  refine me_aload_n (p' := 6) k176_5 rfl rfl ?_
  refine me_iconst (p' := 7) k176_6 rfl (v := nI 3) (by decide) ?_
  refine me_cv (p' := 10) k176_7 rfl rfl (by decide) rfl (by decide) (by decide) dp_161 rfl rfl (cl_le mx_161 rfl) (by decide) (cl_sum rfl) (ct_sumOf h1.hn (by decide) ?_)
  rw [hI2, ha]
  refine me_istore_n (p' := 11) k176_10 rfl ⟨Nat.le_of_ble_eq_true rfl, rfl⟩ rfl ?_
  refine me_aload_n (p' := 12) k176_11 rfl rfl ?_
  refine me_cv (p' := 15) k176_12 rfl rfl (by decide) rfl (by decide) (by decide) dp_172 rfl rfl (cl_le mx_172 rfl) (by decide) (cl_sum rfl) (ct_putsBack ?_)
  refine me_iload_n (p' := 16) k176_15 rfl rfl ?_
  refine me_reti k176_16 rt_176 rfl ?_
  refine hQ _ ((hI1.mono (by simp)).tr ((mFr.w (by decide)).tr (mFr.up (by decide)))) ?_ ?_
  · rw [mg_ui]
    congr 1
    funext j
    rw [mw_ne (by decide), hI1 127 j (by decide)]
  · rw [mg_un (by decide), mw_eqf]
    funext j
    by_cases e : j < 109
    · rw [if_pos e, hI1 131 j (by decide)]; exact hb j e
    · rw [if_neg e, hI2, sp_secs_kp hk (by unfold mTd; omega)]; exact hb2 j (by omega)
