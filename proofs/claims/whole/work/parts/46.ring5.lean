/-! ===== the class: copies, CARS that come and go ===== -/
theorem mFr.cp {S : List Nat} {I : Nat → Nat → Int32} {a sp b dp n : Nat} (h : b ∈ S) : mFr S I (mg_c I a sp b dp n) := fun i k hi => by
  unfold mg_c
  rw [if_neg (fun z => hi (by rw [z.1]; exact h))]
theorem mc_eq {I : Nat → Nat → Int32} {a sp b dp n k : Nat} (h1 : dp ≤ k) (h2 : k < dp + n) : mg_c I a sp b dp n b k = I a (sp + (k - dp)) := by
  unfold mg_c
  rw [if_pos ⟨rfl, h1, h2⟩]
theorem mc_ne {I : Nat → Nat → Int32} {a sp b dp n i k : Nat} (h : i ≠ b) : mg_c I a sp b dp n i k = I i k := by
  unfold mg_c
  rw [if_neg (fun z => h z.1)]
def mRc (r : Nat) : List Nat := (r + 14) :: mRg r
theorem ct_become26_11 {d L : Nat} {xs : Nat → Int32} {I : Nat → Nat → Int32} {Q : Option Value → mj_H → Prop} {b b' : Nat} (hQ : ∀ I2, mFr (mRc 26) I I2 → (∀ k, k < 109 → mSg 26 b I2 k = mSg 11 b' I k) → (∀ k, k < 3 → I2 40 k = I 25 k) → Q none (mg_h L xs I2)) : mj_Cl d 70 [.ref 26, .ref 11] (mg_h L xs I) Q := by
  refine cl_start mx_70 (ls := [.ref 26, .ref 11, mj_no]) rfl ?_
  refine me_iconst (p' := 1) k70_0 rfl (v := nI 0) (by decide) ?_
  refine me_istore_n (p' := 2) k70_1 rfl ⟨Nat.le_of_ble_eq_true rfl, rfl⟩ rfl ?_
  refine me_iload_n (p' := 3) k70_2 rfl rfl ?_
  refine me_iconst (p' := 4) k70_3 rfl (v := nI 4) (by decide) ?_
  refine me_ic_ge (p' := 7) k70_4 rfl (fun h => absurd h (by decide)) (fun _ => ?_)
  refine me_aload_n (p' := 8) k70_7 rfl rfl ?_
  refine me_gfr (p' := 11) k70_8 rfl (by decide) rfl (b := 12) rfl ?_
  refine me_iload_n (p' := 12) k70_11 rfl rfl ?_
  refine me_aald (p' := 13) k70_12 rfl (by decide) rfl ⟨by decide, by decide⟩ (j := 0) rfl (by omega) (by decide) (b := 13) rfl ?_
  refine me_iconst (p' := 14) k70_13 rfl (v := nI 0) (by decide) ?_
  refine me_aload_n (p' := 15) k70_14 rfl rfl ?_
  refine me_gfr (p' := 18) k70_15 rfl (by decide) rfl (b := 27) rfl ?_
  refine me_iload_n (p' := 19) k70_18 rfl rfl ?_
  refine me_aald (p' := 20) k70_19 rfl (by decide) rfl ⟨by decide, by decide⟩ (j := 0) rfl (by omega) (by decide) (b := 28) rfl ?_
  refine me_iconst (p' := 21) k70_20 rfl (v := nI 0) (by decide) ?_
  refine me_bipush (p' := 23) k70_21 rfl (v := nI 12) (by decide) ?_
  refine me_acp (p' := 26) k70_23 rfl (by decide) (by decide) rfl rfl (n := 12) (dp := 0) (sp := 0) rfl rfl rfl (by omega) (by omega) ⟨by decide, by decide⟩ (fun k => rfl) (fun k => rfl) (cl_sum rfl) ?_
  refine me_iinc (p' := 29) k70_26 rfl rfl rfl (v := nI (1)) (by decide) rfl ?_
  refine me_goto k70_29 ?_
  refine me_iload_n (p' := 3) k70_2 rfl rfl ?_
  refine me_iconst (p' := 4) k70_3 rfl (v := nI 4) (by decide) ?_
  refine me_ic_ge (p' := 7) k70_4 rfl (fun h => absurd h (by decide)) (fun _ => ?_)
  refine me_aload_n (p' := 8) k70_7 rfl rfl ?_
  refine me_gfr (p' := 11) k70_8 rfl (by decide) rfl (b := 12) rfl ?_
  refine me_iload_n (p' := 12) k70_11 rfl rfl ?_
  refine me_aald (p' := 13) k70_12 rfl (by decide) rfl ⟨by decide, by decide⟩ (j := 1) rfl (by omega) (by decide) (b := 14) rfl ?_
  refine me_iconst (p' := 14) k70_13 rfl (v := nI 0) (by decide) ?_
  refine me_aload_n (p' := 15) k70_14 rfl rfl ?_
  refine me_gfr (p' := 18) k70_15 rfl (by decide) rfl (b := 27) rfl ?_
  refine me_iload_n (p' := 19) k70_18 rfl rfl ?_
  refine me_aald (p' := 20) k70_19 rfl (by decide) rfl ⟨by decide, by decide⟩ (j := 1) rfl (by omega) (by decide) (b := 29) rfl ?_
  refine me_iconst (p' := 21) k70_20 rfl (v := nI 0) (by decide) ?_
  refine me_bipush (p' := 23) k70_21 rfl (v := nI 12) (by decide) ?_
  refine me_acp (p' := 26) k70_23 rfl (by decide) (by decide) rfl rfl (n := 12) (dp := 0) (sp := 0) rfl rfl rfl (by omega) (by omega) ⟨by decide, by decide⟩ (fun k => rfl) (fun k => rfl) (cl_sum rfl) ?_
  refine me_iinc (p' := 29) k70_26 rfl rfl rfl (v := nI (2)) (by decide) rfl ?_
  refine me_goto k70_29 ?_
  refine me_iload_n (p' := 3) k70_2 rfl rfl ?_
  refine me_iconst (p' := 4) k70_3 rfl (v := nI 4) (by decide) ?_
  refine me_ic_ge (p' := 7) k70_4 rfl (fun h => absurd h (by decide)) (fun _ => ?_)
  refine me_aload_n (p' := 8) k70_7 rfl rfl ?_
  refine me_gfr (p' := 11) k70_8 rfl (by decide) rfl (b := 12) rfl ?_
  refine me_iload_n (p' := 12) k70_11 rfl rfl ?_
  refine me_aald (p' := 13) k70_12 rfl (by decide) rfl ⟨by decide, by decide⟩ (j := 2) rfl (by omega) (by decide) (b := 15) rfl ?_
  refine me_iconst (p' := 14) k70_13 rfl (v := nI 0) (by decide) ?_
  refine me_aload_n (p' := 15) k70_14 rfl rfl ?_
  refine me_gfr (p' := 18) k70_15 rfl (by decide) rfl (b := 27) rfl ?_
  refine me_iload_n (p' := 19) k70_18 rfl rfl ?_
  refine me_aald (p' := 20) k70_19 rfl (by decide) rfl ⟨by decide, by decide⟩ (j := 2) rfl (by omega) (by decide) (b := 30) rfl ?_
  refine me_iconst (p' := 21) k70_20 rfl (v := nI 0) (by decide) ?_
  refine me_bipush (p' := 23) k70_21 rfl (v := nI 12) (by decide) ?_
  refine me_acp (p' := 26) k70_23 rfl (by decide) (by decide) rfl rfl (n := 12) (dp := 0) (sp := 0) rfl rfl rfl (by omega) (by omega) ⟨by decide, by decide⟩ (fun k => rfl) (fun k => rfl) (cl_sum rfl) ?_
  refine me_iinc (p' := 29) k70_26 rfl rfl rfl (v := nI (3)) (by decide) rfl ?_
  refine me_goto k70_29 ?_
  refine me_iload_n (p' := 3) k70_2 rfl rfl ?_
  refine me_iconst (p' := 4) k70_3 rfl (v := nI 4) (by decide) ?_
  refine me_ic_ge (p' := 7) k70_4 rfl (fun h => absurd h (by decide)) (fun _ => ?_)
  refine me_aload_n (p' := 8) k70_7 rfl rfl ?_
  refine me_gfr (p' := 11) k70_8 rfl (by decide) rfl (b := 12) rfl ?_
  refine me_iload_n (p' := 12) k70_11 rfl rfl ?_
  refine me_aald (p' := 13) k70_12 rfl (by decide) rfl ⟨by decide, by decide⟩ (j := 3) rfl (by omega) (by decide) (b := 16) rfl ?_
  refine me_iconst (p' := 14) k70_13 rfl (v := nI 0) (by decide) ?_
  refine me_aload_n (p' := 15) k70_14 rfl rfl ?_
  refine me_gfr (p' := 18) k70_15 rfl (by decide) rfl (b := 27) rfl ?_
  refine me_iload_n (p' := 19) k70_18 rfl rfl ?_
  refine me_aald (p' := 20) k70_19 rfl (by decide) rfl ⟨by decide, by decide⟩ (j := 3) rfl (by omega) (by decide) (b := 31) rfl ?_
  refine me_iconst (p' := 21) k70_20 rfl (v := nI 0) (by decide) ?_
  refine me_bipush (p' := 23) k70_21 rfl (v := nI 12) (by decide) ?_
  refine me_acp (p' := 26) k70_23 rfl (by decide) (by decide) rfl rfl (n := 12) (dp := 0) (sp := 0) rfl rfl rfl (by omega) (by omega) ⟨by decide, by decide⟩ (fun k => rfl) (fun k => rfl) (cl_sum rfl) ?_
  refine me_iinc (p' := 29) k70_26 rfl rfl rfl (v := nI (4)) (by decide) rfl ?_
  refine me_goto k70_29 ?_
  refine me_iload_n (p' := 3) k70_2 rfl rfl ?_
  refine me_iconst (p' := 4) k70_3 rfl (v := nI 4) (by decide) ?_
  refine me_ic_ge (p' := 7) k70_4 rfl (fun _ => ?_) (fun h => absurd (by decide) h)
  refine me_iconst (p' := 33) k70_32 rfl (v := nI 0) (by decide) ?_
  refine me_istore_n (p' := 34) k70_33 rfl ⟨Nat.le_of_ble_eq_true rfl, rfl⟩ rfl ?_
  refine me_iload_n (p' := 35) k70_34 rfl rfl ?_
  refine me_bipush (p' := 37) k70_35 rfl (v := nI 7) (by decide) ?_
  refine me_ic_ge (p' := 40) k70_37 rfl (fun h => absurd h (by decide)) (fun _ => ?_)
  refine me_aload_n (p' := 41) k70_40 rfl rfl ?_
  refine me_gfr (p' := 44) k70_41 rfl (by decide) rfl (b := 17) rfl ?_
  refine me_iload_n (p' := 45) k70_44 rfl rfl ?_
  refine me_aald (p' := 46) k70_45 rfl (by decide) rfl ⟨by decide, by decide⟩ (j := 0) rfl (by omega) (by decide) (b := 18) rfl ?_
  refine me_iconst (p' := 47) k70_46 rfl (v := nI 0) (by decide) ?_
  refine me_aload_n (p' := 48) k70_47 rfl rfl ?_
  refine me_gfr (p' := 51) k70_48 rfl (by decide) rfl (b := 32) rfl ?_
  refine me_iload_n (p' := 52) k70_51 rfl rfl ?_
  refine me_aald (p' := 53) k70_52 rfl (by decide) rfl ⟨by decide, by decide⟩ (j := 0) rfl (by omega) (by decide) (b := 33) rfl ?_
  refine me_iconst (p' := 54) k70_53 rfl (v := nI 0) (by decide) ?_
  refine me_bipush (p' := 56) k70_54 rfl (v := nI 8) (by decide) ?_
  refine me_acp (p' := 59) k70_56 rfl (by decide) (by decide) rfl rfl (n := 8) (dp := 0) (sp := 0) rfl rfl rfl (by omega) (by omega) ⟨by decide, by decide⟩ (fun k => rfl) (fun k => rfl) (cl_sum rfl) ?_
  refine me_iinc (p' := 62) k70_59 rfl rfl rfl (v := nI (1)) (by decide) rfl ?_
  refine me_goto k70_62 ?_
  refine me_iload_n (p' := 35) k70_34 rfl rfl ?_
  refine me_bipush (p' := 37) k70_35 rfl (v := nI 7) (by decide) ?_
  refine me_ic_ge (p' := 40) k70_37 rfl (fun h => absurd h (by decide)) (fun _ => ?_)
  refine me_aload_n (p' := 41) k70_40 rfl rfl ?_
  refine me_gfr (p' := 44) k70_41 rfl (by decide) rfl (b := 17) rfl ?_
  refine me_iload_n (p' := 45) k70_44 rfl rfl ?_
  refine me_aald (p' := 46) k70_45 rfl (by decide) rfl ⟨by decide, by decide⟩ (j := 1) rfl (by omega) (by decide) (b := 19) rfl ?_
  refine me_iconst (p' := 47) k70_46 rfl (v := nI 0) (by decide) ?_
  refine me_aload_n (p' := 48) k70_47 rfl rfl ?_
  refine me_gfr (p' := 51) k70_48 rfl (by decide) rfl (b := 32) rfl ?_
  refine me_iload_n (p' := 52) k70_51 rfl rfl ?_
  refine me_aald (p' := 53) k70_52 rfl (by decide) rfl ⟨by decide, by decide⟩ (j := 1) rfl (by omega) (by decide) (b := 34) rfl ?_
  refine me_iconst (p' := 54) k70_53 rfl (v := nI 0) (by decide) ?_
  refine me_bipush (p' := 56) k70_54 rfl (v := nI 8) (by decide) ?_
  refine me_acp (p' := 59) k70_56 rfl (by decide) (by decide) rfl rfl (n := 8) (dp := 0) (sp := 0) rfl rfl rfl (by omega) (by omega) ⟨by decide, by decide⟩ (fun k => rfl) (fun k => rfl) (cl_sum rfl) ?_
  refine me_iinc (p' := 62) k70_59 rfl rfl rfl (v := nI (2)) (by decide) rfl ?_
  refine me_goto k70_62 ?_
  refine me_iload_n (p' := 35) k70_34 rfl rfl ?_
  refine me_bipush (p' := 37) k70_35 rfl (v := nI 7) (by decide) ?_
  refine me_ic_ge (p' := 40) k70_37 rfl (fun h => absurd h (by decide)) (fun _ => ?_)
  refine me_aload_n (p' := 41) k70_40 rfl rfl ?_
  refine me_gfr (p' := 44) k70_41 rfl (by decide) rfl (b := 17) rfl ?_
  refine me_iload_n (p' := 45) k70_44 rfl rfl ?_
  refine me_aald (p' := 46) k70_45 rfl (by decide) rfl ⟨by decide, by decide⟩ (j := 2) rfl (by omega) (by decide) (b := 20) rfl ?_
  refine me_iconst (p' := 47) k70_46 rfl (v := nI 0) (by decide) ?_
  refine me_aload_n (p' := 48) k70_47 rfl rfl ?_
  refine me_gfr (p' := 51) k70_48 rfl (by decide) rfl (b := 32) rfl ?_
  refine me_iload_n (p' := 52) k70_51 rfl rfl ?_
  refine me_aald (p' := 53) k70_52 rfl (by decide) rfl ⟨by decide, by decide⟩ (j := 2) rfl (by omega) (by decide) (b := 35) rfl ?_
  refine me_iconst (p' := 54) k70_53 rfl (v := nI 0) (by decide) ?_
  refine me_bipush (p' := 56) k70_54 rfl (v := nI 8) (by decide) ?_
  refine me_acp (p' := 59) k70_56 rfl (by decide) (by decide) rfl rfl (n := 8) (dp := 0) (sp := 0) rfl rfl rfl (by omega) (by omega) ⟨by decide, by decide⟩ (fun k => rfl) (fun k => rfl) (cl_sum rfl) ?_
  refine me_iinc (p' := 62) k70_59 rfl rfl rfl (v := nI (3)) (by decide) rfl ?_
  refine me_goto k70_62 ?_
  refine me_iload_n (p' := 35) k70_34 rfl rfl ?_
  refine me_bipush (p' := 37) k70_35 rfl (v := nI 7) (by decide) ?_
  refine me_ic_ge (p' := 40) k70_37 rfl (fun h => absurd h (by decide)) (fun _ => ?_)
  refine me_aload_n (p' := 41) k70_40 rfl rfl ?_
  refine me_gfr (p' := 44) k70_41 rfl (by decide) rfl (b := 17) rfl ?_
  refine me_iload_n (p' := 45) k70_44 rfl rfl ?_
  refine me_aald (p' := 46) k70_45 rfl (by decide) rfl ⟨by decide, by decide⟩ (j := 3) rfl (by omega) (by decide) (b := 21) rfl ?_
  refine me_iconst (p' := 47) k70_46 rfl (v := nI 0) (by decide) ?_
  refine me_aload_n (p' := 48) k70_47 rfl rfl ?_
  refine me_gfr (p' := 51) k70_48 rfl (by decide) rfl (b := 32) rfl ?_
  refine me_iload_n (p' := 52) k70_51 rfl rfl ?_
  refine me_aald (p' := 53) k70_52 rfl (by decide) rfl ⟨by decide, by decide⟩ (j := 3) rfl (by omega) (by decide) (b := 36) rfl ?_
  refine me_iconst (p' := 54) k70_53 rfl (v := nI 0) (by decide) ?_
  refine me_bipush (p' := 56) k70_54 rfl (v := nI 8) (by decide) ?_
  refine me_acp (p' := 59) k70_56 rfl (by decide) (by decide) rfl rfl (n := 8) (dp := 0) (sp := 0) rfl rfl rfl (by omega) (by omega) ⟨by decide, by decide⟩ (fun k => rfl) (fun k => rfl) (cl_sum rfl) ?_
  refine me_iinc (p' := 62) k70_59 rfl rfl rfl (v := nI (4)) (by decide) rfl ?_
  refine me_goto k70_62 ?_
  refine me_iload_n (p' := 35) k70_34 rfl rfl ?_
  refine me_bipush (p' := 37) k70_35 rfl (v := nI 7) (by decide) ?_
  refine me_ic_ge (p' := 40) k70_37 rfl (fun h => absurd h (by decide)) (fun _ => ?_)
  refine me_aload_n (p' := 41) k70_40 rfl rfl ?_
  refine me_gfr (p' := 44) k70_41 rfl (by decide) rfl (b := 17) rfl ?_
  refine me_iload_n (p' := 45) k70_44 rfl rfl ?_
  refine me_aald (p' := 46) k70_45 rfl (by decide) rfl ⟨by decide, by decide⟩ (j := 4) rfl (by omega) (by decide) (b := 22) rfl ?_
  refine me_iconst (p' := 47) k70_46 rfl (v := nI 0) (by decide) ?_
  refine me_aload_n (p' := 48) k70_47 rfl rfl ?_
  refine me_gfr (p' := 51) k70_48 rfl (by decide) rfl (b := 32) rfl ?_
  refine me_iload_n (p' := 52) k70_51 rfl rfl ?_
  refine me_aald (p' := 53) k70_52 rfl (by decide) rfl ⟨by decide, by decide⟩ (j := 4) rfl (by omega) (by decide) (b := 37) rfl ?_
  refine me_iconst (p' := 54) k70_53 rfl (v := nI 0) (by decide) ?_
  refine me_bipush (p' := 56) k70_54 rfl (v := nI 8) (by decide) ?_
  refine me_acp (p' := 59) k70_56 rfl (by decide) (by decide) rfl rfl (n := 8) (dp := 0) (sp := 0) rfl rfl rfl (by omega) (by omega) ⟨by decide, by decide⟩ (fun k => rfl) (fun k => rfl) (cl_sum rfl) ?_
  refine me_iinc (p' := 62) k70_59 rfl rfl rfl (v := nI (5)) (by decide) rfl ?_
  refine me_goto k70_62 ?_
  refine me_iload_n (p' := 35) k70_34 rfl rfl ?_
  refine me_bipush (p' := 37) k70_35 rfl (v := nI 7) (by decide) ?_
  refine me_ic_ge (p' := 40) k70_37 rfl (fun h => absurd h (by decide)) (fun _ => ?_)
  refine me_aload_n (p' := 41) k70_40 rfl rfl ?_
  refine me_gfr (p' := 44) k70_41 rfl (by decide) rfl (b := 17) rfl ?_
  refine me_iload_n (p' := 45) k70_44 rfl rfl ?_
  refine me_aald (p' := 46) k70_45 rfl (by decide) rfl ⟨by decide, by decide⟩ (j := 5) rfl (by omega) (by decide) (b := 23) rfl ?_
  refine me_iconst (p' := 47) k70_46 rfl (v := nI 0) (by decide) ?_
  refine me_aload_n (p' := 48) k70_47 rfl rfl ?_
  refine me_gfr (p' := 51) k70_48 rfl (by decide) rfl (b := 32) rfl ?_
  refine me_iload_n (p' := 52) k70_51 rfl rfl ?_
  refine me_aald (p' := 53) k70_52 rfl (by decide) rfl ⟨by decide, by decide⟩ (j := 5) rfl (by omega) (by decide) (b := 38) rfl ?_
  refine me_iconst (p' := 54) k70_53 rfl (v := nI 0) (by decide) ?_
  refine me_bipush (p' := 56) k70_54 rfl (v := nI 8) (by decide) ?_
  refine me_acp (p' := 59) k70_56 rfl (by decide) (by decide) rfl rfl (n := 8) (dp := 0) (sp := 0) rfl rfl rfl (by omega) (by omega) ⟨by decide, by decide⟩ (fun k => rfl) (fun k => rfl) (cl_sum rfl) ?_
  refine me_iinc (p' := 62) k70_59 rfl rfl rfl (v := nI (6)) (by decide) rfl ?_
  refine me_goto k70_62 ?_
  refine me_iload_n (p' := 35) k70_34 rfl rfl ?_
  refine me_bipush (p' := 37) k70_35 rfl (v := nI 7) (by decide) ?_
  refine me_ic_ge (p' := 40) k70_37 rfl (fun h => absurd h (by decide)) (fun _ => ?_)
  refine me_aload_n (p' := 41) k70_40 rfl rfl ?_
  refine me_gfr (p' := 44) k70_41 rfl (by decide) rfl (b := 17) rfl ?_
  refine me_iload_n (p' := 45) k70_44 rfl rfl ?_
  refine me_aald (p' := 46) k70_45 rfl (by decide) rfl ⟨by decide, by decide⟩ (j := 6) rfl (by omega) (by decide) (b := 24) rfl ?_
  refine me_iconst (p' := 47) k70_46 rfl (v := nI 0) (by decide) ?_
  refine me_aload_n (p' := 48) k70_47 rfl rfl ?_
  refine me_gfr (p' := 51) k70_48 rfl (by decide) rfl (b := 32) rfl ?_
  refine me_iload_n (p' := 52) k70_51 rfl rfl ?_
  refine me_aald (p' := 53) k70_52 rfl (by decide) rfl ⟨by decide, by decide⟩ (j := 6) rfl (by omega) (by decide) (b := 39) rfl ?_
  refine me_iconst (p' := 54) k70_53 rfl (v := nI 0) (by decide) ?_
  refine me_bipush (p' := 56) k70_54 rfl (v := nI 8) (by decide) ?_
  refine me_acp (p' := 59) k70_56 rfl (by decide) (by decide) rfl rfl (n := 8) (dp := 0) (sp := 0) rfl rfl rfl (by omega) (by omega) ⟨by decide, by decide⟩ (fun k => rfl) (fun k => rfl) (cl_sum rfl) ?_
  refine me_iinc (p' := 62) k70_59 rfl rfl rfl (v := nI (7)) (by decide) rfl ?_
  refine me_goto k70_62 ?_
  refine me_iload_n (p' := 35) k70_34 rfl rfl ?_
  refine me_bipush (p' := 37) k70_35 rfl (v := nI 7) (by decide) ?_
  refine me_ic_ge (p' := 40) k70_37 rfl (fun _ => ?_) (fun h => absurd (by decide) h)
  refine me_aload_n (p' := 66) k70_65 rfl rfl ?_
  refine me_gfr (p' := 69) k70_66 rfl (by decide) rfl (b := 25) rfl ?_
  refine me_iconst (p' := 70) k70_69 rfl (v := nI 0) (by decide) ?_
  refine me_aload_n (p' := 71) k70_70 rfl rfl ?_
  refine me_gfr (p' := 74) k70_71 rfl (by decide) rfl (b := 40) rfl ?_
  refine me_iconst (p' := 75) k70_74 rfl (v := nI 0) (by decide) ?_
  refine me_iconst (p' := 76) k70_75 rfl (v := nI 3) (by decide) ?_
  refine me_acp (p' := 79) k70_76 rfl (by decide) (by decide) rfl rfl (n := 3) (dp := 0) (sp := 0) rfl rfl rfl (by omega) (by omega) ⟨by decide, by decide⟩ (fun k => rfl) (fun k => rfl) (cl_sum rfl) ?_
  refine me_aload_n (p' := 80) k70_79 rfl rfl ?_
  refine me_aload_n (p' := 81) k70_80 rfl rfl ?_
  refine me_gfi (p' := 84) k70_81 rfl (by decide) rfl rfl ?_
  refine me_pfi (p' := 87) k70_84 rfl (by decide) rfl rfl rfl rfl ?_
  refine me_aload_n (p' := 88) k70_87 rfl rfl ?_
  refine me_aload_n (p' := 89) k70_88 rfl rfl ?_
  refine me_gfi (p' := 92) k70_89 rfl (by decide) rfl rfl ?_
  refine me_pfi (p' := 95) k70_92 rfl (by decide) rfl rfl rfl rfl ?_
  refine me_aload_n (p' := 96) k70_95 rfl rfl ?_
  refine me_aload_n (p' := 97) k70_96 rfl rfl ?_
  refine me_gfi (p' := 100) k70_97 rfl (by decide) rfl rfl ?_
  refine me_pfi (p' := 103) k70_100 rfl (by decide) rfl rfl rfl rfl ?_
  refine me_aload_n (p' := 104) k70_103 rfl rfl ?_
  refine me_aload_n (p' := 105) k70_104 rfl rfl ?_
  refine me_gfi (p' := 108) k70_105 rfl (by decide) rfl rfl ?_
  refine me_pfi (p' := 111) k70_108 rfl (by decide) rfl rfl rfl rfl ?_
  refine me_aload_n (p' := 112) k70_111 rfl rfl ?_
  refine me_aload_n (p' := 113) k70_112 rfl rfl ?_
  refine me_gfi (p' := 116) k70_113 rfl (by decide) rfl rfl ?_
  refine me_pfi (p' := 119) k70_116 rfl (by decide) rfl rfl rfl rfl ?_
  refine me_retv k70_119 rt_70 ?_
  refine hQ (mg_u (mg_u (mg_u (mg_u (mg_u (mg_c (mg_c (mg_c (mg_c (mg_c (mg_c (mg_c (mg_c (mg_c (mg_c (mg_c (mg_c I 13 0 28 0 12) 14 0 29 0 12) 15 0 30 0 12) 16 0 31 0 12) 18 0 33 0 8) 19 0 34 0 8) 20 0 35 0 8) 21 0 36 0 8) 22 0 37 0 8) 23 0 38 0 8) 24 0 39 0 8) 25 0 40 0 3) 26 5 ((mg_c (mg_c (mg_c (mg_c (mg_c (mg_c (mg_c (mg_c (mg_c (mg_c (mg_c (mg_c I 13 0 28 0 12) 14 0 29 0 12) 15 0 30 0 12) 16 0 31 0 12) 18 0 33 0 8) 19 0 34 0 8) 20 0 35 0 8) 21 0 36 0 8) 22 0 37 0 8) 23 0 38 0 8) 24 0 39 0 8) 25 0 40 0 3) 11 5)) 26 6 ((mg_u (mg_c (mg_c (mg_c (mg_c (mg_c (mg_c (mg_c (mg_c (mg_c (mg_c (mg_c (mg_c I 13 0 28 0 12) 14 0 29 0 12) 15 0 30 0 12) 16 0 31 0 12) 18 0 33 0 8) 19 0 34 0 8) 20 0 35 0 8) 21 0 36 0 8) 22 0 37 0 8) 23 0 38 0 8) 24 0 39 0 8) 25 0 40 0 3) 26 5 ((mg_c (mg_c (mg_c (mg_c (mg_c (mg_c (mg_c (mg_c (mg_c (mg_c (mg_c (mg_c I 13 0 28 0 12) 14 0 29 0 12) 15 0 30 0 12) 16 0 31 0 12) 18 0 33 0 8) 19 0 34 0 8) 20 0 35 0 8) 21 0 36 0 8) 22 0 37 0 8) 23 0 38 0 8) 24 0 39 0 8) 25 0 40 0 3) 11 5)) 11 6)) 26 7 ((mg_u (mg_u (mg_c (mg_c (mg_c (mg_c (mg_c (mg_c (mg_c (mg_c (mg_c (mg_c (mg_c (mg_c I 13 0 28 0 12) 14 0 29 0 12) 15 0 30 0 12) 16 0 31 0 12) 18 0 33 0 8) 19 0 34 0 8) 20 0 35 0 8) 21 0 36 0 8) 22 0 37 0 8) 23 0 38 0 8) 24 0 39 0 8) 25 0 40 0 3) 26 5 ((mg_c (mg_c (mg_c (mg_c (mg_c (mg_c (mg_c (mg_c (mg_c (mg_c (mg_c (mg_c I 13 0 28 0 12) 14 0 29 0 12) 15 0 30 0 12) 16 0 31 0 12) 18 0 33 0 8) 19 0 34 0 8) 20 0 35 0 8) 21 0 36 0 8) 22 0 37 0 8) 23 0 38 0 8) 24 0 39 0 8) 25 0 40 0 3) 11 5)) 26 6 ((mg_u (mg_c (mg_c (mg_c (mg_c (mg_c (mg_c (mg_c (mg_c (mg_c (mg_c (mg_c (mg_c I 13 0 28 0 12) 14 0 29 0 12) 15 0 30 0 12) 16 0 31 0 12) 18 0 33 0 8) 19 0 34 0 8) 20 0 35 0 8) 21 0 36 0 8) 22 0 37 0 8) 23 0 38 0 8) 24 0 39 0 8) 25 0 40 0 3) 26 5 ((mg_c (mg_c (mg_c (mg_c (mg_c (mg_c (mg_c (mg_c (mg_c (mg_c (mg_c (mg_c I 13 0 28 0 12) 14 0 29 0 12) 15 0 30 0 12) 16 0 31 0 12) 18 0 33 0 8) 19 0 34 0 8) 20 0 35 0 8) 21 0 36 0 8) 22 0 37 0 8) 23 0 38 0 8) 24 0 39 0 8) 25 0 40 0 3) 11 5)) 11 6)) 11 7)) 26 8 ((mg_u (mg_u (mg_u (mg_c (mg_c (mg_c (mg_c (mg_c (mg_c (mg_c (mg_c (mg_c (mg_c (mg_c (mg_c I 13 0 28 0 12) 14 0 29 0 12) 15 0 30 0 12) 16 0 31 0 12) 18 0 33 0 8) 19 0 34 0 8) 20 0 35 0 8) 21 0 36 0 8) 22 0 37 0 8) 23 0 38 0 8) 24 0 39 0 8) 25 0 40 0 3) 26 5 ((mg_c (mg_c (mg_c (mg_c (mg_c (mg_c (mg_c (mg_c (mg_c (mg_c (mg_c (mg_c I 13 0 28 0 12) 14 0 29 0 12) 15 0 30 0 12) 16 0 31 0 12) 18 0 33 0 8) 19 0 34 0 8) 20 0 35 0 8) 21 0 36 0 8) 22 0 37 0 8) 23 0 38 0 8) 24 0 39 0 8) 25 0 40 0 3) 11 5)) 26 6 ((mg_u (mg_c (mg_c (mg_c (mg_c (mg_c (mg_c (mg_c (mg_c (mg_c (mg_c (mg_c (mg_c I 13 0 28 0 12) 14 0 29 0 12) 15 0 30 0 12) 16 0 31 0 12) 18 0 33 0 8) 19 0 34 0 8) 20 0 35 0 8) 21 0 36 0 8) 22 0 37 0 8) 23 0 38 0 8) 24 0 39 0 8) 25 0 40 0 3) 26 5 ((mg_c (mg_c (mg_c (mg_c (mg_c (mg_c (mg_c (mg_c (mg_c (mg_c (mg_c (mg_c I 13 0 28 0 12) 14 0 29 0 12) 15 0 30 0 12) 16 0 31 0 12) 18 0 33 0 8) 19 0 34 0 8) 20 0 35 0 8) 21 0 36 0 8) 22 0 37 0 8) 23 0 38 0 8) 24 0 39 0 8) 25 0 40 0 3) 11 5)) 11 6)) 26 7 ((mg_u (mg_u (mg_c (mg_c (mg_c (mg_c (mg_c (mg_c (mg_c (mg_c (mg_c (mg_c (mg_c (mg_c I 13 0 28 0 12) 14 0 29 0 12) 15 0 30 0 12) 16 0 31 0 12) 18 0 33 0 8) 19 0 34 0 8) 20 0 35 0 8) 21 0 36 0 8) 22 0 37 0 8) 23 0 38 0 8) 24 0 39 0 8) 25 0 40 0 3) 26 5 ((mg_c (mg_c (mg_c (mg_c (mg_c (mg_c (mg_c (mg_c (mg_c (mg_c (mg_c (mg_c I 13 0 28 0 12) 14 0 29 0 12) 15 0 30 0 12) 16 0 31 0 12) 18 0 33 0 8) 19 0 34 0 8) 20 0 35 0 8) 21 0 36 0 8) 22 0 37 0 8) 23 0 38 0 8) 24 0 39 0 8) 25 0 40 0 3) 11 5)) 26 6 ((mg_u (mg_c (mg_c (mg_c (mg_c (mg_c (mg_c (mg_c (mg_c (mg_c (mg_c (mg_c (mg_c I 13 0 28 0 12) 14 0 29 0 12) 15 0 30 0 12) 16 0 31 0 12) 18 0 33 0 8) 19 0 34 0 8) 20 0 35 0 8) 21 0 36 0 8) 22 0 37 0 8) 23 0 38 0 8) 24 0 39 0 8) 25 0 40 0 3) 26 5 ((mg_c (mg_c (mg_c (mg_c (mg_c (mg_c (mg_c (mg_c (mg_c (mg_c (mg_c (mg_c I 13 0 28 0 12) 14 0 29 0 12) 15 0 30 0 12) 16 0 31 0 12) 18 0 33 0 8) 19 0 34 0 8) 20 0 35 0 8) 21 0 36 0 8) 22 0 37 0 8) 23 0 38 0 8) 24 0 39 0 8) 25 0 40 0 3) 11 5)) 11 6)) 11 7)) 11 8)) 26 9 ((mg_u (mg_u (mg_u (mg_u (mg_c (mg_c (mg_c (mg_c (mg_c (mg_c (mg_c (mg_c (mg_c (mg_c (mg_c (mg_c I 13 0 28 0 12) 14 0 29 0 12) 15 0 30 0 12) 16 0 31 0 12) 18 0 33 0 8) 19 0 34 0 8) 20 0 35 0 8) 21 0 36 0 8) 22 0 37 0 8) 23 0 38 0 8) 24 0 39 0 8) 25 0 40 0 3) 26 5 ((mg_c (mg_c (mg_c (mg_c (mg_c (mg_c (mg_c (mg_c (mg_c (mg_c (mg_c (mg_c I 13 0 28 0 12) 14 0 29 0 12) 15 0 30 0 12) 16 0 31 0 12) 18 0 33 0 8) 19 0 34 0 8) 20 0 35 0 8) 21 0 36 0 8) 22 0 37 0 8) 23 0 38 0 8) 24 0 39 0 8) 25 0 40 0 3) 11 5)) 26 6 ((mg_u (mg_c (mg_c (mg_c (mg_c (mg_c (mg_c (mg_c (mg_c (mg_c (mg_c (mg_c (mg_c I 13 0 28 0 12) 14 0 29 0 12) 15 0 30 0 12) 16 0 31 0 12) 18 0 33 0 8) 19 0 34 0 8) 20 0 35 0 8) 21 0 36 0 8) 22 0 37 0 8) 23 0 38 0 8) 24 0 39 0 8) 25 0 40 0 3) 26 5 ((mg_c (mg_c (mg_c (mg_c (mg_c (mg_c (mg_c (mg_c (mg_c (mg_c (mg_c (mg_c I 13 0 28 0 12) 14 0 29 0 12) 15 0 30 0 12) 16 0 31 0 12) 18 0 33 0 8) 19 0 34 0 8) 20 0 35 0 8) 21 0 36 0 8) 22 0 37 0 8) 23 0 38 0 8) 24 0 39 0 8) 25 0 40 0 3) 11 5)) 11 6)) 26 7 ((mg_u (mg_u (mg_c (mg_c (mg_c (mg_c (mg_c (mg_c (mg_c (mg_c (mg_c (mg_c (mg_c (mg_c I 13 0 28 0 12) 14 0 29 0 12) 15 0 30 0 12) 16 0 31 0 12) 18 0 33 0 8) 19 0 34 0 8) 20 0 35 0 8) 21 0 36 0 8) 22 0 37 0 8) 23 0 38 0 8) 24 0 39 0 8) 25 0 40 0 3) 26 5 ((mg_c (mg_c (mg_c (mg_c (mg_c (mg_c (mg_c (mg_c (mg_c (mg_c (mg_c (mg_c I 13 0 28 0 12) 14 0 29 0 12) 15 0 30 0 12) 16 0 31 0 12) 18 0 33 0 8) 19 0 34 0 8) 20 0 35 0 8) 21 0 36 0 8) 22 0 37 0 8) 23 0 38 0 8) 24 0 39 0 8) 25 0 40 0 3) 11 5)) 26 6 ((mg_u (mg_c (mg_c (mg_c (mg_c (mg_c (mg_c (mg_c (mg_c (mg_c (mg_c (mg_c (mg_c I 13 0 28 0 12) 14 0 29 0 12) 15 0 30 0 12) 16 0 31 0 12) 18 0 33 0 8) 19 0 34 0 8) 20 0 35 0 8) 21 0 36 0 8) 22 0 37 0 8) 23 0 38 0 8) 24 0 39 0 8) 25 0 40 0 3) 26 5 ((mg_c (mg_c (mg_c (mg_c (mg_c (mg_c (mg_c (mg_c (mg_c (mg_c (mg_c (mg_c I 13 0 28 0 12) 14 0 29 0 12) 15 0 30 0 12) 16 0 31 0 12) 18 0 33 0 8) 19 0 34 0 8) 20 0 35 0 8) 21 0 36 0 8) 22 0 37 0 8) 23 0 38 0 8) 24 0 39 0 8) 25 0 40 0 3) 11 5)) 11 6)) 11 7)) 26 8 ((mg_u (mg_u (mg_u (mg_c (mg_c (mg_c (mg_c (mg_c (mg_c (mg_c (mg_c (mg_c (mg_c (mg_c (mg_c I 13 0 28 0 12) 14 0 29 0 12) 15 0 30 0 12) 16 0 31 0 12) 18 0 33 0 8) 19 0 34 0 8) 20 0 35 0 8) 21 0 36 0 8) 22 0 37 0 8) 23 0 38 0 8) 24 0 39 0 8) 25 0 40 0 3) 26 5 ((mg_c (mg_c (mg_c (mg_c (mg_c (mg_c (mg_c (mg_c (mg_c (mg_c (mg_c (mg_c I 13 0 28 0 12) 14 0 29 0 12) 15 0 30 0 12) 16 0 31 0 12) 18 0 33 0 8) 19 0 34 0 8) 20 0 35 0 8) 21 0 36 0 8) 22 0 37 0 8) 23 0 38 0 8) 24 0 39 0 8) 25 0 40 0 3) 11 5)) 26 6 ((mg_u (mg_c (mg_c (mg_c (mg_c (mg_c (mg_c (mg_c (mg_c (mg_c (mg_c (mg_c (mg_c I 13 0 28 0 12) 14 0 29 0 12) 15 0 30 0 12) 16 0 31 0 12) 18 0 33 0 8) 19 0 34 0 8) 20 0 35 0 8) 21 0 36 0 8) 22 0 37 0 8) 23 0 38 0 8) 24 0 39 0 8) 25 0 40 0 3) 26 5 ((mg_c (mg_c (mg_c (mg_c (mg_c (mg_c (mg_c (mg_c (mg_c (mg_c (mg_c (mg_c I 13 0 28 0 12) 14 0 29 0 12) 15 0 30 0 12) 16 0 31 0 12) 18 0 33 0 8) 19 0 34 0 8) 20 0 35 0 8) 21 0 36 0 8) 22 0 37 0 8) 23 0 38 0 8) 24 0 39 0 8) 25 0 40 0 3) 11 5)) 11 6)) 26 7 ((mg_u (mg_u (mg_c (mg_c (mg_c (mg_c (mg_c (mg_c (mg_c (mg_c (mg_c (mg_c (mg_c (mg_c I 13 0 28 0 12) 14 0 29 0 12) 15 0 30 0 12) 16 0 31 0 12) 18 0 33 0 8) 19 0 34 0 8) 20 0 35 0 8) 21 0 36 0 8) 22 0 37 0 8) 23 0 38 0 8) 24 0 39 0 8) 25 0 40 0 3) 26 5 ((mg_c (mg_c (mg_c (mg_c (mg_c (mg_c (mg_c (mg_c (mg_c (mg_c (mg_c (mg_c I 13 0 28 0 12) 14 0 29 0 12) 15 0 30 0 12) 16 0 31 0 12) 18 0 33 0 8) 19 0 34 0 8) 20 0 35 0 8) 21 0 36 0 8) 22 0 37 0 8) 23 0 38 0 8) 24 0 39 0 8) 25 0 40 0 3) 11 5)) 26 6 ((mg_u (mg_c (mg_c (mg_c (mg_c (mg_c (mg_c (mg_c (mg_c (mg_c (mg_c (mg_c (mg_c I 13 0 28 0 12) 14 0 29 0 12) 15 0 30 0 12) 16 0 31 0 12) 18 0 33 0 8) 19 0 34 0 8) 20 0 35 0 8) 21 0 36 0 8) 22 0 37 0 8) 23 0 38 0 8) 24 0 39 0 8) 25 0 40 0 3) 26 5 ((mg_c (mg_c (mg_c (mg_c (mg_c (mg_c (mg_c (mg_c (mg_c (mg_c (mg_c (mg_c I 13 0 28 0 12) 14 0 29 0 12) 15 0 30 0 12) 16 0 31 0 12) 18 0 33 0 8) 19 0 34 0 8) 20 0 35 0 8) 21 0 36 0 8) 22 0 37 0 8) 23 0 38 0 8) 24 0 39 0 8) 25 0 40 0 3) 11 5)) 11 6)) 11 7)) 11 8)) 11 9)) (((((((((((((((((mFr.cp (by decide)).tr (mFr.cp (by decide))).tr (mFr.cp (by decide))).tr (mFr.cp (by decide))).tr (mFr.cp (by decide))).tr (mFr.cp (by decide))).tr (mFr.cp (by decide))).tr (mFr.cp (by decide))).tr (mFr.cp (by decide))).tr (mFr.cp (by decide))).tr (mFr.cp (by decide))).tr (mFr.cp (by decide))).tr (mFr.up (by decide))).tr (mFr.up (by decide))).tr (mFr.up (by decide))).tr (mFr.up (by decide))).tr (mFr.up (by decide))) ?_ ?_
  · intro k hk
    refine sg_all (P := fun k => k < 109 → mSg 26 b (mg_u (mg_u (mg_u (mg_u (mg_u (mg_c (mg_c (mg_c (mg_c (mg_c (mg_c (mg_c (mg_c (mg_c (mg_c (mg_c (mg_c I 13 0 28 0 12) 14 0 29 0 12) 15 0 30 0 12) 16 0 31 0 12) 18 0 33 0 8) 19 0 34 0 8) 20 0 35 0 8) 21 0 36 0 8) 22 0 37 0 8) 23 0 38 0 8) 24 0 39 0 8) 25 0 40 0 3) 26 5 ((mg_c (mg_c (mg_c (mg_c (mg_c (mg_c (mg_c (mg_c (mg_c (mg_c (mg_c (mg_c I 13 0 28 0 12) 14 0 29 0 12) 15 0 30 0 12) 16 0 31 0 12) 18 0 33 0 8) 19 0 34 0 8) 20 0 35 0 8) 21 0 36 0 8) 22 0 37 0 8) 23 0 38 0 8) 24 0 39 0 8) 25 0 40 0 3) 11 5)) 26 6 ((mg_u (mg_c (mg_c (mg_c (mg_c (mg_c (mg_c (mg_c (mg_c (mg_c (mg_c (mg_c (mg_c I 13 0 28 0 12) 14 0 29 0 12) 15 0 30 0 12) 16 0 31 0 12) 18 0 33 0 8) 19 0 34 0 8) 20 0 35 0 8) 21 0 36 0 8) 22 0 37 0 8) 23 0 38 0 8) 24 0 39 0 8) 25 0 40 0 3) 26 5 ((mg_c (mg_c (mg_c (mg_c (mg_c (mg_c (mg_c (mg_c (mg_c (mg_c (mg_c (mg_c I 13 0 28 0 12) 14 0 29 0 12) 15 0 30 0 12) 16 0 31 0 12) 18 0 33 0 8) 19 0 34 0 8) 20 0 35 0 8) 21 0 36 0 8) 22 0 37 0 8) 23 0 38 0 8) 24 0 39 0 8) 25 0 40 0 3) 11 5)) 11 6)) 26 7 ((mg_u (mg_u (mg_c (mg_c (mg_c (mg_c (mg_c (mg_c (mg_c (mg_c (mg_c (mg_c (mg_c (mg_c I 13 0 28 0 12) 14 0 29 0 12) 15 0 30 0 12) 16 0 31 0 12) 18 0 33 0 8) 19 0 34 0 8) 20 0 35 0 8) 21 0 36 0 8) 22 0 37 0 8) 23 0 38 0 8) 24 0 39 0 8) 25 0 40 0 3) 26 5 ((mg_c (mg_c (mg_c (mg_c (mg_c (mg_c (mg_c (mg_c (mg_c (mg_c (mg_c (mg_c I 13 0 28 0 12) 14 0 29 0 12) 15 0 30 0 12) 16 0 31 0 12) 18 0 33 0 8) 19 0 34 0 8) 20 0 35 0 8) 21 0 36 0 8) 22 0 37 0 8) 23 0 38 0 8) 24 0 39 0 8) 25 0 40 0 3) 11 5)) 26 6 ((mg_u (mg_c (mg_c (mg_c (mg_c (mg_c (mg_c (mg_c (mg_c (mg_c (mg_c (mg_c (mg_c I 13 0 28 0 12) 14 0 29 0 12) 15 0 30 0 12) 16 0 31 0 12) 18 0 33 0 8) 19 0 34 0 8) 20 0 35 0 8) 21 0 36 0 8) 22 0 37 0 8) 23 0 38 0 8) 24 0 39 0 8) 25 0 40 0 3) 26 5 ((mg_c (mg_c (mg_c (mg_c (mg_c (mg_c (mg_c (mg_c (mg_c (mg_c (mg_c (mg_c I 13 0 28 0 12) 14 0 29 0 12) 15 0 30 0 12) 16 0 31 0 12) 18 0 33 0 8) 19 0 34 0 8) 20 0 35 0 8) 21 0 36 0 8) 22 0 37 0 8) 23 0 38 0 8) 24 0 39 0 8) 25 0 40 0 3) 11 5)) 11 6)) 11 7)) 26 8 ((mg_u (mg_u (mg_u (mg_c (mg_c (mg_c (mg_c (mg_c (mg_c (mg_c (mg_c (mg_c (mg_c (mg_c (mg_c I 13 0 28 0 12) 14 0 29 0 12) 15 0 30 0 12) 16 0 31 0 12) 18 0 33 0 8) 19 0 34 0 8) 20 0 35 0 8) 21 0 36 0 8) 22 0 37 0 8) 23 0 38 0 8) 24 0 39 0 8) 25 0 40 0 3) 26 5 ((mg_c (mg_c (mg_c (mg_c (mg_c (mg_c (mg_c (mg_c (mg_c (mg_c (mg_c (mg_c I 13 0 28 0 12) 14 0 29 0 12) 15 0 30 0 12) 16 0 31 0 12) 18 0 33 0 8) 19 0 34 0 8) 20 0 35 0 8) 21 0 36 0 8) 22 0 37 0 8) 23 0 38 0 8) 24 0 39 0 8) 25 0 40 0 3) 11 5)) 26 6 ((mg_u (mg_c (mg_c (mg_c (mg_c (mg_c (mg_c (mg_c (mg_c (mg_c (mg_c (mg_c (mg_c I 13 0 28 0 12) 14 0 29 0 12) 15 0 30 0 12) 16 0 31 0 12) 18 0 33 0 8) 19 0 34 0 8) 20 0 35 0 8) 21 0 36 0 8) 22 0 37 0 8) 23 0 38 0 8) 24 0 39 0 8) 25 0 40 0 3) 26 5 ((mg_c (mg_c (mg_c (mg_c (mg_c (mg_c (mg_c (mg_c (mg_c (mg_c (mg_c (mg_c I 13 0 28 0 12) 14 0 29 0 12) 15 0 30 0 12) 16 0 31 0 12) 18 0 33 0 8) 19 0 34 0 8) 20 0 35 0 8) 21 0 36 0 8) 22 0 37 0 8) 23 0 38 0 8) 24 0 39 0 8) 25 0 40 0 3) 11 5)) 11 6)) 26 7 ((mg_u (mg_u (mg_c (mg_c (mg_c (mg_c (mg_c (mg_c (mg_c (mg_c (mg_c (mg_c (mg_c (mg_c I 13 0 28 0 12) 14 0 29 0 12) 15 0 30 0 12) 16 0 31 0 12) 18 0 33 0 8) 19 0 34 0 8) 20 0 35 0 8) 21 0 36 0 8) 22 0 37 0 8) 23 0 38 0 8) 24 0 39 0 8) 25 0 40 0 3) 26 5 ((mg_c (mg_c (mg_c (mg_c (mg_c (mg_c (mg_c (mg_c (mg_c (mg_c (mg_c (mg_c I 13 0 28 0 12) 14 0 29 0 12) 15 0 30 0 12) 16 0 31 0 12) 18 0 33 0 8) 19 0 34 0 8) 20 0 35 0 8) 21 0 36 0 8) 22 0 37 0 8) 23 0 38 0 8) 24 0 39 0 8) 25 0 40 0 3) 11 5)) 26 6 ((mg_u (mg_c (mg_c (mg_c (mg_c (mg_c (mg_c (mg_c (mg_c (mg_c (mg_c (mg_c (mg_c I 13 0 28 0 12) 14 0 29 0 12) 15 0 30 0 12) 16 0 31 0 12) 18 0 33 0 8) 19 0 34 0 8) 20 0 35 0 8) 21 0 36 0 8) 22 0 37 0 8) 23 0 38 0 8) 24 0 39 0 8) 25 0 40 0 3) 26 5 ((mg_c (mg_c (mg_c (mg_c (mg_c (mg_c (mg_c (mg_c (mg_c (mg_c (mg_c (mg_c I 13 0 28 0 12) 14 0 29 0 12) 15 0 30 0 12) 16 0 31 0 12) 18 0 33 0 8) 19 0 34 0 8) 20 0 35 0 8) 21 0 36 0 8) 22 0 37 0 8) 23 0 38 0 8) 24 0 39 0 8) 25 0 40 0 3) 11 5)) 11 6)) 11 7)) 11 8)) 26 9 ((mg_u (mg_u (mg_u (mg_u (mg_c (mg_c (mg_c (mg_c (mg_c (mg_c (mg_c (mg_c (mg_c (mg_c (mg_c (mg_c I 13 0 28 0 12) 14 0 29 0 12) 15 0 30 0 12) 16 0 31 0 12) 18 0 33 0 8) 19 0 34 0 8) 20 0 35 0 8) 21 0 36 0 8) 22 0 37 0 8) 23 0 38 0 8) 24 0 39 0 8) 25 0 40 0 3) 26 5 ((mg_c (mg_c (mg_c (mg_c (mg_c (mg_c (mg_c (mg_c (mg_c (mg_c (mg_c (mg_c I 13 0 28 0 12) 14 0 29 0 12) 15 0 30 0 12) 16 0 31 0 12) 18 0 33 0 8) 19 0 34 0 8) 20 0 35 0 8) 21 0 36 0 8) 22 0 37 0 8) 23 0 38 0 8) 24 0 39 0 8) 25 0 40 0 3) 11 5)) 26 6 ((mg_u (mg_c (mg_c (mg_c (mg_c (mg_c (mg_c (mg_c (mg_c (mg_c (mg_c (mg_c (mg_c I 13 0 28 0 12) 14 0 29 0 12) 15 0 30 0 12) 16 0 31 0 12) 18 0 33 0 8) 19 0 34 0 8) 20 0 35 0 8) 21 0 36 0 8) 22 0 37 0 8) 23 0 38 0 8) 24 0 39 0 8) 25 0 40 0 3) 26 5 ((mg_c (mg_c (mg_c (mg_c (mg_c (mg_c (mg_c (mg_c (mg_c (mg_c (mg_c (mg_c I 13 0 28 0 12) 14 0 29 0 12) 15 0 30 0 12) 16 0 31 0 12) 18 0 33 0 8) 19 0 34 0 8) 20 0 35 0 8) 21 0 36 0 8) 22 0 37 0 8) 23 0 38 0 8) 24 0 39 0 8) 25 0 40 0 3) 11 5)) 11 6)) 26 7 ((mg_u (mg_u (mg_c (mg_c (mg_c (mg_c (mg_c (mg_c (mg_c (mg_c (mg_c (mg_c (mg_c (mg_c I 13 0 28 0 12) 14 0 29 0 12) 15 0 30 0 12) 16 0 31 0 12) 18 0 33 0 8) 19 0 34 0 8) 20 0 35 0 8) 21 0 36 0 8) 22 0 37 0 8) 23 0 38 0 8) 24 0 39 0 8) 25 0 40 0 3) 26 5 ((mg_c (mg_c (mg_c (mg_c (mg_c (mg_c (mg_c (mg_c (mg_c (mg_c (mg_c (mg_c I 13 0 28 0 12) 14 0 29 0 12) 15 0 30 0 12) 16 0 31 0 12) 18 0 33 0 8) 19 0 34 0 8) 20 0 35 0 8) 21 0 36 0 8) 22 0 37 0 8) 23 0 38 0 8) 24 0 39 0 8) 25 0 40 0 3) 11 5)) 26 6 ((mg_u (mg_c (mg_c (mg_c (mg_c (mg_c (mg_c (mg_c (mg_c (mg_c (mg_c (mg_c (mg_c I 13 0 28 0 12) 14 0 29 0 12) 15 0 30 0 12) 16 0 31 0 12) 18 0 33 0 8) 19 0 34 0 8) 20 0 35 0 8) 21 0 36 0 8) 22 0 37 0 8) 23 0 38 0 8) 24 0 39 0 8) 25 0 40 0 3) 26 5 ((mg_c (mg_c (mg_c (mg_c (mg_c (mg_c (mg_c (mg_c (mg_c (mg_c (mg_c (mg_c I 13 0 28 0 12) 14 0 29 0 12) 15 0 30 0 12) 16 0 31 0 12) 18 0 33 0 8) 19 0 34 0 8) 20 0 35 0 8) 21 0 36 0 8) 22 0 37 0 8) 23 0 38 0 8) 24 0 39 0 8) 25 0 40 0 3) 11 5)) 11 6)) 11 7)) 26 8 ((mg_u (mg_u (mg_u (mg_c (mg_c (mg_c (mg_c (mg_c (mg_c (mg_c (mg_c (mg_c (mg_c (mg_c (mg_c I 13 0 28 0 12) 14 0 29 0 12) 15 0 30 0 12) 16 0 31 0 12) 18 0 33 0 8) 19 0 34 0 8) 20 0 35 0 8) 21 0 36 0 8) 22 0 37 0 8) 23 0 38 0 8) 24 0 39 0 8) 25 0 40 0 3) 26 5 ((mg_c (mg_c (mg_c (mg_c (mg_c (mg_c (mg_c (mg_c (mg_c (mg_c (mg_c (mg_c I 13 0 28 0 12) 14 0 29 0 12) 15 0 30 0 12) 16 0 31 0 12) 18 0 33 0 8) 19 0 34 0 8) 20 0 35 0 8) 21 0 36 0 8) 22 0 37 0 8) 23 0 38 0 8) 24 0 39 0 8) 25 0 40 0 3) 11 5)) 26 6 ((mg_u (mg_c (mg_c (mg_c (mg_c (mg_c (mg_c (mg_c (mg_c (mg_c (mg_c (mg_c (mg_c I 13 0 28 0 12) 14 0 29 0 12) 15 0 30 0 12) 16 0 31 0 12) 18 0 33 0 8) 19 0 34 0 8) 20 0 35 0 8) 21 0 36 0 8) 22 0 37 0 8) 23 0 38 0 8) 24 0 39 0 8) 25 0 40 0 3) 26 5 ((mg_c (mg_c (mg_c (mg_c (mg_c (mg_c (mg_c (mg_c (mg_c (mg_c (mg_c (mg_c I 13 0 28 0 12) 14 0 29 0 12) 15 0 30 0 12) 16 0 31 0 12) 18 0 33 0 8) 19 0 34 0 8) 20 0 35 0 8) 21 0 36 0 8) 22 0 37 0 8) 23 0 38 0 8) 24 0 39 0 8) 25 0 40 0 3) 11 5)) 11 6)) 26 7 ((mg_u (mg_u (mg_c (mg_c (mg_c (mg_c (mg_c (mg_c (mg_c (mg_c (mg_c (mg_c (mg_c (mg_c I 13 0 28 0 12) 14 0 29 0 12) 15 0 30 0 12) 16 0 31 0 12) 18 0 33 0 8) 19 0 34 0 8) 20 0 35 0 8) 21 0 36 0 8) 22 0 37 0 8) 23 0 38 0 8) 24 0 39 0 8) 25 0 40 0 3) 26 5 ((mg_c (mg_c (mg_c (mg_c (mg_c (mg_c (mg_c (mg_c (mg_c (mg_c (mg_c (mg_c I 13 0 28 0 12) 14 0 29 0 12) 15 0 30 0 12) 16 0 31 0 12) 18 0 33 0 8) 19 0 34 0 8) 20 0 35 0 8) 21 0 36 0 8) 22 0 37 0 8) 23 0 38 0 8) 24 0 39 0 8) 25 0 40 0 3) 11 5)) 26 6 ((mg_u (mg_c (mg_c (mg_c (mg_c (mg_c (mg_c (mg_c (mg_c (mg_c (mg_c (mg_c (mg_c I 13 0 28 0 12) 14 0 29 0 12) 15 0 30 0 12) 16 0 31 0 12) 18 0 33 0 8) 19 0 34 0 8) 20 0 35 0 8) 21 0 36 0 8) 22 0 37 0 8) 23 0 38 0 8) 24 0 39 0 8) 25 0 40 0 3) 26 5 ((mg_c (mg_c (mg_c (mg_c (mg_c (mg_c (mg_c (mg_c (mg_c (mg_c (mg_c (mg_c I 13 0 28 0 12) 14 0 29 0 12) 15 0 30 0 12) 16 0 31 0 12) 18 0 33 0 8) 19 0 34 0 8) 20 0 35 0 8) 21 0 36 0 8) 22 0 37 0 8) 23 0 38 0 8) 24 0 39 0 8) 25 0 40 0 3) 11 5)) 11 6)) 11 7)) 11 8)) 11 9)) k = mSg 11 b' I k) ?_ ?_ ?_ ?_ ?_ ?_ ?_ ?_ k hk
    · intro _; simp [mSg, mg_u, mg_c]
    · intro _; simp [mSg, mg_u, mg_c]
    · intro _; simp [mSg, mg_u, mg_c]
    · intro _; simp [mSg, mg_u, mg_c]
    · intro _; simp [mSg, mg_u, mg_c]
    · intro j p hj hp _
      rw [sg_part hj hp, sg_part hj hp]
      rcases (show j = 0 ∨ j = 1 ∨ j = 2 ∨ j = 3 by omega) with rfl | rfl | rfl | rfl <;> simp [mg_u, mg_c, hp]
    · intro w c hw hc _
      rw [sg_car hw hc, sg_car hw hc]
      rcases (show w = 0 ∨ w = 1 ∨ w = 2 ∨ w = 3 ∨ w = 4 ∨ w = 5 ∨ w = 6 by omega) with rfl | rfl | rfl | rfl | rfl | rfl | rfl <;> simp [mg_u, mg_c, hc]
    · intro k h1 h2; omega
  · intro k hk
    rcases (show k = 0 ∨ k = 1 ∨ k = 2 by omega) with rfl | rfl | rfl <;> simp [mg_u, mg_c]
theorem ct_become26_41 {d L : Nat} {xs : Nat → Int32} {I : Nat → Nat → Int32} {Q : Option Value → mj_H → Prop} {b b' : Nat} (hQ : ∀ I2, mFr (mRc 26) I I2 → (∀ k, k < 109 → mSg 26 b I2 k = mSg 41 b' I k) → (∀ k, k < 3 → I2 40 k = I 55 k) → Q none (mg_h L xs I2)) : mj_Cl d 70 [.ref 26, .ref 41] (mg_h L xs I) Q := by
  refine cl_start mx_70 (ls := [.ref 26, .ref 41, mj_no]) rfl ?_
  refine me_iconst (p' := 1) k70_0 rfl (v := nI 0) (by decide) ?_
  refine me_istore_n (p' := 2) k70_1 rfl ⟨Nat.le_of_ble_eq_true rfl, rfl⟩ rfl ?_
  refine me_iload_n (p' := 3) k70_2 rfl rfl ?_
  refine me_iconst (p' := 4) k70_3 rfl (v := nI 4) (by decide) ?_
  refine me_ic_ge (p' := 7) k70_4 rfl (fun h => absurd h (by decide)) (fun _ => ?_)
  refine me_aload_n (p' := 8) k70_7 rfl rfl ?_
  refine me_gfr (p' := 11) k70_8 rfl (by decide) rfl (b := 42) rfl ?_
  refine me_iload_n (p' := 12) k70_11 rfl rfl ?_
  refine me_aald (p' := 13) k70_12 rfl (by decide) rfl ⟨by decide, by decide⟩ (j := 0) rfl (by omega) (by decide) (b := 43) rfl ?_
  refine me_iconst (p' := 14) k70_13 rfl (v := nI 0) (by decide) ?_
  refine me_aload_n (p' := 15) k70_14 rfl rfl ?_
  refine me_gfr (p' := 18) k70_15 rfl (by decide) rfl (b := 27) rfl ?_
  refine me_iload_n (p' := 19) k70_18 rfl rfl ?_
  refine me_aald (p' := 20) k70_19 rfl (by decide) rfl ⟨by decide, by decide⟩ (j := 0) rfl (by omega) (by decide) (b := 28) rfl ?_
  refine me_iconst (p' := 21) k70_20 rfl (v := nI 0) (by decide) ?_
  refine me_bipush (p' := 23) k70_21 rfl (v := nI 12) (by decide) ?_
  refine me_acp (p' := 26) k70_23 rfl (by decide) (by decide) rfl rfl (n := 12) (dp := 0) (sp := 0) rfl rfl rfl (by omega) (by omega) ⟨by decide, by decide⟩ (fun k => rfl) (fun k => rfl) (cl_sum rfl) ?_
  refine me_iinc (p' := 29) k70_26 rfl rfl rfl (v := nI (1)) (by decide) rfl ?_
  refine me_goto k70_29 ?_
  refine me_iload_n (p' := 3) k70_2 rfl rfl ?_
  refine me_iconst (p' := 4) k70_3 rfl (v := nI 4) (by decide) ?_
  refine me_ic_ge (p' := 7) k70_4 rfl (fun h => absurd h (by decide)) (fun _ => ?_)
  refine me_aload_n (p' := 8) k70_7 rfl rfl ?_
  refine me_gfr (p' := 11) k70_8 rfl (by decide) rfl (b := 42) rfl ?_
  refine me_iload_n (p' := 12) k70_11 rfl rfl ?_
  refine me_aald (p' := 13) k70_12 rfl (by decide) rfl ⟨by decide, by decide⟩ (j := 1) rfl (by omega) (by decide) (b := 44) rfl ?_
  refine me_iconst (p' := 14) k70_13 rfl (v := nI 0) (by decide) ?_
  refine me_aload_n (p' := 15) k70_14 rfl rfl ?_
  refine me_gfr (p' := 18) k70_15 rfl (by decide) rfl (b := 27) rfl ?_
  refine me_iload_n (p' := 19) k70_18 rfl rfl ?_
  refine me_aald (p' := 20) k70_19 rfl (by decide) rfl ⟨by decide, by decide⟩ (j := 1) rfl (by omega) (by decide) (b := 29) rfl ?_
  refine me_iconst (p' := 21) k70_20 rfl (v := nI 0) (by decide) ?_
  refine me_bipush (p' := 23) k70_21 rfl (v := nI 12) (by decide) ?_
  refine me_acp (p' := 26) k70_23 rfl (by decide) (by decide) rfl rfl (n := 12) (dp := 0) (sp := 0) rfl rfl rfl (by omega) (by omega) ⟨by decide, by decide⟩ (fun k => rfl) (fun k => rfl) (cl_sum rfl) ?_
  refine me_iinc (p' := 29) k70_26 rfl rfl rfl (v := nI (2)) (by decide) rfl ?_
  refine me_goto k70_29 ?_
  refine me_iload_n (p' := 3) k70_2 rfl rfl ?_
  refine me_iconst (p' := 4) k70_3 rfl (v := nI 4) (by decide) ?_
  refine me_ic_ge (p' := 7) k70_4 rfl (fun h => absurd h (by decide)) (fun _ => ?_)
  refine me_aload_n (p' := 8) k70_7 rfl rfl ?_
  refine me_gfr (p' := 11) k70_8 rfl (by decide) rfl (b := 42) rfl ?_
  refine me_iload_n (p' := 12) k70_11 rfl rfl ?_
  refine me_aald (p' := 13) k70_12 rfl (by decide) rfl ⟨by decide, by decide⟩ (j := 2) rfl (by omega) (by decide) (b := 45) rfl ?_
  refine me_iconst (p' := 14) k70_13 rfl (v := nI 0) (by decide) ?_
  refine me_aload_n (p' := 15) k70_14 rfl rfl ?_
  refine me_gfr (p' := 18) k70_15 rfl (by decide) rfl (b := 27) rfl ?_
  refine me_iload_n (p' := 19) k70_18 rfl rfl ?_
  refine me_aald (p' := 20) k70_19 rfl (by decide) rfl ⟨by decide, by decide⟩ (j := 2) rfl (by omega) (by decide) (b := 30) rfl ?_
  refine me_iconst (p' := 21) k70_20 rfl (v := nI 0) (by decide) ?_
  refine me_bipush (p' := 23) k70_21 rfl (v := nI 12) (by decide) ?_
  refine me_acp (p' := 26) k70_23 rfl (by decide) (by decide) rfl rfl (n := 12) (dp := 0) (sp := 0) rfl rfl rfl (by omega) (by omega) ⟨by decide, by decide⟩ (fun k => rfl) (fun k => rfl) (cl_sum rfl) ?_
  refine me_iinc (p' := 29) k70_26 rfl rfl rfl (v := nI (3)) (by decide) rfl ?_
  refine me_goto k70_29 ?_
  refine me_iload_n (p' := 3) k70_2 rfl rfl ?_
  refine me_iconst (p' := 4) k70_3 rfl (v := nI 4) (by decide) ?_
  refine me_ic_ge (p' := 7) k70_4 rfl (fun h => absurd h (by decide)) (fun _ => ?_)
  refine me_aload_n (p' := 8) k70_7 rfl rfl ?_
  refine me_gfr (p' := 11) k70_8 rfl (by decide) rfl (b := 42) rfl ?_
  refine me_iload_n (p' := 12) k70_11 rfl rfl ?_
  refine me_aald (p' := 13) k70_12 rfl (by decide) rfl ⟨by decide, by decide⟩ (j := 3) rfl (by omega) (by decide) (b := 46) rfl ?_
  refine me_iconst (p' := 14) k70_13 rfl (v := nI 0) (by decide) ?_
  refine me_aload_n (p' := 15) k70_14 rfl rfl ?_
  refine me_gfr (p' := 18) k70_15 rfl (by decide) rfl (b := 27) rfl ?_
  refine me_iload_n (p' := 19) k70_18 rfl rfl ?_
  refine me_aald (p' := 20) k70_19 rfl (by decide) rfl ⟨by decide, by decide⟩ (j := 3) rfl (by omega) (by decide) (b := 31) rfl ?_
  refine me_iconst (p' := 21) k70_20 rfl (v := nI 0) (by decide) ?_
  refine me_bipush (p' := 23) k70_21 rfl (v := nI 12) (by decide) ?_
  refine me_acp (p' := 26) k70_23 rfl (by decide) (by decide) rfl rfl (n := 12) (dp := 0) (sp := 0) rfl rfl rfl (by omega) (by omega) ⟨by decide, by decide⟩ (fun k => rfl) (fun k => rfl) (cl_sum rfl) ?_
  refine me_iinc (p' := 29) k70_26 rfl rfl rfl (v := nI (4)) (by decide) rfl ?_
  refine me_goto k70_29 ?_
  refine me_iload_n (p' := 3) k70_2 rfl rfl ?_
  refine me_iconst (p' := 4) k70_3 rfl (v := nI 4) (by decide) ?_
  refine me_ic_ge (p' := 7) k70_4 rfl (fun _ => ?_) (fun h => absurd (by decide) h)
  refine me_iconst (p' := 33) k70_32 rfl (v := nI 0) (by decide) ?_
  refine me_istore_n (p' := 34) k70_33 rfl ⟨Nat.le_of_ble_eq_true rfl, rfl⟩ rfl ?_
  refine me_iload_n (p' := 35) k70_34 rfl rfl ?_
  refine me_bipush (p' := 37) k70_35 rfl (v := nI 7) (by decide) ?_
  refine me_ic_ge (p' := 40) k70_37 rfl (fun h => absurd h (by decide)) (fun _ => ?_)
  refine me_aload_n (p' := 41) k70_40 rfl rfl ?_
  refine me_gfr (p' := 44) k70_41 rfl (by decide) rfl (b := 47) rfl ?_
  refine me_iload_n (p' := 45) k70_44 rfl rfl ?_
  refine me_aald (p' := 46) k70_45 rfl (by decide) rfl ⟨by decide, by decide⟩ (j := 0) rfl (by omega) (by decide) (b := 48) rfl ?_
  refine me_iconst (p' := 47) k70_46 rfl (v := nI 0) (by decide) ?_
  refine me_aload_n (p' := 48) k70_47 rfl rfl ?_
  refine me_gfr (p' := 51) k70_48 rfl (by decide) rfl (b := 32) rfl ?_
  refine me_iload_n (p' := 52) k70_51 rfl rfl ?_
  refine me_aald (p' := 53) k70_52 rfl (by decide) rfl ⟨by decide, by decide⟩ (j := 0) rfl (by omega) (by decide) (b := 33) rfl ?_
  refine me_iconst (p' := 54) k70_53 rfl (v := nI 0) (by decide) ?_
  refine me_bipush (p' := 56) k70_54 rfl (v := nI 8) (by decide) ?_
  refine me_acp (p' := 59) k70_56 rfl (by decide) (by decide) rfl rfl (n := 8) (dp := 0) (sp := 0) rfl rfl rfl (by omega) (by omega) ⟨by decide, by decide⟩ (fun k => rfl) (fun k => rfl) (cl_sum rfl) ?_
  refine me_iinc (p' := 62) k70_59 rfl rfl rfl (v := nI (1)) (by decide) rfl ?_
  refine me_goto k70_62 ?_
  refine me_iload_n (p' := 35) k70_34 rfl rfl ?_
  refine me_bipush (p' := 37) k70_35 rfl (v := nI 7) (by decide) ?_
  refine me_ic_ge (p' := 40) k70_37 rfl (fun h => absurd h (by decide)) (fun _ => ?_)
  refine me_aload_n (p' := 41) k70_40 rfl rfl ?_
  refine me_gfr (p' := 44) k70_41 rfl (by decide) rfl (b := 47) rfl ?_
  refine me_iload_n (p' := 45) k70_44 rfl rfl ?_
  refine me_aald (p' := 46) k70_45 rfl (by decide) rfl ⟨by decide, by decide⟩ (j := 1) rfl (by omega) (by decide) (b := 49) rfl ?_
  refine me_iconst (p' := 47) k70_46 rfl (v := nI 0) (by decide) ?_
  refine me_aload_n (p' := 48) k70_47 rfl rfl ?_
  refine me_gfr (p' := 51) k70_48 rfl (by decide) rfl (b := 32) rfl ?_
  refine me_iload_n (p' := 52) k70_51 rfl rfl ?_
  refine me_aald (p' := 53) k70_52 rfl (by decide) rfl ⟨by decide, by decide⟩ (j := 1) rfl (by omega) (by decide) (b := 34) rfl ?_
  refine me_iconst (p' := 54) k70_53 rfl (v := nI 0) (by decide) ?_
  refine me_bipush (p' := 56) k70_54 rfl (v := nI 8) (by decide) ?_
  refine me_acp (p' := 59) k70_56 rfl (by decide) (by decide) rfl rfl (n := 8) (dp := 0) (sp := 0) rfl rfl rfl (by omega) (by omega) ⟨by decide, by decide⟩ (fun k => rfl) (fun k => rfl) (cl_sum rfl) ?_
  refine me_iinc (p' := 62) k70_59 rfl rfl rfl (v := nI (2)) (by decide) rfl ?_
  refine me_goto k70_62 ?_
  refine me_iload_n (p' := 35) k70_34 rfl rfl ?_
  refine me_bipush (p' := 37) k70_35 rfl (v := nI 7) (by decide) ?_
  refine me_ic_ge (p' := 40) k70_37 rfl (fun h => absurd h (by decide)) (fun _ => ?_)
  refine me_aload_n (p' := 41) k70_40 rfl rfl ?_
  refine me_gfr (p' := 44) k70_41 rfl (by decide) rfl (b := 47) rfl ?_
  refine me_iload_n (p' := 45) k70_44 rfl rfl ?_
  refine me_aald (p' := 46) k70_45 rfl (by decide) rfl ⟨by decide, by decide⟩ (j := 2) rfl (by omega) (by decide) (b := 50) rfl ?_
  refine me_iconst (p' := 47) k70_46 rfl (v := nI 0) (by decide) ?_
  refine me_aload_n (p' := 48) k70_47 rfl rfl ?_
  refine me_gfr (p' := 51) k70_48 rfl (by decide) rfl (b := 32) rfl ?_
  refine me_iload_n (p' := 52) k70_51 rfl rfl ?_
  refine me_aald (p' := 53) k70_52 rfl (by decide) rfl ⟨by decide, by decide⟩ (j := 2) rfl (by omega) (by decide) (b := 35) rfl ?_
  refine me_iconst (p' := 54) k70_53 rfl (v := nI 0) (by decide) ?_
  refine me_bipush (p' := 56) k70_54 rfl (v := nI 8) (by decide) ?_
  refine me_acp (p' := 59) k70_56 rfl (by decide) (by decide) rfl rfl (n := 8) (dp := 0) (sp := 0) rfl rfl rfl (by omega) (by omega) ⟨by decide, by decide⟩ (fun k => rfl) (fun k => rfl) (cl_sum rfl) ?_
  refine me_iinc (p' := 62) k70_59 rfl rfl rfl (v := nI (3)) (by decide) rfl ?_
  refine me_goto k70_62 ?_
  refine me_iload_n (p' := 35) k70_34 rfl rfl ?_
  refine me_bipush (p' := 37) k70_35 rfl (v := nI 7) (by decide) ?_
  refine me_ic_ge (p' := 40) k70_37 rfl (fun h => absurd h (by decide)) (fun _ => ?_)
  refine me_aload_n (p' := 41) k70_40 rfl rfl ?_
  refine me_gfr (p' := 44) k70_41 rfl (by decide) rfl (b := 47) rfl ?_
  refine me_iload_n (p' := 45) k70_44 rfl rfl ?_
  refine me_aald (p' := 46) k70_45 rfl (by decide) rfl ⟨by decide, by decide⟩ (j := 3) rfl (by omega) (by decide) (b := 51) rfl ?_
  refine me_iconst (p' := 47) k70_46 rfl (v := nI 0) (by decide) ?_
  refine me_aload_n (p' := 48) k70_47 rfl rfl ?_
  refine me_gfr (p' := 51) k70_48 rfl (by decide) rfl (b := 32) rfl ?_
  refine me_iload_n (p' := 52) k70_51 rfl rfl ?_
  refine me_aald (p' := 53) k70_52 rfl (by decide) rfl ⟨by decide, by decide⟩ (j := 3) rfl (by omega) (by decide) (b := 36) rfl ?_
  refine me_iconst (p' := 54) k70_53 rfl (v := nI 0) (by decide) ?_
  refine me_bipush (p' := 56) k70_54 rfl (v := nI 8) (by decide) ?_
  refine me_acp (p' := 59) k70_56 rfl (by decide) (by decide) rfl rfl (n := 8) (dp := 0) (sp := 0) rfl rfl rfl (by omega) (by omega) ⟨by decide, by decide⟩ (fun k => rfl) (fun k => rfl) (cl_sum rfl) ?_
  refine me_iinc (p' := 62) k70_59 rfl rfl rfl (v := nI (4)) (by decide) rfl ?_
  refine me_goto k70_62 ?_
  refine me_iload_n (p' := 35) k70_34 rfl rfl ?_
  refine me_bipush (p' := 37) k70_35 rfl (v := nI 7) (by decide) ?_
  refine me_ic_ge (p' := 40) k70_37 rfl (fun h => absurd h (by decide)) (fun _ => ?_)
  refine me_aload_n (p' := 41) k70_40 rfl rfl ?_
  refine me_gfr (p' := 44) k70_41 rfl (by decide) rfl (b := 47) rfl ?_
  refine me_iload_n (p' := 45) k70_44 rfl rfl ?_
  refine me_aald (p' := 46) k70_45 rfl (by decide) rfl ⟨by decide, by decide⟩ (j := 4) rfl (by omega) (by decide) (b := 52) rfl ?_
  refine me_iconst (p' := 47) k70_46 rfl (v := nI 0) (by decide) ?_
  refine me_aload_n (p' := 48) k70_47 rfl rfl ?_
  refine me_gfr (p' := 51) k70_48 rfl (by decide) rfl (b := 32) rfl ?_
  refine me_iload_n (p' := 52) k70_51 rfl rfl ?_
  refine me_aald (p' := 53) k70_52 rfl (by decide) rfl ⟨by decide, by decide⟩ (j := 4) rfl (by omega) (by decide) (b := 37) rfl ?_
  refine me_iconst (p' := 54) k70_53 rfl (v := nI 0) (by decide) ?_
  refine me_bipush (p' := 56) k70_54 rfl (v := nI 8) (by decide) ?_
  refine me_acp (p' := 59) k70_56 rfl (by decide) (by decide) rfl rfl (n := 8) (dp := 0) (sp := 0) rfl rfl rfl (by omega) (by omega) ⟨by decide, by decide⟩ (fun k => rfl) (fun k => rfl) (cl_sum rfl) ?_
  refine me_iinc (p' := 62) k70_59 rfl rfl rfl (v := nI (5)) (by decide) rfl ?_
  refine me_goto k70_62 ?_
  refine me_iload_n (p' := 35) k70_34 rfl rfl ?_
  refine me_bipush (p' := 37) k70_35 rfl (v := nI 7) (by decide) ?_
  refine me_ic_ge (p' := 40) k70_37 rfl (fun h => absurd h (by decide)) (fun _ => ?_)
  refine me_aload_n (p' := 41) k70_40 rfl rfl ?_
  refine me_gfr (p' := 44) k70_41 rfl (by decide) rfl (b := 47) rfl ?_
  refine me_iload_n (p' := 45) k70_44 rfl rfl ?_
  refine me_aald (p' := 46) k70_45 rfl (by decide) rfl ⟨by decide, by decide⟩ (j := 5) rfl (by omega) (by decide) (b := 53) rfl ?_
  refine me_iconst (p' := 47) k70_46 rfl (v := nI 0) (by decide) ?_
  refine me_aload_n (p' := 48) k70_47 rfl rfl ?_
  refine me_gfr (p' := 51) k70_48 rfl (by decide) rfl (b := 32) rfl ?_
  refine me_iload_n (p' := 52) k70_51 rfl rfl ?_
  refine me_aald (p' := 53) k70_52 rfl (by decide) rfl ⟨by decide, by decide⟩ (j := 5) rfl (by omega) (by decide) (b := 38) rfl ?_
  refine me_iconst (p' := 54) k70_53 rfl (v := nI 0) (by decide) ?_
  refine me_bipush (p' := 56) k70_54 rfl (v := nI 8) (by decide) ?_
  refine me_acp (p' := 59) k70_56 rfl (by decide) (by decide) rfl rfl (n := 8) (dp := 0) (sp := 0) rfl rfl rfl (by omega) (by omega) ⟨by decide, by decide⟩ (fun k => rfl) (fun k => rfl) (cl_sum rfl) ?_
  refine me_iinc (p' := 62) k70_59 rfl rfl rfl (v := nI (6)) (by decide) rfl ?_
  refine me_goto k70_62 ?_
  refine me_iload_n (p' := 35) k70_34 rfl rfl ?_
  refine me_bipush (p' := 37) k70_35 rfl (v := nI 7) (by decide) ?_
  refine me_ic_ge (p' := 40) k70_37 rfl (fun h => absurd h (by decide)) (fun _ => ?_)
  refine me_aload_n (p' := 41) k70_40 rfl rfl ?_
  refine me_gfr (p' := 44) k70_41 rfl (by decide) rfl (b := 47) rfl ?_
  refine me_iload_n (p' := 45) k70_44 rfl rfl ?_
  refine me_aald (p' := 46) k70_45 rfl (by decide) rfl ⟨by decide, by decide⟩ (j := 6) rfl (by omega) (by decide) (b := 54) rfl ?_
  refine me_iconst (p' := 47) k70_46 rfl (v := nI 0) (by decide) ?_
  refine me_aload_n (p' := 48) k70_47 rfl rfl ?_
  refine me_gfr (p' := 51) k70_48 rfl (by decide) rfl (b := 32) rfl ?_
  refine me_iload_n (p' := 52) k70_51 rfl rfl ?_
  refine me_aald (p' := 53) k70_52 rfl (by decide) rfl ⟨by decide, by decide⟩ (j := 6) rfl (by omega) (by decide) (b := 39) rfl ?_
  refine me_iconst (p' := 54) k70_53 rfl (v := nI 0) (by decide) ?_
  refine me_bipush (p' := 56) k70_54 rfl (v := nI 8) (by decide) ?_
  refine me_acp (p' := 59) k70_56 rfl (by decide) (by decide) rfl rfl (n := 8) (dp := 0) (sp := 0) rfl rfl rfl (by omega) (by omega) ⟨by decide, by decide⟩ (fun k => rfl) (fun k => rfl) (cl_sum rfl) ?_
  refine me_iinc (p' := 62) k70_59 rfl rfl rfl (v := nI (7)) (by decide) rfl ?_
  refine me_goto k70_62 ?_
  refine me_iload_n (p' := 35) k70_34 rfl rfl ?_
  refine me_bipush (p' := 37) k70_35 rfl (v := nI 7) (by decide) ?_
  refine me_ic_ge (p' := 40) k70_37 rfl (fun _ => ?_) (fun h => absurd (by decide) h)
  refine me_aload_n (p' := 66) k70_65 rfl rfl ?_
  refine me_gfr (p' := 69) k70_66 rfl (by decide) rfl (b := 55) rfl ?_
  refine me_iconst (p' := 70) k70_69 rfl (v := nI 0) (by decide) ?_
  refine me_aload_n (p' := 71) k70_70 rfl rfl ?_
  refine me_gfr (p' := 74) k70_71 rfl (by decide) rfl (b := 40) rfl ?_
  refine me_iconst (p' := 75) k70_74 rfl (v := nI 0) (by decide) ?_
  refine me_iconst (p' := 76) k70_75 rfl (v := nI 3) (by decide) ?_
  refine me_acp (p' := 79) k70_76 rfl (by decide) (by decide) rfl rfl (n := 3) (dp := 0) (sp := 0) rfl rfl rfl (by omega) (by omega) ⟨by decide, by decide⟩ (fun k => rfl) (fun k => rfl) (cl_sum rfl) ?_
  refine me_aload_n (p' := 80) k70_79 rfl rfl ?_
  refine me_aload_n (p' := 81) k70_80 rfl rfl ?_
  refine me_gfi (p' := 84) k70_81 rfl (by decide) rfl rfl ?_
  refine me_pfi (p' := 87) k70_84 rfl (by decide) rfl rfl rfl rfl ?_
  refine me_aload_n (p' := 88) k70_87 rfl rfl ?_
  refine me_aload_n (p' := 89) k70_88 rfl rfl ?_
  refine me_gfi (p' := 92) k70_89 rfl (by decide) rfl rfl ?_
  refine me_pfi (p' := 95) k70_92 rfl (by decide) rfl rfl rfl rfl ?_
  refine me_aload_n (p' := 96) k70_95 rfl rfl ?_
  refine me_aload_n (p' := 97) k70_96 rfl rfl ?_
  refine me_gfi (p' := 100) k70_97 rfl (by decide) rfl rfl ?_
  refine me_pfi (p' := 103) k70_100 rfl (by decide) rfl rfl rfl rfl ?_
  refine me_aload_n (p' := 104) k70_103 rfl rfl ?_
  refine me_aload_n (p' := 105) k70_104 rfl rfl ?_
  refine me_gfi (p' := 108) k70_105 rfl (by decide) rfl rfl ?_
  refine me_pfi (p' := 111) k70_108 rfl (by decide) rfl rfl rfl rfl ?_
  refine me_aload_n (p' := 112) k70_111 rfl rfl ?_
  refine me_aload_n (p' := 113) k70_112 rfl rfl ?_
  refine me_gfi (p' := 116) k70_113 rfl (by decide) rfl rfl ?_
  refine me_pfi (p' := 119) k70_116 rfl (by decide) rfl rfl rfl rfl ?_
  refine me_retv k70_119 rt_70 ?_
  refine hQ (mg_u (mg_u (mg_u (mg_u (mg_u (mg_c (mg_c (mg_c (mg_c (mg_c (mg_c (mg_c (mg_c (mg_c (mg_c (mg_c (mg_c I 43 0 28 0 12) 44 0 29 0 12) 45 0 30 0 12) 46 0 31 0 12) 48 0 33 0 8) 49 0 34 0 8) 50 0 35 0 8) 51 0 36 0 8) 52 0 37 0 8) 53 0 38 0 8) 54 0 39 0 8) 55 0 40 0 3) 26 5 ((mg_c (mg_c (mg_c (mg_c (mg_c (mg_c (mg_c (mg_c (mg_c (mg_c (mg_c (mg_c I 43 0 28 0 12) 44 0 29 0 12) 45 0 30 0 12) 46 0 31 0 12) 48 0 33 0 8) 49 0 34 0 8) 50 0 35 0 8) 51 0 36 0 8) 52 0 37 0 8) 53 0 38 0 8) 54 0 39 0 8) 55 0 40 0 3) 41 5)) 26 6 ((mg_u (mg_c (mg_c (mg_c (mg_c (mg_c (mg_c (mg_c (mg_c (mg_c (mg_c (mg_c (mg_c I 43 0 28 0 12) 44 0 29 0 12) 45 0 30 0 12) 46 0 31 0 12) 48 0 33 0 8) 49 0 34 0 8) 50 0 35 0 8) 51 0 36 0 8) 52 0 37 0 8) 53 0 38 0 8) 54 0 39 0 8) 55 0 40 0 3) 26 5 ((mg_c (mg_c (mg_c (mg_c (mg_c (mg_c (mg_c (mg_c (mg_c (mg_c (mg_c (mg_c I 43 0 28 0 12) 44 0 29 0 12) 45 0 30 0 12) 46 0 31 0 12) 48 0 33 0 8) 49 0 34 0 8) 50 0 35 0 8) 51 0 36 0 8) 52 0 37 0 8) 53 0 38 0 8) 54 0 39 0 8) 55 0 40 0 3) 41 5)) 41 6)) 26 7 ((mg_u (mg_u (mg_c (mg_c (mg_c (mg_c (mg_c (mg_c (mg_c (mg_c (mg_c (mg_c (mg_c (mg_c I 43 0 28 0 12) 44 0 29 0 12) 45 0 30 0 12) 46 0 31 0 12) 48 0 33 0 8) 49 0 34 0 8) 50 0 35 0 8) 51 0 36 0 8) 52 0 37 0 8) 53 0 38 0 8) 54 0 39 0 8) 55 0 40 0 3) 26 5 ((mg_c (mg_c (mg_c (mg_c (mg_c (mg_c (mg_c (mg_c (mg_c (mg_c (mg_c (mg_c I 43 0 28 0 12) 44 0 29 0 12) 45 0 30 0 12) 46 0 31 0 12) 48 0 33 0 8) 49 0 34 0 8) 50 0 35 0 8) 51 0 36 0 8) 52 0 37 0 8) 53 0 38 0 8) 54 0 39 0 8) 55 0 40 0 3) 41 5)) 26 6 ((mg_u (mg_c (mg_c (mg_c (mg_c (mg_c (mg_c (mg_c (mg_c (mg_c (mg_c (mg_c (mg_c I 43 0 28 0 12) 44 0 29 0 12) 45 0 30 0 12) 46 0 31 0 12) 48 0 33 0 8) 49 0 34 0 8) 50 0 35 0 8) 51 0 36 0 8) 52 0 37 0 8) 53 0 38 0 8) 54 0 39 0 8) 55 0 40 0 3) 26 5 ((mg_c (mg_c (mg_c (mg_c (mg_c (mg_c (mg_c (mg_c (mg_c (mg_c (mg_c (mg_c I 43 0 28 0 12) 44 0 29 0 12) 45 0 30 0 12) 46 0 31 0 12) 48 0 33 0 8) 49 0 34 0 8) 50 0 35 0 8) 51 0 36 0 8) 52 0 37 0 8) 53 0 38 0 8) 54 0 39 0 8) 55 0 40 0 3) 41 5)) 41 6)) 41 7)) 26 8 ((mg_u (mg_u (mg_u (mg_c (mg_c (mg_c (mg_c (mg_c (mg_c (mg_c (mg_c (mg_c (mg_c (mg_c (mg_c I 43 0 28 0 12) 44 0 29 0 12) 45 0 30 0 12) 46 0 31 0 12) 48 0 33 0 8) 49 0 34 0 8) 50 0 35 0 8) 51 0 36 0 8) 52 0 37 0 8) 53 0 38 0 8) 54 0 39 0 8) 55 0 40 0 3) 26 5 ((mg_c (mg_c (mg_c (mg_c (mg_c (mg_c (mg_c (mg_c (mg_c (mg_c (mg_c (mg_c I 43 0 28 0 12) 44 0 29 0 12) 45 0 30 0 12) 46 0 31 0 12) 48 0 33 0 8) 49 0 34 0 8) 50 0 35 0 8) 51 0 36 0 8) 52 0 37 0 8) 53 0 38 0 8) 54 0 39 0 8) 55 0 40 0 3) 41 5)) 26 6 ((mg_u (mg_c (mg_c (mg_c (mg_c (mg_c (mg_c (mg_c (mg_c (mg_c (mg_c (mg_c (mg_c I 43 0 28 0 12) 44 0 29 0 12) 45 0 30 0 12) 46 0 31 0 12) 48 0 33 0 8) 49 0 34 0 8) 50 0 35 0 8) 51 0 36 0 8) 52 0 37 0 8) 53 0 38 0 8) 54 0 39 0 8) 55 0 40 0 3) 26 5 ((mg_c (mg_c (mg_c (mg_c (mg_c (mg_c (mg_c (mg_c (mg_c (mg_c (mg_c (mg_c I 43 0 28 0 12) 44 0 29 0 12) 45 0 30 0 12) 46 0 31 0 12) 48 0 33 0 8) 49 0 34 0 8) 50 0 35 0 8) 51 0 36 0 8) 52 0 37 0 8) 53 0 38 0 8) 54 0 39 0 8) 55 0 40 0 3) 41 5)) 41 6)) 26 7 ((mg_u (mg_u (mg_c (mg_c (mg_c (mg_c (mg_c (mg_c (mg_c (mg_c (mg_c (mg_c (mg_c (mg_c I 43 0 28 0 12) 44 0 29 0 12) 45 0 30 0 12) 46 0 31 0 12) 48 0 33 0 8) 49 0 34 0 8) 50 0 35 0 8) 51 0 36 0 8) 52 0 37 0 8) 53 0 38 0 8) 54 0 39 0 8) 55 0 40 0 3) 26 5 ((mg_c (mg_c (mg_c (mg_c (mg_c (mg_c (mg_c (mg_c (mg_c (mg_c (mg_c (mg_c I 43 0 28 0 12) 44 0 29 0 12) 45 0 30 0 12) 46 0 31 0 12) 48 0 33 0 8) 49 0 34 0 8) 50 0 35 0 8) 51 0 36 0 8) 52 0 37 0 8) 53 0 38 0 8) 54 0 39 0 8) 55 0 40 0 3) 41 5)) 26 6 ((mg_u (mg_c (mg_c (mg_c (mg_c (mg_c (mg_c (mg_c (mg_c (mg_c (mg_c (mg_c (mg_c I 43 0 28 0 12) 44 0 29 0 12) 45 0 30 0 12) 46 0 31 0 12) 48 0 33 0 8) 49 0 34 0 8) 50 0 35 0 8) 51 0 36 0 8) 52 0 37 0 8) 53 0 38 0 8) 54 0 39 0 8) 55 0 40 0 3) 26 5 ((mg_c (mg_c (mg_c (mg_c (mg_c (mg_c (mg_c (mg_c (mg_c (mg_c (mg_c (mg_c I 43 0 28 0 12) 44 0 29 0 12) 45 0 30 0 12) 46 0 31 0 12) 48 0 33 0 8) 49 0 34 0 8) 50 0 35 0 8) 51 0 36 0 8) 52 0 37 0 8) 53 0 38 0 8) 54 0 39 0 8) 55 0 40 0 3) 41 5)) 41 6)) 41 7)) 41 8)) 26 9 ((mg_u (mg_u (mg_u (mg_u (mg_c (mg_c (mg_c (mg_c (mg_c (mg_c (mg_c (mg_c (mg_c (mg_c (mg_c (mg_c I 43 0 28 0 12) 44 0 29 0 12) 45 0 30 0 12) 46 0 31 0 12) 48 0 33 0 8) 49 0 34 0 8) 50 0 35 0 8) 51 0 36 0 8) 52 0 37 0 8) 53 0 38 0 8) 54 0 39 0 8) 55 0 40 0 3) 26 5 ((mg_c (mg_c (mg_c (mg_c (mg_c (mg_c (mg_c (mg_c (mg_c (mg_c (mg_c (mg_c I 43 0 28 0 12) 44 0 29 0 12) 45 0 30 0 12) 46 0 31 0 12) 48 0 33 0 8) 49 0 34 0 8) 50 0 35 0 8) 51 0 36 0 8) 52 0 37 0 8) 53 0 38 0 8) 54 0 39 0 8) 55 0 40 0 3) 41 5)) 26 6 ((mg_u (mg_c (mg_c (mg_c (mg_c (mg_c (mg_c (mg_c (mg_c (mg_c (mg_c (mg_c (mg_c I 43 0 28 0 12) 44 0 29 0 12) 45 0 30 0 12) 46 0 31 0 12) 48 0 33 0 8) 49 0 34 0 8) 50 0 35 0 8) 51 0 36 0 8) 52 0 37 0 8) 53 0 38 0 8) 54 0 39 0 8) 55 0 40 0 3) 26 5 ((mg_c (mg_c (mg_c (mg_c (mg_c (mg_c (mg_c (mg_c (mg_c (mg_c (mg_c (mg_c I 43 0 28 0 12) 44 0 29 0 12) 45 0 30 0 12) 46 0 31 0 12) 48 0 33 0 8) 49 0 34 0 8) 50 0 35 0 8) 51 0 36 0 8) 52 0 37 0 8) 53 0 38 0 8) 54 0 39 0 8) 55 0 40 0 3) 41 5)) 41 6)) 26 7 ((mg_u (mg_u (mg_c (mg_c (mg_c (mg_c (mg_c (mg_c (mg_c (mg_c (mg_c (mg_c (mg_c (mg_c I 43 0 28 0 12) 44 0 29 0 12) 45 0 30 0 12) 46 0 31 0 12) 48 0 33 0 8) 49 0 34 0 8) 50 0 35 0 8) 51 0 36 0 8) 52 0 37 0 8) 53 0 38 0 8) 54 0 39 0 8) 55 0 40 0 3) 26 5 ((mg_c (mg_c (mg_c (mg_c (mg_c (mg_c (mg_c (mg_c (mg_c (mg_c (mg_c (mg_c I 43 0 28 0 12) 44 0 29 0 12) 45 0 30 0 12) 46 0 31 0 12) 48 0 33 0 8) 49 0 34 0 8) 50 0 35 0 8) 51 0 36 0 8) 52 0 37 0 8) 53 0 38 0 8) 54 0 39 0 8) 55 0 40 0 3) 41 5)) 26 6 ((mg_u (mg_c (mg_c (mg_c (mg_c (mg_c (mg_c (mg_c (mg_c (mg_c (mg_c (mg_c (mg_c I 43 0 28 0 12) 44 0 29 0 12) 45 0 30 0 12) 46 0 31 0 12) 48 0 33 0 8) 49 0 34 0 8) 50 0 35 0 8) 51 0 36 0 8) 52 0 37 0 8) 53 0 38 0 8) 54 0 39 0 8) 55 0 40 0 3) 26 5 ((mg_c (mg_c (mg_c (mg_c (mg_c (mg_c (mg_c (mg_c (mg_c (mg_c (mg_c (mg_c I 43 0 28 0 12) 44 0 29 0 12) 45 0 30 0 12) 46 0 31 0 12) 48 0 33 0 8) 49 0 34 0 8) 50 0 35 0 8) 51 0 36 0 8) 52 0 37 0 8) 53 0 38 0 8) 54 0 39 0 8) 55 0 40 0 3) 41 5)) 41 6)) 41 7)) 26 8 ((mg_u (mg_u (mg_u (mg_c (mg_c (mg_c (mg_c (mg_c (mg_c (mg_c (mg_c (mg_c (mg_c (mg_c (mg_c I 43 0 28 0 12) 44 0 29 0 12) 45 0 30 0 12) 46 0 31 0 12) 48 0 33 0 8) 49 0 34 0 8) 50 0 35 0 8) 51 0 36 0 8) 52 0 37 0 8) 53 0 38 0 8) 54 0 39 0 8) 55 0 40 0 3) 26 5 ((mg_c (mg_c (mg_c (mg_c (mg_c (mg_c (mg_c (mg_c (mg_c (mg_c (mg_c (mg_c I 43 0 28 0 12) 44 0 29 0 12) 45 0 30 0 12) 46 0 31 0 12) 48 0 33 0 8) 49 0 34 0 8) 50 0 35 0 8) 51 0 36 0 8) 52 0 37 0 8) 53 0 38 0 8) 54 0 39 0 8) 55 0 40 0 3) 41 5)) 26 6 ((mg_u (mg_c (mg_c (mg_c (mg_c (mg_c (mg_c (mg_c (mg_c (mg_c (mg_c (mg_c (mg_c I 43 0 28 0 12) 44 0 29 0 12) 45 0 30 0 12) 46 0 31 0 12) 48 0 33 0 8) 49 0 34 0 8) 50 0 35 0 8) 51 0 36 0 8) 52 0 37 0 8) 53 0 38 0 8) 54 0 39 0 8) 55 0 40 0 3) 26 5 ((mg_c (mg_c (mg_c (mg_c (mg_c (mg_c (mg_c (mg_c (mg_c (mg_c (mg_c (mg_c I 43 0 28 0 12) 44 0 29 0 12) 45 0 30 0 12) 46 0 31 0 12) 48 0 33 0 8) 49 0 34 0 8) 50 0 35 0 8) 51 0 36 0 8) 52 0 37 0 8) 53 0 38 0 8) 54 0 39 0 8) 55 0 40 0 3) 41 5)) 41 6)) 26 7 ((mg_u (mg_u (mg_c (mg_c (mg_c (mg_c (mg_c (mg_c (mg_c (mg_c (mg_c (mg_c (mg_c (mg_c I 43 0 28 0 12) 44 0 29 0 12) 45 0 30 0 12) 46 0 31 0 12) 48 0 33 0 8) 49 0 34 0 8) 50 0 35 0 8) 51 0 36 0 8) 52 0 37 0 8) 53 0 38 0 8) 54 0 39 0 8) 55 0 40 0 3) 26 5 ((mg_c (mg_c (mg_c (mg_c (mg_c (mg_c (mg_c (mg_c (mg_c (mg_c (mg_c (mg_c I 43 0 28 0 12) 44 0 29 0 12) 45 0 30 0 12) 46 0 31 0 12) 48 0 33 0 8) 49 0 34 0 8) 50 0 35 0 8) 51 0 36 0 8) 52 0 37 0 8) 53 0 38 0 8) 54 0 39 0 8) 55 0 40 0 3) 41 5)) 26 6 ((mg_u (mg_c (mg_c (mg_c (mg_c (mg_c (mg_c (mg_c (mg_c (mg_c (mg_c (mg_c (mg_c I 43 0 28 0 12) 44 0 29 0 12) 45 0 30 0 12) 46 0 31 0 12) 48 0 33 0 8) 49 0 34 0 8) 50 0 35 0 8) 51 0 36 0 8) 52 0 37 0 8) 53 0 38 0 8) 54 0 39 0 8) 55 0 40 0 3) 26 5 ((mg_c (mg_c (mg_c (mg_c (mg_c (mg_c (mg_c (mg_c (mg_c (mg_c (mg_c (mg_c I 43 0 28 0 12) 44 0 29 0 12) 45 0 30 0 12) 46 0 31 0 12) 48 0 33 0 8) 49 0 34 0 8) 50 0 35 0 8) 51 0 36 0 8) 52 0 37 0 8) 53 0 38 0 8) 54 0 39 0 8) 55 0 40 0 3) 41 5)) 41 6)) 41 7)) 41 8)) 41 9)) (((((((((((((((((mFr.cp (by decide)).tr (mFr.cp (by decide))).tr (mFr.cp (by decide))).tr (mFr.cp (by decide))).tr (mFr.cp (by decide))).tr (mFr.cp (by decide))).tr (mFr.cp (by decide))).tr (mFr.cp (by decide))).tr (mFr.cp (by decide))).tr (mFr.cp (by decide))).tr (mFr.cp (by decide))).tr (mFr.cp (by decide))).tr (mFr.up (by decide))).tr (mFr.up (by decide))).tr (mFr.up (by decide))).tr (mFr.up (by decide))).tr (mFr.up (by decide))) ?_ ?_
  · intro k hk
    refine sg_all (P := fun k => k < 109 → mSg 26 b (mg_u (mg_u (mg_u (mg_u (mg_u (mg_c (mg_c (mg_c (mg_c (mg_c (mg_c (mg_c (mg_c (mg_c (mg_c (mg_c (mg_c I 43 0 28 0 12) 44 0 29 0 12) 45 0 30 0 12) 46 0 31 0 12) 48 0 33 0 8) 49 0 34 0 8) 50 0 35 0 8) 51 0 36 0 8) 52 0 37 0 8) 53 0 38 0 8) 54 0 39 0 8) 55 0 40 0 3) 26 5 ((mg_c (mg_c (mg_c (mg_c (mg_c (mg_c (mg_c (mg_c (mg_c (mg_c (mg_c (mg_c I 43 0 28 0 12) 44 0 29 0 12) 45 0 30 0 12) 46 0 31 0 12) 48 0 33 0 8) 49 0 34 0 8) 50 0 35 0 8) 51 0 36 0 8) 52 0 37 0 8) 53 0 38 0 8) 54 0 39 0 8) 55 0 40 0 3) 41 5)) 26 6 ((mg_u (mg_c (mg_c (mg_c (mg_c (mg_c (mg_c (mg_c (mg_c (mg_c (mg_c (mg_c (mg_c I 43 0 28 0 12) 44 0 29 0 12) 45 0 30 0 12) 46 0 31 0 12) 48 0 33 0 8) 49 0 34 0 8) 50 0 35 0 8) 51 0 36 0 8) 52 0 37 0 8) 53 0 38 0 8) 54 0 39 0 8) 55 0 40 0 3) 26 5 ((mg_c (mg_c (mg_c (mg_c (mg_c (mg_c (mg_c (mg_c (mg_c (mg_c (mg_c (mg_c I 43 0 28 0 12) 44 0 29 0 12) 45 0 30 0 12) 46 0 31 0 12) 48 0 33 0 8) 49 0 34 0 8) 50 0 35 0 8) 51 0 36 0 8) 52 0 37 0 8) 53 0 38 0 8) 54 0 39 0 8) 55 0 40 0 3) 41 5)) 41 6)) 26 7 ((mg_u (mg_u (mg_c (mg_c (mg_c (mg_c (mg_c (mg_c (mg_c (mg_c (mg_c (mg_c (mg_c (mg_c I 43 0 28 0 12) 44 0 29 0 12) 45 0 30 0 12) 46 0 31 0 12) 48 0 33 0 8) 49 0 34 0 8) 50 0 35 0 8) 51 0 36 0 8) 52 0 37 0 8) 53 0 38 0 8) 54 0 39 0 8) 55 0 40 0 3) 26 5 ((mg_c (mg_c (mg_c (mg_c (mg_c (mg_c (mg_c (mg_c (mg_c (mg_c (mg_c (mg_c I 43 0 28 0 12) 44 0 29 0 12) 45 0 30 0 12) 46 0 31 0 12) 48 0 33 0 8) 49 0 34 0 8) 50 0 35 0 8) 51 0 36 0 8) 52 0 37 0 8) 53 0 38 0 8) 54 0 39 0 8) 55 0 40 0 3) 41 5)) 26 6 ((mg_u (mg_c (mg_c (mg_c (mg_c (mg_c (mg_c (mg_c (mg_c (mg_c (mg_c (mg_c (mg_c I 43 0 28 0 12) 44 0 29 0 12) 45 0 30 0 12) 46 0 31 0 12) 48 0 33 0 8) 49 0 34 0 8) 50 0 35 0 8) 51 0 36 0 8) 52 0 37 0 8) 53 0 38 0 8) 54 0 39 0 8) 55 0 40 0 3) 26 5 ((mg_c (mg_c (mg_c (mg_c (mg_c (mg_c (mg_c (mg_c (mg_c (mg_c (mg_c (mg_c I 43 0 28 0 12) 44 0 29 0 12) 45 0 30 0 12) 46 0 31 0 12) 48 0 33 0 8) 49 0 34 0 8) 50 0 35 0 8) 51 0 36 0 8) 52 0 37 0 8) 53 0 38 0 8) 54 0 39 0 8) 55 0 40 0 3) 41 5)) 41 6)) 41 7)) 26 8 ((mg_u (mg_u (mg_u (mg_c (mg_c (mg_c (mg_c (mg_c (mg_c (mg_c (mg_c (mg_c (mg_c (mg_c (mg_c I 43 0 28 0 12) 44 0 29 0 12) 45 0 30 0 12) 46 0 31 0 12) 48 0 33 0 8) 49 0 34 0 8) 50 0 35 0 8) 51 0 36 0 8) 52 0 37 0 8) 53 0 38 0 8) 54 0 39 0 8) 55 0 40 0 3) 26 5 ((mg_c (mg_c (mg_c (mg_c (mg_c (mg_c (mg_c (mg_c (mg_c (mg_c (mg_c (mg_c I 43 0 28 0 12) 44 0 29 0 12) 45 0 30 0 12) 46 0 31 0 12) 48 0 33 0 8) 49 0 34 0 8) 50 0 35 0 8) 51 0 36 0 8) 52 0 37 0 8) 53 0 38 0 8) 54 0 39 0 8) 55 0 40 0 3) 41 5)) 26 6 ((mg_u (mg_c (mg_c (mg_c (mg_c (mg_c (mg_c (mg_c (mg_c (mg_c (mg_c (mg_c (mg_c I 43 0 28 0 12) 44 0 29 0 12) 45 0 30 0 12) 46 0 31 0 12) 48 0 33 0 8) 49 0 34 0 8) 50 0 35 0 8) 51 0 36 0 8) 52 0 37 0 8) 53 0 38 0 8) 54 0 39 0 8) 55 0 40 0 3) 26 5 ((mg_c (mg_c (mg_c (mg_c (mg_c (mg_c (mg_c (mg_c (mg_c (mg_c (mg_c (mg_c I 43 0 28 0 12) 44 0 29 0 12) 45 0 30 0 12) 46 0 31 0 12) 48 0 33 0 8) 49 0 34 0 8) 50 0 35 0 8) 51 0 36 0 8) 52 0 37 0 8) 53 0 38 0 8) 54 0 39 0 8) 55 0 40 0 3) 41 5)) 41 6)) 26 7 ((mg_u (mg_u (mg_c (mg_c (mg_c (mg_c (mg_c (mg_c (mg_c (mg_c (mg_c (mg_c (mg_c (mg_c I 43 0 28 0 12) 44 0 29 0 12) 45 0 30 0 12) 46 0 31 0 12) 48 0 33 0 8) 49 0 34 0 8) 50 0 35 0 8) 51 0 36 0 8) 52 0 37 0 8) 53 0 38 0 8) 54 0 39 0 8) 55 0 40 0 3) 26 5 ((mg_c (mg_c (mg_c (mg_c (mg_c (mg_c (mg_c (mg_c (mg_c (mg_c (mg_c (mg_c I 43 0 28 0 12) 44 0 29 0 12) 45 0 30 0 12) 46 0 31 0 12) 48 0 33 0 8) 49 0 34 0 8) 50 0 35 0 8) 51 0 36 0 8) 52 0 37 0 8) 53 0 38 0 8) 54 0 39 0 8) 55 0 40 0 3) 41 5)) 26 6 ((mg_u (mg_c (mg_c (mg_c (mg_c (mg_c (mg_c (mg_c (mg_c (mg_c (mg_c (mg_c (mg_c I 43 0 28 0 12) 44 0 29 0 12) 45 0 30 0 12) 46 0 31 0 12) 48 0 33 0 8) 49 0 34 0 8) 50 0 35 0 8) 51 0 36 0 8) 52 0 37 0 8) 53 0 38 0 8) 54 0 39 0 8) 55 0 40 0 3) 26 5 ((mg_c (mg_c (mg_c (mg_c (mg_c (mg_c (mg_c (mg_c (mg_c (mg_c (mg_c (mg_c I 43 0 28 0 12) 44 0 29 0 12) 45 0 30 0 12) 46 0 31 0 12) 48 0 33 0 8) 49 0 34 0 8) 50 0 35 0 8) 51 0 36 0 8) 52 0 37 0 8) 53 0 38 0 8) 54 0 39 0 8) 55 0 40 0 3) 41 5)) 41 6)) 41 7)) 41 8)) 26 9 ((mg_u (mg_u (mg_u (mg_u (mg_c (mg_c (mg_c (mg_c (mg_c (mg_c (mg_c (mg_c (mg_c (mg_c (mg_c (mg_c I 43 0 28 0 12) 44 0 29 0 12) 45 0 30 0 12) 46 0 31 0 12) 48 0 33 0 8) 49 0 34 0 8) 50 0 35 0 8) 51 0 36 0 8) 52 0 37 0 8) 53 0 38 0 8) 54 0 39 0 8) 55 0 40 0 3) 26 5 ((mg_c (mg_c (mg_c (mg_c (mg_c (mg_c (mg_c (mg_c (mg_c (mg_c (mg_c (mg_c I 43 0 28 0 12) 44 0 29 0 12) 45 0 30 0 12) 46 0 31 0 12) 48 0 33 0 8) 49 0 34 0 8) 50 0 35 0 8) 51 0 36 0 8) 52 0 37 0 8) 53 0 38 0 8) 54 0 39 0 8) 55 0 40 0 3) 41 5)) 26 6 ((mg_u (mg_c (mg_c (mg_c (mg_c (mg_c (mg_c (mg_c (mg_c (mg_c (mg_c (mg_c (mg_c I 43 0 28 0 12) 44 0 29 0 12) 45 0 30 0 12) 46 0 31 0 12) 48 0 33 0 8) 49 0 34 0 8) 50 0 35 0 8) 51 0 36 0 8) 52 0 37 0 8) 53 0 38 0 8) 54 0 39 0 8) 55 0 40 0 3) 26 5 ((mg_c (mg_c (mg_c (mg_c (mg_c (mg_c (mg_c (mg_c (mg_c (mg_c (mg_c (mg_c I 43 0 28 0 12) 44 0 29 0 12) 45 0 30 0 12) 46 0 31 0 12) 48 0 33 0 8) 49 0 34 0 8) 50 0 35 0 8) 51 0 36 0 8) 52 0 37 0 8) 53 0 38 0 8) 54 0 39 0 8) 55 0 40 0 3) 41 5)) 41 6)) 26 7 ((mg_u (mg_u (mg_c (mg_c (mg_c (mg_c (mg_c (mg_c (mg_c (mg_c (mg_c (mg_c (mg_c (mg_c I 43 0 28 0 12) 44 0 29 0 12) 45 0 30 0 12) 46 0 31 0 12) 48 0 33 0 8) 49 0 34 0 8) 50 0 35 0 8) 51 0 36 0 8) 52 0 37 0 8) 53 0 38 0 8) 54 0 39 0 8) 55 0 40 0 3) 26 5 ((mg_c (mg_c (mg_c (mg_c (mg_c (mg_c (mg_c (mg_c (mg_c (mg_c (mg_c (mg_c I 43 0 28 0 12) 44 0 29 0 12) 45 0 30 0 12) 46 0 31 0 12) 48 0 33 0 8) 49 0 34 0 8) 50 0 35 0 8) 51 0 36 0 8) 52 0 37 0 8) 53 0 38 0 8) 54 0 39 0 8) 55 0 40 0 3) 41 5)) 26 6 ((mg_u (mg_c (mg_c (mg_c (mg_c (mg_c (mg_c (mg_c (mg_c (mg_c (mg_c (mg_c (mg_c I 43 0 28 0 12) 44 0 29 0 12) 45 0 30 0 12) 46 0 31 0 12) 48 0 33 0 8) 49 0 34 0 8) 50 0 35 0 8) 51 0 36 0 8) 52 0 37 0 8) 53 0 38 0 8) 54 0 39 0 8) 55 0 40 0 3) 26 5 ((mg_c (mg_c (mg_c (mg_c (mg_c (mg_c (mg_c (mg_c (mg_c (mg_c (mg_c (mg_c I 43 0 28 0 12) 44 0 29 0 12) 45 0 30 0 12) 46 0 31 0 12) 48 0 33 0 8) 49 0 34 0 8) 50 0 35 0 8) 51 0 36 0 8) 52 0 37 0 8) 53 0 38 0 8) 54 0 39 0 8) 55 0 40 0 3) 41 5)) 41 6)) 41 7)) 26 8 ((mg_u (mg_u (mg_u (mg_c (mg_c (mg_c (mg_c (mg_c (mg_c (mg_c (mg_c (mg_c (mg_c (mg_c (mg_c I 43 0 28 0 12) 44 0 29 0 12) 45 0 30 0 12) 46 0 31 0 12) 48 0 33 0 8) 49 0 34 0 8) 50 0 35 0 8) 51 0 36 0 8) 52 0 37 0 8) 53 0 38 0 8) 54 0 39 0 8) 55 0 40 0 3) 26 5 ((mg_c (mg_c (mg_c (mg_c (mg_c (mg_c (mg_c (mg_c (mg_c (mg_c (mg_c (mg_c I 43 0 28 0 12) 44 0 29 0 12) 45 0 30 0 12) 46 0 31 0 12) 48 0 33 0 8) 49 0 34 0 8) 50 0 35 0 8) 51 0 36 0 8) 52 0 37 0 8) 53 0 38 0 8) 54 0 39 0 8) 55 0 40 0 3) 41 5)) 26 6 ((mg_u (mg_c (mg_c (mg_c (mg_c (mg_c (mg_c (mg_c (mg_c (mg_c (mg_c (mg_c (mg_c I 43 0 28 0 12) 44 0 29 0 12) 45 0 30 0 12) 46 0 31 0 12) 48 0 33 0 8) 49 0 34 0 8) 50 0 35 0 8) 51 0 36 0 8) 52 0 37 0 8) 53 0 38 0 8) 54 0 39 0 8) 55 0 40 0 3) 26 5 ((mg_c (mg_c (mg_c (mg_c (mg_c (mg_c (mg_c (mg_c (mg_c (mg_c (mg_c (mg_c I 43 0 28 0 12) 44 0 29 0 12) 45 0 30 0 12) 46 0 31 0 12) 48 0 33 0 8) 49 0 34 0 8) 50 0 35 0 8) 51 0 36 0 8) 52 0 37 0 8) 53 0 38 0 8) 54 0 39 0 8) 55 0 40 0 3) 41 5)) 41 6)) 26 7 ((mg_u (mg_u (mg_c (mg_c (mg_c (mg_c (mg_c (mg_c (mg_c (mg_c (mg_c (mg_c (mg_c (mg_c I 43 0 28 0 12) 44 0 29 0 12) 45 0 30 0 12) 46 0 31 0 12) 48 0 33 0 8) 49 0 34 0 8) 50 0 35 0 8) 51 0 36 0 8) 52 0 37 0 8) 53 0 38 0 8) 54 0 39 0 8) 55 0 40 0 3) 26 5 ((mg_c (mg_c (mg_c (mg_c (mg_c (mg_c (mg_c (mg_c (mg_c (mg_c (mg_c (mg_c I 43 0 28 0 12) 44 0 29 0 12) 45 0 30 0 12) 46 0 31 0 12) 48 0 33 0 8) 49 0 34 0 8) 50 0 35 0 8) 51 0 36 0 8) 52 0 37 0 8) 53 0 38 0 8) 54 0 39 0 8) 55 0 40 0 3) 41 5)) 26 6 ((mg_u (mg_c (mg_c (mg_c (mg_c (mg_c (mg_c (mg_c (mg_c (mg_c (mg_c (mg_c (mg_c I 43 0 28 0 12) 44 0 29 0 12) 45 0 30 0 12) 46 0 31 0 12) 48 0 33 0 8) 49 0 34 0 8) 50 0 35 0 8) 51 0 36 0 8) 52 0 37 0 8) 53 0 38 0 8) 54 0 39 0 8) 55 0 40 0 3) 26 5 ((mg_c (mg_c (mg_c (mg_c (mg_c (mg_c (mg_c (mg_c (mg_c (mg_c (mg_c (mg_c I 43 0 28 0 12) 44 0 29 0 12) 45 0 30 0 12) 46 0 31 0 12) 48 0 33 0 8) 49 0 34 0 8) 50 0 35 0 8) 51 0 36 0 8) 52 0 37 0 8) 53 0 38 0 8) 54 0 39 0 8) 55 0 40 0 3) 41 5)) 41 6)) 41 7)) 41 8)) 41 9)) k = mSg 41 b' I k) ?_ ?_ ?_ ?_ ?_ ?_ ?_ ?_ k hk
    · intro _; simp [mSg, mg_u, mg_c]
    · intro _; simp [mSg, mg_u, mg_c]
    · intro _; simp [mSg, mg_u, mg_c]
    · intro _; simp [mSg, mg_u, mg_c]
    · intro _; simp [mSg, mg_u, mg_c]
    · intro j p hj hp _
      rw [sg_part hj hp, sg_part hj hp]
      rcases (show j = 0 ∨ j = 1 ∨ j = 2 ∨ j = 3 by omega) with rfl | rfl | rfl | rfl <;> simp [mg_u, mg_c, hp]
    · intro w c hw hc _
      rw [sg_car hw hc, sg_car hw hc]
      rcases (show w = 0 ∨ w = 1 ∨ w = 2 ∨ w = 3 ∨ w = 4 ∨ w = 5 ∨ w = 6 by omega) with rfl | rfl | rfl | rfl | rfl | rfl | rfl <;> simp [mg_u, mg_c, hc]
    · intro k h1 h2; omega
  · intro k hk
    rcases (show k = 0 ∨ k = 1 ∨ k = 2 by omega) with rfl | rfl | rfl <;> simp [mg_u, mg_c]
theorem ct_become41_11 {d L : Nat} {xs : Nat → Int32} {I : Nat → Nat → Int32} {Q : Option Value → mj_H → Prop} {b b' : Nat} (hQ : ∀ I2, mFr (mRc 41) I I2 → (∀ k, k < 109 → mSg 41 b I2 k = mSg 11 b' I k) → (∀ k, k < 3 → I2 55 k = I 25 k) → Q none (mg_h L xs I2)) : mj_Cl d 70 [.ref 41, .ref 11] (mg_h L xs I) Q := by
  refine cl_start mx_70 (ls := [.ref 41, .ref 11, mj_no]) rfl ?_
  refine me_iconst (p' := 1) k70_0 rfl (v := nI 0) (by decide) ?_
  refine me_istore_n (p' := 2) k70_1 rfl ⟨Nat.le_of_ble_eq_true rfl, rfl⟩ rfl ?_
  refine me_iload_n (p' := 3) k70_2 rfl rfl ?_
  refine me_iconst (p' := 4) k70_3 rfl (v := nI 4) (by decide) ?_
  refine me_ic_ge (p' := 7) k70_4 rfl (fun h => absurd h (by decide)) (fun _ => ?_)
  refine me_aload_n (p' := 8) k70_7 rfl rfl ?_
  refine me_gfr (p' := 11) k70_8 rfl (by decide) rfl (b := 12) rfl ?_
  refine me_iload_n (p' := 12) k70_11 rfl rfl ?_
  refine me_aald (p' := 13) k70_12 rfl (by decide) rfl ⟨by decide, by decide⟩ (j := 0) rfl (by omega) (by decide) (b := 13) rfl ?_
  refine me_iconst (p' := 14) k70_13 rfl (v := nI 0) (by decide) ?_
  refine me_aload_n (p' := 15) k70_14 rfl rfl ?_
  refine me_gfr (p' := 18) k70_15 rfl (by decide) rfl (b := 42) rfl ?_
  refine me_iload_n (p' := 19) k70_18 rfl rfl ?_
  refine me_aald (p' := 20) k70_19 rfl (by decide) rfl ⟨by decide, by decide⟩ (j := 0) rfl (by omega) (by decide) (b := 43) rfl ?_
  refine me_iconst (p' := 21) k70_20 rfl (v := nI 0) (by decide) ?_
  refine me_bipush (p' := 23) k70_21 rfl (v := nI 12) (by decide) ?_
  refine me_acp (p' := 26) k70_23 rfl (by decide) (by decide) rfl rfl (n := 12) (dp := 0) (sp := 0) rfl rfl rfl (by omega) (by omega) ⟨by decide, by decide⟩ (fun k => rfl) (fun k => rfl) (cl_sum rfl) ?_
  refine me_iinc (p' := 29) k70_26 rfl rfl rfl (v := nI (1)) (by decide) rfl ?_
  refine me_goto k70_29 ?_
  refine me_iload_n (p' := 3) k70_2 rfl rfl ?_
  refine me_iconst (p' := 4) k70_3 rfl (v := nI 4) (by decide) ?_
  refine me_ic_ge (p' := 7) k70_4 rfl (fun h => absurd h (by decide)) (fun _ => ?_)
  refine me_aload_n (p' := 8) k70_7 rfl rfl ?_
  refine me_gfr (p' := 11) k70_8 rfl (by decide) rfl (b := 12) rfl ?_
  refine me_iload_n (p' := 12) k70_11 rfl rfl ?_
  refine me_aald (p' := 13) k70_12 rfl (by decide) rfl ⟨by decide, by decide⟩ (j := 1) rfl (by omega) (by decide) (b := 14) rfl ?_
  refine me_iconst (p' := 14) k70_13 rfl (v := nI 0) (by decide) ?_
  refine me_aload_n (p' := 15) k70_14 rfl rfl ?_
  refine me_gfr (p' := 18) k70_15 rfl (by decide) rfl (b := 42) rfl ?_
  refine me_iload_n (p' := 19) k70_18 rfl rfl ?_
  refine me_aald (p' := 20) k70_19 rfl (by decide) rfl ⟨by decide, by decide⟩ (j := 1) rfl (by omega) (by decide) (b := 44) rfl ?_
  refine me_iconst (p' := 21) k70_20 rfl (v := nI 0) (by decide) ?_
  refine me_bipush (p' := 23) k70_21 rfl (v := nI 12) (by decide) ?_
  refine me_acp (p' := 26) k70_23 rfl (by decide) (by decide) rfl rfl (n := 12) (dp := 0) (sp := 0) rfl rfl rfl (by omega) (by omega) ⟨by decide, by decide⟩ (fun k => rfl) (fun k => rfl) (cl_sum rfl) ?_
  refine me_iinc (p' := 29) k70_26 rfl rfl rfl (v := nI (2)) (by decide) rfl ?_
  refine me_goto k70_29 ?_
  refine me_iload_n (p' := 3) k70_2 rfl rfl ?_
  refine me_iconst (p' := 4) k70_3 rfl (v := nI 4) (by decide) ?_
  refine me_ic_ge (p' := 7) k70_4 rfl (fun h => absurd h (by decide)) (fun _ => ?_)
  refine me_aload_n (p' := 8) k70_7 rfl rfl ?_
  refine me_gfr (p' := 11) k70_8 rfl (by decide) rfl (b := 12) rfl ?_
  refine me_iload_n (p' := 12) k70_11 rfl rfl ?_
  refine me_aald (p' := 13) k70_12 rfl (by decide) rfl ⟨by decide, by decide⟩ (j := 2) rfl (by omega) (by decide) (b := 15) rfl ?_
  refine me_iconst (p' := 14) k70_13 rfl (v := nI 0) (by decide) ?_
  refine me_aload_n (p' := 15) k70_14 rfl rfl ?_
  refine me_gfr (p' := 18) k70_15 rfl (by decide) rfl (b := 42) rfl ?_
  refine me_iload_n (p' := 19) k70_18 rfl rfl ?_
  refine me_aald (p' := 20) k70_19 rfl (by decide) rfl ⟨by decide, by decide⟩ (j := 2) rfl (by omega) (by decide) (b := 45) rfl ?_
  refine me_iconst (p' := 21) k70_20 rfl (v := nI 0) (by decide) ?_
  refine me_bipush (p' := 23) k70_21 rfl (v := nI 12) (by decide) ?_
  refine me_acp (p' := 26) k70_23 rfl (by decide) (by decide) rfl rfl (n := 12) (dp := 0) (sp := 0) rfl rfl rfl (by omega) (by omega) ⟨by decide, by decide⟩ (fun k => rfl) (fun k => rfl) (cl_sum rfl) ?_
  refine me_iinc (p' := 29) k70_26 rfl rfl rfl (v := nI (3)) (by decide) rfl ?_
  refine me_goto k70_29 ?_
  refine me_iload_n (p' := 3) k70_2 rfl rfl ?_
  refine me_iconst (p' := 4) k70_3 rfl (v := nI 4) (by decide) ?_
  refine me_ic_ge (p' := 7) k70_4 rfl (fun h => absurd h (by decide)) (fun _ => ?_)
  refine me_aload_n (p' := 8) k70_7 rfl rfl ?_
  refine me_gfr (p' := 11) k70_8 rfl (by decide) rfl (b := 12) rfl ?_
  refine me_iload_n (p' := 12) k70_11 rfl rfl ?_
  refine me_aald (p' := 13) k70_12 rfl (by decide) rfl ⟨by decide, by decide⟩ (j := 3) rfl (by omega) (by decide) (b := 16) rfl ?_
  refine me_iconst (p' := 14) k70_13 rfl (v := nI 0) (by decide) ?_
  refine me_aload_n (p' := 15) k70_14 rfl rfl ?_
  refine me_gfr (p' := 18) k70_15 rfl (by decide) rfl (b := 42) rfl ?_
  refine me_iload_n (p' := 19) k70_18 rfl rfl ?_
  refine me_aald (p' := 20) k70_19 rfl (by decide) rfl ⟨by decide, by decide⟩ (j := 3) rfl (by omega) (by decide) (b := 46) rfl ?_
  refine me_iconst (p' := 21) k70_20 rfl (v := nI 0) (by decide) ?_
  refine me_bipush (p' := 23) k70_21 rfl (v := nI 12) (by decide) ?_
  refine me_acp (p' := 26) k70_23 rfl (by decide) (by decide) rfl rfl (n := 12) (dp := 0) (sp := 0) rfl rfl rfl (by omega) (by omega) ⟨by decide, by decide⟩ (fun k => rfl) (fun k => rfl) (cl_sum rfl) ?_
  refine me_iinc (p' := 29) k70_26 rfl rfl rfl (v := nI (4)) (by decide) rfl ?_
  refine me_goto k70_29 ?_
  refine me_iload_n (p' := 3) k70_2 rfl rfl ?_
  refine me_iconst (p' := 4) k70_3 rfl (v := nI 4) (by decide) ?_
  refine me_ic_ge (p' := 7) k70_4 rfl (fun _ => ?_) (fun h => absurd (by decide) h)
  refine me_iconst (p' := 33) k70_32 rfl (v := nI 0) (by decide) ?_
  refine me_istore_n (p' := 34) k70_33 rfl ⟨Nat.le_of_ble_eq_true rfl, rfl⟩ rfl ?_
  refine me_iload_n (p' := 35) k70_34 rfl rfl ?_
  refine me_bipush (p' := 37) k70_35 rfl (v := nI 7) (by decide) ?_
  refine me_ic_ge (p' := 40) k70_37 rfl (fun h => absurd h (by decide)) (fun _ => ?_)
  refine me_aload_n (p' := 41) k70_40 rfl rfl ?_
  refine me_gfr (p' := 44) k70_41 rfl (by decide) rfl (b := 17) rfl ?_
  refine me_iload_n (p' := 45) k70_44 rfl rfl ?_
  refine me_aald (p' := 46) k70_45 rfl (by decide) rfl ⟨by decide, by decide⟩ (j := 0) rfl (by omega) (by decide) (b := 18) rfl ?_
  refine me_iconst (p' := 47) k70_46 rfl (v := nI 0) (by decide) ?_
  refine me_aload_n (p' := 48) k70_47 rfl rfl ?_
  refine me_gfr (p' := 51) k70_48 rfl (by decide) rfl (b := 47) rfl ?_
  refine me_iload_n (p' := 52) k70_51 rfl rfl ?_
  refine me_aald (p' := 53) k70_52 rfl (by decide) rfl ⟨by decide, by decide⟩ (j := 0) rfl (by omega) (by decide) (b := 48) rfl ?_
  refine me_iconst (p' := 54) k70_53 rfl (v := nI 0) (by decide) ?_
  refine me_bipush (p' := 56) k70_54 rfl (v := nI 8) (by decide) ?_
  refine me_acp (p' := 59) k70_56 rfl (by decide) (by decide) rfl rfl (n := 8) (dp := 0) (sp := 0) rfl rfl rfl (by omega) (by omega) ⟨by decide, by decide⟩ (fun k => rfl) (fun k => rfl) (cl_sum rfl) ?_
  refine me_iinc (p' := 62) k70_59 rfl rfl rfl (v := nI (1)) (by decide) rfl ?_
  refine me_goto k70_62 ?_
  refine me_iload_n (p' := 35) k70_34 rfl rfl ?_
  refine me_bipush (p' := 37) k70_35 rfl (v := nI 7) (by decide) ?_
  refine me_ic_ge (p' := 40) k70_37 rfl (fun h => absurd h (by decide)) (fun _ => ?_)
  refine me_aload_n (p' := 41) k70_40 rfl rfl ?_
  refine me_gfr (p' := 44) k70_41 rfl (by decide) rfl (b := 17) rfl ?_
  refine me_iload_n (p' := 45) k70_44 rfl rfl ?_
  refine me_aald (p' := 46) k70_45 rfl (by decide) rfl ⟨by decide, by decide⟩ (j := 1) rfl (by omega) (by decide) (b := 19) rfl ?_
  refine me_iconst (p' := 47) k70_46 rfl (v := nI 0) (by decide) ?_
  refine me_aload_n (p' := 48) k70_47 rfl rfl ?_
  refine me_gfr (p' := 51) k70_48 rfl (by decide) rfl (b := 47) rfl ?_
  refine me_iload_n (p' := 52) k70_51 rfl rfl ?_
  refine me_aald (p' := 53) k70_52 rfl (by decide) rfl ⟨by decide, by decide⟩ (j := 1) rfl (by omega) (by decide) (b := 49) rfl ?_
  refine me_iconst (p' := 54) k70_53 rfl (v := nI 0) (by decide) ?_
  refine me_bipush (p' := 56) k70_54 rfl (v := nI 8) (by decide) ?_
  refine me_acp (p' := 59) k70_56 rfl (by decide) (by decide) rfl rfl (n := 8) (dp := 0) (sp := 0) rfl rfl rfl (by omega) (by omega) ⟨by decide, by decide⟩ (fun k => rfl) (fun k => rfl) (cl_sum rfl) ?_
  refine me_iinc (p' := 62) k70_59 rfl rfl rfl (v := nI (2)) (by decide) rfl ?_
  refine me_goto k70_62 ?_
  refine me_iload_n (p' := 35) k70_34 rfl rfl ?_
  refine me_bipush (p' := 37) k70_35 rfl (v := nI 7) (by decide) ?_
  refine me_ic_ge (p' := 40) k70_37 rfl (fun h => absurd h (by decide)) (fun _ => ?_)
  refine me_aload_n (p' := 41) k70_40 rfl rfl ?_
  refine me_gfr (p' := 44) k70_41 rfl (by decide) rfl (b := 17) rfl ?_
  refine me_iload_n (p' := 45) k70_44 rfl rfl ?_
  refine me_aald (p' := 46) k70_45 rfl (by decide) rfl ⟨by decide, by decide⟩ (j := 2) rfl (by omega) (by decide) (b := 20) rfl ?_
  refine me_iconst (p' := 47) k70_46 rfl (v := nI 0) (by decide) ?_
  refine me_aload_n (p' := 48) k70_47 rfl rfl ?_
  refine me_gfr (p' := 51) k70_48 rfl (by decide) rfl (b := 47) rfl ?_
  refine me_iload_n (p' := 52) k70_51 rfl rfl ?_
  refine me_aald (p' := 53) k70_52 rfl (by decide) rfl ⟨by decide, by decide⟩ (j := 2) rfl (by omega) (by decide) (b := 50) rfl ?_
  refine me_iconst (p' := 54) k70_53 rfl (v := nI 0) (by decide) ?_
  refine me_bipush (p' := 56) k70_54 rfl (v := nI 8) (by decide) ?_
  refine me_acp (p' := 59) k70_56 rfl (by decide) (by decide) rfl rfl (n := 8) (dp := 0) (sp := 0) rfl rfl rfl (by omega) (by omega) ⟨by decide, by decide⟩ (fun k => rfl) (fun k => rfl) (cl_sum rfl) ?_
  refine me_iinc (p' := 62) k70_59 rfl rfl rfl (v := nI (3)) (by decide) rfl ?_
  refine me_goto k70_62 ?_
  refine me_iload_n (p' := 35) k70_34 rfl rfl ?_
  refine me_bipush (p' := 37) k70_35 rfl (v := nI 7) (by decide) ?_
  refine me_ic_ge (p' := 40) k70_37 rfl (fun h => absurd h (by decide)) (fun _ => ?_)
  refine me_aload_n (p' := 41) k70_40 rfl rfl ?_
  refine me_gfr (p' := 44) k70_41 rfl (by decide) rfl (b := 17) rfl ?_
  refine me_iload_n (p' := 45) k70_44 rfl rfl ?_
  refine me_aald (p' := 46) k70_45 rfl (by decide) rfl ⟨by decide, by decide⟩ (j := 3) rfl (by omega) (by decide) (b := 21) rfl ?_
  refine me_iconst (p' := 47) k70_46 rfl (v := nI 0) (by decide) ?_
  refine me_aload_n (p' := 48) k70_47 rfl rfl ?_
  refine me_gfr (p' := 51) k70_48 rfl (by decide) rfl (b := 47) rfl ?_
  refine me_iload_n (p' := 52) k70_51 rfl rfl ?_
  refine me_aald (p' := 53) k70_52 rfl (by decide) rfl ⟨by decide, by decide⟩ (j := 3) rfl (by omega) (by decide) (b := 51) rfl ?_
  refine me_iconst (p' := 54) k70_53 rfl (v := nI 0) (by decide) ?_
  refine me_bipush (p' := 56) k70_54 rfl (v := nI 8) (by decide) ?_
  refine me_acp (p' := 59) k70_56 rfl (by decide) (by decide) rfl rfl (n := 8) (dp := 0) (sp := 0) rfl rfl rfl (by omega) (by omega) ⟨by decide, by decide⟩ (fun k => rfl) (fun k => rfl) (cl_sum rfl) ?_
  refine me_iinc (p' := 62) k70_59 rfl rfl rfl (v := nI (4)) (by decide) rfl ?_
  refine me_goto k70_62 ?_
  refine me_iload_n (p' := 35) k70_34 rfl rfl ?_
  refine me_bipush (p' := 37) k70_35 rfl (v := nI 7) (by decide) ?_
  refine me_ic_ge (p' := 40) k70_37 rfl (fun h => absurd h (by decide)) (fun _ => ?_)
  refine me_aload_n (p' := 41) k70_40 rfl rfl ?_
  refine me_gfr (p' := 44) k70_41 rfl (by decide) rfl (b := 17) rfl ?_
  refine me_iload_n (p' := 45) k70_44 rfl rfl ?_
  refine me_aald (p' := 46) k70_45 rfl (by decide) rfl ⟨by decide, by decide⟩ (j := 4) rfl (by omega) (by decide) (b := 22) rfl ?_
  refine me_iconst (p' := 47) k70_46 rfl (v := nI 0) (by decide) ?_
  refine me_aload_n (p' := 48) k70_47 rfl rfl ?_
  refine me_gfr (p' := 51) k70_48 rfl (by decide) rfl (b := 47) rfl ?_
  refine me_iload_n (p' := 52) k70_51 rfl rfl ?_
  refine me_aald (p' := 53) k70_52 rfl (by decide) rfl ⟨by decide, by decide⟩ (j := 4) rfl (by omega) (by decide) (b := 52) rfl ?_
  refine me_iconst (p' := 54) k70_53 rfl (v := nI 0) (by decide) ?_
  refine me_bipush (p' := 56) k70_54 rfl (v := nI 8) (by decide) ?_
  refine me_acp (p' := 59) k70_56 rfl (by decide) (by decide) rfl rfl (n := 8) (dp := 0) (sp := 0) rfl rfl rfl (by omega) (by omega) ⟨by decide, by decide⟩ (fun k => rfl) (fun k => rfl) (cl_sum rfl) ?_
  refine me_iinc (p' := 62) k70_59 rfl rfl rfl (v := nI (5)) (by decide) rfl ?_
  refine me_goto k70_62 ?_
  refine me_iload_n (p' := 35) k70_34 rfl rfl ?_
  refine me_bipush (p' := 37) k70_35 rfl (v := nI 7) (by decide) ?_
  refine me_ic_ge (p' := 40) k70_37 rfl (fun h => absurd h (by decide)) (fun _ => ?_)
  refine me_aload_n (p' := 41) k70_40 rfl rfl ?_
  refine me_gfr (p' := 44) k70_41 rfl (by decide) rfl (b := 17) rfl ?_
  refine me_iload_n (p' := 45) k70_44 rfl rfl ?_
  refine me_aald (p' := 46) k70_45 rfl (by decide) rfl ⟨by decide, by decide⟩ (j := 5) rfl (by omega) (by decide) (b := 23) rfl ?_
  refine me_iconst (p' := 47) k70_46 rfl (v := nI 0) (by decide) ?_
  refine me_aload_n (p' := 48) k70_47 rfl rfl ?_
  refine me_gfr (p' := 51) k70_48 rfl (by decide) rfl (b := 47) rfl ?_
  refine me_iload_n (p' := 52) k70_51 rfl rfl ?_
  refine me_aald (p' := 53) k70_52 rfl (by decide) rfl ⟨by decide, by decide⟩ (j := 5) rfl (by omega) (by decide) (b := 53) rfl ?_
  refine me_iconst (p' := 54) k70_53 rfl (v := nI 0) (by decide) ?_
  refine me_bipush (p' := 56) k70_54 rfl (v := nI 8) (by decide) ?_
  refine me_acp (p' := 59) k70_56 rfl (by decide) (by decide) rfl rfl (n := 8) (dp := 0) (sp := 0) rfl rfl rfl (by omega) (by omega) ⟨by decide, by decide⟩ (fun k => rfl) (fun k => rfl) (cl_sum rfl) ?_
  refine me_iinc (p' := 62) k70_59 rfl rfl rfl (v := nI (6)) (by decide) rfl ?_
  refine me_goto k70_62 ?_
  refine me_iload_n (p' := 35) k70_34 rfl rfl ?_
  refine me_bipush (p' := 37) k70_35 rfl (v := nI 7) (by decide) ?_
  refine me_ic_ge (p' := 40) k70_37 rfl (fun h => absurd h (by decide)) (fun _ => ?_)
  refine me_aload_n (p' := 41) k70_40 rfl rfl ?_
  refine me_gfr (p' := 44) k70_41 rfl (by decide) rfl (b := 17) rfl ?_
  refine me_iload_n (p' := 45) k70_44 rfl rfl ?_
  refine me_aald (p' := 46) k70_45 rfl (by decide) rfl ⟨by decide, by decide⟩ (j := 6) rfl (by omega) (by decide) (b := 24) rfl ?_
  refine me_iconst (p' := 47) k70_46 rfl (v := nI 0) (by decide) ?_
  refine me_aload_n (p' := 48) k70_47 rfl rfl ?_
  refine me_gfr (p' := 51) k70_48 rfl (by decide) rfl (b := 47) rfl ?_
  refine me_iload_n (p' := 52) k70_51 rfl rfl ?_
  refine me_aald (p' := 53) k70_52 rfl (by decide) rfl ⟨by decide, by decide⟩ (j := 6) rfl (by omega) (by decide) (b := 54) rfl ?_
  refine me_iconst (p' := 54) k70_53 rfl (v := nI 0) (by decide) ?_
  refine me_bipush (p' := 56) k70_54 rfl (v := nI 8) (by decide) ?_
  refine me_acp (p' := 59) k70_56 rfl (by decide) (by decide) rfl rfl (n := 8) (dp := 0) (sp := 0) rfl rfl rfl (by omega) (by omega) ⟨by decide, by decide⟩ (fun k => rfl) (fun k => rfl) (cl_sum rfl) ?_
  refine me_iinc (p' := 62) k70_59 rfl rfl rfl (v := nI (7)) (by decide) rfl ?_
  refine me_goto k70_62 ?_
  refine me_iload_n (p' := 35) k70_34 rfl rfl ?_
  refine me_bipush (p' := 37) k70_35 rfl (v := nI 7) (by decide) ?_
  refine me_ic_ge (p' := 40) k70_37 rfl (fun _ => ?_) (fun h => absurd (by decide) h)
  refine me_aload_n (p' := 66) k70_65 rfl rfl ?_
  refine me_gfr (p' := 69) k70_66 rfl (by decide) rfl (b := 25) rfl ?_
  refine me_iconst (p' := 70) k70_69 rfl (v := nI 0) (by decide) ?_
  refine me_aload_n (p' := 71) k70_70 rfl rfl ?_
  refine me_gfr (p' := 74) k70_71 rfl (by decide) rfl (b := 55) rfl ?_
  refine me_iconst (p' := 75) k70_74 rfl (v := nI 0) (by decide) ?_
  refine me_iconst (p' := 76) k70_75 rfl (v := nI 3) (by decide) ?_
  refine me_acp (p' := 79) k70_76 rfl (by decide) (by decide) rfl rfl (n := 3) (dp := 0) (sp := 0) rfl rfl rfl (by omega) (by omega) ⟨by decide, by decide⟩ (fun k => rfl) (fun k => rfl) (cl_sum rfl) ?_
  refine me_aload_n (p' := 80) k70_79 rfl rfl ?_
  refine me_aload_n (p' := 81) k70_80 rfl rfl ?_
  refine me_gfi (p' := 84) k70_81 rfl (by decide) rfl rfl ?_
  refine me_pfi (p' := 87) k70_84 rfl (by decide) rfl rfl rfl rfl ?_
  refine me_aload_n (p' := 88) k70_87 rfl rfl ?_
  refine me_aload_n (p' := 89) k70_88 rfl rfl ?_
  refine me_gfi (p' := 92) k70_89 rfl (by decide) rfl rfl ?_
  refine me_pfi (p' := 95) k70_92 rfl (by decide) rfl rfl rfl rfl ?_
  refine me_aload_n (p' := 96) k70_95 rfl rfl ?_
  refine me_aload_n (p' := 97) k70_96 rfl rfl ?_
  refine me_gfi (p' := 100) k70_97 rfl (by decide) rfl rfl ?_
  refine me_pfi (p' := 103) k70_100 rfl (by decide) rfl rfl rfl rfl ?_
  refine me_aload_n (p' := 104) k70_103 rfl rfl ?_
  refine me_aload_n (p' := 105) k70_104 rfl rfl ?_
  refine me_gfi (p' := 108) k70_105 rfl (by decide) rfl rfl ?_
  refine me_pfi (p' := 111) k70_108 rfl (by decide) rfl rfl rfl rfl ?_
  refine me_aload_n (p' := 112) k70_111 rfl rfl ?_
  refine me_aload_n (p' := 113) k70_112 rfl rfl ?_
  refine me_gfi (p' := 116) k70_113 rfl (by decide) rfl rfl ?_
  refine me_pfi (p' := 119) k70_116 rfl (by decide) rfl rfl rfl rfl ?_
  refine me_retv k70_119 rt_70 ?_
  refine hQ (mg_u (mg_u (mg_u (mg_u (mg_u (mg_c (mg_c (mg_c (mg_c (mg_c (mg_c (mg_c (mg_c (mg_c (mg_c (mg_c (mg_c I 13 0 43 0 12) 14 0 44 0 12) 15 0 45 0 12) 16 0 46 0 12) 18 0 48 0 8) 19 0 49 0 8) 20 0 50 0 8) 21 0 51 0 8) 22 0 52 0 8) 23 0 53 0 8) 24 0 54 0 8) 25 0 55 0 3) 41 5 ((mg_c (mg_c (mg_c (mg_c (mg_c (mg_c (mg_c (mg_c (mg_c (mg_c (mg_c (mg_c I 13 0 43 0 12) 14 0 44 0 12) 15 0 45 0 12) 16 0 46 0 12) 18 0 48 0 8) 19 0 49 0 8) 20 0 50 0 8) 21 0 51 0 8) 22 0 52 0 8) 23 0 53 0 8) 24 0 54 0 8) 25 0 55 0 3) 11 5)) 41 6 ((mg_u (mg_c (mg_c (mg_c (mg_c (mg_c (mg_c (mg_c (mg_c (mg_c (mg_c (mg_c (mg_c I 13 0 43 0 12) 14 0 44 0 12) 15 0 45 0 12) 16 0 46 0 12) 18 0 48 0 8) 19 0 49 0 8) 20 0 50 0 8) 21 0 51 0 8) 22 0 52 0 8) 23 0 53 0 8) 24 0 54 0 8) 25 0 55 0 3) 41 5 ((mg_c (mg_c (mg_c (mg_c (mg_c (mg_c (mg_c (mg_c (mg_c (mg_c (mg_c (mg_c I 13 0 43 0 12) 14 0 44 0 12) 15 0 45 0 12) 16 0 46 0 12) 18 0 48 0 8) 19 0 49 0 8) 20 0 50 0 8) 21 0 51 0 8) 22 0 52 0 8) 23 0 53 0 8) 24 0 54 0 8) 25 0 55 0 3) 11 5)) 11 6)) 41 7 ((mg_u (mg_u (mg_c (mg_c (mg_c (mg_c (mg_c (mg_c (mg_c (mg_c (mg_c (mg_c (mg_c (mg_c I 13 0 43 0 12) 14 0 44 0 12) 15 0 45 0 12) 16 0 46 0 12) 18 0 48 0 8) 19 0 49 0 8) 20 0 50 0 8) 21 0 51 0 8) 22 0 52 0 8) 23 0 53 0 8) 24 0 54 0 8) 25 0 55 0 3) 41 5 ((mg_c (mg_c (mg_c (mg_c (mg_c (mg_c (mg_c (mg_c (mg_c (mg_c (mg_c (mg_c I 13 0 43 0 12) 14 0 44 0 12) 15 0 45 0 12) 16 0 46 0 12) 18 0 48 0 8) 19 0 49 0 8) 20 0 50 0 8) 21 0 51 0 8) 22 0 52 0 8) 23 0 53 0 8) 24 0 54 0 8) 25 0 55 0 3) 11 5)) 41 6 ((mg_u (mg_c (mg_c (mg_c (mg_c (mg_c (mg_c (mg_c (mg_c (mg_c (mg_c (mg_c (mg_c I 13 0 43 0 12) 14 0 44 0 12) 15 0 45 0 12) 16 0 46 0 12) 18 0 48 0 8) 19 0 49 0 8) 20 0 50 0 8) 21 0 51 0 8) 22 0 52 0 8) 23 0 53 0 8) 24 0 54 0 8) 25 0 55 0 3) 41 5 ((mg_c (mg_c (mg_c (mg_c (mg_c (mg_c (mg_c (mg_c (mg_c (mg_c (mg_c (mg_c I 13 0 43 0 12) 14 0 44 0 12) 15 0 45 0 12) 16 0 46 0 12) 18 0 48 0 8) 19 0 49 0 8) 20 0 50 0 8) 21 0 51 0 8) 22 0 52 0 8) 23 0 53 0 8) 24 0 54 0 8) 25 0 55 0 3) 11 5)) 11 6)) 11 7)) 41 8 ((mg_u (mg_u (mg_u (mg_c (mg_c (mg_c (mg_c (mg_c (mg_c (mg_c (mg_c (mg_c (mg_c (mg_c (mg_c I 13 0 43 0 12) 14 0 44 0 12) 15 0 45 0 12) 16 0 46 0 12) 18 0 48 0 8) 19 0 49 0 8) 20 0 50 0 8) 21 0 51 0 8) 22 0 52 0 8) 23 0 53 0 8) 24 0 54 0 8) 25 0 55 0 3) 41 5 ((mg_c (mg_c (mg_c (mg_c (mg_c (mg_c (mg_c (mg_c (mg_c (mg_c (mg_c (mg_c I 13 0 43 0 12) 14 0 44 0 12) 15 0 45 0 12) 16 0 46 0 12) 18 0 48 0 8) 19 0 49 0 8) 20 0 50 0 8) 21 0 51 0 8) 22 0 52 0 8) 23 0 53 0 8) 24 0 54 0 8) 25 0 55 0 3) 11 5)) 41 6 ((mg_u (mg_c (mg_c (mg_c (mg_c (mg_c (mg_c (mg_c (mg_c (mg_c (mg_c (mg_c (mg_c I 13 0 43 0 12) 14 0 44 0 12) 15 0 45 0 12) 16 0 46 0 12) 18 0 48 0 8) 19 0 49 0 8) 20 0 50 0 8) 21 0 51 0 8) 22 0 52 0 8) 23 0 53 0 8) 24 0 54 0 8) 25 0 55 0 3) 41 5 ((mg_c (mg_c (mg_c (mg_c (mg_c (mg_c (mg_c (mg_c (mg_c (mg_c (mg_c (mg_c I 13 0 43 0 12) 14 0 44 0 12) 15 0 45 0 12) 16 0 46 0 12) 18 0 48 0 8) 19 0 49 0 8) 20 0 50 0 8) 21 0 51 0 8) 22 0 52 0 8) 23 0 53 0 8) 24 0 54 0 8) 25 0 55 0 3) 11 5)) 11 6)) 41 7 ((mg_u (mg_u (mg_c (mg_c (mg_c (mg_c (mg_c (mg_c (mg_c (mg_c (mg_c (mg_c (mg_c (mg_c I 13 0 43 0 12) 14 0 44 0 12) 15 0 45 0 12) 16 0 46 0 12) 18 0 48 0 8) 19 0 49 0 8) 20 0 50 0 8) 21 0 51 0 8) 22 0 52 0 8) 23 0 53 0 8) 24 0 54 0 8) 25 0 55 0 3) 41 5 ((mg_c (mg_c (mg_c (mg_c (mg_c (mg_c (mg_c (mg_c (mg_c (mg_c (mg_c (mg_c I 13 0 43 0 12) 14 0 44 0 12) 15 0 45 0 12) 16 0 46 0 12) 18 0 48 0 8) 19 0 49 0 8) 20 0 50 0 8) 21 0 51 0 8) 22 0 52 0 8) 23 0 53 0 8) 24 0 54 0 8) 25 0 55 0 3) 11 5)) 41 6 ((mg_u (mg_c (mg_c (mg_c (mg_c (mg_c (mg_c (mg_c (mg_c (mg_c (mg_c (mg_c (mg_c I 13 0 43 0 12) 14 0 44 0 12) 15 0 45 0 12) 16 0 46 0 12) 18 0 48 0 8) 19 0 49 0 8) 20 0 50 0 8) 21 0 51 0 8) 22 0 52 0 8) 23 0 53 0 8) 24 0 54 0 8) 25 0 55 0 3) 41 5 ((mg_c (mg_c (mg_c (mg_c (mg_c (mg_c (mg_c (mg_c (mg_c (mg_c (mg_c (mg_c I 13 0 43 0 12) 14 0 44 0 12) 15 0 45 0 12) 16 0 46 0 12) 18 0 48 0 8) 19 0 49 0 8) 20 0 50 0 8) 21 0 51 0 8) 22 0 52 0 8) 23 0 53 0 8) 24 0 54 0 8) 25 0 55 0 3) 11 5)) 11 6)) 11 7)) 11 8)) 41 9 ((mg_u (mg_u (mg_u (mg_u (mg_c (mg_c (mg_c (mg_c (mg_c (mg_c (mg_c (mg_c (mg_c (mg_c (mg_c (mg_c I 13 0 43 0 12) 14 0 44 0 12) 15 0 45 0 12) 16 0 46 0 12) 18 0 48 0 8) 19 0 49 0 8) 20 0 50 0 8) 21 0 51 0 8) 22 0 52 0 8) 23 0 53 0 8) 24 0 54 0 8) 25 0 55 0 3) 41 5 ((mg_c (mg_c (mg_c (mg_c (mg_c (mg_c (mg_c (mg_c (mg_c (mg_c (mg_c (mg_c I 13 0 43 0 12) 14 0 44 0 12) 15 0 45 0 12) 16 0 46 0 12) 18 0 48 0 8) 19 0 49 0 8) 20 0 50 0 8) 21 0 51 0 8) 22 0 52 0 8) 23 0 53 0 8) 24 0 54 0 8) 25 0 55 0 3) 11 5)) 41 6 ((mg_u (mg_c (mg_c (mg_c (mg_c (mg_c (mg_c (mg_c (mg_c (mg_c (mg_c (mg_c (mg_c I 13 0 43 0 12) 14 0 44 0 12) 15 0 45 0 12) 16 0 46 0 12) 18 0 48 0 8) 19 0 49 0 8) 20 0 50 0 8) 21 0 51 0 8) 22 0 52 0 8) 23 0 53 0 8) 24 0 54 0 8) 25 0 55 0 3) 41 5 ((mg_c (mg_c (mg_c (mg_c (mg_c (mg_c (mg_c (mg_c (mg_c (mg_c (mg_c (mg_c I 13 0 43 0 12) 14 0 44 0 12) 15 0 45 0 12) 16 0 46 0 12) 18 0 48 0 8) 19 0 49 0 8) 20 0 50 0 8) 21 0 51 0 8) 22 0 52 0 8) 23 0 53 0 8) 24 0 54 0 8) 25 0 55 0 3) 11 5)) 11 6)) 41 7 ((mg_u (mg_u (mg_c (mg_c (mg_c (mg_c (mg_c (mg_c (mg_c (mg_c (mg_c (mg_c (mg_c (mg_c I 13 0 43 0 12) 14 0 44 0 12) 15 0 45 0 12) 16 0 46 0 12) 18 0 48 0 8) 19 0 49 0 8) 20 0 50 0 8) 21 0 51 0 8) 22 0 52 0 8) 23 0 53 0 8) 24 0 54 0 8) 25 0 55 0 3) 41 5 ((mg_c (mg_c (mg_c (mg_c (mg_c (mg_c (mg_c (mg_c (mg_c (mg_c (mg_c (mg_c I 13 0 43 0 12) 14 0 44 0 12) 15 0 45 0 12) 16 0 46 0 12) 18 0 48 0 8) 19 0 49 0 8) 20 0 50 0 8) 21 0 51 0 8) 22 0 52 0 8) 23 0 53 0 8) 24 0 54 0 8) 25 0 55 0 3) 11 5)) 41 6 ((mg_u (mg_c (mg_c (mg_c (mg_c (mg_c (mg_c (mg_c (mg_c (mg_c (mg_c (mg_c (mg_c I 13 0 43 0 12) 14 0 44 0 12) 15 0 45 0 12) 16 0 46 0 12) 18 0 48 0 8) 19 0 49 0 8) 20 0 50 0 8) 21 0 51 0 8) 22 0 52 0 8) 23 0 53 0 8) 24 0 54 0 8) 25 0 55 0 3) 41 5 ((mg_c (mg_c (mg_c (mg_c (mg_c (mg_c (mg_c (mg_c (mg_c (mg_c (mg_c (mg_c I 13 0 43 0 12) 14 0 44 0 12) 15 0 45 0 12) 16 0 46 0 12) 18 0 48 0 8) 19 0 49 0 8) 20 0 50 0 8) 21 0 51 0 8) 22 0 52 0 8) 23 0 53 0 8) 24 0 54 0 8) 25 0 55 0 3) 11 5)) 11 6)) 11 7)) 41 8 ((mg_u (mg_u (mg_u (mg_c (mg_c (mg_c (mg_c (mg_c (mg_c (mg_c (mg_c (mg_c (mg_c (mg_c (mg_c I 13 0 43 0 12) 14 0 44 0 12) 15 0 45 0 12) 16 0 46 0 12) 18 0 48 0 8) 19 0 49 0 8) 20 0 50 0 8) 21 0 51 0 8) 22 0 52 0 8) 23 0 53 0 8) 24 0 54 0 8) 25 0 55 0 3) 41 5 ((mg_c (mg_c (mg_c (mg_c (mg_c (mg_c (mg_c (mg_c (mg_c (mg_c (mg_c (mg_c I 13 0 43 0 12) 14 0 44 0 12) 15 0 45 0 12) 16 0 46 0 12) 18 0 48 0 8) 19 0 49 0 8) 20 0 50 0 8) 21 0 51 0 8) 22 0 52 0 8) 23 0 53 0 8) 24 0 54 0 8) 25 0 55 0 3) 11 5)) 41 6 ((mg_u (mg_c (mg_c (mg_c (mg_c (mg_c (mg_c (mg_c (mg_c (mg_c (mg_c (mg_c (mg_c I 13 0 43 0 12) 14 0 44 0 12) 15 0 45 0 12) 16 0 46 0 12) 18 0 48 0 8) 19 0 49 0 8) 20 0 50 0 8) 21 0 51 0 8) 22 0 52 0 8) 23 0 53 0 8) 24 0 54 0 8) 25 0 55 0 3) 41 5 ((mg_c (mg_c (mg_c (mg_c (mg_c (mg_c (mg_c (mg_c (mg_c (mg_c (mg_c (mg_c I 13 0 43 0 12) 14 0 44 0 12) 15 0 45 0 12) 16 0 46 0 12) 18 0 48 0 8) 19 0 49 0 8) 20 0 50 0 8) 21 0 51 0 8) 22 0 52 0 8) 23 0 53 0 8) 24 0 54 0 8) 25 0 55 0 3) 11 5)) 11 6)) 41 7 ((mg_u (mg_u (mg_c (mg_c (mg_c (mg_c (mg_c (mg_c (mg_c (mg_c (mg_c (mg_c (mg_c (mg_c I 13 0 43 0 12) 14 0 44 0 12) 15 0 45 0 12) 16 0 46 0 12) 18 0 48 0 8) 19 0 49 0 8) 20 0 50 0 8) 21 0 51 0 8) 22 0 52 0 8) 23 0 53 0 8) 24 0 54 0 8) 25 0 55 0 3) 41 5 ((mg_c (mg_c (mg_c (mg_c (mg_c (mg_c (mg_c (mg_c (mg_c (mg_c (mg_c (mg_c I 13 0 43 0 12) 14 0 44 0 12) 15 0 45 0 12) 16 0 46 0 12) 18 0 48 0 8) 19 0 49 0 8) 20 0 50 0 8) 21 0 51 0 8) 22 0 52 0 8) 23 0 53 0 8) 24 0 54 0 8) 25 0 55 0 3) 11 5)) 41 6 ((mg_u (mg_c (mg_c (mg_c (mg_c (mg_c (mg_c (mg_c (mg_c (mg_c (mg_c (mg_c (mg_c I 13 0 43 0 12) 14 0 44 0 12) 15 0 45 0 12) 16 0 46 0 12) 18 0 48 0 8) 19 0 49 0 8) 20 0 50 0 8) 21 0 51 0 8) 22 0 52 0 8) 23 0 53 0 8) 24 0 54 0 8) 25 0 55 0 3) 41 5 ((mg_c (mg_c (mg_c (mg_c (mg_c (mg_c (mg_c (mg_c (mg_c (mg_c (mg_c (mg_c I 13 0 43 0 12) 14 0 44 0 12) 15 0 45 0 12) 16 0 46 0 12) 18 0 48 0 8) 19 0 49 0 8) 20 0 50 0 8) 21 0 51 0 8) 22 0 52 0 8) 23 0 53 0 8) 24 0 54 0 8) 25 0 55 0 3) 11 5)) 11 6)) 11 7)) 11 8)) 11 9)) (((((((((((((((((mFr.cp (by decide)).tr (mFr.cp (by decide))).tr (mFr.cp (by decide))).tr (mFr.cp (by decide))).tr (mFr.cp (by decide))).tr (mFr.cp (by decide))).tr (mFr.cp (by decide))).tr (mFr.cp (by decide))).tr (mFr.cp (by decide))).tr (mFr.cp (by decide))).tr (mFr.cp (by decide))).tr (mFr.cp (by decide))).tr (mFr.up (by decide))).tr (mFr.up (by decide))).tr (mFr.up (by decide))).tr (mFr.up (by decide))).tr (mFr.up (by decide))) ?_ ?_
  · intro k hk
    refine sg_all (P := fun k => k < 109 → mSg 41 b (mg_u (mg_u (mg_u (mg_u (mg_u (mg_c (mg_c (mg_c (mg_c (mg_c (mg_c (mg_c (mg_c (mg_c (mg_c (mg_c (mg_c I 13 0 43 0 12) 14 0 44 0 12) 15 0 45 0 12) 16 0 46 0 12) 18 0 48 0 8) 19 0 49 0 8) 20 0 50 0 8) 21 0 51 0 8) 22 0 52 0 8) 23 0 53 0 8) 24 0 54 0 8) 25 0 55 0 3) 41 5 ((mg_c (mg_c (mg_c (mg_c (mg_c (mg_c (mg_c (mg_c (mg_c (mg_c (mg_c (mg_c I 13 0 43 0 12) 14 0 44 0 12) 15 0 45 0 12) 16 0 46 0 12) 18 0 48 0 8) 19 0 49 0 8) 20 0 50 0 8) 21 0 51 0 8) 22 0 52 0 8) 23 0 53 0 8) 24 0 54 0 8) 25 0 55 0 3) 11 5)) 41 6 ((mg_u (mg_c (mg_c (mg_c (mg_c (mg_c (mg_c (mg_c (mg_c (mg_c (mg_c (mg_c (mg_c I 13 0 43 0 12) 14 0 44 0 12) 15 0 45 0 12) 16 0 46 0 12) 18 0 48 0 8) 19 0 49 0 8) 20 0 50 0 8) 21 0 51 0 8) 22 0 52 0 8) 23 0 53 0 8) 24 0 54 0 8) 25 0 55 0 3) 41 5 ((mg_c (mg_c (mg_c (mg_c (mg_c (mg_c (mg_c (mg_c (mg_c (mg_c (mg_c (mg_c I 13 0 43 0 12) 14 0 44 0 12) 15 0 45 0 12) 16 0 46 0 12) 18 0 48 0 8) 19 0 49 0 8) 20 0 50 0 8) 21 0 51 0 8) 22 0 52 0 8) 23 0 53 0 8) 24 0 54 0 8) 25 0 55 0 3) 11 5)) 11 6)) 41 7 ((mg_u (mg_u (mg_c (mg_c (mg_c (mg_c (mg_c (mg_c (mg_c (mg_c (mg_c (mg_c (mg_c (mg_c I 13 0 43 0 12) 14 0 44 0 12) 15 0 45 0 12) 16 0 46 0 12) 18 0 48 0 8) 19 0 49 0 8) 20 0 50 0 8) 21 0 51 0 8) 22 0 52 0 8) 23 0 53 0 8) 24 0 54 0 8) 25 0 55 0 3) 41 5 ((mg_c (mg_c (mg_c (mg_c (mg_c (mg_c (mg_c (mg_c (mg_c (mg_c (mg_c (mg_c I 13 0 43 0 12) 14 0 44 0 12) 15 0 45 0 12) 16 0 46 0 12) 18 0 48 0 8) 19 0 49 0 8) 20 0 50 0 8) 21 0 51 0 8) 22 0 52 0 8) 23 0 53 0 8) 24 0 54 0 8) 25 0 55 0 3) 11 5)) 41 6 ((mg_u (mg_c (mg_c (mg_c (mg_c (mg_c (mg_c (mg_c (mg_c (mg_c (mg_c (mg_c (mg_c I 13 0 43 0 12) 14 0 44 0 12) 15 0 45 0 12) 16 0 46 0 12) 18 0 48 0 8) 19 0 49 0 8) 20 0 50 0 8) 21 0 51 0 8) 22 0 52 0 8) 23 0 53 0 8) 24 0 54 0 8) 25 0 55 0 3) 41 5 ((mg_c (mg_c (mg_c (mg_c (mg_c (mg_c (mg_c (mg_c (mg_c (mg_c (mg_c (mg_c I 13 0 43 0 12) 14 0 44 0 12) 15 0 45 0 12) 16 0 46 0 12) 18 0 48 0 8) 19 0 49 0 8) 20 0 50 0 8) 21 0 51 0 8) 22 0 52 0 8) 23 0 53 0 8) 24 0 54 0 8) 25 0 55 0 3) 11 5)) 11 6)) 11 7)) 41 8 ((mg_u (mg_u (mg_u (mg_c (mg_c (mg_c (mg_c (mg_c (mg_c (mg_c (mg_c (mg_c (mg_c (mg_c (mg_c I 13 0 43 0 12) 14 0 44 0 12) 15 0 45 0 12) 16 0 46 0 12) 18 0 48 0 8) 19 0 49 0 8) 20 0 50 0 8) 21 0 51 0 8) 22 0 52 0 8) 23 0 53 0 8) 24 0 54 0 8) 25 0 55 0 3) 41 5 ((mg_c (mg_c (mg_c (mg_c (mg_c (mg_c (mg_c (mg_c (mg_c (mg_c (mg_c (mg_c I 13 0 43 0 12) 14 0 44 0 12) 15 0 45 0 12) 16 0 46 0 12) 18 0 48 0 8) 19 0 49 0 8) 20 0 50 0 8) 21 0 51 0 8) 22 0 52 0 8) 23 0 53 0 8) 24 0 54 0 8) 25 0 55 0 3) 11 5)) 41 6 ((mg_u (mg_c (mg_c (mg_c (mg_c (mg_c (mg_c (mg_c (mg_c (mg_c (mg_c (mg_c (mg_c I 13 0 43 0 12) 14 0 44 0 12) 15 0 45 0 12) 16 0 46 0 12) 18 0 48 0 8) 19 0 49 0 8) 20 0 50 0 8) 21 0 51 0 8) 22 0 52 0 8) 23 0 53 0 8) 24 0 54 0 8) 25 0 55 0 3) 41 5 ((mg_c (mg_c (mg_c (mg_c (mg_c (mg_c (mg_c (mg_c (mg_c (mg_c (mg_c (mg_c I 13 0 43 0 12) 14 0 44 0 12) 15 0 45 0 12) 16 0 46 0 12) 18 0 48 0 8) 19 0 49 0 8) 20 0 50 0 8) 21 0 51 0 8) 22 0 52 0 8) 23 0 53 0 8) 24 0 54 0 8) 25 0 55 0 3) 11 5)) 11 6)) 41 7 ((mg_u (mg_u (mg_c (mg_c (mg_c (mg_c (mg_c (mg_c (mg_c (mg_c (mg_c (mg_c (mg_c (mg_c I 13 0 43 0 12) 14 0 44 0 12) 15 0 45 0 12) 16 0 46 0 12) 18 0 48 0 8) 19 0 49 0 8) 20 0 50 0 8) 21 0 51 0 8) 22 0 52 0 8) 23 0 53 0 8) 24 0 54 0 8) 25 0 55 0 3) 41 5 ((mg_c (mg_c (mg_c (mg_c (mg_c (mg_c (mg_c (mg_c (mg_c (mg_c (mg_c (mg_c I 13 0 43 0 12) 14 0 44 0 12) 15 0 45 0 12) 16 0 46 0 12) 18 0 48 0 8) 19 0 49 0 8) 20 0 50 0 8) 21 0 51 0 8) 22 0 52 0 8) 23 0 53 0 8) 24 0 54 0 8) 25 0 55 0 3) 11 5)) 41 6 ((mg_u (mg_c (mg_c (mg_c (mg_c (mg_c (mg_c (mg_c (mg_c (mg_c (mg_c (mg_c (mg_c I 13 0 43 0 12) 14 0 44 0 12) 15 0 45 0 12) 16 0 46 0 12) 18 0 48 0 8) 19 0 49 0 8) 20 0 50 0 8) 21 0 51 0 8) 22 0 52 0 8) 23 0 53 0 8) 24 0 54 0 8) 25 0 55 0 3) 41 5 ((mg_c (mg_c (mg_c (mg_c (mg_c (mg_c (mg_c (mg_c (mg_c (mg_c (mg_c (mg_c I 13 0 43 0 12) 14 0 44 0 12) 15 0 45 0 12) 16 0 46 0 12) 18 0 48 0 8) 19 0 49 0 8) 20 0 50 0 8) 21 0 51 0 8) 22 0 52 0 8) 23 0 53 0 8) 24 0 54 0 8) 25 0 55 0 3) 11 5)) 11 6)) 11 7)) 11 8)) 41 9 ((mg_u (mg_u (mg_u (mg_u (mg_c (mg_c (mg_c (mg_c (mg_c (mg_c (mg_c (mg_c (mg_c (mg_c (mg_c (mg_c I 13 0 43 0 12) 14 0 44 0 12) 15 0 45 0 12) 16 0 46 0 12) 18 0 48 0 8) 19 0 49 0 8) 20 0 50 0 8) 21 0 51 0 8) 22 0 52 0 8) 23 0 53 0 8) 24 0 54 0 8) 25 0 55 0 3) 41 5 ((mg_c (mg_c (mg_c (mg_c (mg_c (mg_c (mg_c (mg_c (mg_c (mg_c (mg_c (mg_c I 13 0 43 0 12) 14 0 44 0 12) 15 0 45 0 12) 16 0 46 0 12) 18 0 48 0 8) 19 0 49 0 8) 20 0 50 0 8) 21 0 51 0 8) 22 0 52 0 8) 23 0 53 0 8) 24 0 54 0 8) 25 0 55 0 3) 11 5)) 41 6 ((mg_u (mg_c (mg_c (mg_c (mg_c (mg_c (mg_c (mg_c (mg_c (mg_c (mg_c (mg_c (mg_c I 13 0 43 0 12) 14 0 44 0 12) 15 0 45 0 12) 16 0 46 0 12) 18 0 48 0 8) 19 0 49 0 8) 20 0 50 0 8) 21 0 51 0 8) 22 0 52 0 8) 23 0 53 0 8) 24 0 54 0 8) 25 0 55 0 3) 41 5 ((mg_c (mg_c (mg_c (mg_c (mg_c (mg_c (mg_c (mg_c (mg_c (mg_c (mg_c (mg_c I 13 0 43 0 12) 14 0 44 0 12) 15 0 45 0 12) 16 0 46 0 12) 18 0 48 0 8) 19 0 49 0 8) 20 0 50 0 8) 21 0 51 0 8) 22 0 52 0 8) 23 0 53 0 8) 24 0 54 0 8) 25 0 55 0 3) 11 5)) 11 6)) 41 7 ((mg_u (mg_u (mg_c (mg_c (mg_c (mg_c (mg_c (mg_c (mg_c (mg_c (mg_c (mg_c (mg_c (mg_c I 13 0 43 0 12) 14 0 44 0 12) 15 0 45 0 12) 16 0 46 0 12) 18 0 48 0 8) 19 0 49 0 8) 20 0 50 0 8) 21 0 51 0 8) 22 0 52 0 8) 23 0 53 0 8) 24 0 54 0 8) 25 0 55 0 3) 41 5 ((mg_c (mg_c (mg_c (mg_c (mg_c (mg_c (mg_c (mg_c (mg_c (mg_c (mg_c (mg_c I 13 0 43 0 12) 14 0 44 0 12) 15 0 45 0 12) 16 0 46 0 12) 18 0 48 0 8) 19 0 49 0 8) 20 0 50 0 8) 21 0 51 0 8) 22 0 52 0 8) 23 0 53 0 8) 24 0 54 0 8) 25 0 55 0 3) 11 5)) 41 6 ((mg_u (mg_c (mg_c (mg_c (mg_c (mg_c (mg_c (mg_c (mg_c (mg_c (mg_c (mg_c (mg_c I 13 0 43 0 12) 14 0 44 0 12) 15 0 45 0 12) 16 0 46 0 12) 18 0 48 0 8) 19 0 49 0 8) 20 0 50 0 8) 21 0 51 0 8) 22 0 52 0 8) 23 0 53 0 8) 24 0 54 0 8) 25 0 55 0 3) 41 5 ((mg_c (mg_c (mg_c (mg_c (mg_c (mg_c (mg_c (mg_c (mg_c (mg_c (mg_c (mg_c I 13 0 43 0 12) 14 0 44 0 12) 15 0 45 0 12) 16 0 46 0 12) 18 0 48 0 8) 19 0 49 0 8) 20 0 50 0 8) 21 0 51 0 8) 22 0 52 0 8) 23 0 53 0 8) 24 0 54 0 8) 25 0 55 0 3) 11 5)) 11 6)) 11 7)) 41 8 ((mg_u (mg_u (mg_u (mg_c (mg_c (mg_c (mg_c (mg_c (mg_c (mg_c (mg_c (mg_c (mg_c (mg_c (mg_c I 13 0 43 0 12) 14 0 44 0 12) 15 0 45 0 12) 16 0 46 0 12) 18 0 48 0 8) 19 0 49 0 8) 20 0 50 0 8) 21 0 51 0 8) 22 0 52 0 8) 23 0 53 0 8) 24 0 54 0 8) 25 0 55 0 3) 41 5 ((mg_c (mg_c (mg_c (mg_c (mg_c (mg_c (mg_c (mg_c (mg_c (mg_c (mg_c (mg_c I 13 0 43 0 12) 14 0 44 0 12) 15 0 45 0 12) 16 0 46 0 12) 18 0 48 0 8) 19 0 49 0 8) 20 0 50 0 8) 21 0 51 0 8) 22 0 52 0 8) 23 0 53 0 8) 24 0 54 0 8) 25 0 55 0 3) 11 5)) 41 6 ((mg_u (mg_c (mg_c (mg_c (mg_c (mg_c (mg_c (mg_c (mg_c (mg_c (mg_c (mg_c (mg_c I 13 0 43 0 12) 14 0 44 0 12) 15 0 45 0 12) 16 0 46 0 12) 18 0 48 0 8) 19 0 49 0 8) 20 0 50 0 8) 21 0 51 0 8) 22 0 52 0 8) 23 0 53 0 8) 24 0 54 0 8) 25 0 55 0 3) 41 5 ((mg_c (mg_c (mg_c (mg_c (mg_c (mg_c (mg_c (mg_c (mg_c (mg_c (mg_c (mg_c I 13 0 43 0 12) 14 0 44 0 12) 15 0 45 0 12) 16 0 46 0 12) 18 0 48 0 8) 19 0 49 0 8) 20 0 50 0 8) 21 0 51 0 8) 22 0 52 0 8) 23 0 53 0 8) 24 0 54 0 8) 25 0 55 0 3) 11 5)) 11 6)) 41 7 ((mg_u (mg_u (mg_c (mg_c (mg_c (mg_c (mg_c (mg_c (mg_c (mg_c (mg_c (mg_c (mg_c (mg_c I 13 0 43 0 12) 14 0 44 0 12) 15 0 45 0 12) 16 0 46 0 12) 18 0 48 0 8) 19 0 49 0 8) 20 0 50 0 8) 21 0 51 0 8) 22 0 52 0 8) 23 0 53 0 8) 24 0 54 0 8) 25 0 55 0 3) 41 5 ((mg_c (mg_c (mg_c (mg_c (mg_c (mg_c (mg_c (mg_c (mg_c (mg_c (mg_c (mg_c I 13 0 43 0 12) 14 0 44 0 12) 15 0 45 0 12) 16 0 46 0 12) 18 0 48 0 8) 19 0 49 0 8) 20 0 50 0 8) 21 0 51 0 8) 22 0 52 0 8) 23 0 53 0 8) 24 0 54 0 8) 25 0 55 0 3) 11 5)) 41 6 ((mg_u (mg_c (mg_c (mg_c (mg_c (mg_c (mg_c (mg_c (mg_c (mg_c (mg_c (mg_c (mg_c I 13 0 43 0 12) 14 0 44 0 12) 15 0 45 0 12) 16 0 46 0 12) 18 0 48 0 8) 19 0 49 0 8) 20 0 50 0 8) 21 0 51 0 8) 22 0 52 0 8) 23 0 53 0 8) 24 0 54 0 8) 25 0 55 0 3) 41 5 ((mg_c (mg_c (mg_c (mg_c (mg_c (mg_c (mg_c (mg_c (mg_c (mg_c (mg_c (mg_c I 13 0 43 0 12) 14 0 44 0 12) 15 0 45 0 12) 16 0 46 0 12) 18 0 48 0 8) 19 0 49 0 8) 20 0 50 0 8) 21 0 51 0 8) 22 0 52 0 8) 23 0 53 0 8) 24 0 54 0 8) 25 0 55 0 3) 11 5)) 11 6)) 11 7)) 11 8)) 11 9)) k = mSg 11 b' I k) ?_ ?_ ?_ ?_ ?_ ?_ ?_ ?_ k hk
    · intro _; simp [mSg, mg_u, mg_c]
    · intro _; simp [mSg, mg_u, mg_c]
    · intro _; simp [mSg, mg_u, mg_c]
    · intro _; simp [mSg, mg_u, mg_c]
    · intro _; simp [mSg, mg_u, mg_c]
    · intro j p hj hp _
      rw [sg_part hj hp, sg_part hj hp]
      rcases (show j = 0 ∨ j = 1 ∨ j = 2 ∨ j = 3 by omega) with rfl | rfl | rfl | rfl <;> simp [mg_u, mg_c, hp]
    · intro w c hw hc _
      rw [sg_car hw hc, sg_car hw hc]
      rcases (show w = 0 ∨ w = 1 ∨ w = 2 ∨ w = 3 ∨ w = 4 ∨ w = 5 ∨ w = 6 by omega) with rfl | rfl | rfl | rfl | rfl | rfl | rfl <;> simp [mg_u, mg_c, hc]
    · intro k h1 h2; omega
  · intro k hk
    rcases (show k = 0 ∨ k = 1 ∨ k = 2 by omega) with rfl | rfl | rfl <;> simp [mg_u, mg_c]
theorem ct_become11_41 {d L : Nat} {xs : Nat → Int32} {I : Nat → Nat → Int32} {Q : Option Value → mj_H → Prop} {b b' : Nat} (hQ : ∀ I2, mFr (mRc 11) I I2 → (∀ k, k < 109 → mSg 11 b I2 k = mSg 41 b' I k) → (∀ k, k < 3 → I2 25 k = I 55 k) → Q none (mg_h L xs I2)) : mj_Cl d 70 [.ref 11, .ref 41] (mg_h L xs I) Q := by
  refine cl_start mx_70 (ls := [.ref 11, .ref 41, mj_no]) rfl ?_
  refine me_iconst (p' := 1) k70_0 rfl (v := nI 0) (by decide) ?_
  refine me_istore_n (p' := 2) k70_1 rfl ⟨Nat.le_of_ble_eq_true rfl, rfl⟩ rfl ?_
  refine me_iload_n (p' := 3) k70_2 rfl rfl ?_
  refine me_iconst (p' := 4) k70_3 rfl (v := nI 4) (by decide) ?_
  refine me_ic_ge (p' := 7) k70_4 rfl (fun h => absurd h (by decide)) (fun _ => ?_)
  refine me_aload_n (p' := 8) k70_7 rfl rfl ?_
  refine me_gfr (p' := 11) k70_8 rfl (by decide) rfl (b := 42) rfl ?_
  refine me_iload_n (p' := 12) k70_11 rfl rfl ?_
  refine me_aald (p' := 13) k70_12 rfl (by decide) rfl ⟨by decide, by decide⟩ (j := 0) rfl (by omega) (by decide) (b := 43) rfl ?_
  refine me_iconst (p' := 14) k70_13 rfl (v := nI 0) (by decide) ?_
  refine me_aload_n (p' := 15) k70_14 rfl rfl ?_
  refine me_gfr (p' := 18) k70_15 rfl (by decide) rfl (b := 12) rfl ?_
  refine me_iload_n (p' := 19) k70_18 rfl rfl ?_
  refine me_aald (p' := 20) k70_19 rfl (by decide) rfl ⟨by decide, by decide⟩ (j := 0) rfl (by omega) (by decide) (b := 13) rfl ?_
  refine me_iconst (p' := 21) k70_20 rfl (v := nI 0) (by decide) ?_
  refine me_bipush (p' := 23) k70_21 rfl (v := nI 12) (by decide) ?_
  refine me_acp (p' := 26) k70_23 rfl (by decide) (by decide) rfl rfl (n := 12) (dp := 0) (sp := 0) rfl rfl rfl (by omega) (by omega) ⟨by decide, by decide⟩ (fun k => rfl) (fun k => rfl) (cl_sum rfl) ?_
  refine me_iinc (p' := 29) k70_26 rfl rfl rfl (v := nI (1)) (by decide) rfl ?_
  refine me_goto k70_29 ?_
  refine me_iload_n (p' := 3) k70_2 rfl rfl ?_
  refine me_iconst (p' := 4) k70_3 rfl (v := nI 4) (by decide) ?_
  refine me_ic_ge (p' := 7) k70_4 rfl (fun h => absurd h (by decide)) (fun _ => ?_)
  refine me_aload_n (p' := 8) k70_7 rfl rfl ?_
  refine me_gfr (p' := 11) k70_8 rfl (by decide) rfl (b := 42) rfl ?_
  refine me_iload_n (p' := 12) k70_11 rfl rfl ?_
  refine me_aald (p' := 13) k70_12 rfl (by decide) rfl ⟨by decide, by decide⟩ (j := 1) rfl (by omega) (by decide) (b := 44) rfl ?_
  refine me_iconst (p' := 14) k70_13 rfl (v := nI 0) (by decide) ?_
  refine me_aload_n (p' := 15) k70_14 rfl rfl ?_
  refine me_gfr (p' := 18) k70_15 rfl (by decide) rfl (b := 12) rfl ?_
  refine me_iload_n (p' := 19) k70_18 rfl rfl ?_
  refine me_aald (p' := 20) k70_19 rfl (by decide) rfl ⟨by decide, by decide⟩ (j := 1) rfl (by omega) (by decide) (b := 14) rfl ?_
  refine me_iconst (p' := 21) k70_20 rfl (v := nI 0) (by decide) ?_
  refine me_bipush (p' := 23) k70_21 rfl (v := nI 12) (by decide) ?_
  refine me_acp (p' := 26) k70_23 rfl (by decide) (by decide) rfl rfl (n := 12) (dp := 0) (sp := 0) rfl rfl rfl (by omega) (by omega) ⟨by decide, by decide⟩ (fun k => rfl) (fun k => rfl) (cl_sum rfl) ?_
  refine me_iinc (p' := 29) k70_26 rfl rfl rfl (v := nI (2)) (by decide) rfl ?_
  refine me_goto k70_29 ?_
  refine me_iload_n (p' := 3) k70_2 rfl rfl ?_
  refine me_iconst (p' := 4) k70_3 rfl (v := nI 4) (by decide) ?_
  refine me_ic_ge (p' := 7) k70_4 rfl (fun h => absurd h (by decide)) (fun _ => ?_)
  refine me_aload_n (p' := 8) k70_7 rfl rfl ?_
  refine me_gfr (p' := 11) k70_8 rfl (by decide) rfl (b := 42) rfl ?_
  refine me_iload_n (p' := 12) k70_11 rfl rfl ?_
  refine me_aald (p' := 13) k70_12 rfl (by decide) rfl ⟨by decide, by decide⟩ (j := 2) rfl (by omega) (by decide) (b := 45) rfl ?_
  refine me_iconst (p' := 14) k70_13 rfl (v := nI 0) (by decide) ?_
  refine me_aload_n (p' := 15) k70_14 rfl rfl ?_
  refine me_gfr (p' := 18) k70_15 rfl (by decide) rfl (b := 12) rfl ?_
  refine me_iload_n (p' := 19) k70_18 rfl rfl ?_
  refine me_aald (p' := 20) k70_19 rfl (by decide) rfl ⟨by decide, by decide⟩ (j := 2) rfl (by omega) (by decide) (b := 15) rfl ?_
  refine me_iconst (p' := 21) k70_20 rfl (v := nI 0) (by decide) ?_
  refine me_bipush (p' := 23) k70_21 rfl (v := nI 12) (by decide) ?_
  refine me_acp (p' := 26) k70_23 rfl (by decide) (by decide) rfl rfl (n := 12) (dp := 0) (sp := 0) rfl rfl rfl (by omega) (by omega) ⟨by decide, by decide⟩ (fun k => rfl) (fun k => rfl) (cl_sum rfl) ?_
  refine me_iinc (p' := 29) k70_26 rfl rfl rfl (v := nI (3)) (by decide) rfl ?_
  refine me_goto k70_29 ?_
  refine me_iload_n (p' := 3) k70_2 rfl rfl ?_
  refine me_iconst (p' := 4) k70_3 rfl (v := nI 4) (by decide) ?_
  refine me_ic_ge (p' := 7) k70_4 rfl (fun h => absurd h (by decide)) (fun _ => ?_)
  refine me_aload_n (p' := 8) k70_7 rfl rfl ?_
  refine me_gfr (p' := 11) k70_8 rfl (by decide) rfl (b := 42) rfl ?_
  refine me_iload_n (p' := 12) k70_11 rfl rfl ?_
  refine me_aald (p' := 13) k70_12 rfl (by decide) rfl ⟨by decide, by decide⟩ (j := 3) rfl (by omega) (by decide) (b := 46) rfl ?_
  refine me_iconst (p' := 14) k70_13 rfl (v := nI 0) (by decide) ?_
  refine me_aload_n (p' := 15) k70_14 rfl rfl ?_
  refine me_gfr (p' := 18) k70_15 rfl (by decide) rfl (b := 12) rfl ?_
  refine me_iload_n (p' := 19) k70_18 rfl rfl ?_
  refine me_aald (p' := 20) k70_19 rfl (by decide) rfl ⟨by decide, by decide⟩ (j := 3) rfl (by omega) (by decide) (b := 16) rfl ?_
  refine me_iconst (p' := 21) k70_20 rfl (v := nI 0) (by decide) ?_
  refine me_bipush (p' := 23) k70_21 rfl (v := nI 12) (by decide) ?_
  refine me_acp (p' := 26) k70_23 rfl (by decide) (by decide) rfl rfl (n := 12) (dp := 0) (sp := 0) rfl rfl rfl (by omega) (by omega) ⟨by decide, by decide⟩ (fun k => rfl) (fun k => rfl) (cl_sum rfl) ?_
  refine me_iinc (p' := 29) k70_26 rfl rfl rfl (v := nI (4)) (by decide) rfl ?_
  refine me_goto k70_29 ?_
  refine me_iload_n (p' := 3) k70_2 rfl rfl ?_
  refine me_iconst (p' := 4) k70_3 rfl (v := nI 4) (by decide) ?_
  refine me_ic_ge (p' := 7) k70_4 rfl (fun _ => ?_) (fun h => absurd (by decide) h)
  refine me_iconst (p' := 33) k70_32 rfl (v := nI 0) (by decide) ?_
  refine me_istore_n (p' := 34) k70_33 rfl ⟨Nat.le_of_ble_eq_true rfl, rfl⟩ rfl ?_
  refine me_iload_n (p' := 35) k70_34 rfl rfl ?_
  refine me_bipush (p' := 37) k70_35 rfl (v := nI 7) (by decide) ?_
  refine me_ic_ge (p' := 40) k70_37 rfl (fun h => absurd h (by decide)) (fun _ => ?_)
  refine me_aload_n (p' := 41) k70_40 rfl rfl ?_
  refine me_gfr (p' := 44) k70_41 rfl (by decide) rfl (b := 47) rfl ?_
  refine me_iload_n (p' := 45) k70_44 rfl rfl ?_
  refine me_aald (p' := 46) k70_45 rfl (by decide) rfl ⟨by decide, by decide⟩ (j := 0) rfl (by omega) (by decide) (b := 48) rfl ?_
  refine me_iconst (p' := 47) k70_46 rfl (v := nI 0) (by decide) ?_
  refine me_aload_n (p' := 48) k70_47 rfl rfl ?_
  refine me_gfr (p' := 51) k70_48 rfl (by decide) rfl (b := 17) rfl ?_
  refine me_iload_n (p' := 52) k70_51 rfl rfl ?_
  refine me_aald (p' := 53) k70_52 rfl (by decide) rfl ⟨by decide, by decide⟩ (j := 0) rfl (by omega) (by decide) (b := 18) rfl ?_
  refine me_iconst (p' := 54) k70_53 rfl (v := nI 0) (by decide) ?_
  refine me_bipush (p' := 56) k70_54 rfl (v := nI 8) (by decide) ?_
  refine me_acp (p' := 59) k70_56 rfl (by decide) (by decide) rfl rfl (n := 8) (dp := 0) (sp := 0) rfl rfl rfl (by omega) (by omega) ⟨by decide, by decide⟩ (fun k => rfl) (fun k => rfl) (cl_sum rfl) ?_
  refine me_iinc (p' := 62) k70_59 rfl rfl rfl (v := nI (1)) (by decide) rfl ?_
  refine me_goto k70_62 ?_
  refine me_iload_n (p' := 35) k70_34 rfl rfl ?_
  refine me_bipush (p' := 37) k70_35 rfl (v := nI 7) (by decide) ?_
  refine me_ic_ge (p' := 40) k70_37 rfl (fun h => absurd h (by decide)) (fun _ => ?_)
  refine me_aload_n (p' := 41) k70_40 rfl rfl ?_
  refine me_gfr (p' := 44) k70_41 rfl (by decide) rfl (b := 47) rfl ?_
  refine me_iload_n (p' := 45) k70_44 rfl rfl ?_
  refine me_aald (p' := 46) k70_45 rfl (by decide) rfl ⟨by decide, by decide⟩ (j := 1) rfl (by omega) (by decide) (b := 49) rfl ?_
  refine me_iconst (p' := 47) k70_46 rfl (v := nI 0) (by decide) ?_
  refine me_aload_n (p' := 48) k70_47 rfl rfl ?_
  refine me_gfr (p' := 51) k70_48 rfl (by decide) rfl (b := 17) rfl ?_
  refine me_iload_n (p' := 52) k70_51 rfl rfl ?_
  refine me_aald (p' := 53) k70_52 rfl (by decide) rfl ⟨by decide, by decide⟩ (j := 1) rfl (by omega) (by decide) (b := 19) rfl ?_
  refine me_iconst (p' := 54) k70_53 rfl (v := nI 0) (by decide) ?_
  refine me_bipush (p' := 56) k70_54 rfl (v := nI 8) (by decide) ?_
  refine me_acp (p' := 59) k70_56 rfl (by decide) (by decide) rfl rfl (n := 8) (dp := 0) (sp := 0) rfl rfl rfl (by omega) (by omega) ⟨by decide, by decide⟩ (fun k => rfl) (fun k => rfl) (cl_sum rfl) ?_
  refine me_iinc (p' := 62) k70_59 rfl rfl rfl (v := nI (2)) (by decide) rfl ?_
  refine me_goto k70_62 ?_
  refine me_iload_n (p' := 35) k70_34 rfl rfl ?_
  refine me_bipush (p' := 37) k70_35 rfl (v := nI 7) (by decide) ?_
  refine me_ic_ge (p' := 40) k70_37 rfl (fun h => absurd h (by decide)) (fun _ => ?_)
  refine me_aload_n (p' := 41) k70_40 rfl rfl ?_
  refine me_gfr (p' := 44) k70_41 rfl (by decide) rfl (b := 47) rfl ?_
  refine me_iload_n (p' := 45) k70_44 rfl rfl ?_
  refine me_aald (p' := 46) k70_45 rfl (by decide) rfl ⟨by decide, by decide⟩ (j := 2) rfl (by omega) (by decide) (b := 50) rfl ?_
  refine me_iconst (p' := 47) k70_46 rfl (v := nI 0) (by decide) ?_
  refine me_aload_n (p' := 48) k70_47 rfl rfl ?_
  refine me_gfr (p' := 51) k70_48 rfl (by decide) rfl (b := 17) rfl ?_
  refine me_iload_n (p' := 52) k70_51 rfl rfl ?_
  refine me_aald (p' := 53) k70_52 rfl (by decide) rfl ⟨by decide, by decide⟩ (j := 2) rfl (by omega) (by decide) (b := 20) rfl ?_
  refine me_iconst (p' := 54) k70_53 rfl (v := nI 0) (by decide) ?_
  refine me_bipush (p' := 56) k70_54 rfl (v := nI 8) (by decide) ?_
  refine me_acp (p' := 59) k70_56 rfl (by decide) (by decide) rfl rfl (n := 8) (dp := 0) (sp := 0) rfl rfl rfl (by omega) (by omega) ⟨by decide, by decide⟩ (fun k => rfl) (fun k => rfl) (cl_sum rfl) ?_
  refine me_iinc (p' := 62) k70_59 rfl rfl rfl (v := nI (3)) (by decide) rfl ?_
  refine me_goto k70_62 ?_
  refine me_iload_n (p' := 35) k70_34 rfl rfl ?_
  refine me_bipush (p' := 37) k70_35 rfl (v := nI 7) (by decide) ?_
  refine me_ic_ge (p' := 40) k70_37 rfl (fun h => absurd h (by decide)) (fun _ => ?_)
  refine me_aload_n (p' := 41) k70_40 rfl rfl ?_
  refine me_gfr (p' := 44) k70_41 rfl (by decide) rfl (b := 47) rfl ?_
  refine me_iload_n (p' := 45) k70_44 rfl rfl ?_
  refine me_aald (p' := 46) k70_45 rfl (by decide) rfl ⟨by decide, by decide⟩ (j := 3) rfl (by omega) (by decide) (b := 51) rfl ?_
  refine me_iconst (p' := 47) k70_46 rfl (v := nI 0) (by decide) ?_
  refine me_aload_n (p' := 48) k70_47 rfl rfl ?_
  refine me_gfr (p' := 51) k70_48 rfl (by decide) rfl (b := 17) rfl ?_
  refine me_iload_n (p' := 52) k70_51 rfl rfl ?_
  refine me_aald (p' := 53) k70_52 rfl (by decide) rfl ⟨by decide, by decide⟩ (j := 3) rfl (by omega) (by decide) (b := 21) rfl ?_
  refine me_iconst (p' := 54) k70_53 rfl (v := nI 0) (by decide) ?_
  refine me_bipush (p' := 56) k70_54 rfl (v := nI 8) (by decide) ?_
  refine me_acp (p' := 59) k70_56 rfl (by decide) (by decide) rfl rfl (n := 8) (dp := 0) (sp := 0) rfl rfl rfl (by omega) (by omega) ⟨by decide, by decide⟩ (fun k => rfl) (fun k => rfl) (cl_sum rfl) ?_
  refine me_iinc (p' := 62) k70_59 rfl rfl rfl (v := nI (4)) (by decide) rfl ?_
  refine me_goto k70_62 ?_
  refine me_iload_n (p' := 35) k70_34 rfl rfl ?_
  refine me_bipush (p' := 37) k70_35 rfl (v := nI 7) (by decide) ?_
  refine me_ic_ge (p' := 40) k70_37 rfl (fun h => absurd h (by decide)) (fun _ => ?_)
  refine me_aload_n (p' := 41) k70_40 rfl rfl ?_
  refine me_gfr (p' := 44) k70_41 rfl (by decide) rfl (b := 47) rfl ?_
  refine me_iload_n (p' := 45) k70_44 rfl rfl ?_
  refine me_aald (p' := 46) k70_45 rfl (by decide) rfl ⟨by decide, by decide⟩ (j := 4) rfl (by omega) (by decide) (b := 52) rfl ?_
  refine me_iconst (p' := 47) k70_46 rfl (v := nI 0) (by decide) ?_
  refine me_aload_n (p' := 48) k70_47 rfl rfl ?_
  refine me_gfr (p' := 51) k70_48 rfl (by decide) rfl (b := 17) rfl ?_
  refine me_iload_n (p' := 52) k70_51 rfl rfl ?_
  refine me_aald (p' := 53) k70_52 rfl (by decide) rfl ⟨by decide, by decide⟩ (j := 4) rfl (by omega) (by decide) (b := 22) rfl ?_
  refine me_iconst (p' := 54) k70_53 rfl (v := nI 0) (by decide) ?_
  refine me_bipush (p' := 56) k70_54 rfl (v := nI 8) (by decide) ?_
  refine me_acp (p' := 59) k70_56 rfl (by decide) (by decide) rfl rfl (n := 8) (dp := 0) (sp := 0) rfl rfl rfl (by omega) (by omega) ⟨by decide, by decide⟩ (fun k => rfl) (fun k => rfl) (cl_sum rfl) ?_
  refine me_iinc (p' := 62) k70_59 rfl rfl rfl (v := nI (5)) (by decide) rfl ?_
  refine me_goto k70_62 ?_
  refine me_iload_n (p' := 35) k70_34 rfl rfl ?_
  refine me_bipush (p' := 37) k70_35 rfl (v := nI 7) (by decide) ?_
  refine me_ic_ge (p' := 40) k70_37 rfl (fun h => absurd h (by decide)) (fun _ => ?_)
  refine me_aload_n (p' := 41) k70_40 rfl rfl ?_
  refine me_gfr (p' := 44) k70_41 rfl (by decide) rfl (b := 47) rfl ?_
  refine me_iload_n (p' := 45) k70_44 rfl rfl ?_
  refine me_aald (p' := 46) k70_45 rfl (by decide) rfl ⟨by decide, by decide⟩ (j := 5) rfl (by omega) (by decide) (b := 53) rfl ?_
  refine me_iconst (p' := 47) k70_46 rfl (v := nI 0) (by decide) ?_
  refine me_aload_n (p' := 48) k70_47 rfl rfl ?_
  refine me_gfr (p' := 51) k70_48 rfl (by decide) rfl (b := 17) rfl ?_
  refine me_iload_n (p' := 52) k70_51 rfl rfl ?_
  refine me_aald (p' := 53) k70_52 rfl (by decide) rfl ⟨by decide, by decide⟩ (j := 5) rfl (by omega) (by decide) (b := 23) rfl ?_
  refine me_iconst (p' := 54) k70_53 rfl (v := nI 0) (by decide) ?_
  refine me_bipush (p' := 56) k70_54 rfl (v := nI 8) (by decide) ?_
  refine me_acp (p' := 59) k70_56 rfl (by decide) (by decide) rfl rfl (n := 8) (dp := 0) (sp := 0) rfl rfl rfl (by omega) (by omega) ⟨by decide, by decide⟩ (fun k => rfl) (fun k => rfl) (cl_sum rfl) ?_
  refine me_iinc (p' := 62) k70_59 rfl rfl rfl (v := nI (6)) (by decide) rfl ?_
  refine me_goto k70_62 ?_
  refine me_iload_n (p' := 35) k70_34 rfl rfl ?_
  refine me_bipush (p' := 37) k70_35 rfl (v := nI 7) (by decide) ?_
  refine me_ic_ge (p' := 40) k70_37 rfl (fun h => absurd h (by decide)) (fun _ => ?_)
  refine me_aload_n (p' := 41) k70_40 rfl rfl ?_
  refine me_gfr (p' := 44) k70_41 rfl (by decide) rfl (b := 47) rfl ?_
  refine me_iload_n (p' := 45) k70_44 rfl rfl ?_
  refine me_aald (p' := 46) k70_45 rfl (by decide) rfl ⟨by decide, by decide⟩ (j := 6) rfl (by omega) (by decide) (b := 54) rfl ?_
  refine me_iconst (p' := 47) k70_46 rfl (v := nI 0) (by decide) ?_
  refine me_aload_n (p' := 48) k70_47 rfl rfl ?_
  refine me_gfr (p' := 51) k70_48 rfl (by decide) rfl (b := 17) rfl ?_
  refine me_iload_n (p' := 52) k70_51 rfl rfl ?_
  refine me_aald (p' := 53) k70_52 rfl (by decide) rfl ⟨by decide, by decide⟩ (j := 6) rfl (by omega) (by decide) (b := 24) rfl ?_
  refine me_iconst (p' := 54) k70_53 rfl (v := nI 0) (by decide) ?_
  refine me_bipush (p' := 56) k70_54 rfl (v := nI 8) (by decide) ?_
  refine me_acp (p' := 59) k70_56 rfl (by decide) (by decide) rfl rfl (n := 8) (dp := 0) (sp := 0) rfl rfl rfl (by omega) (by omega) ⟨by decide, by decide⟩ (fun k => rfl) (fun k => rfl) (cl_sum rfl) ?_
  refine me_iinc (p' := 62) k70_59 rfl rfl rfl (v := nI (7)) (by decide) rfl ?_
  refine me_goto k70_62 ?_
  refine me_iload_n (p' := 35) k70_34 rfl rfl ?_
  refine me_bipush (p' := 37) k70_35 rfl (v := nI 7) (by decide) ?_
  refine me_ic_ge (p' := 40) k70_37 rfl (fun _ => ?_) (fun h => absurd (by decide) h)
  refine me_aload_n (p' := 66) k70_65 rfl rfl ?_
  refine me_gfr (p' := 69) k70_66 rfl (by decide) rfl (b := 55) rfl ?_
  refine me_iconst (p' := 70) k70_69 rfl (v := nI 0) (by decide) ?_
  refine me_aload_n (p' := 71) k70_70 rfl rfl ?_
  refine me_gfr (p' := 74) k70_71 rfl (by decide) rfl (b := 25) rfl ?_
  refine me_iconst (p' := 75) k70_74 rfl (v := nI 0) (by decide) ?_
  refine me_iconst (p' := 76) k70_75 rfl (v := nI 3) (by decide) ?_
  refine me_acp (p' := 79) k70_76 rfl (by decide) (by decide) rfl rfl (n := 3) (dp := 0) (sp := 0) rfl rfl rfl (by omega) (by omega) ⟨by decide, by decide⟩ (fun k => rfl) (fun k => rfl) (cl_sum rfl) ?_
  refine me_aload_n (p' := 80) k70_79 rfl rfl ?_
  refine me_aload_n (p' := 81) k70_80 rfl rfl ?_
  refine me_gfi (p' := 84) k70_81 rfl (by decide) rfl rfl ?_
  refine me_pfi (p' := 87) k70_84 rfl (by decide) rfl rfl rfl rfl ?_
  refine me_aload_n (p' := 88) k70_87 rfl rfl ?_
  refine me_aload_n (p' := 89) k70_88 rfl rfl ?_
  refine me_gfi (p' := 92) k70_89 rfl (by decide) rfl rfl ?_
  refine me_pfi (p' := 95) k70_92 rfl (by decide) rfl rfl rfl rfl ?_
  refine me_aload_n (p' := 96) k70_95 rfl rfl ?_
  refine me_aload_n (p' := 97) k70_96 rfl rfl ?_
  refine me_gfi (p' := 100) k70_97 rfl (by decide) rfl rfl ?_
  refine me_pfi (p' := 103) k70_100 rfl (by decide) rfl rfl rfl rfl ?_
  refine me_aload_n (p' := 104) k70_103 rfl rfl ?_
  refine me_aload_n (p' := 105) k70_104 rfl rfl ?_
  refine me_gfi (p' := 108) k70_105 rfl (by decide) rfl rfl ?_
  refine me_pfi (p' := 111) k70_108 rfl (by decide) rfl rfl rfl rfl ?_
  refine me_aload_n (p' := 112) k70_111 rfl rfl ?_
  refine me_aload_n (p' := 113) k70_112 rfl rfl ?_
  refine me_gfi (p' := 116) k70_113 rfl (by decide) rfl rfl ?_
  refine me_pfi (p' := 119) k70_116 rfl (by decide) rfl rfl rfl rfl ?_
  refine me_retv k70_119 rt_70 ?_
  refine hQ (mg_u (mg_u (mg_u (mg_u (mg_u (mg_c (mg_c (mg_c (mg_c (mg_c (mg_c (mg_c (mg_c (mg_c (mg_c (mg_c (mg_c I 43 0 13 0 12) 44 0 14 0 12) 45 0 15 0 12) 46 0 16 0 12) 48 0 18 0 8) 49 0 19 0 8) 50 0 20 0 8) 51 0 21 0 8) 52 0 22 0 8) 53 0 23 0 8) 54 0 24 0 8) 55 0 25 0 3) 11 5 ((mg_c (mg_c (mg_c (mg_c (mg_c (mg_c (mg_c (mg_c (mg_c (mg_c (mg_c (mg_c I 43 0 13 0 12) 44 0 14 0 12) 45 0 15 0 12) 46 0 16 0 12) 48 0 18 0 8) 49 0 19 0 8) 50 0 20 0 8) 51 0 21 0 8) 52 0 22 0 8) 53 0 23 0 8) 54 0 24 0 8) 55 0 25 0 3) 41 5)) 11 6 ((mg_u (mg_c (mg_c (mg_c (mg_c (mg_c (mg_c (mg_c (mg_c (mg_c (mg_c (mg_c (mg_c I 43 0 13 0 12) 44 0 14 0 12) 45 0 15 0 12) 46 0 16 0 12) 48 0 18 0 8) 49 0 19 0 8) 50 0 20 0 8) 51 0 21 0 8) 52 0 22 0 8) 53 0 23 0 8) 54 0 24 0 8) 55 0 25 0 3) 11 5 ((mg_c (mg_c (mg_c (mg_c (mg_c (mg_c (mg_c (mg_c (mg_c (mg_c (mg_c (mg_c I 43 0 13 0 12) 44 0 14 0 12) 45 0 15 0 12) 46 0 16 0 12) 48 0 18 0 8) 49 0 19 0 8) 50 0 20 0 8) 51 0 21 0 8) 52 0 22 0 8) 53 0 23 0 8) 54 0 24 0 8) 55 0 25 0 3) 41 5)) 41 6)) 11 7 ((mg_u (mg_u (mg_c (mg_c (mg_c (mg_c (mg_c (mg_c (mg_c (mg_c (mg_c (mg_c (mg_c (mg_c I 43 0 13 0 12) 44 0 14 0 12) 45 0 15 0 12) 46 0 16 0 12) 48 0 18 0 8) 49 0 19 0 8) 50 0 20 0 8) 51 0 21 0 8) 52 0 22 0 8) 53 0 23 0 8) 54 0 24 0 8) 55 0 25 0 3) 11 5 ((mg_c (mg_c (mg_c (mg_c (mg_c (mg_c (mg_c (mg_c (mg_c (mg_c (mg_c (mg_c I 43 0 13 0 12) 44 0 14 0 12) 45 0 15 0 12) 46 0 16 0 12) 48 0 18 0 8) 49 0 19 0 8) 50 0 20 0 8) 51 0 21 0 8) 52 0 22 0 8) 53 0 23 0 8) 54 0 24 0 8) 55 0 25 0 3) 41 5)) 11 6 ((mg_u (mg_c (mg_c (mg_c (mg_c (mg_c (mg_c (mg_c (mg_c (mg_c (mg_c (mg_c (mg_c I 43 0 13 0 12) 44 0 14 0 12) 45 0 15 0 12) 46 0 16 0 12) 48 0 18 0 8) 49 0 19 0 8) 50 0 20 0 8) 51 0 21 0 8) 52 0 22 0 8) 53 0 23 0 8) 54 0 24 0 8) 55 0 25 0 3) 11 5 ((mg_c (mg_c (mg_c (mg_c (mg_c (mg_c (mg_c (mg_c (mg_c (mg_c (mg_c (mg_c I 43 0 13 0 12) 44 0 14 0 12) 45 0 15 0 12) 46 0 16 0 12) 48 0 18 0 8) 49 0 19 0 8) 50 0 20 0 8) 51 0 21 0 8) 52 0 22 0 8) 53 0 23 0 8) 54 0 24 0 8) 55 0 25 0 3) 41 5)) 41 6)) 41 7)) 11 8 ((mg_u (mg_u (mg_u (mg_c (mg_c (mg_c (mg_c (mg_c (mg_c (mg_c (mg_c (mg_c (mg_c (mg_c (mg_c I 43 0 13 0 12) 44 0 14 0 12) 45 0 15 0 12) 46 0 16 0 12) 48 0 18 0 8) 49 0 19 0 8) 50 0 20 0 8) 51 0 21 0 8) 52 0 22 0 8) 53 0 23 0 8) 54 0 24 0 8) 55 0 25 0 3) 11 5 ((mg_c (mg_c (mg_c (mg_c (mg_c (mg_c (mg_c (mg_c (mg_c (mg_c (mg_c (mg_c I 43 0 13 0 12) 44 0 14 0 12) 45 0 15 0 12) 46 0 16 0 12) 48 0 18 0 8) 49 0 19 0 8) 50 0 20 0 8) 51 0 21 0 8) 52 0 22 0 8) 53 0 23 0 8) 54 0 24 0 8) 55 0 25 0 3) 41 5)) 11 6 ((mg_u (mg_c (mg_c (mg_c (mg_c (mg_c (mg_c (mg_c (mg_c (mg_c (mg_c (mg_c (mg_c I 43 0 13 0 12) 44 0 14 0 12) 45 0 15 0 12) 46 0 16 0 12) 48 0 18 0 8) 49 0 19 0 8) 50 0 20 0 8) 51 0 21 0 8) 52 0 22 0 8) 53 0 23 0 8) 54 0 24 0 8) 55 0 25 0 3) 11 5 ((mg_c (mg_c (mg_c (mg_c (mg_c (mg_c (mg_c (mg_c (mg_c (mg_c (mg_c (mg_c I 43 0 13 0 12) 44 0 14 0 12) 45 0 15 0 12) 46 0 16 0 12) 48 0 18 0 8) 49 0 19 0 8) 50 0 20 0 8) 51 0 21 0 8) 52 0 22 0 8) 53 0 23 0 8) 54 0 24 0 8) 55 0 25 0 3) 41 5)) 41 6)) 11 7 ((mg_u (mg_u (mg_c (mg_c (mg_c (mg_c (mg_c (mg_c (mg_c (mg_c (mg_c (mg_c (mg_c (mg_c I 43 0 13 0 12) 44 0 14 0 12) 45 0 15 0 12) 46 0 16 0 12) 48 0 18 0 8) 49 0 19 0 8) 50 0 20 0 8) 51 0 21 0 8) 52 0 22 0 8) 53 0 23 0 8) 54 0 24 0 8) 55 0 25 0 3) 11 5 ((mg_c (mg_c (mg_c (mg_c (mg_c (mg_c (mg_c (mg_c (mg_c (mg_c (mg_c (mg_c I 43 0 13 0 12) 44 0 14 0 12) 45 0 15 0 12) 46 0 16 0 12) 48 0 18 0 8) 49 0 19 0 8) 50 0 20 0 8) 51 0 21 0 8) 52 0 22 0 8) 53 0 23 0 8) 54 0 24 0 8) 55 0 25 0 3) 41 5)) 11 6 ((mg_u (mg_c (mg_c (mg_c (mg_c (mg_c (mg_c (mg_c (mg_c (mg_c (mg_c (mg_c (mg_c I 43 0 13 0 12) 44 0 14 0 12) 45 0 15 0 12) 46 0 16 0 12) 48 0 18 0 8) 49 0 19 0 8) 50 0 20 0 8) 51 0 21 0 8) 52 0 22 0 8) 53 0 23 0 8) 54 0 24 0 8) 55 0 25 0 3) 11 5 ((mg_c (mg_c (mg_c (mg_c (mg_c (mg_c (mg_c (mg_c (mg_c (mg_c (mg_c (mg_c I 43 0 13 0 12) 44 0 14 0 12) 45 0 15 0 12) 46 0 16 0 12) 48 0 18 0 8) 49 0 19 0 8) 50 0 20 0 8) 51 0 21 0 8) 52 0 22 0 8) 53 0 23 0 8) 54 0 24 0 8) 55 0 25 0 3) 41 5)) 41 6)) 41 7)) 41 8)) 11 9 ((mg_u (mg_u (mg_u (mg_u (mg_c (mg_c (mg_c (mg_c (mg_c (mg_c (mg_c (mg_c (mg_c (mg_c (mg_c (mg_c I 43 0 13 0 12) 44 0 14 0 12) 45 0 15 0 12) 46 0 16 0 12) 48 0 18 0 8) 49 0 19 0 8) 50 0 20 0 8) 51 0 21 0 8) 52 0 22 0 8) 53 0 23 0 8) 54 0 24 0 8) 55 0 25 0 3) 11 5 ((mg_c (mg_c (mg_c (mg_c (mg_c (mg_c (mg_c (mg_c (mg_c (mg_c (mg_c (mg_c I 43 0 13 0 12) 44 0 14 0 12) 45 0 15 0 12) 46 0 16 0 12) 48 0 18 0 8) 49 0 19 0 8) 50 0 20 0 8) 51 0 21 0 8) 52 0 22 0 8) 53 0 23 0 8) 54 0 24 0 8) 55 0 25 0 3) 41 5)) 11 6 ((mg_u (mg_c (mg_c (mg_c (mg_c (mg_c (mg_c (mg_c (mg_c (mg_c (mg_c (mg_c (mg_c I 43 0 13 0 12) 44 0 14 0 12) 45 0 15 0 12) 46 0 16 0 12) 48 0 18 0 8) 49 0 19 0 8) 50 0 20 0 8) 51 0 21 0 8) 52 0 22 0 8) 53 0 23 0 8) 54 0 24 0 8) 55 0 25 0 3) 11 5 ((mg_c (mg_c (mg_c (mg_c (mg_c (mg_c (mg_c (mg_c (mg_c (mg_c (mg_c (mg_c I 43 0 13 0 12) 44 0 14 0 12) 45 0 15 0 12) 46 0 16 0 12) 48 0 18 0 8) 49 0 19 0 8) 50 0 20 0 8) 51 0 21 0 8) 52 0 22 0 8) 53 0 23 0 8) 54 0 24 0 8) 55 0 25 0 3) 41 5)) 41 6)) 11 7 ((mg_u (mg_u (mg_c (mg_c (mg_c (mg_c (mg_c (mg_c (mg_c (mg_c (mg_c (mg_c (mg_c (mg_c I 43 0 13 0 12) 44 0 14 0 12) 45 0 15 0 12) 46 0 16 0 12) 48 0 18 0 8) 49 0 19 0 8) 50 0 20 0 8) 51 0 21 0 8) 52 0 22 0 8) 53 0 23 0 8) 54 0 24 0 8) 55 0 25 0 3) 11 5 ((mg_c (mg_c (mg_c (mg_c (mg_c (mg_c (mg_c (mg_c (mg_c (mg_c (mg_c (mg_c I 43 0 13 0 12) 44 0 14 0 12) 45 0 15 0 12) 46 0 16 0 12) 48 0 18 0 8) 49 0 19 0 8) 50 0 20 0 8) 51 0 21 0 8) 52 0 22 0 8) 53 0 23 0 8) 54 0 24 0 8) 55 0 25 0 3) 41 5)) 11 6 ((mg_u (mg_c (mg_c (mg_c (mg_c (mg_c (mg_c (mg_c (mg_c (mg_c (mg_c (mg_c (mg_c I 43 0 13 0 12) 44 0 14 0 12) 45 0 15 0 12) 46 0 16 0 12) 48 0 18 0 8) 49 0 19 0 8) 50 0 20 0 8) 51 0 21 0 8) 52 0 22 0 8) 53 0 23 0 8) 54 0 24 0 8) 55 0 25 0 3) 11 5 ((mg_c (mg_c (mg_c (mg_c (mg_c (mg_c (mg_c (mg_c (mg_c (mg_c (mg_c (mg_c I 43 0 13 0 12) 44 0 14 0 12) 45 0 15 0 12) 46 0 16 0 12) 48 0 18 0 8) 49 0 19 0 8) 50 0 20 0 8) 51 0 21 0 8) 52 0 22 0 8) 53 0 23 0 8) 54 0 24 0 8) 55 0 25 0 3) 41 5)) 41 6)) 41 7)) 11 8 ((mg_u (mg_u (mg_u (mg_c (mg_c (mg_c (mg_c (mg_c (mg_c (mg_c (mg_c (mg_c (mg_c (mg_c (mg_c I 43 0 13 0 12) 44 0 14 0 12) 45 0 15 0 12) 46 0 16 0 12) 48 0 18 0 8) 49 0 19 0 8) 50 0 20 0 8) 51 0 21 0 8) 52 0 22 0 8) 53 0 23 0 8) 54 0 24 0 8) 55 0 25 0 3) 11 5 ((mg_c (mg_c (mg_c (mg_c (mg_c (mg_c (mg_c (mg_c (mg_c (mg_c (mg_c (mg_c I 43 0 13 0 12) 44 0 14 0 12) 45 0 15 0 12) 46 0 16 0 12) 48 0 18 0 8) 49 0 19 0 8) 50 0 20 0 8) 51 0 21 0 8) 52 0 22 0 8) 53 0 23 0 8) 54 0 24 0 8) 55 0 25 0 3) 41 5)) 11 6 ((mg_u (mg_c (mg_c (mg_c (mg_c (mg_c (mg_c (mg_c (mg_c (mg_c (mg_c (mg_c (mg_c I 43 0 13 0 12) 44 0 14 0 12) 45 0 15 0 12) 46 0 16 0 12) 48 0 18 0 8) 49 0 19 0 8) 50 0 20 0 8) 51 0 21 0 8) 52 0 22 0 8) 53 0 23 0 8) 54 0 24 0 8) 55 0 25 0 3) 11 5 ((mg_c (mg_c (mg_c (mg_c (mg_c (mg_c (mg_c (mg_c (mg_c (mg_c (mg_c (mg_c I 43 0 13 0 12) 44 0 14 0 12) 45 0 15 0 12) 46 0 16 0 12) 48 0 18 0 8) 49 0 19 0 8) 50 0 20 0 8) 51 0 21 0 8) 52 0 22 0 8) 53 0 23 0 8) 54 0 24 0 8) 55 0 25 0 3) 41 5)) 41 6)) 11 7 ((mg_u (mg_u (mg_c (mg_c (mg_c (mg_c (mg_c (mg_c (mg_c (mg_c (mg_c (mg_c (mg_c (mg_c I 43 0 13 0 12) 44 0 14 0 12) 45 0 15 0 12) 46 0 16 0 12) 48 0 18 0 8) 49 0 19 0 8) 50 0 20 0 8) 51 0 21 0 8) 52 0 22 0 8) 53 0 23 0 8) 54 0 24 0 8) 55 0 25 0 3) 11 5 ((mg_c (mg_c (mg_c (mg_c (mg_c (mg_c (mg_c (mg_c (mg_c (mg_c (mg_c (mg_c I 43 0 13 0 12) 44 0 14 0 12) 45 0 15 0 12) 46 0 16 0 12) 48 0 18 0 8) 49 0 19 0 8) 50 0 20 0 8) 51 0 21 0 8) 52 0 22 0 8) 53 0 23 0 8) 54 0 24 0 8) 55 0 25 0 3) 41 5)) 11 6 ((mg_u (mg_c (mg_c (mg_c (mg_c (mg_c (mg_c (mg_c (mg_c (mg_c (mg_c (mg_c (mg_c I 43 0 13 0 12) 44 0 14 0 12) 45 0 15 0 12) 46 0 16 0 12) 48 0 18 0 8) 49 0 19 0 8) 50 0 20 0 8) 51 0 21 0 8) 52 0 22 0 8) 53 0 23 0 8) 54 0 24 0 8) 55 0 25 0 3) 11 5 ((mg_c (mg_c (mg_c (mg_c (mg_c (mg_c (mg_c (mg_c (mg_c (mg_c (mg_c (mg_c I 43 0 13 0 12) 44 0 14 0 12) 45 0 15 0 12) 46 0 16 0 12) 48 0 18 0 8) 49 0 19 0 8) 50 0 20 0 8) 51 0 21 0 8) 52 0 22 0 8) 53 0 23 0 8) 54 0 24 0 8) 55 0 25 0 3) 41 5)) 41 6)) 41 7)) 41 8)) 41 9)) (((((((((((((((((mFr.cp (by decide)).tr (mFr.cp (by decide))).tr (mFr.cp (by decide))).tr (mFr.cp (by decide))).tr (mFr.cp (by decide))).tr (mFr.cp (by decide))).tr (mFr.cp (by decide))).tr (mFr.cp (by decide))).tr (mFr.cp (by decide))).tr (mFr.cp (by decide))).tr (mFr.cp (by decide))).tr (mFr.cp (by decide))).tr (mFr.up (by decide))).tr (mFr.up (by decide))).tr (mFr.up (by decide))).tr (mFr.up (by decide))).tr (mFr.up (by decide))) ?_ ?_
  · intro k hk
    refine sg_all (P := fun k => k < 109 → mSg 11 b (mg_u (mg_u (mg_u (mg_u (mg_u (mg_c (mg_c (mg_c (mg_c (mg_c (mg_c (mg_c (mg_c (mg_c (mg_c (mg_c (mg_c I 43 0 13 0 12) 44 0 14 0 12) 45 0 15 0 12) 46 0 16 0 12) 48 0 18 0 8) 49 0 19 0 8) 50 0 20 0 8) 51 0 21 0 8) 52 0 22 0 8) 53 0 23 0 8) 54 0 24 0 8) 55 0 25 0 3) 11 5 ((mg_c (mg_c (mg_c (mg_c (mg_c (mg_c (mg_c (mg_c (mg_c (mg_c (mg_c (mg_c I 43 0 13 0 12) 44 0 14 0 12) 45 0 15 0 12) 46 0 16 0 12) 48 0 18 0 8) 49 0 19 0 8) 50 0 20 0 8) 51 0 21 0 8) 52 0 22 0 8) 53 0 23 0 8) 54 0 24 0 8) 55 0 25 0 3) 41 5)) 11 6 ((mg_u (mg_c (mg_c (mg_c (mg_c (mg_c (mg_c (mg_c (mg_c (mg_c (mg_c (mg_c (mg_c I 43 0 13 0 12) 44 0 14 0 12) 45 0 15 0 12) 46 0 16 0 12) 48 0 18 0 8) 49 0 19 0 8) 50 0 20 0 8) 51 0 21 0 8) 52 0 22 0 8) 53 0 23 0 8) 54 0 24 0 8) 55 0 25 0 3) 11 5 ((mg_c (mg_c (mg_c (mg_c (mg_c (mg_c (mg_c (mg_c (mg_c (mg_c (mg_c (mg_c I 43 0 13 0 12) 44 0 14 0 12) 45 0 15 0 12) 46 0 16 0 12) 48 0 18 0 8) 49 0 19 0 8) 50 0 20 0 8) 51 0 21 0 8) 52 0 22 0 8) 53 0 23 0 8) 54 0 24 0 8) 55 0 25 0 3) 41 5)) 41 6)) 11 7 ((mg_u (mg_u (mg_c (mg_c (mg_c (mg_c (mg_c (mg_c (mg_c (mg_c (mg_c (mg_c (mg_c (mg_c I 43 0 13 0 12) 44 0 14 0 12) 45 0 15 0 12) 46 0 16 0 12) 48 0 18 0 8) 49 0 19 0 8) 50 0 20 0 8) 51 0 21 0 8) 52 0 22 0 8) 53 0 23 0 8) 54 0 24 0 8) 55 0 25 0 3) 11 5 ((mg_c (mg_c (mg_c (mg_c (mg_c (mg_c (mg_c (mg_c (mg_c (mg_c (mg_c (mg_c I 43 0 13 0 12) 44 0 14 0 12) 45 0 15 0 12) 46 0 16 0 12) 48 0 18 0 8) 49 0 19 0 8) 50 0 20 0 8) 51 0 21 0 8) 52 0 22 0 8) 53 0 23 0 8) 54 0 24 0 8) 55 0 25 0 3) 41 5)) 11 6 ((mg_u (mg_c (mg_c (mg_c (mg_c (mg_c (mg_c (mg_c (mg_c (mg_c (mg_c (mg_c (mg_c I 43 0 13 0 12) 44 0 14 0 12) 45 0 15 0 12) 46 0 16 0 12) 48 0 18 0 8) 49 0 19 0 8) 50 0 20 0 8) 51 0 21 0 8) 52 0 22 0 8) 53 0 23 0 8) 54 0 24 0 8) 55 0 25 0 3) 11 5 ((mg_c (mg_c (mg_c (mg_c (mg_c (mg_c (mg_c (mg_c (mg_c (mg_c (mg_c (mg_c I 43 0 13 0 12) 44 0 14 0 12) 45 0 15 0 12) 46 0 16 0 12) 48 0 18 0 8) 49 0 19 0 8) 50 0 20 0 8) 51 0 21 0 8) 52 0 22 0 8) 53 0 23 0 8) 54 0 24 0 8) 55 0 25 0 3) 41 5)) 41 6)) 41 7)) 11 8 ((mg_u (mg_u (mg_u (mg_c (mg_c (mg_c (mg_c (mg_c (mg_c (mg_c (mg_c (mg_c (mg_c (mg_c (mg_c I 43 0 13 0 12) 44 0 14 0 12) 45 0 15 0 12) 46 0 16 0 12) 48 0 18 0 8) 49 0 19 0 8) 50 0 20 0 8) 51 0 21 0 8) 52 0 22 0 8) 53 0 23 0 8) 54 0 24 0 8) 55 0 25 0 3) 11 5 ((mg_c (mg_c (mg_c (mg_c (mg_c (mg_c (mg_c (mg_c (mg_c (mg_c (mg_c (mg_c I 43 0 13 0 12) 44 0 14 0 12) 45 0 15 0 12) 46 0 16 0 12) 48 0 18 0 8) 49 0 19 0 8) 50 0 20 0 8) 51 0 21 0 8) 52 0 22 0 8) 53 0 23 0 8) 54 0 24 0 8) 55 0 25 0 3) 41 5)) 11 6 ((mg_u (mg_c (mg_c (mg_c (mg_c (mg_c (mg_c (mg_c (mg_c (mg_c (mg_c (mg_c (mg_c I 43 0 13 0 12) 44 0 14 0 12) 45 0 15 0 12) 46 0 16 0 12) 48 0 18 0 8) 49 0 19 0 8) 50 0 20 0 8) 51 0 21 0 8) 52 0 22 0 8) 53 0 23 0 8) 54 0 24 0 8) 55 0 25 0 3) 11 5 ((mg_c (mg_c (mg_c (mg_c (mg_c (mg_c (mg_c (mg_c (mg_c (mg_c (mg_c (mg_c I 43 0 13 0 12) 44 0 14 0 12) 45 0 15 0 12) 46 0 16 0 12) 48 0 18 0 8) 49 0 19 0 8) 50 0 20 0 8) 51 0 21 0 8) 52 0 22 0 8) 53 0 23 0 8) 54 0 24 0 8) 55 0 25 0 3) 41 5)) 41 6)) 11 7 ((mg_u (mg_u (mg_c (mg_c (mg_c (mg_c (mg_c (mg_c (mg_c (mg_c (mg_c (mg_c (mg_c (mg_c I 43 0 13 0 12) 44 0 14 0 12) 45 0 15 0 12) 46 0 16 0 12) 48 0 18 0 8) 49 0 19 0 8) 50 0 20 0 8) 51 0 21 0 8) 52 0 22 0 8) 53 0 23 0 8) 54 0 24 0 8) 55 0 25 0 3) 11 5 ((mg_c (mg_c (mg_c (mg_c (mg_c (mg_c (mg_c (mg_c (mg_c (mg_c (mg_c (mg_c I 43 0 13 0 12) 44 0 14 0 12) 45 0 15 0 12) 46 0 16 0 12) 48 0 18 0 8) 49 0 19 0 8) 50 0 20 0 8) 51 0 21 0 8) 52 0 22 0 8) 53 0 23 0 8) 54 0 24 0 8) 55 0 25 0 3) 41 5)) 11 6 ((mg_u (mg_c (mg_c (mg_c (mg_c (mg_c (mg_c (mg_c (mg_c (mg_c (mg_c (mg_c (mg_c I 43 0 13 0 12) 44 0 14 0 12) 45 0 15 0 12) 46 0 16 0 12) 48 0 18 0 8) 49 0 19 0 8) 50 0 20 0 8) 51 0 21 0 8) 52 0 22 0 8) 53 0 23 0 8) 54 0 24 0 8) 55 0 25 0 3) 11 5 ((mg_c (mg_c (mg_c (mg_c (mg_c (mg_c (mg_c (mg_c (mg_c (mg_c (mg_c (mg_c I 43 0 13 0 12) 44 0 14 0 12) 45 0 15 0 12) 46 0 16 0 12) 48 0 18 0 8) 49 0 19 0 8) 50 0 20 0 8) 51 0 21 0 8) 52 0 22 0 8) 53 0 23 0 8) 54 0 24 0 8) 55 0 25 0 3) 41 5)) 41 6)) 41 7)) 41 8)) 11 9 ((mg_u (mg_u (mg_u (mg_u (mg_c (mg_c (mg_c (mg_c (mg_c (mg_c (mg_c (mg_c (mg_c (mg_c (mg_c (mg_c I 43 0 13 0 12) 44 0 14 0 12) 45 0 15 0 12) 46 0 16 0 12) 48 0 18 0 8) 49 0 19 0 8) 50 0 20 0 8) 51 0 21 0 8) 52 0 22 0 8) 53 0 23 0 8) 54 0 24 0 8) 55 0 25 0 3) 11 5 ((mg_c (mg_c (mg_c (mg_c (mg_c (mg_c (mg_c (mg_c (mg_c (mg_c (mg_c (mg_c I 43 0 13 0 12) 44 0 14 0 12) 45 0 15 0 12) 46 0 16 0 12) 48 0 18 0 8) 49 0 19 0 8) 50 0 20 0 8) 51 0 21 0 8) 52 0 22 0 8) 53 0 23 0 8) 54 0 24 0 8) 55 0 25 0 3) 41 5)) 11 6 ((mg_u (mg_c (mg_c (mg_c (mg_c (mg_c (mg_c (mg_c (mg_c (mg_c (mg_c (mg_c (mg_c I 43 0 13 0 12) 44 0 14 0 12) 45 0 15 0 12) 46 0 16 0 12) 48 0 18 0 8) 49 0 19 0 8) 50 0 20 0 8) 51 0 21 0 8) 52 0 22 0 8) 53 0 23 0 8) 54 0 24 0 8) 55 0 25 0 3) 11 5 ((mg_c (mg_c (mg_c (mg_c (mg_c (mg_c (mg_c (mg_c (mg_c (mg_c (mg_c (mg_c I 43 0 13 0 12) 44 0 14 0 12) 45 0 15 0 12) 46 0 16 0 12) 48 0 18 0 8) 49 0 19 0 8) 50 0 20 0 8) 51 0 21 0 8) 52 0 22 0 8) 53 0 23 0 8) 54 0 24 0 8) 55 0 25 0 3) 41 5)) 41 6)) 11 7 ((mg_u (mg_u (mg_c (mg_c (mg_c (mg_c (mg_c (mg_c (mg_c (mg_c (mg_c (mg_c (mg_c (mg_c I 43 0 13 0 12) 44 0 14 0 12) 45 0 15 0 12) 46 0 16 0 12) 48 0 18 0 8) 49 0 19 0 8) 50 0 20 0 8) 51 0 21 0 8) 52 0 22 0 8) 53 0 23 0 8) 54 0 24 0 8) 55 0 25 0 3) 11 5 ((mg_c (mg_c (mg_c (mg_c (mg_c (mg_c (mg_c (mg_c (mg_c (mg_c (mg_c (mg_c I 43 0 13 0 12) 44 0 14 0 12) 45 0 15 0 12) 46 0 16 0 12) 48 0 18 0 8) 49 0 19 0 8) 50 0 20 0 8) 51 0 21 0 8) 52 0 22 0 8) 53 0 23 0 8) 54 0 24 0 8) 55 0 25 0 3) 41 5)) 11 6 ((mg_u (mg_c (mg_c (mg_c (mg_c (mg_c (mg_c (mg_c (mg_c (mg_c (mg_c (mg_c (mg_c I 43 0 13 0 12) 44 0 14 0 12) 45 0 15 0 12) 46 0 16 0 12) 48 0 18 0 8) 49 0 19 0 8) 50 0 20 0 8) 51 0 21 0 8) 52 0 22 0 8) 53 0 23 0 8) 54 0 24 0 8) 55 0 25 0 3) 11 5 ((mg_c (mg_c (mg_c (mg_c (mg_c (mg_c (mg_c (mg_c (mg_c (mg_c (mg_c (mg_c I 43 0 13 0 12) 44 0 14 0 12) 45 0 15 0 12) 46 0 16 0 12) 48 0 18 0 8) 49 0 19 0 8) 50 0 20 0 8) 51 0 21 0 8) 52 0 22 0 8) 53 0 23 0 8) 54 0 24 0 8) 55 0 25 0 3) 41 5)) 41 6)) 41 7)) 11 8 ((mg_u (mg_u (mg_u (mg_c (mg_c (mg_c (mg_c (mg_c (mg_c (mg_c (mg_c (mg_c (mg_c (mg_c (mg_c I 43 0 13 0 12) 44 0 14 0 12) 45 0 15 0 12) 46 0 16 0 12) 48 0 18 0 8) 49 0 19 0 8) 50 0 20 0 8) 51 0 21 0 8) 52 0 22 0 8) 53 0 23 0 8) 54 0 24 0 8) 55 0 25 0 3) 11 5 ((mg_c (mg_c (mg_c (mg_c (mg_c (mg_c (mg_c (mg_c (mg_c (mg_c (mg_c (mg_c I 43 0 13 0 12) 44 0 14 0 12) 45 0 15 0 12) 46 0 16 0 12) 48 0 18 0 8) 49 0 19 0 8) 50 0 20 0 8) 51 0 21 0 8) 52 0 22 0 8) 53 0 23 0 8) 54 0 24 0 8) 55 0 25 0 3) 41 5)) 11 6 ((mg_u (mg_c (mg_c (mg_c (mg_c (mg_c (mg_c (mg_c (mg_c (mg_c (mg_c (mg_c (mg_c I 43 0 13 0 12) 44 0 14 0 12) 45 0 15 0 12) 46 0 16 0 12) 48 0 18 0 8) 49 0 19 0 8) 50 0 20 0 8) 51 0 21 0 8) 52 0 22 0 8) 53 0 23 0 8) 54 0 24 0 8) 55 0 25 0 3) 11 5 ((mg_c (mg_c (mg_c (mg_c (mg_c (mg_c (mg_c (mg_c (mg_c (mg_c (mg_c (mg_c I 43 0 13 0 12) 44 0 14 0 12) 45 0 15 0 12) 46 0 16 0 12) 48 0 18 0 8) 49 0 19 0 8) 50 0 20 0 8) 51 0 21 0 8) 52 0 22 0 8) 53 0 23 0 8) 54 0 24 0 8) 55 0 25 0 3) 41 5)) 41 6)) 11 7 ((mg_u (mg_u (mg_c (mg_c (mg_c (mg_c (mg_c (mg_c (mg_c (mg_c (mg_c (mg_c (mg_c (mg_c I 43 0 13 0 12) 44 0 14 0 12) 45 0 15 0 12) 46 0 16 0 12) 48 0 18 0 8) 49 0 19 0 8) 50 0 20 0 8) 51 0 21 0 8) 52 0 22 0 8) 53 0 23 0 8) 54 0 24 0 8) 55 0 25 0 3) 11 5 ((mg_c (mg_c (mg_c (mg_c (mg_c (mg_c (mg_c (mg_c (mg_c (mg_c (mg_c (mg_c I 43 0 13 0 12) 44 0 14 0 12) 45 0 15 0 12) 46 0 16 0 12) 48 0 18 0 8) 49 0 19 0 8) 50 0 20 0 8) 51 0 21 0 8) 52 0 22 0 8) 53 0 23 0 8) 54 0 24 0 8) 55 0 25 0 3) 41 5)) 11 6 ((mg_u (mg_c (mg_c (mg_c (mg_c (mg_c (mg_c (mg_c (mg_c (mg_c (mg_c (mg_c (mg_c I 43 0 13 0 12) 44 0 14 0 12) 45 0 15 0 12) 46 0 16 0 12) 48 0 18 0 8) 49 0 19 0 8) 50 0 20 0 8) 51 0 21 0 8) 52 0 22 0 8) 53 0 23 0 8) 54 0 24 0 8) 55 0 25 0 3) 11 5 ((mg_c (mg_c (mg_c (mg_c (mg_c (mg_c (mg_c (mg_c (mg_c (mg_c (mg_c (mg_c I 43 0 13 0 12) 44 0 14 0 12) 45 0 15 0 12) 46 0 16 0 12) 48 0 18 0 8) 49 0 19 0 8) 50 0 20 0 8) 51 0 21 0 8) 52 0 22 0 8) 53 0 23 0 8) 54 0 24 0 8) 55 0 25 0 3) 41 5)) 41 6)) 41 7)) 41 8)) 41 9)) k = mSg 41 b' I k) ?_ ?_ ?_ ?_ ?_ ?_ ?_ ?_ k hk
    · intro _; simp [mSg, mg_u, mg_c]
    · intro _; simp [mSg, mg_u, mg_c]
    · intro _; simp [mSg, mg_u, mg_c]
    · intro _; simp [mSg, mg_u, mg_c]
    · intro _; simp [mSg, mg_u, mg_c]
    · intro j p hj hp _
      rw [sg_part hj hp, sg_part hj hp]
      rcases (show j = 0 ∨ j = 1 ∨ j = 2 ∨ j = 3 by omega) with rfl | rfl | rfl | rfl <;> simp [mg_u, mg_c, hp]
    · intro w c hw hc _
      rw [sg_car hw hc, sg_car hw hc]
      rcases (show w = 0 ∨ w = 1 ∨ w = 2 ∨ w = 3 ∨ w = 4 ∨ w = 5 ∨ w = 6 by omega) with rfl | rfl | rfl | rfl | rfl | rfl | rfl <;> simp [mg_u, mg_c, hc]
    · intro k h1 h2; omega
  · intro k hk
    rcases (show k = 0 ∨ k = 1 ∨ k = 2 by omega) with rfl | rfl | rfl <;> simp [mg_u, mg_c]
theorem ct_changeScares {d L : Nat} {xs : Nat → Int32} {I : Nat → Nat → Int32} {Q : Option Value → mj_H → Prop} {p o : Nat} (hp : p < 12) (ho : o < 12) (hQ : ∀ I2, mFr (mRg 26) I I2 → mSg 26 128 I2 = sp_swap (mSg 26 128 I) p o → Q none (mg_h L xs I2)) : mj_Cl d 76 [.ref 26, .int (nI p), .int (nI o)] (mg_h L xs I) Q := by
  refine cl_start mx_76 (ls := [.ref 26, .int (nI p), .int (nI o), mj_no, mj_no]) rfl ?_
  refine me_iconst (p' := 1) k76_0 rfl (v := nI 2) (by decide) ?_
  refine me_istore_n (p' := 2) k76_1 rfl ⟨Nat.le_of_ble_eq_true rfl, rfl⟩ rfl ?_
  refine me_iload_n (p' := 3) k76_2 rfl rfl ?_
  refine me_iconst (p' := 4) k76_3 rfl (v := nI 3) (by decide) ?_
  refine me_ic_gt (p' := 7) k76_4 rfl (fun h => absurd h (by decide)) (fun _ => ?_)
  refine me_aload_n (p' := 8) k76_7 rfl rfl ?_
  refine me_gfr (p' := 11) k76_8 rfl (by decide) rfl (b := 27) rfl ?_
  refine me_iload_n (p' := 12) k76_11 rfl rfl ?_
  refine me_aald (p' := 13) k76_12 rfl (by decide) rfl ⟨by decide, by decide⟩ (j := 2) rfl (by omega) (by decide) (b := 30) rfl ?_
  refine me_iload_n (p' := 14) k76_13 rfl rfl ?_
  refine me_iald (p' := 15) k76_14 rfl (by decide) rfl (j := p) rfl (by omega) (by decide) rfl ?_
  rw [sgR26p2 (I := I) (c := p) (by omega)]
  refine me_istore (p' := 17) k76_15 rfl ⟨Nat.le_of_ble_eq_true rfl, rfl⟩ rfl ?_
  refine me_aload_n (p' := 18) k76_17 rfl rfl ?_
  refine me_gfr (p' := 21) k76_18 rfl (by decide) rfl (b := 27) rfl ?_
  refine me_iload_n (p' := 22) k76_21 rfl rfl ?_
  refine me_aald (p' := 23) k76_22 rfl (by decide) rfl ⟨by decide, by decide⟩ (j := 2) rfl (by omega) (by decide) (b := 30) rfl ?_
  refine me_iload_n (p' := 24) k76_23 rfl rfl ?_
  refine me_aload_n (p' := 25) k76_24 rfl rfl ?_
  refine me_gfr (p' := 28) k76_25 rfl (by decide) rfl (b := 27) rfl ?_
  refine me_iload_n (p' := 29) k76_28 rfl rfl ?_
  refine me_aald (p' := 30) k76_29 rfl (by decide) rfl ⟨by decide, by decide⟩ (j := 2) rfl (by omega) (by decide) (b := 30) rfl ?_
  refine me_iload_n (p' := 31) k76_30 rfl rfl ?_
  refine me_iald (p' := 32) k76_31 rfl (by decide) rfl (j := o) rfl (by omega) (by decide) rfl ?_
  rw [sgR26p2 (I := I) (c := o) (by omega)]
  refine me_iast (p' := 33) k76_32 rfl (by decide) rfl (j := p) rfl (by omega) (by decide) rfl ?_
  refine me_aload_n (p' := 34) k76_33 rfl rfl ?_
  refine me_gfr (p' := 37) k76_34 rfl (by decide) rfl (b := 27) rfl ?_
  refine me_iload_n (p' := 38) k76_37 rfl rfl ?_
  refine me_aald (p' := 39) k76_38 rfl (by decide) rfl ⟨by decide, by decide⟩ (j := 2) rfl (by omega) (by decide) (b := 30) rfl ?_
  refine me_iload_n (p' := 40) k76_39 rfl rfl ?_
  refine me_iload (p' := 42) k76_40 rfl rfl ?_
  refine me_iast (p' := 43) k76_42 rfl (by decide) rfl (j := o) rfl (by omega) (by decide) rfl ?_
  refine me_iinc (p' := 46) k76_43 rfl rfl rfl (v := nI (3)) (by decide) rfl ?_
  refine me_goto k76_46 ?_
  refine me_iload_n (p' := 3) k76_2 rfl rfl ?_
  refine me_iconst (p' := 4) k76_3 rfl (v := nI 3) (by decide) ?_
  refine me_ic_gt (p' := 7) k76_4 rfl (fun h => absurd h (by decide)) (fun _ => ?_)
  refine me_aload_n (p' := 8) k76_7 rfl rfl ?_
  refine me_gfr (p' := 11) k76_8 rfl (by decide) rfl (b := 27) rfl ?_
  refine me_iload_n (p' := 12) k76_11 rfl rfl ?_
  refine me_aald (p' := 13) k76_12 rfl (by decide) rfl ⟨by decide, by decide⟩ (j := 3) rfl (by omega) (by decide) (b := 31) rfl ?_
  refine me_iload_n (p' := 14) k76_13 rfl rfl ?_
  refine me_iald (p' := 15) k76_14 rfl (by decide) rfl (j := p) rfl (by omega) (by decide) rfl ?_
  rw [mg_une (by omega), mg_une (by omega)]
  rw [sgR26p3 (I := I) (c := p) (by omega)]
  refine me_istore (p' := 17) k76_15 rfl ⟨Nat.le_of_ble_eq_true rfl, rfl⟩ rfl ?_
  refine me_aload_n (p' := 18) k76_17 rfl rfl ?_
  refine me_gfr (p' := 21) k76_18 rfl (by decide) rfl (b := 27) rfl ?_
  refine me_iload_n (p' := 22) k76_21 rfl rfl ?_
  refine me_aald (p' := 23) k76_22 rfl (by decide) rfl ⟨by decide, by decide⟩ (j := 3) rfl (by omega) (by decide) (b := 31) rfl ?_
  refine me_iload_n (p' := 24) k76_23 rfl rfl ?_
  refine me_aload_n (p' := 25) k76_24 rfl rfl ?_
  refine me_gfr (p' := 28) k76_25 rfl (by decide) rfl (b := 27) rfl ?_
  refine me_iload_n (p' := 29) k76_28 rfl rfl ?_
  refine me_aald (p' := 30) k76_29 rfl (by decide) rfl ⟨by decide, by decide⟩ (j := 3) rfl (by omega) (by decide) (b := 31) rfl ?_
  refine me_iload_n (p' := 31) k76_30 rfl rfl ?_
  refine me_iald (p' := 32) k76_31 rfl (by decide) rfl (j := o) rfl (by omega) (by decide) rfl ?_
  rw [mg_une (by omega), mg_une (by omega)]
  rw [sgR26p3 (I := I) (c := o) (by omega)]
  refine me_iast (p' := 33) k76_32 rfl (by decide) rfl (j := p) rfl (by omega) (by decide) rfl ?_
  refine me_aload_n (p' := 34) k76_33 rfl rfl ?_
  refine me_gfr (p' := 37) k76_34 rfl (by decide) rfl (b := 27) rfl ?_
  refine me_iload_n (p' := 38) k76_37 rfl rfl ?_
  refine me_aald (p' := 39) k76_38 rfl (by decide) rfl ⟨by decide, by decide⟩ (j := 3) rfl (by omega) (by decide) (b := 31) rfl ?_
  refine me_iload_n (p' := 40) k76_39 rfl rfl ?_
  refine me_iload (p' := 42) k76_40 rfl rfl ?_
  refine me_iast (p' := 43) k76_42 rfl (by decide) rfl (j := o) rfl (by omega) (by decide) rfl ?_
  refine me_iinc (p' := 46) k76_43 rfl rfl rfl (v := nI (4)) (by decide) rfl ?_
  refine me_goto k76_46 ?_
  refine me_iload_n (p' := 3) k76_2 rfl rfl ?_
  refine me_iconst (p' := 4) k76_3 rfl (v := nI 3) (by decide) ?_
  refine me_ic_gt (p' := 7) k76_4 rfl (fun _ => ?_) (fun h => absurd (by decide) h)
  refine me_retv k76_49 rt_76 ?_
  refine hQ _ ((((mFr.up (by decide)).tr (mFr.up (by decide))).tr (mFr.up (by decide))).tr (mFr.up (by decide))) ?_
  rw [sgU26p3 ho, sgU26p3 hp, sgU26p2 ho, sgU26p2 hp]
  rfl
def sp_drop (s : Nat → Int32) (n c : Nat) : Nat → Int32 := fun k => if k = 1 then nI (n - 1) else if 53 ≤ k ∧ k < 109 ∧ c ≤ (k - 53) / 7 ∧ (k - 53) / 7 < n - 1 then s (k + 7) else s k
theorem ct_dropCar {d L : Nat} {xs : Nat → Int32} {I : Nat → Nat → Int32} {Q : Option Value → mj_H → Prop} {n c : Nat} (hn : mN (mSg 26 128 I) n) (hc : c < n) (hQ : ∀ I2, mFr (mRg 26) I I2 → mSg 26 128 I2 = sp_drop (mSg 26 128 I) n c → Q none (mg_h L xs I2)) : mj_Cl d 78 [.ref 26, .int (nI c)] (mg_h L xs I) Q := by
  have hn8 := hn.2
  refine cl_start mx_78 (ls := [.ref 26, .int (nI c), mj_no]) rfl ?_
  refine me_aload_n (p' := 1) k78_0 rfl rfl ?_
  refine me_dup (p' := 2) k78_1 rfl rfl ?_
  refine me_gfi (p' := 5) k78_2 rfl (by decide) rfl rfl ?_
  rw [show I 26 5 = nI n from hn.1]
  refine me_iconst (p' := 6) k78_5 rfl (v := nI 1) (by decide) ?_
  refine me_isub (p' := 7) k78_6 rfl rfl ?_
  rw [mI_sub (by omega)]
  refine me_pfi (p' := 10) k78_7 rfl (by decide) rfl rfl rfl rfl ?_
  refine me_iconst (p' := 11) k78_10 rfl (v := nI 0) (by decide) ?_
  refine me_istore_n (p' := 12) k78_11 rfl ⟨Nat.le_of_ble_eq_true rfl, rfl⟩ rfl ?_
  refine me_iload_n (p' := 13) k78_12 rfl rfl ?_
  refine me_bipush (p' := 15) k78_13 rfl (v := nI 7) (by decide) ?_
  refine me_ic_ge (p' := 18) k78_15 rfl (fun h => absurd h (by decide)) (fun _ => ?_)
  refine me_aload_n (p' := 19) k78_18 rfl rfl ?_
  refine me_gfr (p' := 22) k78_19 rfl (by decide) rfl (b := 32) rfl ?_
  refine me_iload_n (p' := 23) k78_22 rfl rfl ?_
  refine me_aald (p' := 24) k78_23 rfl (by decide) rfl ⟨by decide, by decide⟩ (j := 0) rfl (by omega) (by decide) (b := 33) rfl ?_
  refine me_iload_n (p' := 25) k78_24 rfl rfl ?_
  refine me_iconst (p' := 26) k78_25 rfl (v := nI 1) (by decide) ?_
  refine me_iadd (p' := 27) k78_26 rfl (v := nI (c + 1)) (mI_add _ _) ?_
  refine me_aload_n (p' := 28) k78_27 rfl rfl ?_
  refine me_gfr (p' := 31) k78_28 rfl (by decide) rfl (b := 32) rfl ?_
  refine me_iload_n (p' := 32) k78_31 rfl rfl ?_
  refine me_aald (p' := 33) k78_32 rfl (by decide) rfl ⟨by decide, by decide⟩ (j := 0) rfl (by omega) (by decide) (b := 33) rfl ?_
  refine me_iload_n (p' := 34) k78_33 rfl rfl ?_
  refine me_aload_n (p' := 35) k78_34 rfl rfl ?_
  refine me_gfi (p' := 38) k78_35 rfl (by decide) rfl rfl ?_
  rw [show (mg_u I 26 5 (nI (n - 1))) 26 5 = nI (n - 1) from by simp [mg_u, mg_c]]
  refine me_iload_n (p' := 39) k78_38 rfl rfl ?_
  refine me_isub (p' := 40) k78_39 rfl rfl ?_
  rw [mI_sub (by omega)]
  refine me_acp (p' := 43) k78_40 rfl (by decide) (by decide) rfl rfl (n := (n - 1 - c)) (dp := c) (sp := c + 1) rfl rfl rfl (by omega) (by omega) ⟨by decide, by decide⟩ (fun k => rfl) (fun k => rfl) (cl_sum rfl) ?_
  refine me_iinc (p' := 46) k78_43 rfl rfl rfl (v := nI (1)) (by decide) rfl ?_
  refine me_goto k78_46 ?_
  refine me_iload_n (p' := 13) k78_12 rfl rfl ?_
  refine me_bipush (p' := 15) k78_13 rfl (v := nI 7) (by decide) ?_
  refine me_ic_ge (p' := 18) k78_15 rfl (fun h => absurd h (by decide)) (fun _ => ?_)
  refine me_aload_n (p' := 19) k78_18 rfl rfl ?_
  refine me_gfr (p' := 22) k78_19 rfl (by decide) rfl (b := 32) rfl ?_
  refine me_iload_n (p' := 23) k78_22 rfl rfl ?_
  refine me_aald (p' := 24) k78_23 rfl (by decide) rfl ⟨by decide, by decide⟩ (j := 1) rfl (by omega) (by decide) (b := 34) rfl ?_
  refine me_iload_n (p' := 25) k78_24 rfl rfl ?_
  refine me_iconst (p' := 26) k78_25 rfl (v := nI 1) (by decide) ?_
  refine me_iadd (p' := 27) k78_26 rfl (v := nI (c + 1)) (mI_add _ _) ?_
  refine me_aload_n (p' := 28) k78_27 rfl rfl ?_
  refine me_gfr (p' := 31) k78_28 rfl (by decide) rfl (b := 32) rfl ?_
  refine me_iload_n (p' := 32) k78_31 rfl rfl ?_
  refine me_aald (p' := 33) k78_32 rfl (by decide) rfl ⟨by decide, by decide⟩ (j := 1) rfl (by omega) (by decide) (b := 34) rfl ?_
  refine me_iload_n (p' := 34) k78_33 rfl rfl ?_
  refine me_aload_n (p' := 35) k78_34 rfl rfl ?_
  refine me_gfi (p' := 38) k78_35 rfl (by decide) rfl rfl ?_
  rw [show (mg_c (mg_u I 26 5 (nI (n - 1))) 33 (c + 1) 33 c (n - 1 - c)) 26 5 = nI (n - 1) from by simp [mg_u, mg_c]]
  refine me_iload_n (p' := 39) k78_38 rfl rfl ?_
  refine me_isub (p' := 40) k78_39 rfl rfl ?_
  rw [mI_sub (by omega)]
  refine me_acp (p' := 43) k78_40 rfl (by decide) (by decide) rfl rfl (n := (n - 1 - c)) (dp := c) (sp := c + 1) rfl rfl rfl (by omega) (by omega) ⟨by decide, by decide⟩ (fun k => rfl) (fun k => rfl) (cl_sum rfl) ?_
  refine me_iinc (p' := 46) k78_43 rfl rfl rfl (v := nI (2)) (by decide) rfl ?_
  refine me_goto k78_46 ?_
  refine me_iload_n (p' := 13) k78_12 rfl rfl ?_
  refine me_bipush (p' := 15) k78_13 rfl (v := nI 7) (by decide) ?_
  refine me_ic_ge (p' := 18) k78_15 rfl (fun h => absurd h (by decide)) (fun _ => ?_)
  refine me_aload_n (p' := 19) k78_18 rfl rfl ?_
  refine me_gfr (p' := 22) k78_19 rfl (by decide) rfl (b := 32) rfl ?_
  refine me_iload_n (p' := 23) k78_22 rfl rfl ?_
  refine me_aald (p' := 24) k78_23 rfl (by decide) rfl ⟨by decide, by decide⟩ (j := 2) rfl (by omega) (by decide) (b := 35) rfl ?_
  refine me_iload_n (p' := 25) k78_24 rfl rfl ?_
  refine me_iconst (p' := 26) k78_25 rfl (v := nI 1) (by decide) ?_
  refine me_iadd (p' := 27) k78_26 rfl (v := nI (c + 1)) (mI_add _ _) ?_
  refine me_aload_n (p' := 28) k78_27 rfl rfl ?_
  refine me_gfr (p' := 31) k78_28 rfl (by decide) rfl (b := 32) rfl ?_
  refine me_iload_n (p' := 32) k78_31 rfl rfl ?_
  refine me_aald (p' := 33) k78_32 rfl (by decide) rfl ⟨by decide, by decide⟩ (j := 2) rfl (by omega) (by decide) (b := 35) rfl ?_
  refine me_iload_n (p' := 34) k78_33 rfl rfl ?_
  refine me_aload_n (p' := 35) k78_34 rfl rfl ?_
  refine me_gfi (p' := 38) k78_35 rfl (by decide) rfl rfl ?_
  rw [show (mg_c (mg_c (mg_u I 26 5 (nI (n - 1))) 33 (c + 1) 33 c (n - 1 - c)) 34 (c + 1) 34 c (n - 1 - c)) 26 5 = nI (n - 1) from by simp [mg_u, mg_c]]
  refine me_iload_n (p' := 39) k78_38 rfl rfl ?_
  refine me_isub (p' := 40) k78_39 rfl rfl ?_
  rw [mI_sub (by omega)]
  refine me_acp (p' := 43) k78_40 rfl (by decide) (by decide) rfl rfl (n := (n - 1 - c)) (dp := c) (sp := c + 1) rfl rfl rfl (by omega) (by omega) ⟨by decide, by decide⟩ (fun k => rfl) (fun k => rfl) (cl_sum rfl) ?_
  refine me_iinc (p' := 46) k78_43 rfl rfl rfl (v := nI (3)) (by decide) rfl ?_
  refine me_goto k78_46 ?_
  refine me_iload_n (p' := 13) k78_12 rfl rfl ?_
  refine me_bipush (p' := 15) k78_13 rfl (v := nI 7) (by decide) ?_
  refine me_ic_ge (p' := 18) k78_15 rfl (fun h => absurd h (by decide)) (fun _ => ?_)
  refine me_aload_n (p' := 19) k78_18 rfl rfl ?_
  refine me_gfr (p' := 22) k78_19 rfl (by decide) rfl (b := 32) rfl ?_
  refine me_iload_n (p' := 23) k78_22 rfl rfl ?_
  refine me_aald (p' := 24) k78_23 rfl (by decide) rfl ⟨by decide, by decide⟩ (j := 3) rfl (by omega) (by decide) (b := 36) rfl ?_
  refine me_iload_n (p' := 25) k78_24 rfl rfl ?_
  refine me_iconst (p' := 26) k78_25 rfl (v := nI 1) (by decide) ?_
  refine me_iadd (p' := 27) k78_26 rfl (v := nI (c + 1)) (mI_add _ _) ?_
  refine me_aload_n (p' := 28) k78_27 rfl rfl ?_
  refine me_gfr (p' := 31) k78_28 rfl (by decide) rfl (b := 32) rfl ?_
  refine me_iload_n (p' := 32) k78_31 rfl rfl ?_
  refine me_aald (p' := 33) k78_32 rfl (by decide) rfl ⟨by decide, by decide⟩ (j := 3) rfl (by omega) (by decide) (b := 36) rfl ?_
  refine me_iload_n (p' := 34) k78_33 rfl rfl ?_
  refine me_aload_n (p' := 35) k78_34 rfl rfl ?_
  refine me_gfi (p' := 38) k78_35 rfl (by decide) rfl rfl ?_
  rw [show (mg_c (mg_c (mg_c (mg_u I 26 5 (nI (n - 1))) 33 (c + 1) 33 c (n - 1 - c)) 34 (c + 1) 34 c (n - 1 - c)) 35 (c + 1) 35 c (n - 1 - c)) 26 5 = nI (n - 1) from by simp [mg_u, mg_c]]
  refine me_iload_n (p' := 39) k78_38 rfl rfl ?_
  refine me_isub (p' := 40) k78_39 rfl rfl ?_
  rw [mI_sub (by omega)]
  refine me_acp (p' := 43) k78_40 rfl (by decide) (by decide) rfl rfl (n := (n - 1 - c)) (dp := c) (sp := c + 1) rfl rfl rfl (by omega) (by omega) ⟨by decide, by decide⟩ (fun k => rfl) (fun k => rfl) (cl_sum rfl) ?_
  refine me_iinc (p' := 46) k78_43 rfl rfl rfl (v := nI (4)) (by decide) rfl ?_
  refine me_goto k78_46 ?_
  refine me_iload_n (p' := 13) k78_12 rfl rfl ?_
  refine me_bipush (p' := 15) k78_13 rfl (v := nI 7) (by decide) ?_
  refine me_ic_ge (p' := 18) k78_15 rfl (fun h => absurd h (by decide)) (fun _ => ?_)
  refine me_aload_n (p' := 19) k78_18 rfl rfl ?_
  refine me_gfr (p' := 22) k78_19 rfl (by decide) rfl (b := 32) rfl ?_
  refine me_iload_n (p' := 23) k78_22 rfl rfl ?_
  refine me_aald (p' := 24) k78_23 rfl (by decide) rfl ⟨by decide, by decide⟩ (j := 4) rfl (by omega) (by decide) (b := 37) rfl ?_
  refine me_iload_n (p' := 25) k78_24 rfl rfl ?_
  refine me_iconst (p' := 26) k78_25 rfl (v := nI 1) (by decide) ?_
  refine me_iadd (p' := 27) k78_26 rfl (v := nI (c + 1)) (mI_add _ _) ?_
  refine me_aload_n (p' := 28) k78_27 rfl rfl ?_
  refine me_gfr (p' := 31) k78_28 rfl (by decide) rfl (b := 32) rfl ?_
  refine me_iload_n (p' := 32) k78_31 rfl rfl ?_
  refine me_aald (p' := 33) k78_32 rfl (by decide) rfl ⟨by decide, by decide⟩ (j := 4) rfl (by omega) (by decide) (b := 37) rfl ?_
  refine me_iload_n (p' := 34) k78_33 rfl rfl ?_
  refine me_aload_n (p' := 35) k78_34 rfl rfl ?_
  refine me_gfi (p' := 38) k78_35 rfl (by decide) rfl rfl ?_
  rw [show (mg_c (mg_c (mg_c (mg_c (mg_u I 26 5 (nI (n - 1))) 33 (c + 1) 33 c (n - 1 - c)) 34 (c + 1) 34 c (n - 1 - c)) 35 (c + 1) 35 c (n - 1 - c)) 36 (c + 1) 36 c (n - 1 - c)) 26 5 = nI (n - 1) from by simp [mg_u, mg_c]]
  refine me_iload_n (p' := 39) k78_38 rfl rfl ?_
  refine me_isub (p' := 40) k78_39 rfl rfl ?_
  rw [mI_sub (by omega)]
  refine me_acp (p' := 43) k78_40 rfl (by decide) (by decide) rfl rfl (n := (n - 1 - c)) (dp := c) (sp := c + 1) rfl rfl rfl (by omega) (by omega) ⟨by decide, by decide⟩ (fun k => rfl) (fun k => rfl) (cl_sum rfl) ?_
  refine me_iinc (p' := 46) k78_43 rfl rfl rfl (v := nI (5)) (by decide) rfl ?_
  refine me_goto k78_46 ?_
  refine me_iload_n (p' := 13) k78_12 rfl rfl ?_
  refine me_bipush (p' := 15) k78_13 rfl (v := nI 7) (by decide) ?_
  refine me_ic_ge (p' := 18) k78_15 rfl (fun h => absurd h (by decide)) (fun _ => ?_)
  refine me_aload_n (p' := 19) k78_18 rfl rfl ?_
  refine me_gfr (p' := 22) k78_19 rfl (by decide) rfl (b := 32) rfl ?_
  refine me_iload_n (p' := 23) k78_22 rfl rfl ?_
  refine me_aald (p' := 24) k78_23 rfl (by decide) rfl ⟨by decide, by decide⟩ (j := 5) rfl (by omega) (by decide) (b := 38) rfl ?_
  refine me_iload_n (p' := 25) k78_24 rfl rfl ?_
  refine me_iconst (p' := 26) k78_25 rfl (v := nI 1) (by decide) ?_
  refine me_iadd (p' := 27) k78_26 rfl (v := nI (c + 1)) (mI_add _ _) ?_
  refine me_aload_n (p' := 28) k78_27 rfl rfl ?_
  refine me_gfr (p' := 31) k78_28 rfl (by decide) rfl (b := 32) rfl ?_
  refine me_iload_n (p' := 32) k78_31 rfl rfl ?_
  refine me_aald (p' := 33) k78_32 rfl (by decide) rfl ⟨by decide, by decide⟩ (j := 5) rfl (by omega) (by decide) (b := 38) rfl ?_
  refine me_iload_n (p' := 34) k78_33 rfl rfl ?_
  refine me_aload_n (p' := 35) k78_34 rfl rfl ?_
  refine me_gfi (p' := 38) k78_35 rfl (by decide) rfl rfl ?_
  rw [show (mg_c (mg_c (mg_c (mg_c (mg_c (mg_u I 26 5 (nI (n - 1))) 33 (c + 1) 33 c (n - 1 - c)) 34 (c + 1) 34 c (n - 1 - c)) 35 (c + 1) 35 c (n - 1 - c)) 36 (c + 1) 36 c (n - 1 - c)) 37 (c + 1) 37 c (n - 1 - c)) 26 5 = nI (n - 1) from by simp [mg_u, mg_c]]
  refine me_iload_n (p' := 39) k78_38 rfl rfl ?_
  refine me_isub (p' := 40) k78_39 rfl rfl ?_
  rw [mI_sub (by omega)]
  refine me_acp (p' := 43) k78_40 rfl (by decide) (by decide) rfl rfl (n := (n - 1 - c)) (dp := c) (sp := c + 1) rfl rfl rfl (by omega) (by omega) ⟨by decide, by decide⟩ (fun k => rfl) (fun k => rfl) (cl_sum rfl) ?_
  refine me_iinc (p' := 46) k78_43 rfl rfl rfl (v := nI (6)) (by decide) rfl ?_
  refine me_goto k78_46 ?_
  refine me_iload_n (p' := 13) k78_12 rfl rfl ?_
  refine me_bipush (p' := 15) k78_13 rfl (v := nI 7) (by decide) ?_
  refine me_ic_ge (p' := 18) k78_15 rfl (fun h => absurd h (by decide)) (fun _ => ?_)
  refine me_aload_n (p' := 19) k78_18 rfl rfl ?_
  refine me_gfr (p' := 22) k78_19 rfl (by decide) rfl (b := 32) rfl ?_
  refine me_iload_n (p' := 23) k78_22 rfl rfl ?_
  refine me_aald (p' := 24) k78_23 rfl (by decide) rfl ⟨by decide, by decide⟩ (j := 6) rfl (by omega) (by decide) (b := 39) rfl ?_
  refine me_iload_n (p' := 25) k78_24 rfl rfl ?_
  refine me_iconst (p' := 26) k78_25 rfl (v := nI 1) (by decide) ?_
  refine me_iadd (p' := 27) k78_26 rfl (v := nI (c + 1)) (mI_add _ _) ?_
  refine me_aload_n (p' := 28) k78_27 rfl rfl ?_
  refine me_gfr (p' := 31) k78_28 rfl (by decide) rfl (b := 32) rfl ?_
  refine me_iload_n (p' := 32) k78_31 rfl rfl ?_
  refine me_aald (p' := 33) k78_32 rfl (by decide) rfl ⟨by decide, by decide⟩ (j := 6) rfl (by omega) (by decide) (b := 39) rfl ?_
  refine me_iload_n (p' := 34) k78_33 rfl rfl ?_
  refine me_aload_n (p' := 35) k78_34 rfl rfl ?_
  refine me_gfi (p' := 38) k78_35 rfl (by decide) rfl rfl ?_
  rw [show (mg_c (mg_c (mg_c (mg_c (mg_c (mg_c (mg_u I 26 5 (nI (n - 1))) 33 (c + 1) 33 c (n - 1 - c)) 34 (c + 1) 34 c (n - 1 - c)) 35 (c + 1) 35 c (n - 1 - c)) 36 (c + 1) 36 c (n - 1 - c)) 37 (c + 1) 37 c (n - 1 - c)) 38 (c + 1) 38 c (n - 1 - c)) 26 5 = nI (n - 1) from by simp [mg_u, mg_c]]
  refine me_iload_n (p' := 39) k78_38 rfl rfl ?_
  refine me_isub (p' := 40) k78_39 rfl rfl ?_
  rw [mI_sub (by omega)]
  refine me_acp (p' := 43) k78_40 rfl (by decide) (by decide) rfl rfl (n := (n - 1 - c)) (dp := c) (sp := c + 1) rfl rfl rfl (by omega) (by omega) ⟨by decide, by decide⟩ (fun k => rfl) (fun k => rfl) (cl_sum rfl) ?_
  refine me_iinc (p' := 46) k78_43 rfl rfl rfl (v := nI (7)) (by decide) rfl ?_
  refine me_goto k78_46 ?_
  refine me_iload_n (p' := 13) k78_12 rfl rfl ?_
  refine me_bipush (p' := 15) k78_13 rfl (v := nI 7) (by decide) ?_
  refine me_ic_ge (p' := 18) k78_15 rfl (fun _ => ?_) (fun h => absurd (by decide) h)
  refine me_retv k78_49 rt_78 ?_
  refine hQ (mg_c (mg_c (mg_c (mg_c (mg_c (mg_c (mg_c (mg_u I 26 5 (nI (n - 1))) 33 (c + 1) 33 c (n - 1 - c)) 34 (c + 1) 34 c (n - 1 - c)) 35 (c + 1) 35 c (n - 1 - c)) 36 (c + 1) 36 c (n - 1 - c)) 37 (c + 1) 37 c (n - 1 - c)) 38 (c + 1) 38 c (n - 1 - c)) 39 (c + 1) 39 c (n - 1 - c)) ((((((((mFr.up (by decide)).tr (mFr.cp (by decide))).tr (mFr.cp (by decide))).tr (mFr.cp (by decide))).tr (mFr.cp (by decide))).tr (mFr.cp (by decide))).tr (mFr.cp (by decide))).tr (mFr.cp (by decide))) ?_
  funext k
  refine sg_all (P := fun k => mSg 26 128 (mg_c (mg_c (mg_c (mg_c (mg_c (mg_c (mg_c (mg_u I 26 5 (nI (n - 1))) 33 (c + 1) 33 c (n - 1 - c)) 34 (c + 1) 34 c (n - 1 - c)) 35 (c + 1) 35 c (n - 1 - c)) 36 (c + 1) 36 c (n - 1 - c)) 37 (c + 1) 37 c (n - 1 - c)) 38 (c + 1) 38 c (n - 1 - c)) 39 (c + 1) 39 c (n - 1 - c)) k = sp_drop (mSg 26 128 I) n c k) ?_ ?_ ?_ ?_ ?_ ?_ ?_ ?_ k
  · simp [mSg, mg_u, mg_c, sp_drop]
  · simp [mSg, mg_u, mg_c, sp_drop]
  · simp [mSg, mg_u, mg_c, sp_drop]
  · simp [mSg, mg_u, mg_c, sp_drop]
  · simp [mSg, mg_u, mg_c, sp_drop]
  · intro j p hj hp
    unfold sp_drop
    rw [if_neg (by omega), if_neg (by omega), sg_part hj hp, sg_part hj hp]
    rcases (show j = 0 ∨ j = 1 ∨ j = 2 ∨ j = 3 by omega) with rfl | rfl | rfl | rfl <;> simp [mg_u, mg_c]
  · intro w c' hw hc'
    unfold sp_drop
    rw [if_neg (by omega), sg_car hw hc']
    by_cases h9 : c ≤ c' ∧ c' < n - 1
    · rw [if_pos (by omega), show 53 + 7 * c' + w + 7 = 53 + 7 * (c' + 1) + w by omega, sg_car hw (by omega)]
      rcases (show w = 0 ∨ w = 1 ∨ w = 2 ∨ w = 3 ∨ w = 4 ∨ w = 5 ∨ w = 6 by omega) with rfl | rfl | rfl | rfl | rfl | rfl | rfl <;> simp only [mg_u, mg_c] <;> simp [h9.1, show c' < c + (n - 1 - c) by omega, show c + 1 + (c' - c) = c' + 1 by omega]
    · rw [if_neg (by omega), sg_car hw hc']
      rcases (show w = 0 ∨ w = 1 ∨ w = 2 ∨ w = 3 ∨ w = 4 ∨ w = 5 ∨ w = 6 by omega) with rfl | rfl | rfl | rfl | rfl | rfl | rfl <;> simp only [mg_u, mg_c] <;> simp [show ¬ (c ≤ c' ∧ c' < c + (n - 1 - c)) by omega]
  · intro k hk
    unfold sp_drop
    rw [if_neg (by omega), if_neg (by omega), sg_far hk, sg_far hk]
    simp [mg_u, mg_c]
theorem ct_addCar {d L : Nat} {xs : Nat → Int32} {I : Nat → Nat → Int32} {Q : Option Value → mj_H → Prop} {n : Nat} {q f w : Int32} (hn : mN (mSg 11 128 I) n) (hn8 : n < 8) (hQ : ∀ I2, mFr (mRg 11) I I2 → mSg 11 128 I2 = sp_comes (mSg 11 128 I) n q f w → Q (some (.int (nI n))) (mg_h L xs I2)) : mj_Cl d 17 [.ref 11, .int q, .int f, .int w] (mg_h L xs I) Q := by
  refine cl_start mx_17 (ls := [.ref 11, .int q, .int f, .int w, mj_no, mj_no]) rfl ?_
  refine me_aload_n (p' := 1) k17_0 rfl rfl ?_
  refine me_gfi (p' := 4) k17_1 rfl (by decide) rfl rfl ?_
  rw [show I 11 5 = nI n from hn.1]
  refine me_istore (p' := 6) k17_4 rfl ⟨Nat.le_of_ble_eq_true rfl, rfl⟩ rfl ?_
  refine me_iconst (p' := 7) k17_6 rfl (v := nI 0) (by decide) ?_
  refine me_istore (p' := 9) k17_7 rfl ⟨Nat.le_of_ble_eq_true rfl, rfl⟩ rfl ?_
  refine me_iload (p' := 11) k17_9 rfl rfl ?_
  refine me_bipush (p' := 13) k17_11 rfl (v := nI 7) (by decide) ?_
  refine me_ic_ge (p' := 16) k17_13 rfl (fun h => absurd h (by decide)) (fun _ => ?_)
  refine me_aload_n (p' := 17) k17_16 rfl rfl ?_
  refine me_gfr (p' := 20) k17_17 rfl (by decide) rfl (b := 17) rfl ?_
  refine me_iload (p' := 22) k17_20 rfl rfl ?_
  refine me_aald (p' := 23) k17_22 rfl (by decide) rfl ⟨by decide, by decide⟩ (j := 0) rfl (by omega) (by decide) (b := 18) rfl ?_
  refine me_iload (p' := 25) k17_23 rfl rfl ?_
  refine me_iconst (p' := 26) k17_25 rfl (v := nI 0) (by decide) ?_
  refine me_iast (p' := 27) k17_26 rfl (by decide) rfl (j := n) rfl (by omega) (by decide) rfl ?_
  refine me_iinc (p' := 30) k17_27 rfl rfl rfl (v := nI (1)) (by decide) rfl ?_
  refine me_goto k17_30 ?_
  refine me_iload (p' := 11) k17_9 rfl rfl ?_
  refine me_bipush (p' := 13) k17_11 rfl (v := nI 7) (by decide) ?_
  refine me_ic_ge (p' := 16) k17_13 rfl (fun h => absurd h (by decide)) (fun _ => ?_)
  refine me_aload_n (p' := 17) k17_16 rfl rfl ?_
  refine me_gfr (p' := 20) k17_17 rfl (by decide) rfl (b := 17) rfl ?_
  refine me_iload (p' := 22) k17_20 rfl rfl ?_
  refine me_aald (p' := 23) k17_22 rfl (by decide) rfl ⟨by decide, by decide⟩ (j := 1) rfl (by omega) (by decide) (b := 19) rfl ?_
  refine me_iload (p' := 25) k17_23 rfl rfl ?_
  refine me_iconst (p' := 26) k17_25 rfl (v := nI 0) (by decide) ?_
  refine me_iast (p' := 27) k17_26 rfl (by decide) rfl (j := n) rfl (by omega) (by decide) rfl ?_
  refine me_iinc (p' := 30) k17_27 rfl rfl rfl (v := nI (2)) (by decide) rfl ?_
  refine me_goto k17_30 ?_
  refine me_iload (p' := 11) k17_9 rfl rfl ?_
  refine me_bipush (p' := 13) k17_11 rfl (v := nI 7) (by decide) ?_
  refine me_ic_ge (p' := 16) k17_13 rfl (fun h => absurd h (by decide)) (fun _ => ?_)
  refine me_aload_n (p' := 17) k17_16 rfl rfl ?_
  refine me_gfr (p' := 20) k17_17 rfl (by decide) rfl (b := 17) rfl ?_
  refine me_iload (p' := 22) k17_20 rfl rfl ?_
  refine me_aald (p' := 23) k17_22 rfl (by decide) rfl ⟨by decide, by decide⟩ (j := 2) rfl (by omega) (by decide) (b := 20) rfl ?_
  refine me_iload (p' := 25) k17_23 rfl rfl ?_
  refine me_iconst (p' := 26) k17_25 rfl (v := nI 0) (by decide) ?_
  refine me_iast (p' := 27) k17_26 rfl (by decide) rfl (j := n) rfl (by omega) (by decide) rfl ?_
  refine me_iinc (p' := 30) k17_27 rfl rfl rfl (v := nI (3)) (by decide) rfl ?_
  refine me_goto k17_30 ?_
  refine me_iload (p' := 11) k17_9 rfl rfl ?_
  refine me_bipush (p' := 13) k17_11 rfl (v := nI 7) (by decide) ?_
  refine me_ic_ge (p' := 16) k17_13 rfl (fun h => absurd h (by decide)) (fun _ => ?_)
  refine me_aload_n (p' := 17) k17_16 rfl rfl ?_
  refine me_gfr (p' := 20) k17_17 rfl (by decide) rfl (b := 17) rfl ?_
  refine me_iload (p' := 22) k17_20 rfl rfl ?_
  refine me_aald (p' := 23) k17_22 rfl (by decide) rfl ⟨by decide, by decide⟩ (j := 3) rfl (by omega) (by decide) (b := 21) rfl ?_
  refine me_iload (p' := 25) k17_23 rfl rfl ?_
  refine me_iconst (p' := 26) k17_25 rfl (v := nI 0) (by decide) ?_
  refine me_iast (p' := 27) k17_26 rfl (by decide) rfl (j := n) rfl (by omega) (by decide) rfl ?_
  refine me_iinc (p' := 30) k17_27 rfl rfl rfl (v := nI (4)) (by decide) rfl ?_
  refine me_goto k17_30 ?_
  refine me_iload (p' := 11) k17_9 rfl rfl ?_
  refine me_bipush (p' := 13) k17_11 rfl (v := nI 7) (by decide) ?_
  refine me_ic_ge (p' := 16) k17_13 rfl (fun h => absurd h (by decide)) (fun _ => ?_)
  refine me_aload_n (p' := 17) k17_16 rfl rfl ?_
  refine me_gfr (p' := 20) k17_17 rfl (by decide) rfl (b := 17) rfl ?_
  refine me_iload (p' := 22) k17_20 rfl rfl ?_
  refine me_aald (p' := 23) k17_22 rfl (by decide) rfl ⟨by decide, by decide⟩ (j := 4) rfl (by omega) (by decide) (b := 22) rfl ?_
  refine me_iload (p' := 25) k17_23 rfl rfl ?_
  refine me_iconst (p' := 26) k17_25 rfl (v := nI 0) (by decide) ?_
  refine me_iast (p' := 27) k17_26 rfl (by decide) rfl (j := n) rfl (by omega) (by decide) rfl ?_
  refine me_iinc (p' := 30) k17_27 rfl rfl rfl (v := nI (5)) (by decide) rfl ?_
  refine me_goto k17_30 ?_
  refine me_iload (p' := 11) k17_9 rfl rfl ?_
  refine me_bipush (p' := 13) k17_11 rfl (v := nI 7) (by decide) ?_
  refine me_ic_ge (p' := 16) k17_13 rfl (fun h => absurd h (by decide)) (fun _ => ?_)
  refine me_aload_n (p' := 17) k17_16 rfl rfl ?_
  refine me_gfr (p' := 20) k17_17 rfl (by decide) rfl (b := 17) rfl ?_
  refine me_iload (p' := 22) k17_20 rfl rfl ?_
  refine me_aald (p' := 23) k17_22 rfl (by decide) rfl ⟨by decide, by decide⟩ (j := 5) rfl (by omega) (by decide) (b := 23) rfl ?_
  refine me_iload (p' := 25) k17_23 rfl rfl ?_
  refine me_iconst (p' := 26) k17_25 rfl (v := nI 0) (by decide) ?_
  refine me_iast (p' := 27) k17_26 rfl (by decide) rfl (j := n) rfl (by omega) (by decide) rfl ?_
  refine me_iinc (p' := 30) k17_27 rfl rfl rfl (v := nI (6)) (by decide) rfl ?_
  refine me_goto k17_30 ?_
  refine me_iload (p' := 11) k17_9 rfl rfl ?_
  refine me_bipush (p' := 13) k17_11 rfl (v := nI 7) (by decide) ?_
  refine me_ic_ge (p' := 16) k17_13 rfl (fun h => absurd h (by decide)) (fun _ => ?_)
  refine me_aload_n (p' := 17) k17_16 rfl rfl ?_
  refine me_gfr (p' := 20) k17_17 rfl (by decide) rfl (b := 17) rfl ?_
  refine me_iload (p' := 22) k17_20 rfl rfl ?_
  refine me_aald (p' := 23) k17_22 rfl (by decide) rfl ⟨by decide, by decide⟩ (j := 6) rfl (by omega) (by decide) (b := 24) rfl ?_
  refine me_iload (p' := 25) k17_23 rfl rfl ?_
  refine me_iconst (p' := 26) k17_25 rfl (v := nI 0) (by decide) ?_
  refine me_iast (p' := 27) k17_26 rfl (by decide) rfl (j := n) rfl (by omega) (by decide) rfl ?_
  refine me_iinc (p' := 30) k17_27 rfl rfl rfl (v := nI (7)) (by decide) rfl ?_
  refine me_goto k17_30 ?_
  refine me_iload (p' := 11) k17_9 rfl rfl ?_
  refine me_bipush (p' := 13) k17_11 rfl (v := nI 7) (by decide) ?_
  refine me_ic_ge (p' := 16) k17_13 rfl (fun _ => ?_) (fun h => absurd (by decide) h)
  refine me_aload_n (p' := 34) k17_33 rfl rfl ?_
  refine me_gfr (p' := 37) k17_34 rfl (by decide) rfl (b := 17) rfl ?_
  refine me_iconst (p' := 38) k17_37 rfl (v := nI 0) (by decide) ?_
  refine me_aald (p' := 39) k17_38 rfl (by decide) rfl ⟨by decide, by decide⟩ (j := 0) rfl (by omega) (by decide) (b := 18) rfl ?_
  refine me_iload (p' := 41) k17_39 rfl rfl ?_
  refine me_iload_n (p' := 42) k17_41 rfl rfl ?_
  refine me_iast (p' := 43) k17_42 rfl (by decide) rfl (j := n) rfl (by omega) (by decide) rfl ?_
  refine me_aload_n (p' := 44) k17_43 rfl rfl ?_
  refine me_gfr (p' := 47) k17_44 rfl (by decide) rfl (b := 17) rfl ?_
  refine me_iconst (p' := 48) k17_47 rfl (v := nI 1) (by decide) ?_
  refine me_aald (p' := 49) k17_48 rfl (by decide) rfl ⟨by decide, by decide⟩ (j := 1) rfl (by omega) (by decide) (b := 19) rfl ?_
  refine me_iload (p' := 51) k17_49 rfl rfl ?_
  refine me_iload_n (p' := 52) k17_51 rfl rfl ?_
  refine me_iast (p' := 53) k17_52 rfl (by decide) rfl (j := n) rfl (by omega) (by decide) rfl ?_
  refine me_aload_n (p' := 54) k17_53 rfl rfl ?_
  refine me_gfr (p' := 57) k17_54 rfl (by decide) rfl (b := 17) rfl ?_
  refine me_iconst (p' := 58) k17_57 rfl (v := nI 2) (by decide) ?_
  refine me_aald (p' := 59) k17_58 rfl (by decide) rfl ⟨by decide, by decide⟩ (j := 2) rfl (by omega) (by decide) (b := 20) rfl ?_
  refine me_iload (p' := 61) k17_59 rfl rfl ?_
  refine me_iload_n (p' := 62) k17_61 rfl rfl ?_
  refine me_iast (p' := 63) k17_62 rfl (by decide) rfl (j := n) rfl (by omega) (by decide) rfl ?_
  refine me_aload_n (p' := 64) k17_63 rfl rfl ?_
  refine me_dup (p' := 65) k17_64 rfl rfl ?_
  refine me_gfi (p' := 68) k17_65 rfl (by decide) rfl rfl ?_
  rw [show (mg_u (mg_u (mg_u (mg_u (mg_u (mg_u (mg_u (mg_u (mg_u (mg_u I 18 n (nI 0)) 19 n (nI 0)) 20 n (nI 0)) 21 n (nI 0)) 22 n (nI 0)) 23 n (nI 0)) 24 n (nI 0)) 18 n q) 19 n f) 20 n w) 11 5 = nI n from by simp only [mg_un1 (show (11 : Nat) ≠ 18 by decide), mg_un1 (show (11 : Nat) ≠ 19 by decide), mg_un1 (show (11 : Nat) ≠ 20 by decide), mg_un1 (show (11 : Nat) ≠ 21 by decide), mg_un1 (show (11 : Nat) ≠ 22 by decide), mg_un1 (show (11 : Nat) ≠ 23 by decide), mg_un1 (show (11 : Nat) ≠ 24 by decide)]; exact hn.1]
  refine me_iconst (p' := 69) k17_68 rfl (v := nI 1) (by decide) ?_
  refine me_iadd (p' := 70) k17_69 rfl (v := nI (n + 1)) (mI_add _ _) ?_
  refine me_pfi (p' := 73) k17_70 rfl (by decide) rfl rfl rfl rfl ?_
  refine me_iload (p' := 75) k17_73 rfl rfl ?_
  refine me_reti k17_75 rt_17 rfl ?_
  refine hQ _ (((((((((((mFr.up (by decide)).tr (mFr.up (by decide))).tr (mFr.up (by decide))).tr (mFr.up (by decide))).tr (mFr.up (by decide))).tr (mFr.up (by decide))).tr (mFr.up (by decide))).tr (mFr.up (by decide))).tr (mFr.up (by decide))).tr (mFr.up (by decide))).tr (mFr.up (by decide))) ?_
  rw [sgU11f1, sgU11c2 (by omega), sgU11c1 (by omega), sgU11c0 (by omega), sgU11c6 (by omega), sgU11c5 (by omega), sgU11c4 (by omega), sgU11c3 (by omega), sgU11c2 (by omega), sgU11c1 (by omega), sgU11c0 (by omega)]
  funext j
  unfold sp_comes up
  by_cases e1 : j = 1
  · simp [e1]
  · by_cases e2 : 53 + 7 * n ≤ j ∧ j < 53 + 7 * n + 7
    · rcases (show j = 53 + 7 * n ∨ j = 53 + 7 * n + 1 ∨ j = 53 + 7 * n + 2 ∨ j = 53 + 7 * n + 3 ∨ j = 53 + 7 * n + 4 ∨ j = 53 + 7 * n + 5 ∨ j = 53 + 7 * n + 6 by omega) with rfl | rfl | rfl | rfl | rfl | rfl | rfl <;> simp [e1]
    · rw [if_neg e1, if_neg (by omega), if_neg (by omega), if_neg (by omega), if_neg (by omega), if_neg (by omega), if_neg (by omega), if_neg (by omega), if_neg (by omega), if_neg (by omega), if_neg (by omega)]
      rw [if_neg e1, if_neg (by omega), if_neg (by omega), if_neg (by omega), if_neg e2]
theorem ct_Cdraw {d L : Nat} {xs : Nat → Int32} {I : Nat → Nat → Int32} {Q : Option Value → mj_H → Prop}  (hQ : ∀ I2, mFr (mRg 11) I I2 → mSg 11 128 I2 = up (mSg 11 128 I) 0 (sp_z ((mSg 11 128 I) 0)) → Q (some (.int (nI (sp_dv (sp_z ((mSg 11 128 I) 0)))))) (mg_h L xs I2)) : mj_Cl d 59 [.ref 11] (mg_h L xs I) Q := by
  refine cl_start mx_59 (ls := [.ref 11]) rfl ?_
  refine me_aload_n (p' := 1) k59_0 rfl rfl ?_
  refine me_aload_n (p' := 2) k59_1 rfl rfl ?_
  refine me_gfi (p' := 5) k59_2 rfl (by decide) rfl rfl ?_
  refine me_ldc (p' := 7) k59_5 rfl (v := nI 1103515245) rfl ?_
  refine me_imul (p' := 8) k59_7 rfl rfl ?_
  refine me_sipush (p' := 11) k59_8 rfl (v := nI 12345) (by decide) ?_
  refine me_iadd (p' := 12) k59_11 rfl rfl ?_
  refine me_pfi (p' := 15) k59_12 rfl (by decide) rfl rfl rfl rfl ?_
  refine me_aload_n (p' := 16) k59_15 rfl rfl ?_
  refine me_gfi (p' := 19) k59_16 rfl (by decide) rfl rfl ?_
  refine me_bipush (p' := 21) k59_19 rfl (v := nI 8) (by decide) ?_
  refine me_iushr (p' := 22) k59_21 rfl rfl ?_
  refine me_reti k59_22 rt_59 rfl ?_
  rw [mI_shr8, mg_ueq]
  refine hQ _ (mFr.up (by decide)) ?_
  rw [sgU11f0]
  rfl
theorem lp_scareCount {d L : Nat} {xs : Nat → Int32} {I : Nat → Nat → Int32} {Q : Option Value → mj_H → Prop} (hQ : Q (some (.int (sp_scr (mSg 11 128 I) 12))) (mg_h L xs I)) : ∀ k : Nat, k ≤ 12 → mj_Ev d 131 4 [.ref 11, .int (sp_scr (mSg 11 128 I) k), .int (nI k)] [] (mg_h L xs I) Q := by
  refine loop_ind (n := 12) (fun k hkn ih => ?_)
  refine me_iload_n (p' := 5) k131_4 rfl rfl ?_
  refine me_bipush (p' := 7) k131_5 rfl (v := nI 12) (by decide) ?_
  refine me_ic_ge (p' := 10) k131_7 rfl (fun c1 => ?_) (fun c1 => ?_)
  · skip
    rw [cI_le (a := 12) (b := k) (by omega) (by omega)] at c1
    refine me_iload_n (p' := 31) k131_30 rfl rfl ?_
    refine me_reti k131_31 rt_131 rfl ?_
    have e8 : k = 12 := by omega
    subst e8
    exact hQ
  · skip
    rw [cI_le (a := 12) (b := k) (by omega) (by omega)] at c1
    refine me_aload_n (p' := 11) k131_10 rfl rfl ?_
    refine me_gfr (p' := 14) k131_11 rfl (by decide) rfl (b := 12) rfl ?_
    refine me_iconst (p' := 15) k131_14 rfl (v := nI 2) (by decide) ?_
    refine me_aald (p' := 16) k131_15 rfl (by decide) rfl ⟨by decide, by decide⟩ (j := 2) rfl (by omega) (by decide) (b := 15) rfl ?_
    refine me_iload_n (p' := 17) k131_16 rfl rfl ?_
    refine me_iald (p' := 18) k131_17 rfl (by decide) rfl (j := k) rfl (by omega) (by decide) rfl ?_
    rw [sgR11p2 (I := I) (c := k) (by omega)]
    refine me_if_le (p' := 21) k131_18 rfl (fun c2 => ?_) (fun c2 => ?_)
    · skip
      refine me_iinc (p' := 27) k131_24 rfl rfl rfl (v := nI (k + 1)) (mI_inc (by decide)) rfl ?_
      refine me_goto k131_27 ?_
      have e9 : (sp_scr (mSg 11 128 I) k) = sp_scr (mSg 11 128 I) (k + 1) := by rw [sp_scr, if_neg (Int32.not_lt.mpr c2), mI_z]
      rw [e9]
      exact ih (by omega)
    · skip
      refine me_iinc (p' := 24) k131_21 rfl rfl rfl rfl rfl ?_
      refine me_iinc (p' := 27) k131_24 rfl rfl rfl (v := nI (k + 1)) (mI_inc (by decide)) rfl ?_
      refine me_goto k131_27 ?_
      have e9 : ((sp_scr (mSg 11 128 I) k) + Int32.ofInt (1)) = sp_scr (mSg 11 128 I) (k + 1) := by rw [sp_scr, if_pos (Int32.not_le.mp c2)]; rfl
      rw [e9]
      exact ih (by omega)
theorem ct_scareCount {d L : Nat} {xs : Nat → Int32} {I : Nat → Nat → Int32} {Q : Option Value → mj_H → Prop}  (hQ : Q (some (.int (sp_scr (mSg 11 128 I) 12))) (mg_h L xs I)) : mj_Cl d 131 [.ref 11] (mg_h L xs I) Q := by
  refine cl_start mx_131 (ls := [.ref 11, mj_no, mj_no]) rfl ?_
  refine me_iconst (p' := 1) k131_0 rfl (v := nI 0) (by decide) ?_
  refine me_istore_n (p' := 2) k131_1 rfl ⟨Nat.le_of_ble_eq_true rfl, rfl⟩ rfl ?_
  refine me_iconst (p' := 3) k131_2 rfl (v := nI 0) (by decide) ?_
  refine me_istore_n (p' := 4) k131_3 rfl ⟨Nat.le_of_ble_eq_true rfl, rfl⟩ rfl ?_
  exact lp_scareCount hQ 0 (Nat.zero_le _)
