/-! ===== small methods (walked by wip/whole/gen24.py) ===== -/
theorem mI_rng {v : Int32} {n : Nat} (hn : n < 2 ^ 31) (h0 : ¬ v < 0) (h1 : ¬ nI n ≤ v) : ∃ k : Nat, k < n ∧ v = nI k := by
  obtain ⟨k, rfl, hk⟩ := mI_of (Int32.not_lt.mp h0)
  rw [cI_le hn hk] at h1
  exact ⟨k, by omega, rfl⟩
theorem mI_out {v : Int32} {n k : Nat} (hn : n < 2 ^ 31) (h : v < 0 ∨ nI n ≤ v) (hk : k < n) : v ≠ nI k := by
  rintro rfl
  rcases h with h | h
  · exact nI_pos (by omega) h
  · rw [cI_le hn (by omega)] at h
    omega
theorem ct_in {d L : Nat} {xs : Nat → Int32} {I : Nat → Nat → Int32} {Q : Option Value → mj_H → Prop} {v a b : Int32} (h1 : a ≤ v ∧ v ≤ b → Q (some (.int (nI 1))) (mg_h L xs I)) (h0 : ¬ (a ≤ v ∧ v ≤ b) → Q (some (.int (nI 0))) (mg_h L xs I)) : mj_Cl d 134 [.int v, .int a, .int b] (mg_h L xs I) Q := by
  refine cl_start mx_134 (ls := [.int v, .int a, .int b]) rfl ?_
  refine me_iload_n (p' := 1) k134_0 rfl rfl ?_
  refine me_iload_n (p' := 2) k134_1 rfl rfl ?_
  refine me_ic_lt (p' := 5) k134_2 rfl (fun c1 => ?_) (fun c1 => ?_)
  · skip
    refine me_iconst (p' := 15) k134_14 rfl (v := nI 0) (by decide) ?_
    refine me_reti k134_15 rt_134 (by decide) ?_
    exact h0 (by simp only [Int32.lt_iff_toInt_lt, Int32.le_iff_toInt_le] at *; omega)
  · skip
    refine me_iload_n (p' := 6) k134_5 rfl rfl ?_
    refine me_iload_n (p' := 7) k134_6 rfl rfl ?_
    refine me_ic_gt (p' := 10) k134_7 rfl (fun c2 => ?_) (fun c2 => ?_)
    · skip
      refine me_iconst (p' := 15) k134_14 rfl (v := nI 0) (by decide) ?_
      refine me_reti k134_15 rt_134 (by decide) ?_
      exact h0 (by simp only [Int32.lt_iff_toInt_lt, Int32.le_iff_toInt_le] at *; omega)
    · skip
      refine me_iconst (p' := 11) k134_10 rfl (v := nI 1) (by decide) ?_
      refine me_goto k134_11 ?_
      refine me_reti k134_15 rt_134 (by decide) ?_
      exact h1 (by simp only [Int32.lt_iff_toInt_lt, Int32.le_iff_toInt_le] at *; omega)
theorem ct_isWithin {d L : Nat} {xs : Nat → Int32} {I : Nat → Nat → Int32} {Q : Option Value → mj_H → Prop} {v a b : Int32} (h1 : a ≤ v ∧ v ≤ b → Q (some (.int (nI 1))) (mg_h L xs I)) (h0 : ¬ (a ≤ v ∧ v ≤ b) → Q (some (.int (nI 0))) (mg_h L xs I)) : mj_Cl d 16 [.int v, .int a, .int b] (mg_h L xs I) Q := by
  refine cl_start mx_16 (ls := [.int v, .int a, .int b]) rfl ?_
  refine me_iload_n (p' := 1) k16_0 rfl rfl ?_
  refine me_iload_n (p' := 2) k16_1 rfl rfl ?_
  refine me_ic_lt (p' := 5) k16_2 rfl (fun c1 => ?_) (fun c1 => ?_)
  · skip
    refine me_iconst (p' := 15) k16_14 rfl (v := nI 0) (by decide) ?_
    refine me_reti k16_15 rt_16 (by decide) ?_
    exact h0 (by simp only [Int32.lt_iff_toInt_lt, Int32.le_iff_toInt_le] at *; omega)
  · skip
    refine me_iload_n (p' := 6) k16_5 rfl rfl ?_
    refine me_iload_n (p' := 7) k16_6 rfl rfl ?_
    refine me_ic_gt (p' := 10) k16_7 rfl (fun c2 => ?_) (fun c2 => ?_)
    · skip
      refine me_iconst (p' := 15) k16_14 rfl (v := nI 0) (by decide) ?_
      refine me_reti k16_15 rt_16 (by decide) ?_
      exact h0 (by simp only [Int32.lt_iff_toInt_lt, Int32.le_iff_toInt_le] at *; omega)
    · skip
      refine me_iconst (p' := 11) k16_10 rfl (v := nI 1) (by decide) ?_
      refine me_goto k16_11 ?_
      refine me_reti k16_15 rt_16 (by decide) ?_
      exact h1 (by simp only [Int32.lt_iff_toInt_lt, Int32.le_iff_toInt_le] at *; omega)
theorem ct_CisPart {d L : Nat} {xs : Nat → Int32} {I : Nat → Nat → Int32} {Q : Option Value → mj_H → Prop} {v : Int32} (h1 : ∀ k : Nat, k < 12 → v = nI k → Q (some (.int (nI 1))) (mg_h L xs I)) (h0 : (∀ k : Nat, k < 12 → v ≠ nI k) → Q (some (.int (nI 0))) (mg_h L xs I)) : mj_Cl d 45 [.int v] (mg_h L xs I) Q := by
  refine cl_start mx_45 (ls := [.int v]) rfl ?_
  refine me_iload_n (p' := 1) k45_0 rfl rfl ?_
  refine me_if_lt (p' := 4) k45_1 rfl (fun c1 => ?_) (fun c1 => ?_)
  · skip
    refine me_iconst (p' := 15) k45_14 rfl (v := nI 0) (by decide) ?_
    refine me_reti k45_15 rt_45 (by decide) ?_
    exact h0 (fun k hk => mI_out (n := 12) (by decide) (Or.inl c1) hk)
  · skip
    refine me_iload_n (p' := 5) k45_4 rfl rfl ?_
    refine me_bipush (p' := 7) k45_5 rfl (v := nI 12) (by decide) ?_
    refine me_ic_ge (p' := 10) k45_7 rfl (fun c2 => ?_) (fun c2 => ?_)
    · skip
      refine me_iconst (p' := 15) k45_14 rfl (v := nI 0) (by decide) ?_
      refine me_reti k45_15 rt_45 (by decide) ?_
      exact h0 (fun k hk => mI_out (n := 12) (by decide) (Or.inr c2) hk)
    · skip
      refine me_iconst (p' := 11) k45_10 rfl (v := nI 1) (by decide) ?_
      refine me_goto k45_11 ?_
      refine me_reti k45_15 rt_45 (by decide) ?_
      obtain ⟨k, hk, rfl⟩ := mI_rng (by decide) c1 c2
      exact h1 k hk rfl
theorem ct_CisKind {d L : Nat} {xs : Nat → Int32} {I : Nat → Nat → Int32} {Q : Option Value → mj_H → Prop} {v : Int32} (h1 : ∀ k : Nat, k < 6 → v = nI k → Q (some (.int (nI 1))) (mg_h L xs I)) (h0 : (∀ k : Nat, k < 6 → v ≠ nI k) → Q (some (.int (nI 0))) (mg_h L xs I)) : mj_Cl d 13 [.int v] (mg_h L xs I) Q := by
  refine cl_start mx_13 (ls := [.int v]) rfl ?_
  refine me_iload_n (p' := 1) k13_0 rfl rfl ?_
  refine me_if_lt (p' := 4) k13_1 rfl (fun c1 => ?_) (fun c1 => ?_)
  · skip
    refine me_iconst (p' := 15) k13_14 rfl (v := nI 0) (by decide) ?_
    refine me_reti k13_15 rt_13 (by decide) ?_
    exact h0 (fun k hk => mI_out (n := 6) (by decide) (Or.inl c1) hk)
  · skip
    refine me_iload_n (p' := 5) k13_4 rfl rfl ?_
    refine me_bipush (p' := 7) k13_5 rfl (v := nI 6) (by decide) ?_
    refine me_ic_ge (p' := 10) k13_7 rfl (fun c2 => ?_) (fun c2 => ?_)
    · skip
      refine me_iconst (p' := 15) k13_14 rfl (v := nI 0) (by decide) ?_
      refine me_reti k13_15 rt_13 (by decide) ?_
      exact h0 (fun k hk => mI_out (n := 6) (by decide) (Or.inr c2) hk)
    · skip
      refine me_iconst (p' := 11) k13_10 rfl (v := nI 1) (by decide) ?_
      refine me_goto k13_11 ?_
      refine me_reti k13_15 rt_13 (by decide) ?_
      obtain ⟨k, hk, rfl⟩ := mI_rng (by decide) c1 c2
      exact h1 k hk rfl
theorem ct_CisSheet {d L : Nat} {xs : Nat → Int32} {I : Nat → Nat → Int32} {Q : Option Value → mj_H → Prop} {v : Int32} (h1 : ∀ k : Nat, k < 4 → v = nI k → Q (some (.int (nI 1))) (mg_h L xs I)) (h0 : (∀ k : Nat, k < 4 → v ≠ nI k) → Q (some (.int (nI 0))) (mg_h L xs I)) : mj_Cl d 84 [.int v] (mg_h L xs I) Q := by
  refine cl_start mx_84 (ls := [.int v]) rfl ?_
  refine me_iload_n (p' := 1) k84_0 rfl rfl ?_
  refine me_if_lt (p' := 4) k84_1 rfl (fun c1 => ?_) (fun c1 => ?_)
  · skip
    refine me_iconst (p' := 14) k84_13 rfl (v := nI 0) (by decide) ?_
    refine me_reti k84_14 rt_84 (by decide) ?_
    exact h0 (fun k hk => mI_out (n := 4) (by decide) (Or.inl c1) hk)
  · skip
    refine me_iload_n (p' := 5) k84_4 rfl rfl ?_
    refine me_iconst (p' := 6) k84_5 rfl (v := nI 4) (by decide) ?_
    refine me_ic_ge (p' := 9) k84_6 rfl (fun c2 => ?_) (fun c2 => ?_)
    · skip
      refine me_iconst (p' := 14) k84_13 rfl (v := nI 0) (by decide) ?_
      refine me_reti k84_14 rt_84 (by decide) ?_
      exact h0 (fun k hk => mI_out (n := 4) (by decide) (Or.inr c2) hk)
    · skip
      refine me_iconst (p' := 10) k84_9 rfl (v := nI 1) (by decide) ?_
      refine me_goto k84_10 ?_
      refine me_reti k84_14 rt_84 (by decide) ?_
      obtain ⟨k, hk, rfl⟩ := mI_rng (by decide) c1 c2
      exact h1 k hk rfl
theorem ct_CisSlot {d L : Nat} {xs : Nat → Int32} {I : Nat → Nat → Int32} {Q : Option Value → mj_H → Prop} {v : Int32} (h1 : ∀ k : Nat, k < 5 → v = nI k → Q (some (.int (nI 1))) (mg_h L xs I)) (h0 : (∀ k : Nat, k < 5 → v ≠ nI k) → Q (some (.int (nI 0))) (mg_h L xs I)) : mj_Cl d 121 [.int v] (mg_h L xs I) Q := by
  refine cl_start mx_121 (ls := [.int v]) rfl ?_
  refine me_iload_n (p' := 1) k121_0 rfl rfl ?_
  refine me_if_lt (p' := 4) k121_1 rfl (fun c1 => ?_) (fun c1 => ?_)
  · skip
    refine me_iconst (p' := 14) k121_13 rfl (v := nI 0) (by decide) ?_
    refine me_reti k121_14 rt_121 (by decide) ?_
    exact h0 (fun k hk => mI_out (n := 5) (by decide) (Or.inl c1) hk)
  · skip
    refine me_iload_n (p' := 5) k121_4 rfl rfl ?_
    refine me_iconst (p' := 6) k121_5 rfl (v := nI 5) (by decide) ?_
    refine me_ic_ge (p' := 9) k121_6 rfl (fun c2 => ?_) (fun c2 => ?_)
    · skip
      refine me_iconst (p' := 14) k121_13 rfl (v := nI 0) (by decide) ?_
      refine me_reti k121_14 rt_121 (by decide) ?_
      exact h0 (fun k hk => mI_out (n := 5) (by decide) (Or.inr c2) hk)
    · skip
      refine me_iconst (p' := 10) k121_9 rfl (v := nI 1) (by decide) ?_
      refine me_goto k121_10 ?_
      refine me_reti k121_14 rt_121 (by decide) ?_
      obtain ⟨k, hk, rfl⟩ := mI_rng (by decide) c1 c2
      exact h1 k hk rfl
theorem ct_CisFoot {d L : Nat} {xs : Nat → Int32} {I : Nat → Nat → Int32} {Q : Option Value → mj_H → Prop} {v : Int32} (h1 : ∀ k : Nat, k < 240 → v = nI k → Q (some (.int (nI 1))) (mg_h L xs I)) (h0 : (∀ k : Nat, k < 240 → v ≠ nI k) → Q (some (.int (nI 0))) (mg_h L xs I)) : mj_Cl d 14 [.int v] (mg_h L xs I) Q := by
  refine cl_start mx_14 (ls := [.int v]) rfl ?_
  refine me_iload_n (p' := 1) k14_0 rfl rfl ?_
  refine me_if_lt (p' := 4) k14_1 rfl (fun c1 => ?_) (fun c1 => ?_)
  · skip
    refine me_iconst (p' := 16) k14_15 rfl (v := nI 0) (by decide) ?_
    refine me_reti k14_16 rt_14 (by decide) ?_
    exact h0 (fun k hk => mI_out (n := 240) (by decide) (Or.inl c1) hk)
  · skip
    refine me_iload_n (p' := 5) k14_4 rfl rfl ?_
    refine me_sipush (p' := 8) k14_5 rfl (v := nI 240) (by decide) ?_
    refine me_ic_ge (p' := 11) k14_8 rfl (fun c2 => ?_) (fun c2 => ?_)
    · skip
      refine me_iconst (p' := 16) k14_15 rfl (v := nI 0) (by decide) ?_
      refine me_reti k14_16 rt_14 (by decide) ?_
      exact h0 (fun k hk => mI_out (n := 240) (by decide) (Or.inr c2) hk)
    · skip
      refine me_iconst (p' := 12) k14_11 rfl (v := nI 1) (by decide) ?_
      refine me_goto k14_12 ?_
      refine me_reti k14_16 rt_14 (by decide) ?_
      obtain ⟨k, hk, rfl⟩ := mI_rng (by decide) c1 c2
      exact h1 k hk rfl
