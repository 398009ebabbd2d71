/-! ===== the model: small methods ===== -/
def sp_within (v a b : Int32) : Int32 := if a ≤ v then (if v ≤ b then v else b) else a
/-- of one state another, but for some cells -/
def mFr (S : List Nat) (I I' : Nat → Nat → Int32) : Prop := ∀ i k : Nat, i ∉ S → I' i k = I i k
theorem mFr.rf {S : List Nat} {I : Nat → Nat → Int32} : mFr S I I := fun _ _ _ => rfl
theorem mFr.tr {S : List Nat} {I I1 I2 : Nat → Nat → Int32} (h1 : mFr S I I1) (h2 : mFr S I1 I2) : mFr S I I2 := fun i k h => (h2 i k h).trans (h1 i k h)
theorem mFr.up {S : List Nat} {I : Nat → Nat → Int32} {i k : Nat} {v : Int32} (h : i ∈ S) : mFr S I (mg_u I i k v) := fun a b ha => by
  unfold mg_u
  rw [if_neg (fun z => ha (by rw [z.1]; exact h))]
theorem mFr.mono {S S' : List Nat} {I I' : Nat → Nat → Int32} (h : mFr S I I') (hs : ∀ x ∈ S, x ∈ S') : mFr S' I I' := fun i k hi => h i k (fun z => hi (hs i z))
/-- how many CARS -/
def mN (s : Nat → Int32) (n : Nat) : Prop := s 1 = nI n ∧ n ≤ 8
theorem ct_within {d L : Nat} {xs : Nat → Int32} {I : Nat → Nat → Int32} {Q : Option Value → mj_H → Prop} {v a b : Int32} (hQ : Q (some (.int (sp_within v a b))) (mg_h L xs I)) : mj_Cl d 144 [.int v, .int a, .int b] (mg_h L xs I) Q := by
  refine cl_start mx_144 (ls := [.int v, .int a, .int b]) rfl ?_
  refine me_iload_n (p' := 1) k144_0 rfl rfl ?_
  refine me_iload_n (p' := 2) k144_1 rfl rfl ?_
  refine me_ic_ge (p' := 5) k144_2 rfl (fun c1 => ?_) (fun c1 => ?_)
  · skip
    refine me_iload_n (p' := 10) k144_9 rfl rfl ?_
    refine me_iload_n (p' := 11) k144_10 rfl rfl ?_
    refine me_ic_le (p' := 14) k144_11 rfl (fun c2 => ?_) (fun c2 => ?_)
    · skip
      refine me_iload_n (p' := 19) k144_18 rfl rfl ?_
      refine me_reti k144_19 rt_144 rfl ?_
      simp only [sp_within, c1, c2, if_true, if_false] at hQ
      exact hQ
    · skip
      refine me_iload_n (p' := 15) k144_14 rfl rfl ?_
      refine me_goto k144_15 ?_
      refine me_reti k144_19 rt_144 rfl ?_
      simp only [sp_within, c1, c2, if_true, if_false] at hQ
      exact hQ
  · skip
    refine me_iload_n (p' := 6) k144_5 rfl rfl ?_
    refine me_goto k144_6 ?_
    refine me_reti k144_19 rt_144 rfl ?_
    simp only [sp_within, c1, if_true, if_false] at hQ
    exact hQ
theorem ct_of {d L : Nat} {xs : Nat → Int32} {I : Nat → Nat → Int32} {Q : Option Value → mj_H → Prop} {c w : Nat} (hcw : 53 + 7 * c + w < 1481) (hQ : Q (some (.int (I 128 (53 + 7 * c + w)))) (mg_h L xs I)) : mj_Cl d 141 [.ref 127, .int (nI c), .int (nI w)] (mg_h L xs I) Q := by
  refine cl_start mx_141 (ls := [.ref 127, .int (nI c), .int (nI w)]) rfl ?_
  refine me_aload_n (p' := 1) k141_0 rfl rfl ?_
  refine me_gfr (p' := 4) k141_1 rfl (by decide) rfl (b := 128) rfl ?_
  refine me_bipush (p' := 6) k141_4 rfl (v := nI 53) (by decide) ?_
  refine me_bipush (p' := 8) k141_6 rfl (v := nI 7) (by decide) ?_
  refine me_iload_n (p' := 9) k141_8 rfl rfl ?_
  refine me_imul (p' := 10) k141_9 rfl (v := nI (7 * c)) (mI_mul _ _) ?_
  refine me_iadd (p' := 11) k141_10 rfl (v := nI (53 + (7 * c))) (mI_add _ _) ?_
  refine me_iload_n (p' := 12) k141_11 rfl rfl ?_
  refine me_iadd (p' := 13) k141_12 rfl (v := nI ((53 + (7 * c)) + w)) (mI_add _ _) ?_
  refine me_iald (p' := 14) k141_13 rfl (by decide) rfl (j := (53 + (7 * c)) + w) rfl (by omega) (by decide) rfl ?_
  refine me_reti k141_14 rt_141 rfl ?_
  exact hQ
theorem ct_adds {d L : Nat} {xs : Nat → Int32} {I : Nat → Nat → Int32} {Q : Option Value → mj_H → Prop} {c w : Nat} {v : Int32} (hcw : 53 + 7 * c + w < 1481) (hQ : Q none (mg_h L xs (mg_u I 128 (53 + 7 * c + w) (I 128 (53 + 7 * c + w) + v)))) : mj_Cl d 165 [.ref 127, .int (nI c), .int (nI w), .int v] (mg_h L xs I) Q := by
  refine cl_start mx_165 (ls := [.ref 127, .int (nI c), .int (nI w), .int v]) rfl ?_
  refine me_aload_n (p' := 1) k165_0 rfl rfl ?_
  refine me_gfr (p' := 4) k165_1 rfl (by decide) rfl (b := 128) rfl ?_
  refine me_bipush (p' := 6) k165_4 rfl (v := nI 53) (by decide) ?_
  refine me_bipush (p' := 8) k165_6 rfl (v := nI 7) (by decide) ?_
  refine me_iload_n (p' := 9) k165_8 rfl rfl ?_
  refine me_imul (p' := 10) k165_9 rfl (v := nI (7 * c)) (mI_mul _ _) ?_
  refine me_iadd (p' := 11) k165_10 rfl (v := nI (53 + (7 * c))) (mI_add _ _) ?_
  refine me_iload_n (p' := 12) k165_11 rfl rfl ?_
  refine me_iadd (p' := 13) k165_12 rfl (v := nI ((53 + (7 * c)) + w)) (mI_add _ _) ?_
  refine me_dup2 (p' := 14) k165_13 rfl rfl ?_
  refine me_iald (p' := 15) k165_14 rfl (by decide) rfl (j := (53 + (7 * c)) + w) rfl (by omega) (by decide) rfl ?_
  refine me_iload_n (p' := 16) k165_15 rfl rfl ?_
  refine me_iadd (p' := 17) k165_16 rfl rfl ?_
  refine me_iast (p' := 18) k165_17 rfl (by decide) rfl (j := (53 + (7 * c)) + w) rfl (by omega) (by decide) rfl ?_
  refine me_retv k165_18 rt_165 ?_
  exact hQ
theorem ct_becomes {d L : Nat} {xs : Nat → Int32} {I : Nat → Nat → Int32} {Q : Option Value → mj_H → Prop} {k : Nat} {v : Int32} (hk : k < 1481) (hQ : Q (some (.int (I 128 k))) (mg_h L xs (mg_u I 128 k v))) : mj_Cl d 152 [.ref 127, .int (nI k), .int v] (mg_h L xs I) Q := by
  refine cl_start mx_152 (ls := [.ref 127, .int (nI k), .int v, mj_no]) rfl ?_
  refine me_aload_n (p' := 1) k152_0 rfl rfl ?_
  refine me_gfr (p' := 4) k152_1 rfl (by decide) rfl (b := 128) rfl ?_
  refine me_iload_n (p' := 5) k152_4 rfl rfl ?_
  refine me_iald (p' := 6) k152_5 rfl (by decide) rfl (j := k) rfl (by omega) (by decide) rfl ?_
  refine me_istore_n (p' := 7) k152_6 rfl ⟨Nat.le_of_ble_eq_true rfl, rfl⟩ rfl ?_
  refine me_aload_n (p' := 8) k152_7 rfl rfl ?_
  refine me_gfr (p' := 11) k152_8 rfl (by decide) rfl (b := 128) rfl ?_
  refine me_iload_n (p' := 12) k152_11 rfl rfl ?_
  refine me_iload_n (p' := 13) k152_12 rfl rfl ?_
  refine me_iast (p' := 14) k152_13 rfl (by decide) rfl (j := k) rfl (by omega) (by decide) rfl ?_
  refine me_iload_n (p' := 15) k152_14 rfl rfl ?_
  refine me_reti k152_15 rt_152 rfl ?_
  exact hQ
theorem mI_in1 {v : Int32} {n : Nat} (hn : n < 2 ^ 31) (h : nI 0 ≤ v ∧ v ≤ nI n) : ∃ k : Nat, k ≤ n ∧ v = nI k := by
  have h0 : 0 ≤ v := h.1
  obtain ⟨k, rfl, hk⟩ := mI_of h0
  exact ⟨k, (cI_le hk hn).mp h.2, rfl⟩
theorem mI_in0 {v : Int32} {n k : Nat} (hn : n < 2 ^ 31) (h : ¬ (nI 0 ≤ v ∧ v ≤ nI n)) (hk : k ≤ n) : v ≠ nI k := by
  rintro rfl
  exact h ⟨nI_pos' (by omega), (cI_le (by omega) hn).mpr hk⟩
theorem mI_car1 {v : Int32} {n : Nat} (hn : n ≤ 8) (h : nI 0 ≤ v ∧ v ≤ nI n - nI 1) : ∃ k : Nat, k < n ∧ v = nI k := by
  have h0 : 0 ≤ v := h.1
  obtain ⟨k, rfl, hk⟩ := mI_of h0
  rcases Nat.eq_zero_or_pos n with rfl | hp
  · have h2 := h.2
    rw [Int32.le_iff_toInt_le, nI_toInt hk] at h2
    have : (nI 0 - nI 1).toInt = -1 := by decide
    omega
  · have e : nI n - nI 1 = nI (n - 1) := by
      have : nI (n - 1) + nI 1 = nI n := by rw [mI_add]; congr 1; omega
      rw [← this]
      simp
    rw [e] at h
    exact ⟨k, by have := (cI_le hk (by omega)).mp h.2; omega, rfl⟩
theorem mI_car0 {v : Int32} {n k : Nat} (hn : n ≤ 8) (h : ¬ (nI 0 ≤ v ∧ v ≤ nI n - nI 1)) (hk : k < n) : v ≠ nI k := by
  rintro rfl
  have e : nI n - nI 1 = nI (n - 1) := by
    have : nI (n - 1) + nI 1 = nI n := by rw [mI_add]; congr 1; omega
    rw [← this]
    simp
  exact h ⟨nI_pos' (by omega), by rw [e]; exact (cI_le (by omega) (by omega)).mpr (by omega)⟩
theorem ct_MisPart {d L : Nat} {xs : Nat → Int32} {I : Nat → Nat → Int32} {Q : Option Value → mj_H → Prop} {v : Int32} (h1 : ∀ k : Nat, k < 12 → v = nI k → Q (some (.int (nI 1))) (mg_h L xs I)) (h0 : (∀ k : Nat, k < 12 → v ≠ nI k) → Q (some (.int (nI 0))) (mg_h L xs I)) : mj_Cl (d + 1) 138 [.int v] (mg_h L xs I) Q := by
  refine cl_start mx_138 (ls := [.int v]) rfl ?_
  refine me_iload_n (p' := 1) k138_0 rfl rfl ?_
  refine me_iconst (p' := 2) k138_1 rfl (v := nI 0) (by decide) ?_
  refine me_bipush (p' := 4) k138_2 rfl (v := nI 11) (by decide) ?_
  refine me_cs (p' := 7) k138_4 rfl rfl rfl rfl rfl (cl_le mx_134 rfl) (by decide) (cl_sum rfl) (ct_in (fun e1 => ?_) (fun e1 => ?_))
  · skip
    refine me_reti k138_7 rt_138 (by decide) ?_
    obtain ⟨k, hk, rfl⟩ := mI_in1 (n := 11) (by decide) e1
    exact h1 k (by omega) rfl
  · skip
    refine me_reti k138_7 rt_138 (by decide) ?_
    exact h0 (fun k hk => mI_in0 (n := 11) (by decide) e1 (by omega))
theorem ct_MisSheet {d L : Nat} {xs : Nat → Int32} {I : Nat → Nat → Int32} {Q : Option Value → mj_H → Prop} {v : Int32} (h1 : ∀ k : Nat, k < 4 → v = nI k → Q (some (.int (nI 1))) (mg_h L xs I)) (h0 : (∀ k : Nat, k < 4 → v ≠ nI k) → Q (some (.int (nI 0))) (mg_h L xs I)) : mj_Cl (d + 1) 182 [.int v] (mg_h L xs I) Q := by
  refine cl_start mx_182 (ls := [.int v]) rfl ?_
  refine me_iload_n (p' := 1) k182_0 rfl rfl ?_
  refine me_iconst (p' := 2) k182_1 rfl (v := nI 0) (by decide) ?_
  refine me_iconst (p' := 3) k182_2 rfl (v := nI 3) (by decide) ?_
  refine me_cs (p' := 6) k182_3 rfl rfl rfl rfl rfl (cl_le mx_134 rfl) (by decide) (cl_sum rfl) (ct_in (fun e1 => ?_) (fun e1 => ?_))
  · skip
    refine me_reti k182_6 rt_182 (by decide) ?_
    obtain ⟨k, hk, rfl⟩ := mI_in1 (n := 3) (by decide) e1
    exact h1 k (by omega) rfl
  · skip
    refine me_reti k182_6 rt_182 (by decide) ?_
    exact h0 (fun k hk => mI_in0 (n := 3) (by decide) e1 (by omega))
theorem ct_MisSlot {d L : Nat} {xs : Nat → Int32} {I : Nat → Nat → Int32} {Q : Option Value → mj_H → Prop} {v : Int32} (h1 : ∀ k : Nat, k < 5 → v = nI k → Q (some (.int (nI 1))) (mg_h L xs I)) (h0 : (∀ k : Nat, k < 5 → v ≠ nI k) → Q (some (.int (nI 0))) (mg_h L xs I)) : mj_Cl (d + 1) 208 [.int v] (mg_h L xs I) Q := by
  refine cl_start mx_208 (ls := [.int v]) rfl ?_
  refine me_iload_n (p' := 1) k208_0 rfl rfl ?_
  refine me_iconst (p' := 2) k208_1 rfl (v := nI 0) (by decide) ?_
  refine me_iconst (p' := 3) k208_2 rfl (v := nI 4) (by decide) ?_
  refine me_cs (p' := 6) k208_3 rfl rfl rfl rfl rfl (cl_le mx_134 rfl) (by decide) (cl_sum rfl) (ct_in (fun e1 => ?_) (fun e1 => ?_))
  · skip
    refine me_reti k208_6 rt_208 (by decide) ?_
    obtain ⟨k, hk, rfl⟩ := mI_in1 (n := 4) (by decide) e1
    exact h1 k (by omega) rfl
  · skip
    refine me_reti k208_6 rt_208 (by decide) ?_
    exact h0 (fun k hk => mI_in0 (n := 4) (by decide) e1 (by omega))
theorem ct_MisCar {d L : Nat} {xs : Nat → Int32} {I : Nat → Nat → Int32} {Q : Option Value → mj_H → Prop} {v : Int32} {n : Nat} (hn : mN (I 128) n) (h1 : ∀ k : Nat, k < n → v = nI k → Q (some (.int (nI 1))) (mg_h L xs I)) (h0 : (∀ k : Nat, k < n → v ≠ nI k) → Q (some (.int (nI 0))) (mg_h L xs I)) : mj_Cl (d + 1) 137 [.ref 127, .int v] (mg_h L xs I) Q := by
  refine cl_start mx_137 (ls := [.ref 127, .int v]) rfl ?_
  refine me_iload_n (p' := 1) k137_0 rfl rfl ?_
  refine me_iconst (p' := 2) k137_1 rfl (v := nI 0) (by decide) ?_
  refine me_aload_n (p' := 3) k137_2 rfl rfl ?_
  refine me_gfr (p' := 6) k137_3 rfl (by decide) rfl (b := 128) rfl ?_
  refine me_iconst (p' := 7) k137_6 rfl (v := nI 1) (by decide) ?_
  refine me_iald (p' := 8) k137_7 rfl (by decide) rfl (j := 1) rfl (by omega) (by decide) rfl ?_
  refine me_iconst (p' := 9) k137_8 rfl (v := nI 1) (by decide) ?_
  refine me_isub (p' := 10) k137_9 rfl rfl ?_
  refine me_cs (p' := 13) k137_10 rfl rfl rfl rfl rfl (cl_le mx_134 rfl) (by decide) (cl_sum rfl) (ct_in (fun e1 => ?_) (fun e1 => ?_))
  · skip
    refine me_reti k137_13 rt_137 (by decide) ?_
    rw [hn.1] at e1
    obtain ⟨k, hk, rfl⟩ := mI_car1 hn.2 e1
    exact h1 k hk rfl
  · skip
    refine me_reti k137_13 rt_137 (by decide) ?_
    rw [hn.1] at e1
    exact h0 (fun k hk => mI_car0 hn.2 e1 hk)
