/-! ===== the model: what is called (2) ===== -/
theorem ct_in3 {d L : Nat} {xs : Nat → Int32} {I : Nat → Nat → Int32} {Q : Option Value → mj_H → Prop} {v : Int32} (h1 : v = nI 0 → Q (some (.int (nI 1))) (mg_h L xs I)) (h2 : v = nI 1 → Q (some (.int (nI 1))) (mg_h L xs I)) (h3 : v = nI 2 → Q (some (.int (nI 1))) (mg_h L xs I))
    (h0 : (∀ k : Nat, k < 3 → v ≠ nI k) → Q (some (.int (nI 0))) (mg_h L xs I)) : mj_Cl d 134 [.int v, .int (nI 0), .int (nI 2)] (mg_h L xs I) Q := by
  refine ct_in (fun e => ?_) (fun e => ?_)
  · obtain ⟨k, hk, rfl⟩ := mI_in1 (n := 2) (by decide) e
    rcases (show k = 0 ∨ k = 1 ∨ k = 2 by omega) with rfl | rfl | rfl
    · exact h1 rfl
    · exact h2 rfl
    · exact h3 rfl
  · exact h0 (fun k hk => mI_in0 (n := 2) (by decide) e (by omega))
theorem mI_lt1 {v : Int32} {n : Nat} (hn : n < 2 ^ 30) (h : nI 0 ≤ v ∧ v ≤ nI n - nI 1) : ∃ k : Nat, k < n ∧ v = nI k := by
  have h0 : 0 ≤ v := h.1
  obtain ⟨k, rfl, hk⟩ := mI_of h0
  rcases Nat.eq_zero_or_pos n with rfl | hp
  · have h2 := h.2
    rw [Int32.le_iff_toInt_le, nI_toInt hk] at h2
    have : (nI 0 - nI 1).toInt = -1 := by decide
    omega
  · rw [mI_sub hp] at h
    exact ⟨k, by have := (cI_le hk (by omega)).mp h.2; omega, rfl⟩
theorem mI_lt0 {v : Int32} {n k : Nat} (hn : n < 2 ^ 30) (h : ¬ (nI 0 ≤ v ∧ v ≤ nI n - nI 1)) (hk : k < n) : v ≠ nI k := by
  rintro rfl
  exact h ⟨nI_pos' (by omega), by rw [mI_sub (by omega)]; exact (cI_le (by omega) (by omega)).mpr (by omega)⟩
def sp_as (s : Nat → Int32) (n : Nat) (car kd : Int32) : Int32 := match sp_rg n car with
  | none => (-1000000001)
  | some c => match sp_rg 6 kd with
    | none => (-1000000001)
    | some o => if sp_under (sQ s c) o then s (53 + 7 * c + 2) else (-1000000012)
def sp_turns (s : Nat → Int32) (n : Nat) (car kd : Int32) : Int32 × (Nat → Int32) := match sp_rg n car with
  | none => ((-1000000001), s)
  | some c => match sp_rg 6 kd with
    | none => ((-1000000001), s)
    | some o => (s (53 + (7 * c)), up s (53 + (7 * c)) (nI o))
def sp_set (s : Nat → Int32) (n : Nat) (car what v : Int32) : Int32 × (Nat → Int32) := match sp_rg n car with
  | none => ((-1000000001), s)
  | some c => match sp_rg 3 what with
    | some 1 => (match sp_rg 240 v with
      | none => ((-1000000001), s)
      | some f => (s ((53 + (7 * c)) + 1), up s ((53 + (7 * c)) + 1) (nI f)))
    | some 2 => if nI 1 ≤ v ∧ v ≤ nI 99 then (s ((53 + (7 * c)) + 2), up s ((53 + (7 * c)) + 2) v) else ((-1000000001), s)
    | _ => ((-1000000001), s)
def sp_part (s : Nat → Int32) (pt what : Int32) : Int32 := match sp_rg 12 pt with
  | none => (-1000000001)
  | some p => match sp_rg 4 what with
    | none => (-1000000001)
    | some k => s (5 + 12 * k + p)
def sp_lays (s : Nat → Int32) (pt what v : Int32) : Int32 × (Nat → Int32) := match sp_rg 12 pt with
  | none => ((-1000000001), s)
  | some p => match sp_rg 3 what with
    | none => ((-1000000001), s)
    | some 0 => if (-9) ≤ v ∧ v ≤ nI 9 then (s (5 + p), up s (5 + p) v) else ((-1000000001), s)
    | some 1 => (match sp_rg 10 v with
      | none => ((-1000000001), s)
      | some z => (s (17 + p), up s (17 + p) (nI z)))
    | some _ => (match sp_rg 61 v with
      | none => ((-1000000001), s)
      | some z => (s (29 + p), up (up s (41 + p) (nI 0)) (29 + p) (nI z)))
def sp_gap (s : Nat → Int32) (v : Int32) : Int32 × (Nat → Int32) := if nI 1 ≤ v ∧ v ≤ nI 60 then (s 3, up s 3 v) else ((-1000000001), s)
def sp_seed (s : Nat → Int32) (v : Int32) : Int32 × (Nat → Int32) := (s 0, up s 0 v)
def sp_dl1 (s : Nat → Int32) (n : Nat) : Nat → Int32 :=
  sp_comes (up s 0 (sp_z (sp_z (sp_z (s 0))))) n (nI (sp_dv (sp_z (s 0)) % 6)) (nI (sp_dv (sp_z (sp_z (s 0))) % 240)) (nI (1 + sp_dv (sp_z (sp_z (sp_z (s 0)))) % 99))
def sp_dls (s : Nat → Int32) (n : Nat) : Nat → Nat → Int32
  | 0 => s
  | j + 1 => sp_dl1 (sp_dls s n j) (n + j)
def sp_deal (s : Nat → Int32) (n : Nat) (v : Int32) : Int32 × (Nat → Int32) :=
  if nI 1 ≤ v ∧ v ≤ nI 8 then (nI (min v.toNatClampNeg (8 - n)), sp_dls s n (min v.toNatClampNeg (8 - n))) else ((-1000000001), s)
def sp_seconds (T : mT) (s : Nat → Int32) (n : Nat) (v : Int32) : Int32 × (Nat → Int32) :=
  if nI 1 ≤ v ∧ v ≤ nI 300 then (sp_sum (sp_secs T s (-1) n (min v.toNatClampNeg (9999 - (s 2).toNatClampNeg))) (-1) 3 n - sp_sum s (-1) 3 n, sp_secs T s (-1) n (min v.toNatClampNeg (9999 - (s 2).toNatClampNeg))) else ((-1000000001), s)
def sp_ride (s : Nat → Int32) (n : Nat) (v : Int32) : Int32 := match sp_rg 6 v with
  | none => (-1000000001)
  | some k => if k = 5 then sp_near s (-1) n n else sp_sum s (-1) (if k = 4 then 1 else 3 + k) n
def sp_lm (s : Nat → Int32) : Nat → Int32
  | 0 => nI 0
  | k + 1 => (sp_lm s k ||| (nI 1 <<< (nI (sF s k / 20) &&& 31)))
def sp_why (T : mT) (v : Int32) : Int32 := match sp_rg 3 v with
  | none => (-1000000001)
  | some k => if oI (sp_counts T.kf k T.nt) < 0 then (-1000000005) else oI (sp_counts T.kf k T.nt)
def sp_ttold (T : mT) (t what : Int32) : Int32 := match sp_rg T.nt t with
  | none => (-1000000001)
  | some j => match sp_rg 2 what with
    | none => (-1000000001)
    | some k => if k = 0 then nI (T.kf j) else nI (T.na j)
def sp_fee (T : mT) (s : Nat → Int32) (n : Nat) : Int32 := sp_val T.nt T.kf T.tk 1 (sp_sum s (-1) 3 n) (sp_sum s (-1) 3 n) (s 2) 0
def sp_fine (T : mT) (s : Nat → Int32) (n : Nat) (car : Int32) : Int32 := match sp_rg n car with
  | none => (-1000000001)
  | some c => sp_val T.nt T.kf T.tk 2 (s (53 + 7 * c + 4)) (s (53 + 7 * c + 1)) (s (53 + 7 * c + 4)) 0

theorem ct_Mas {d L : Nat} {xs : Nat → Int32} {I : Nat → Nat → Int32} {Q : Option Value → mj_H → Prop} {n : Nat} (hk : mOk (I 128) n) {car kd : Int32} (hQ : Q (some (.int (sp_as (I 128) n car kd))) (mg_h L xs I)) : mj_Cl (d + 2) 149 [.ref 127, .int car, .int kd] (mg_h L xs I) Q := by
  have hn8 := hk.hn.2
  refine cl_start mx_149 (ls := [.ref 127, .int car, .int kd]) rfl ?_
  refine me_aload_n (p' := 1) k149_0 rfl rfl ?_
  refine me_iload_n (p' := 2) k149_1 rfl rfl ?_
  refine me_cv (p' := 5) k149_2 rfl rfl (by decide) rfl (by decide) (by decide) dp_137 rfl rfl (cl_le mx_137 rfl) (by decide) (cl_sum rfl) (ct_MisCar hk.hn (fun k21 hk22 he => ?_) (fun hz23 => ?_))
  · skip
    subst he
    refine me_if_eq (p' := 8) k149_5 rfl (fun h => absurd h (by decide)) (fun _ => ?_)
    refine me_iload_n (p' := 9) k149_8 rfl rfl ?_
    refine me_iconst (p' := 10) k149_9 rfl (v := nI 0) (by decide) ?_
    refine me_iconst (p' := 11) k149_10 rfl (v := nI 5) (by decide) ?_
    refine me_cs (p' := 14) k149_11 rfl rfl rfl rfl rfl (cl_le mx_134 rfl) (by decide) (cl_sum rfl) (ct_in (fun e24 => ?_) (fun e24 => ?_))
    · skip
      obtain ⟨k25, hk26, rfl⟩ := mI_in1 (n := 5) (by omega) e24
      have hk26 : k25 < 6 := by omega
      refine me_if_ne (p' := 17) k149_14 rfl (fun h => absurd h (by decide)) (fun _ => ?_)
      refine me_aload_n (p' := 21) k149_20 rfl rfl ?_
      refine me_iload_n (p' := 22) k149_21 rfl rfl ?_
      refine me_iconst (p' := 23) k149_22 rfl (v := nI 0) (by decide) ?_
      refine me_cv (p' := 26) k149_23 rfl rfl (by decide) rfl (by decide) (by decide) dp_141 rfl rfl (cl_le mx_141 rfl) (by decide) (cl_sum rfl) (ct_of (by omega) ?_)
      rw [(hk.kd k21 (by omega)).1]
      have hQ6 := (hk.kd k21 (by omega)).2
      refine me_iload_n (p' := 27) k149_26 rfl rfl ?_
      refine me_cs (p' := 30) k149_27 rfl rfl rfl rfl rfl (cl_le mx_150 rfl) (by decide) (cl_sum rfl) (ct_MisUnder (by omega) (by omega) (fun e28 => ?_) (fun e28 => ?_))
      · skip
        refine me_if_eq (p' := 33) k149_30 rfl (fun h => absurd h (by decide)) (fun _ => ?_)
        refine me_aload_n (p' := 34) k149_33 rfl rfl ?_
        refine me_iload_n (p' := 35) k149_34 rfl rfl ?_
        refine me_iconst (p' := 36) k149_35 rfl (v := nI 2) (by decide) ?_
        refine me_cv (p' := 39) k149_36 rfl rfl (by decide) rfl (by decide) (by decide) dp_141 rfl rfl (cl_le mx_141 rfl) (by decide) (cl_sum rfl) (ct_of (by omega) ?_)
        refine me_goto k149_39 ?_
        refine me_reti k149_44 rt_149 rfl ?_
        simp only [sp_as, sp_rg_s hk22 (by omega), sp_rg_s (m := 6) hk26 (by omega), if_pos e28, if_true, if_false] at hQ
        exact hQ
      · skip
        refine me_if_eq (p' := 33) k149_30 rfl (fun _ => ?_) (fun h => absurd (by decide) h)
        refine me_ldc (p' := 44) k149_42 rfl (v := (-1000000012)) (by decide) ?_
        refine me_reti k149_44 rt_149 rfl ?_
        simp only [sp_as, sp_rg_s hk22 (by omega), sp_rg_s (m := 6) hk26 (by omega), if_neg e28, if_true, if_false] at hQ
        exact hQ
    · skip
      have hz27 : ∀ k : Nat, k < 6 → kd ≠ nI k := fun k hk => mI_in0 (n := 5) (by omega) e24 (by omega)
      refine me_if_ne (p' := 17) k149_14 rfl (fun _ => ?_) (fun h => absurd (by decide) h)
      refine me_ldc (p' := 19) k149_17 rfl (v := (-1000000001)) (by decide) ?_
      refine me_reti k149_19 rt_149 rfl ?_
      simp only [sp_as, sp_rg_s hk22 (by omega), sp_rg_n (m := 6) (by omega) hz27, if_true, if_false] at hQ
      exact hQ
  · skip
    refine me_if_eq (p' := 8) k149_5 rfl (fun _ => ?_) (fun h => absurd (by decide) h)
    refine me_ldc (p' := 19) k149_17 rfl (v := (-1000000001)) (by decide) ?_
    refine me_reti k149_19 rt_149 rfl ?_
    simp only [sp_as, sp_rg_n (by omega) hz23, if_true, if_false] at hQ
    exact hQ
theorem ct_Mturns {d L : Nat} {xs : Nat → Int32} {I : Nat → Nat → Int32} {Q : Option Value → mj_H → Prop} {n : Nat} (hk : mOk (I 128) n) {car kd : Int32} (hQ : ∀ I2, mFr [128] I I2 → I2 128 = (sp_turns (I 128) n car kd).2 → Q (some (.int (sp_turns (I 128) n car kd).1)) (mg_h L xs I2)) : mj_Cl (d + 2) 151 [.ref 127, .int car, .int kd] (mg_h L xs I) Q := by
  have hn8 := hk.hn.2
  refine cl_start mx_151 (ls := [.ref 127, .int car, .int kd]) rfl ?_
  refine me_aload_n (p' := 1) k151_0 rfl rfl ?_
  refine me_iload_n (p' := 2) k151_1 rfl rfl ?_
  refine me_cv (p' := 5) k151_2 rfl rfl (by decide) rfl (by decide) (by decide) dp_137 rfl rfl (cl_le mx_137 rfl) (by decide) (cl_sum rfl) (ct_MisCar hk.hn (fun k29 hk30 he => ?_) (fun hz31 => ?_))
  · skip
    subst he
    refine me_if_eq (p' := 8) k151_5 rfl (fun h => absurd h (by decide)) (fun _ => ?_)
    refine me_iload_n (p' := 9) k151_8 rfl rfl ?_
    refine me_iconst (p' := 10) k151_9 rfl (v := nI 0) (by decide) ?_
    refine me_iconst (p' := 11) k151_10 rfl (v := nI 5) (by decide) ?_
    refine me_cs (p' := 14) k151_11 rfl rfl rfl rfl rfl (cl_le mx_134 rfl) (by decide) (cl_sum rfl) (ct_in (fun e32 => ?_) (fun e32 => ?_))
    · skip
      obtain ⟨k33, hk34, rfl⟩ := mI_in1 (n := 5) (by omega) e32
      have hk34 : k33 < 6 := by omega
      refine me_if_eq (p' := 17) k151_14 rfl (fun h => absurd h (by decide)) (fun _ => ?_)
      refine me_aload_n (p' := 18) k151_17 rfl rfl ?_
      refine me_bipush (p' := 20) k151_18 rfl (v := nI 53) (by decide) ?_
      refine me_bipush (p' := 22) k151_20 rfl (v := nI 7) (by decide) ?_
      refine me_iload_n (p' := 23) k151_22 rfl rfl ?_
      refine me_imul (p' := 24) k151_23 rfl (v := nI (7 * k29)) (mI_mul _ _) ?_
      refine me_iadd (p' := 25) k151_24 rfl (v := nI (53 + (7 * k29))) (mI_add _ _) ?_
      refine me_iload_n (p' := 26) k151_25 rfl rfl ?_
      refine me_cv (p' := 29) k151_26 rfl rfl (by decide) rfl (by decide) (by decide) dp_152 rfl rfl (cl_le mx_152 rfl) (by decide) (cl_sum rfl) (ct_becomes (by omega) ?_)
      refine me_goto k151_29 ?_
      refine me_reti k151_34 rt_151 rfl ?_
      simp only [sp_turns, sp_rg_s hk30 (by omega), sp_rg_s (m := 6) hk34 (by omega), if_true, if_false] at hQ
      exact hQ _ (mFr.up (by decide)) (by rw [mg_ui])
    · skip
      have hz35 : ∀ k : Nat, k < 6 → kd ≠ nI k := fun k hk => mI_in0 (n := 5) (by omega) e32 (by omega)
      refine me_if_eq (p' := 17) k151_14 rfl (fun _ => ?_) (fun h => absurd (by decide) h)
      refine me_ldc (p' := 34) k151_32 rfl (v := (-1000000001)) (by decide) ?_
      refine me_reti k151_34 rt_151 rfl ?_
      simp only [sp_turns, sp_rg_s hk30 (by omega), sp_rg_n (m := 6) (by omega) hz35, if_true, if_false] at hQ
      exact hQ _ mFr.rf rfl
  · skip
    refine me_if_eq (p' := 8) k151_5 rfl (fun _ => ?_) (fun h => absurd (by decide) h)
    refine me_ldc (p' := 34) k151_32 rfl (v := (-1000000001)) (by decide) ?_
    refine me_reti k151_34 rt_151 rfl ?_
    simp only [sp_turns, sp_rg_n (by omega) hz31, if_true, if_false] at hQ
    exact hQ _ mFr.rf rfl
theorem ct_Mset {d L : Nat} {xs : Nat → Int32} {I : Nat → Nat → Int32} {Q : Option Value → mj_H → Prop} {n : Nat} (hk : mOk (I 128) n) {car wh v : Int32} (hQ : ∀ I2, mFr [128] I I2 → I2 128 = (sp_set (I 128) n car wh v).2 → Q (some (.int (sp_set (I 128) n car wh v).1)) (mg_h L xs I2)) : mj_Cl (d + 2) 153 [.ref 127, .int car, .int wh, .int v] (mg_h L xs I) Q := by
  have hn8 := hk.hn.2
  refine cl_start mx_153 (ls := [.ref 127, .int car, .int wh, .int v]) rfl ?_
  refine me_aload_n (p' := 1) k153_0 rfl rfl ?_
  refine me_iload_n (p' := 2) k153_1 rfl rfl ?_
  refine me_cv (p' := 5) k153_2 rfl rfl (by decide) rfl (by decide) (by decide) dp_137 rfl rfl (cl_le mx_137 rfl) (by decide) (cl_sum rfl) (ct_MisCar hk.hn (fun k36 hk37 he => ?_) (fun hz38 => ?_))
  · skip
    subst he
    refine me_if_eq (p' := 8) k153_5 rfl (fun h => absurd h (by decide)) (fun _ => ?_)
    refine me_iload_n (p' := 9) k153_8 rfl rfl ?_
    refine me_iconst (p' := 10) k153_9 rfl (v := nI 1) (by decide) ?_
    refine me_iconst (p' := 11) k153_10 rfl (v := nI 2) (by decide) ?_
    refine me_cs (p' := 14) k153_11 rfl rfl rfl rfl rfl (cl_le mx_134 rfl) (by decide) (cl_sum rfl) (ct_in2 1 (by decide) (fun e39 => ?_) (fun e39 => ?_) (fun e39 => ?_))
    · skip
      subst e39
      refine me_if_eq (p' := 17) k153_14 rfl (fun h => absurd h (by decide)) (fun _ => ?_)
      refine me_iload_n (p' := 18) k153_17 rfl rfl ?_
      refine me_iload_n (p' := 19) k153_18 rfl rfl ?_
      refine me_iconst (p' := 20) k153_19 rfl (v := nI 1) (by decide) ?_
      refine me_isub (p' := 21) k153_20 rfl rfl ?_
      rw [show (nI 1 - nI 1) = nI 0 from by decide]
      refine me_iload_n (p' := 22) k153_21 rfl rfl ?_
      refine me_iconst (p' := 23) k153_22 rfl (v := nI 1) (by decide) ?_
      refine me_ic_ne (p' := 26) k153_23 rfl (fun _ => ?_) (fun h => absurd (by decide) h)
      refine me_sipush (p' := 29) k153_26 rfl (v := nI 239) (by decide) ?_
      refine me_goto k153_29 ?_
      refine me_cs (p' := 37) k153_34 rfl rfl rfl rfl rfl (cl_le mx_134 rfl) (by decide) (cl_sum rfl) (ct_in (fun e40 => ?_) (fun e40 => ?_))
      · skip
        obtain ⟨k41, hk42, rfl⟩ := mI_in1 (n := 239) (by omega) e40
        have hk42 : k41 < 240 := by omega
        refine me_if_eq (p' := 40) k153_37 rfl (fun h => absurd h (by decide)) (fun _ => ?_)
        refine me_aload_n (p' := 41) k153_40 rfl rfl ?_
        refine me_bipush (p' := 43) k153_41 rfl (v := nI 53) (by decide) ?_
        refine me_bipush (p' := 45) k153_43 rfl (v := nI 7) (by decide) ?_
        refine me_iload_n (p' := 46) k153_45 rfl rfl ?_
        refine me_imul (p' := 47) k153_46 rfl (v := nI (7 * k36)) (mI_mul _ _) ?_
        refine me_iadd (p' := 48) k153_47 rfl (v := nI (53 + (7 * k36))) (mI_add _ _) ?_
        refine me_iload_n (p' := 49) k153_48 rfl rfl ?_
        refine me_iadd (p' := 50) k153_49 rfl (v := nI ((53 + (7 * k36)) + 1)) (mI_add _ _) ?_
        refine me_iload_n (p' := 51) k153_50 rfl rfl ?_
        refine me_cv (p' := 54) k153_51 rfl rfl (by decide) rfl (by decide) (by decide) dp_152 rfl rfl (cl_le mx_152 rfl) (by decide) (cl_sum rfl) (ct_becomes (by omega) ?_)
        refine me_goto k153_54 ?_
        refine me_reti k153_59 rt_153 rfl ?_
        simp only [sp_set, sp_rg_s hk37 (by omega), sp_rg_s (show 1 < 3 by decide) (by decide), sp_rg_s (m := 240) hk42 (by omega), if_true, if_false] at hQ
        exact hQ _ (mFr.up (by decide)) (by rw [mg_ui])
      · skip
        have hz43 : ∀ k : Nat, k < 240 → v ≠ nI k := fun k hk => mI_in0 (n := 239) (by omega) e40 (by omega)
        refine me_if_eq (p' := 40) k153_37 rfl (fun _ => ?_) (fun h => absurd (by decide) h)
        refine me_ldc (p' := 59) k153_57 rfl (v := (-1000000001)) (by decide) ?_
        refine me_reti k153_59 rt_153 rfl ?_
        simp only [sp_set, sp_rg_s hk37 (by omega), sp_rg_s (show 1 < 3 by decide) (by decide), sp_rg_n (m := 240) (by omega) hz43, if_true, if_false] at hQ
        exact hQ _ mFr.rf rfl
    · skip
      subst e39
      refine me_if_eq (p' := 17) k153_14 rfl (fun h => absurd h (by decide)) (fun _ => ?_)
      refine me_iload_n (p' := 18) k153_17 rfl rfl ?_
      refine me_iload_n (p' := 19) k153_18 rfl rfl ?_
      refine me_iconst (p' := 20) k153_19 rfl (v := nI 1) (by decide) ?_
      refine me_isub (p' := 21) k153_20 rfl rfl ?_
      rw [show (nI 2 - nI 1) = nI 1 from by decide]
      refine me_iload_n (p' := 22) k153_21 rfl rfl ?_
      refine me_iconst (p' := 23) k153_22 rfl (v := nI 1) (by decide) ?_
      refine me_ic_ne (p' := 26) k153_23 rfl (fun h => absurd h (by decide)) (fun _ => ?_)
      refine me_bipush (p' := 34) k153_32 rfl (v := nI 99) (by decide) ?_
      refine me_cs (p' := 37) k153_34 rfl rfl rfl rfl rfl (cl_le mx_134 rfl) (by decide) (cl_sum rfl) (ct_in (fun e44 => ?_) (fun e44 => ?_))
      · skip
        refine me_if_eq (p' := 40) k153_37 rfl (fun h => absurd h (by decide)) (fun _ => ?_)
        refine me_aload_n (p' := 41) k153_40 rfl rfl ?_
        refine me_bipush (p' := 43) k153_41 rfl (v := nI 53) (by decide) ?_
        refine me_bipush (p' := 45) k153_43 rfl (v := nI 7) (by decide) ?_
        refine me_iload_n (p' := 46) k153_45 rfl rfl ?_
        refine me_imul (p' := 47) k153_46 rfl (v := nI (7 * k36)) (mI_mul _ _) ?_
        refine me_iadd (p' := 48) k153_47 rfl (v := nI (53 + (7 * k36))) (mI_add _ _) ?_
        refine me_iload_n (p' := 49) k153_48 rfl rfl ?_
        refine me_iadd (p' := 50) k153_49 rfl (v := nI ((53 + (7 * k36)) + 2)) (mI_add _ _) ?_
        refine me_iload_n (p' := 51) k153_50 rfl rfl ?_
        refine me_cv (p' := 54) k153_51 rfl rfl (by decide) rfl (by decide) (by decide) dp_152 rfl rfl (cl_le mx_152 rfl) (by decide) (cl_sum rfl) (ct_becomes (by omega) ?_)
        refine me_goto k153_54 ?_
        refine me_reti k153_59 rt_153 rfl ?_
        simp only [sp_set, sp_rg_s hk37 (by omega), sp_rg_s (show 2 < 3 by decide) (by decide), if_pos e44, if_true, if_false] at hQ
        exact hQ _ (mFr.up (by decide)) (by rw [mg_ui])
      · skip
        refine me_if_eq (p' := 40) k153_37 rfl (fun _ => ?_) (fun h => absurd (by decide) h)
        refine me_ldc (p' := 59) k153_57 rfl (v := (-1000000001)) (by decide) ?_
        refine me_reti k153_59 rt_153 rfl ?_
        simp only [sp_set, sp_rg_s hk37 (by omega), sp_rg_s (show 2 < 3 by decide) (by decide), if_neg e44, if_true, if_false] at hQ
        exact hQ _ mFr.rf rfl
    · skip
      refine me_if_eq (p' := 17) k153_14 rfl (fun _ => ?_) (fun h => absurd (by decide) h)
      refine me_ldc (p' := 59) k153_57 rfl (v := (-1000000001)) (by decide) ?_
      refine me_reti k153_59 rt_153 rfl ?_
      rcases mI_ex 3 (by decide) wh with ⟨j, hj, rfl⟩ | hz
      · rcases (show j = 0 ∨ j = 1 ∨ j = 2 by omega) with rfl | rfl | rfl
        · simp only [sp_set, sp_rg_s hk37 (by omega), sp_rg_s (show 0 < 3 by decide) (by decide), if_true, if_false] at hQ
          exact hQ _ mFr.rf rfl
        · exact absurd rfl (e39 0 (by decide))
        · exact absurd rfl (e39 1 (by decide))
      · simp only [sp_set, sp_rg_s hk37 (by omega), sp_rg_n (m := 3) (by decide) hz, if_true, if_false] at hQ
        exact hQ _ mFr.rf rfl
  · skip
    refine me_if_eq (p' := 8) k153_5 rfl (fun _ => ?_) (fun h => absurd (by decide) h)
    refine me_ldc (p' := 59) k153_57 rfl (v := (-1000000001)) (by decide) ?_
    refine me_reti k153_59 rt_153 rfl ?_
    simp only [sp_set, sp_rg_n (by omega) hz38, if_true, if_false] at hQ
    exact hQ _ mFr.rf rfl
theorem ct_Mpart {d L : Nat} {xs : Nat → Int32} {I : Nat → Nat → Int32} {Q : Option Value → mj_H → Prop} {pt wh : Int32} (hQ : Q (some (.int (sp_part (I 128) pt wh))) (mg_h L xs I)) : mj_Cl (d + 2) 154 [.ref 127, .int pt, .int wh] (mg_h L xs I) Q := by
  refine cl_start mx_154 (ls := [.ref 127, .int pt, .int wh]) rfl ?_
  refine me_iload_n (p' := 1) k154_0 rfl rfl ?_
  refine me_cs (p' := 4) k154_1 rfl rfl rfl rfl rfl (cl_le mx_138 rfl) (by decide) (cl_sum rfl) (ct_MisPart (fun k45 hk46 he => ?_) (fun hz47 => ?_))
  · skip
    subst he
    refine me_if_eq (p' := 7) k154_4 rfl (fun h => absurd h (by decide)) (fun _ => ?_)
    refine me_iload_n (p' := 8) k154_7 rfl rfl ?_
    refine me_iconst (p' := 9) k154_8 rfl (v := nI 0) (by decide) ?_
    refine me_iconst (p' := 10) k154_9 rfl (v := nI 3) (by decide) ?_
    refine me_cs (p' := 13) k154_10 rfl rfl rfl rfl rfl (cl_le mx_134 rfl) (by decide) (cl_sum rfl) (ct_in (fun e48 => ?_) (fun e48 => ?_))
    · skip
      obtain ⟨k49, hk50, rfl⟩ := mI_in1 (n := 3) (by omega) e48
      have hk50 : k49 < 4 := by omega
      refine me_if_eq (p' := 16) k154_13 rfl (fun h => absurd h (by decide)) (fun _ => ?_)
      refine me_aload_n (p' := 17) k154_16 rfl rfl ?_
      refine me_gfr (p' := 20) k154_17 rfl (by decide) rfl (b := 128) rfl ?_
      refine me_iconst (p' := 21) k154_20 rfl (v := nI 5) (by decide) ?_
      refine me_bipush (p' := 23) k154_21 rfl (v := nI 12) (by decide) ?_
      refine me_iload_n (p' := 24) k154_23 rfl rfl ?_
      refine me_imul (p' := 25) k154_24 rfl (v := nI (12 * k49)) (mI_mul _ _) ?_
      refine me_iadd (p' := 26) k154_25 rfl (v := nI (5 + (12 * k49))) (mI_add _ _) ?_
      refine me_iload_n (p' := 27) k154_26 rfl rfl ?_
      refine me_iadd (p' := 28) k154_27 rfl (v := nI ((5 + (12 * k49)) + k45)) (mI_add _ _) ?_
      refine me_iald (p' := 29) k154_28 rfl (by decide) rfl (j := (5 + (12 * k49)) + k45) rfl (by omega) (by decide) rfl ?_
      refine me_goto k154_29 ?_
      refine me_reti k154_34 rt_154 rfl ?_
      simp only [sp_part, sp_rg_s hk46 (by omega), sp_rg_s (m := 4) hk50 (by omega), if_true, if_false] at hQ
      exact hQ
    · skip
      have hz51 : ∀ k : Nat, k < 4 → wh ≠ nI k := fun k hk => mI_in0 (n := 3) (by omega) e48 (by omega)
      refine me_if_eq (p' := 16) k154_13 rfl (fun _ => ?_) (fun h => absurd (by decide) h)
      refine me_ldc (p' := 34) k154_32 rfl (v := (-1000000001)) (by decide) ?_
      refine me_reti k154_34 rt_154 rfl ?_
      simp only [sp_part, sp_rg_s hk46 (by omega), sp_rg_n (m := 4) (by omega) hz51, if_true, if_false] at hQ
      exact hQ
  · skip
    refine me_if_eq (p' := 7) k154_4 rfl (fun _ => ?_) (fun h => absurd (by decide) h)
    refine me_ldc (p' := 34) k154_32 rfl (v := (-1000000001)) (by decide) ?_
    refine me_reti k154_34 rt_154 rfl ?_
    simp only [sp_part, sp_rg_n (by omega) hz47, if_true, if_false] at hQ
    exact hQ
theorem ct_Mlays {d L : Nat} {xs : Nat → Int32} {I : Nat → Nat → Int32} {Q : Option Value → mj_H → Prop} {pt wh v : Int32} (hQ : ∀ I2, mFr [128] I I2 → I2 128 = (sp_lays (I 128) pt wh v).2 → Q (some (.int (sp_lays (I 128) pt wh v).1)) (mg_h L xs I2)) : mj_Cl (d + 2) 155 [.ref 127, .int pt, .int wh, .int v] (mg_h L xs I) Q := by
  refine cl_start mx_155 (ls := [.ref 127, .int pt, .int wh, .int v]) rfl ?_
  refine me_iload_n (p' := 1) k155_0 rfl rfl ?_
  refine me_cs (p' := 4) k155_1 rfl rfl rfl rfl rfl (cl_le mx_138 rfl) (by decide) (cl_sum rfl) (ct_MisPart (fun k52 hk53 he => ?_) (fun hz54 => ?_))
  · skip
    subst he
    refine me_if_eq (p' := 7) k155_4 rfl (fun h => absurd h (by decide)) (fun _ => ?_)
    refine me_iload_n (p' := 8) k155_7 rfl rfl ?_
    refine me_iconst (p' := 9) k155_8 rfl (v := nI 0) (by decide) ?_
    refine me_iconst (p' := 10) k155_9 rfl (v := nI 2) (by decide) ?_
    refine me_cs (p' := 13) k155_10 rfl rfl rfl rfl rfl (cl_le mx_134 rfl) (by decide) (cl_sum rfl) (ct_in3 (fun e55 => ?_) (fun e55 => ?_) (fun e55 => ?_) (fun hz56 => ?_))
    · skip
      subst e55
      refine me_if_eq (p' := 16) k155_13 rfl (fun h => absurd h (by decide)) (fun _ => ?_)
      refine me_iload_n (p' := 17) k155_16 rfl rfl ?_
      refine me_iload_n (p' := 18) k155_17 rfl rfl ?_
      refine me_if_ne (p' := 21) k155_18 rfl (fun _ => ?_) (fun h => absurd (by decide) h)
      refine me_bipush (p' := 23) k155_21 rfl (v := (-9)) (by decide) ?_
      refine me_goto k155_23 ?_
      refine me_iload_n (p' := 28) k155_27 rfl rfl ?_
      refine me_iconst (p' := 29) k155_28 rfl (v := nI 2) (by decide) ?_
      refine me_ic_ne (p' := 32) k155_29 rfl (fun h => absurd h (by decide)) (fun _ => ?_)
      refine me_bipush (p' := 39) k155_37 rfl (v := nI 9) (by decide) ?_
      refine me_cs (p' := 42) k155_39 rfl rfl rfl rfl rfl (cl_le mx_134 rfl) (by decide) (cl_sum rfl) (ct_in (fun e57 => ?_) (fun e57 => ?_))
      · skip
        refine me_if_ne (p' := 45) k155_42 rfl (fun h => absurd h (by decide)) (fun _ => ?_)
        refine me_iload_n (p' := 49) k155_48 rfl rfl ?_
        refine me_iconst (p' := 50) k155_49 rfl (v := nI 2) (by decide) ?_
        refine me_ic_ne (p' := 53) k155_50 rfl (fun h => absurd h (by decide)) (fun _ => ?_)
        refine me_aload_n (p' := 64) k155_63 rfl rfl ?_
        refine me_iconst (p' := 65) k155_64 rfl (v := nI 5) (by decide) ?_
        refine me_bipush (p' := 67) k155_65 rfl (v := nI 12) (by decide) ?_
        refine me_iload_n (p' := 68) k155_67 rfl rfl ?_
        refine me_imul (p' := 69) k155_68 rfl (v := nI (12 * 0)) (mI_mul _ _) ?_
        refine me_iadd (p' := 70) k155_69 rfl (v := nI (5 + (12 * 0))) (mI_add _ _) ?_
        refine me_iload_n (p' := 71) k155_70 rfl rfl ?_
        refine me_iadd (p' := 72) k155_71 rfl (v := nI ((5 + (12 * 0)) + k52)) (mI_add _ _) ?_
        refine me_iload_n (p' := 73) k155_72 rfl rfl ?_
        refine me_cv (p' := 76) k155_73 rfl rfl (by decide) rfl (by decide) (by decide) dp_152 rfl rfl (cl_le mx_152 rfl) (by decide) (cl_sum rfl) (ct_becomes (by omega) ?_)
        refine me_reti k155_76 rt_155 rfl ?_
        simp only [sp_lays, sp_rg_s hk53 (by omega), sp_rg_s (show 0 < 3 by decide) (by decide), if_pos e57, if_true, if_false] at hQ
        exact hQ _ (mFr.up (by decide)) (by rw [mg_ui])
      · skip
        refine me_if_ne (p' := 45) k155_42 rfl (fun _ => ?_) (fun h => absurd (by decide) h)
        refine me_ldc (p' := 47) k155_45 rfl (v := (-1000000001)) (by decide) ?_
        refine me_reti k155_47 rt_155 rfl ?_
        simp only [sp_lays, sp_rg_s hk53 (by omega), sp_rg_s (show 0 < 3 by decide) (by decide), if_neg e57, if_true, if_false] at hQ
        exact hQ _ mFr.rf rfl
    · skip
      subst e55
      refine me_if_eq (p' := 16) k155_13 rfl (fun h => absurd h (by decide)) (fun _ => ?_)
      refine me_iload_n (p' := 17) k155_16 rfl rfl ?_
      refine me_iload_n (p' := 18) k155_17 rfl rfl ?_
      refine me_if_ne (p' := 21) k155_18 rfl (fun h => absurd h (by decide)) (fun _ => ?_)
      refine me_iconst (p' := 27) k155_26 rfl (v := nI 0) (by decide) ?_
      refine me_iload_n (p' := 28) k155_27 rfl rfl ?_
      refine me_iconst (p' := 29) k155_28 rfl (v := nI 2) (by decide) ?_
      refine me_ic_ne (p' := 32) k155_29 rfl (fun h => absurd h (by decide)) (fun _ => ?_)
      refine me_bipush (p' := 39) k155_37 rfl (v := nI 9) (by decide) ?_
      refine me_cs (p' := 42) k155_39 rfl rfl rfl rfl rfl (cl_le mx_134 rfl) (by decide) (cl_sum rfl) (ct_in (fun e58 => ?_) (fun e58 => ?_))
      · skip
        obtain ⟨k59, hk60, rfl⟩ := mI_in1 (n := 9) (by omega) e58
        have hk60 : k59 < 10 := by omega
        refine me_if_ne (p' := 45) k155_42 rfl (fun h => absurd h (by decide)) (fun _ => ?_)
        refine me_iload_n (p' := 49) k155_48 rfl rfl ?_
        refine me_iconst (p' := 50) k155_49 rfl (v := nI 2) (by decide) ?_
        refine me_ic_ne (p' := 53) k155_50 rfl (fun h => absurd h (by decide)) (fun _ => ?_)
        refine me_aload_n (p' := 64) k155_63 rfl rfl ?_
        refine me_iconst (p' := 65) k155_64 rfl (v := nI 5) (by decide) ?_
        refine me_bipush (p' := 67) k155_65 rfl (v := nI 12) (by decide) ?_
        refine me_iload_n (p' := 68) k155_67 rfl rfl ?_
        refine me_imul (p' := 69) k155_68 rfl (v := nI (12 * 1)) (mI_mul _ _) ?_
        refine me_iadd (p' := 70) k155_69 rfl (v := nI (5 + (12 * 1))) (mI_add _ _) ?_
        refine me_iload_n (p' := 71) k155_70 rfl rfl ?_
        refine me_iadd (p' := 72) k155_71 rfl (v := nI ((5 + (12 * 1)) + k52)) (mI_add _ _) ?_
        refine me_iload_n (p' := 73) k155_72 rfl rfl ?_
        refine me_cv (p' := 76) k155_73 rfl rfl (by decide) rfl (by decide) (by decide) dp_152 rfl rfl (cl_le mx_152 rfl) (by decide) (cl_sum rfl) (ct_becomes (by omega) ?_)
        refine me_reti k155_76 rt_155 rfl ?_
        simp only [sp_lays, sp_rg_s hk53 (by omega), sp_rg_s (show 1 < 3 by decide) (by decide), sp_rg_s (m := 10) hk60 (by omega), if_true, if_false] at hQ
        exact hQ _ (mFr.up (by decide)) (by rw [mg_ui])
      · skip
        have hz61 : ∀ k : Nat, k < 10 → v ≠ nI k := fun k hk => mI_in0 (n := 9) (by omega) e58 (by omega)
        refine me_if_ne (p' := 45) k155_42 rfl (fun _ => ?_) (fun h => absurd (by decide) h)
        refine me_ldc (p' := 47) k155_45 rfl (v := (-1000000001)) (by decide) ?_
        refine me_reti k155_47 rt_155 rfl ?_
        simp only [sp_lays, sp_rg_s hk53 (by omega), sp_rg_s (show 1 < 3 by decide) (by decide), sp_rg_n (m := 10) (by omega) hz61, if_true, if_false] at hQ
        exact hQ _ mFr.rf rfl
    · skip
      subst e55
      refine me_if_eq (p' := 16) k155_13 rfl (fun h => absurd h (by decide)) (fun _ => ?_)
      refine me_iload_n (p' := 17) k155_16 rfl rfl ?_
      refine me_iload_n (p' := 18) k155_17 rfl rfl ?_
      refine me_if_ne (p' := 21) k155_18 rfl (fun h => absurd h (by decide)) (fun _ => ?_)
      refine me_iconst (p' := 27) k155_26 rfl (v := nI 0) (by decide) ?_
      refine me_iload_n (p' := 28) k155_27 rfl rfl ?_
      refine me_iconst (p' := 29) k155_28 rfl (v := nI 2) (by decide) ?_
      refine me_ic_ne (p' := 32) k155_29 rfl (fun _ => ?_) (fun h => absurd (by decide) h)
      refine me_bipush (p' := 34) k155_32 rfl (v := nI 60) (by decide) ?_
      refine me_goto k155_34 ?_
      refine me_cs (p' := 42) k155_39 rfl rfl rfl rfl rfl (cl_le mx_134 rfl) (by decide) (cl_sum rfl) (ct_in (fun e62 => ?_) (fun e62 => ?_))
      · skip
        obtain ⟨k63, hk64, rfl⟩ := mI_in1 (n := 60) (by omega) e62
        have hk64 : k63 < 61 := by omega
        refine me_if_ne (p' := 45) k155_42 rfl (fun h => absurd h (by decide)) (fun _ => ?_)
        refine me_iload_n (p' := 49) k155_48 rfl rfl ?_
        refine me_iconst (p' := 50) k155_49 rfl (v := nI 2) (by decide) ?_
        refine me_ic_ne (p' := 53) k155_50 rfl (fun _ => ?_) (fun h => absurd (by decide) h)
        refine me_aload_n (p' := 54) k155_53 rfl rfl ?_
        refine me_gfr (p' := 57) k155_54 rfl (by decide) rfl (b := 128) rfl ?_
        refine me_bipush (p' := 59) k155_57 rfl (v := nI 41) (by decide) ?_
        refine me_iload_n (p' := 60) k155_59 rfl rfl ?_
        refine me_iadd (p' := 61) k155_60 rfl (v := nI (41 + k52)) (mI_add _ _) ?_
        refine me_iconst (p' := 62) k155_61 rfl (v := nI 0) (by decide) ?_
        refine me_iast (p' := 63) k155_62 rfl (by decide) rfl (j := 41 + k52) rfl (by omega) (by decide) rfl ?_
        refine me_aload_n (p' := 64) k155_63 rfl rfl ?_
        refine me_iconst (p' := 65) k155_64 rfl (v := nI 5) (by decide) ?_
        refine me_bipush (p' := 67) k155_65 rfl (v := nI 12) (by decide) ?_
        refine me_iload_n (p' := 68) k155_67 rfl rfl ?_
        refine me_imul (p' := 69) k155_68 rfl (v := nI (12 * 2)) (mI_mul _ _) ?_
        refine me_iadd (p' := 70) k155_69 rfl (v := nI (5 + (12 * 2))) (mI_add _ _) ?_
        refine me_iload_n (p' := 71) k155_70 rfl rfl ?_
        refine me_iadd (p' := 72) k155_71 rfl (v := nI ((5 + (12 * 2)) + k52)) (mI_add _ _) ?_
        refine me_iload_n (p' := 73) k155_72 rfl rfl ?_
        refine me_cv (p' := 76) k155_73 rfl rfl (by decide) rfl (by decide) (by decide) dp_152 rfl rfl (cl_le mx_152 rfl) (by decide) (cl_sum rfl) (ct_becomes (by omega) ?_)
        refine me_reti k155_76 rt_155 rfl ?_
        simp only [sp_lays, sp_rg_s hk53 (by omega), sp_rg_s (show 2 < 3 by decide) (by decide), sp_rg_s (m := 61) hk64 (by omega), if_true, if_false] at hQ
        rw [mg_une (by omega)]
        refine hQ _ ((mFr.up (by decide)).tr (mFr.up (by decide))) ?_
        rw [mg_ui, mg_ui]
      · skip
        have hz65 : ∀ k : Nat, k < 61 → v ≠ nI k := fun k hk => mI_in0 (n := 60) (by omega) e62 (by omega)
        refine me_if_ne (p' := 45) k155_42 rfl (fun _ => ?_) (fun h => absurd (by decide) h)
        refine me_ldc (p' := 47) k155_45 rfl (v := (-1000000001)) (by decide) ?_
        refine me_reti k155_47 rt_155 rfl ?_
        simp only [sp_lays, sp_rg_s hk53 (by omega), sp_rg_s (show 2 < 3 by decide) (by decide), sp_rg_n (m := 61) (by omega) hz65, if_true, if_false] at hQ
        exact hQ _ mFr.rf rfl
    · skip
      refine me_if_eq (p' := 16) k155_13 rfl (fun _ => ?_) (fun h => absurd (by decide) h)
      refine me_ldc (p' := 47) k155_45 rfl (v := (-1000000001)) (by decide) ?_
      refine me_reti k155_47 rt_155 rfl ?_
      simp only [sp_lays, sp_rg_s hk53 (by omega), sp_rg_n (m := 3) (by decide) hz56, if_true, if_false] at hQ
      exact hQ _ mFr.rf rfl
  · skip
    refine me_if_eq (p' := 7) k155_4 rfl (fun _ => ?_) (fun h => absurd (by decide) h)
    refine me_ldc (p' := 47) k155_45 rfl (v := (-1000000001)) (by decide) ?_
    refine me_reti k155_47 rt_155 rfl ?_
    simp only [sp_lays, sp_rg_n (by omega) hz54, if_true, if_false] at hQ
    exact hQ _ mFr.rf rfl
theorem ct_Mgap {d L : Nat} {xs : Nat → Int32} {I : Nat → Nat → Int32} {Q : Option Value → mj_H → Prop} {v : Int32} (hQ : ∀ I2, mFr [128] I I2 → I2 128 = (sp_gap (I 128) v).2 → Q (some (.int (sp_gap (I 128) v).1)) (mg_h L xs I2)) : mj_Cl (d + 1) 156 [.ref 127, .int v] (mg_h L xs I) Q := by
  refine cl_start mx_156 (ls := [.ref 127, .int v]) rfl ?_
  refine me_iload_n (p' := 1) k156_0 rfl rfl ?_
  refine me_iconst (p' := 2) k156_1 rfl (v := nI 1) (by decide) ?_
  refine me_bipush (p' := 4) k156_2 rfl (v := nI 60) (by decide) ?_
  refine me_cs (p' := 7) k156_4 rfl rfl rfl rfl rfl (cl_le mx_134 rfl) (by decide) (cl_sum rfl) (ct_in (fun e66 => ?_) (fun e66 => ?_))
  · skip
    refine me_if_eq (p' := 10) k156_7 rfl (fun h => absurd h (by decide)) (fun _ => ?_)
    refine me_aload_n (p' := 11) k156_10 rfl rfl ?_
    refine me_iconst (p' := 12) k156_11 rfl (v := nI 3) (by decide) ?_
    refine me_iload_n (p' := 13) k156_12 rfl rfl ?_
    refine me_cv (p' := 16) k156_13 rfl rfl (by decide) rfl (by decide) (by decide) dp_152 rfl rfl (cl_le mx_152 rfl) (by decide) (cl_sum rfl) (ct_becomes (by omega) ?_)
    refine me_goto k156_16 ?_
    refine me_reti k156_21 rt_156 rfl ?_
    simp only [sp_gap, if_pos e66, if_true, if_false] at hQ
    exact hQ _ (mFr.up (by decide)) (by rw [mg_ui])
  · skip
    refine me_if_eq (p' := 10) k156_7 rfl (fun _ => ?_) (fun h => absurd (by decide) h)
    refine me_ldc (p' := 21) k156_19 rfl (v := (-1000000001)) (by decide) ?_
    refine me_reti k156_21 rt_156 rfl ?_
    simp only [sp_gap, if_neg e66, if_true, if_false] at hQ
    exact hQ _ mFr.rf rfl
theorem ct_Mseed {d L : Nat} {xs : Nat → Int32} {I : Nat → Nat → Int32} {Q : Option Value → mj_H → Prop} {v : Int32} (hQ : ∀ I2, mFr [128] I I2 → I2 128 = (sp_seed (I 128) v).2 → Q (some (.int (sp_seed (I 128) v).1)) (mg_h L xs I2)) : mj_Cl (d + 1) 159 [.ref 127, .int v] (mg_h L xs I) Q := by
  refine cl_start mx_159 (ls := [.ref 127, .int v]) rfl ?_
  refine me_aload_n (p' := 1) k159_0 rfl rfl ?_
  refine me_iconst (p' := 2) k159_1 rfl (v := nI 0) (by decide) ?_
  refine me_iload_n (p' := 3) k159_2 rfl rfl ?_
  refine me_cv (p' := 6) k159_3 rfl rfl (by decide) rfl (by decide) (by decide) dp_152 rfl rfl (cl_le mx_152 rfl) (by decide) (cl_sum rfl) (ct_becomes (by omega) ?_)
  refine me_reti k159_6 rt_159 rfl ?_
  simp only [sp_seed, if_true, if_false] at hQ
  exact hQ _ (mFr.up (by decide)) (by rw [mg_ui])
theorem ct_Mride {d L : Nat} {xs : Nat → Int32} {I : Nat → Nat → Int32} {Q : Option Value → mj_H → Prop} {n : Nat} (hk : mOk (I 128) n) (haw : I 127 4 = -1) {v : Int32} (hQ : Q (some (.int (sp_ride (I 128) n v))) (mg_h L xs I)) : mj_Cl (d + 3) 167 [.ref 127, .int v] (mg_h L xs I) Q := by
  have hn8 := hk.hn.2
  refine cl_start mx_167 (ls := [.ref 127, .int v]) rfl ?_
  refine me_iload_n (p' := 1) k167_0 rfl rfl ?_
  refine me_iconst (p' := 2) k167_1 rfl (v := nI 0) (by decide) ?_
  refine me_iconst (p' := 3) k167_2 rfl (v := nI 5) (by decide) ?_
  refine me_cs (p' := 6) k167_3 rfl rfl rfl rfl rfl (cl_le mx_134 rfl) (by decide) (cl_sum rfl) (ct_in (fun e67 => ?_) (fun e67 => ?_))
  · skip
    obtain ⟨k68, hk69, rfl⟩ := mI_in1 (n := 5) (by omega) e67
    have hk69 : k68 < 6 := by omega
    refine me_if_ne (p' := 9) k167_6 rfl (fun h => absurd h (by decide)) (fun _ => ?_)
    refine me_iload_n (p' := 13) k167_12 rfl rfl ?_
    refine me_iconst (p' := 14) k167_13 rfl (v := nI 5) (by decide) ?_
    refine me_ic_ne (p' := 17) k167_14 rfl (fun c1 => ?_) (fun c1 => ?_)
    · skip
      rw [cI_eq (a := k68) (b := 5) (by omega) (by omega)] at c1
      refine me_aload_n (p' := 18) k167_17 rfl rfl ?_
      refine me_cv (p' := 21) k167_18 rfl rfl (by decide) rfl (by decide) (by decide) dp_168 rfl rfl (cl_le mx_168 rfl) (by decide) (cl_sum rfl) (ct_near hk ?_)
      rw [haw]
      refine me_goto k167_21 ?_
      refine me_reti k167_40 rt_167 rfl ?_
      simp only [sp_ride, sp_rg_s (m := 6) hk69 (by omega), c1, if_true, if_false] at hQ
      exact hQ
    · skip
      rw [cI_eq (a := k68) (b := 5) (by omega) (by omega)] at c1
      refine me_aload_n (p' := 25) k167_24 rfl rfl ?_
      refine me_iload_n (p' := 26) k167_25 rfl rfl ?_
      refine me_iconst (p' := 27) k167_26 rfl (v := nI 4) (by decide) ?_
      refine me_ic_ne (p' := 30) k167_27 rfl (fun c2 => ?_) (fun c2 => ?_)
      · skip
        rw [cI_eq (a := k68) (b := 4) (by omega) (by omega)] at c2
        refine me_iconst (p' := 31) k167_30 rfl (v := nI 1) (by decide) ?_
        refine me_goto k167_31 ?_
        refine me_cv (p' := 40) k167_37 rfl rfl (by decide) rfl (by decide) (by decide) dp_161 rfl rfl (cl_le mx_161 rfl) (by decide) (cl_sum rfl) (ct_sumOf hk.hn (by omega) ?_)
        rw [haw]
        refine me_reti k167_40 rt_167 rfl ?_
        simp only [sp_ride, sp_rg_s (m := 6) hk69 (by omega), c1, c2, if_true, if_false] at hQ
        exact hQ
      · skip
        rw [cI_eq (a := k68) (b := 4) (by omega) (by omega)] at c2
        refine me_iconst (p' := 35) k167_34 rfl (v := nI 3) (by decide) ?_
        refine me_iload_n (p' := 36) k167_35 rfl rfl ?_
        refine me_iadd (p' := 37) k167_36 rfl (v := nI (3 + k68)) (mI_add _ _) ?_
        refine me_cv (p' := 40) k167_37 rfl rfl (by decide) rfl (by decide) (by decide) dp_161 rfl rfl (cl_le mx_161 rfl) (by decide) (cl_sum rfl) (ct_sumOf hk.hn (by omega) ?_)
        rw [haw]
        refine me_reti k167_40 rt_167 rfl ?_
        simp only [sp_ride, sp_rg_s (m := 6) hk69 (by omega), c1, c2, if_true, if_false] at hQ
        exact hQ
  · skip
    have hz70 : ∀ k : Nat, k < 6 → v ≠ nI k := fun k hk => mI_in0 (n := 5) (by omega) e67 (by omega)
    refine me_if_ne (p' := 9) k167_6 rfl (fun _ => ?_) (fun h => absurd (by decide) h)
    refine me_ldc (p' := 11) k167_9 rfl (v := (-1000000001)) (by decide) ?_
    refine me_reti k167_11 rt_167 rfl ?_
    simp only [sp_ride, sp_rg_n (m := 6) (by omega) hz70, if_true, if_false] at hQ
    exact hQ
theorem lp_lamps {d L : Nat} {xs : Nat → Int32} {I : Nat → Nat → Int32} {Q : Option Value → mj_H → Prop} {n : Nat} (hk : mOk (I 128) n) (hQ : Q (some (.int (sp_lm (I 128) n))) (mg_h L xs I)) : ∀ k : Nat, k ≤ n → mj_Ev (d + 1) 169 4 [.ref 127, .int (sp_lm (I 128) k), .int (nI k)] [] (mg_h L xs I) Q := by
  have hn8 := hk.hn.2
  refine loop_ind (n := n) (fun k hkn ih => ?_)
  refine me_iload_n (p' := 5) k169_4 rfl rfl ?_
  refine me_aload_n (p' := 6) k169_5 rfl rfl ?_
  refine me_gfr (p' := 9) k169_6 rfl (by decide) rfl (b := 128) rfl ?_
  refine me_iconst (p' := 10) k169_9 rfl (v := nI 1) (by decide) ?_
  refine me_iald (p' := 11) k169_10 rfl (by decide) rfl (j := 1) rfl (by omega) (by decide) rfl ?_
  rw [hk.hn.1]
  refine me_ic_ge (p' := 14) k169_11 rfl (fun c1 => ?_) (fun c1 => ?_)
  · skip
    rw [cI_le (a := n) (b := k) (by omega) (by omega)] at c1
    refine me_iload_n (p' := 35) k169_34 rfl rfl ?_
    refine me_reti k169_35 rt_169 rfl ?_
    have e8 : k = n := by omega
    subst e8
    exact hQ
  · skip
    rw [cI_le (a := n) (b := k) (by omega) (by omega)] at c1
    refine me_iload_n (p' := 15) k169_14 rfl rfl ?_
    refine me_iconst (p' := 16) k169_15 rfl (v := nI 1) (by decide) ?_
    refine me_aload_n (p' := 17) k169_16 rfl rfl ?_
    refine me_iload_n (p' := 18) k169_17 rfl rfl ?_
    refine me_iconst (p' := 19) k169_18 rfl (v := nI 1) (by decide) ?_
    refine me_cv (p' := 22) k169_19 rfl rfl (by decide) rfl (by decide) (by decide) dp_141 rfl rfl (cl_le mx_141 rfl) (by decide) (cl_sum rfl) (ct_of (by omega) ?_)
    have hF0 := (hk.ft k (by omega)).2
    rw [(hk.ft k (by omega)).1]
    refine me_bipush (p' := 24) k169_22 rfl (v := nI 20) (by decide) ?_
    refine me_idiv (p' := 25) k169_24 rfl (nI_ne0 (by omega) (by omega)) (v := nI ((sF (I 128) k) / 20)) (mI_div (by omega) (by omega)) ?_
    refine me_ishl (p' := 26) k169_25 rfl rfl ?_
    refine me_ior (p' := 27) k169_26 rfl rfl ?_
    refine me_istore_n (p' := 28) k169_27 rfl ⟨Nat.le_of_ble_eq_true rfl, rfl⟩ rfl ?_
    refine me_iinc (p' := 31) k169_28 rfl rfl rfl (v := nI (k + 1)) (mI_inc (by decide)) rfl ?_
    refine me_goto k169_31 ?_
    exact ih (by omega)
theorem ct_Mlamps {d L : Nat} {xs : Nat → Int32} {I : Nat → Nat → Int32} {Q : Option Value → mj_H → Prop} {n : Nat} (hk : mOk (I 128) n) (hQ : Q (some (.int (sp_lm (I 128) n))) (mg_h L xs I)) : mj_Cl (d + 1) 169 [.ref 127] (mg_h L xs I) Q := by
  refine cl_start mx_169 (ls := [.ref 127, mj_no, mj_no]) rfl ?_
  refine me_iconst (p' := 1) k169_0 rfl (v := nI 0) (by decide) ?_
  refine me_istore_n (p' := 2) k169_1 rfl ⟨Nat.le_of_ble_eq_true rfl, rfl⟩ rfl ?_
  refine me_iconst (p' := 3) k169_2 rfl (v := nI 0) (by decide) ?_
  refine me_istore_n (p' := 4) k169_3 rfl ⟨Nat.le_of_ble_eq_true rfl, rfl⟩ rfl ?_
  exact lp_lamps hk hQ 0 (Nat.zero_le _)
theorem ct_Mwhy {d L : Nat} {xs : Nat → Int32} {I : Nat → Nat → Int32} {Q : Option Value → mj_H → Prop} {T : mT} (hx : mTx I T) {v : Int32} (hQ : Q (some (.int (sp_why T v))) (mg_h L xs I)) : mj_Cl (d + 1) 201 [.ref 127, .int v] (mg_h L xs I) Q := by
  refine cl_start mx_201 (ls := [.ref 127, .int v, mj_no]) rfl ?_
  refine me_iload_n (p' := 1) k201_0 rfl rfl ?_
  refine me_iconst (p' := 2) k201_1 rfl (v := nI 0) (by decide) ?_
  refine me_iconst (p' := 3) k201_2 rfl (v := nI 2) (by decide) ?_
  refine me_cs (p' := 6) k201_3 rfl rfl rfl rfl rfl (cl_le mx_134 rfl) (by decide) (cl_sum rfl) (ct_in (fun e71 => ?_) (fun e71 => ?_))
  · skip
    obtain ⟨k72, hk73, rfl⟩ := mI_in1 (n := 2) (by omega) e71
    have hk73 : k72 < 3 := by omega
    refine me_if_ne (p' := 9) k201_6 rfl (fun h => absurd h (by decide)) (fun _ => ?_)
    refine me_aload_n (p' := 13) k201_12 rfl rfl ?_
    refine me_iload_n (p' := 14) k201_13 rfl rfl ?_
    refine me_cv (p' := 17) k201_14 rfl rfl (by decide) rfl (by decide) (by decide) dp_140 rfl rfl (cl_le mx_140 rfl) (by decide) (cl_sum rfl) (ct_counts hx (by omega) ?_)
    refine me_istore_n (p' := 18) k201_17 rfl ⟨Nat.le_of_ble_eq_true rfl, rfl⟩ rfl ?_
    refine me_iload_n (p' := 19) k201_18 rfl rfl ?_
    refine me_if_ge (p' := 22) k201_19 rfl (fun c1 => ?_) (fun c1 => ?_)
    · skip
      refine me_iload_n (p' := 28) k201_27 rfl rfl ?_
      refine me_reti k201_28 rt_201 rfl ?_
      simp only [sp_why, sp_rg_s (m := 3) hk73 (by omega), if_neg (Int32.not_lt.mpr c1), if_true, if_false] at hQ
      exact hQ
    · skip
      refine me_ldc (p' := 24) k201_22 rfl (v := (-1000000005)) (by decide) ?_
      refine me_goto k201_24 ?_
      refine me_reti k201_28 rt_201 rfl ?_
      simp only [sp_why, sp_rg_s (m := 3) hk73 (by omega), if_pos (Int32.not_le.mp c1), if_true, if_false] at hQ
      exact hQ
  · skip
    have hz74 : ∀ k : Nat, k < 3 → v ≠ nI k := fun k hk => mI_in0 (n := 2) (by omega) e71 (by omega)
    refine me_if_ne (p' := 9) k201_6 rfl (fun _ => ?_) (fun h => absurd (by decide) h)
    refine me_ldc (p' := 11) k201_9 rfl (v := (-1000000001)) (by decide) ?_
    refine me_reti k201_11 rt_201 rfl ?_
    simp only [sp_why, sp_rg_n (m := 3) (by omega) hz74, if_true, if_false] at hQ
    exact hQ
theorem ct_MtextTold {d L : Nat} {xs : Nat → Int32} {I : Nat → Nat → Int32} {Q : Option Value → mj_H → Prop} {T : mT} (hx : mTx I T) {t wh : Int32} (hQ : Q (some (.int (sp_ttold T t wh))) (mg_h L xs I)) : mj_Cl (d + 1) 200 [.ref 127, .int t, .int wh] (mg_h L xs I) Q := by
  refine cl_start mx_200 (ls := [.ref 127, .int t, .int wh]) rfl ?_
  refine me_iload_n (p' := 1) k200_0 rfl rfl ?_
  refine me_iconst (p' := 2) k200_1 rfl (v := nI 0) (by decide) ?_
  refine me_aload_n (p' := 3) k200_2 rfl rfl ?_
  refine me_gfr (p' := 6) k200_3 rfl (by decide) rfl (b := 128) rfl ?_
  refine me_iconst (p' := 7) k200_6 rfl (v := nI 4) (by decide) ?_
  refine me_iald (p' := 8) k200_7 rfl (by decide) rfl (j := 4) rfl (by omega) (by decide) rfl ?_
  rw [show I 128 4 = nI T.nt from hx.1]
  have hnt := hx.2.1
  refine me_iconst (p' := 9) k200_8 rfl (v := nI 1) (by decide) ?_
  refine me_isub (p' := 10) k200_9 rfl rfl ?_
  refine me_cs (p' := 13) k200_10 rfl rfl rfl rfl rfl (cl_le mx_134 rfl) (by decide) (cl_sum rfl) (ct_in (fun e78 => ?_) (fun e78 => ?_))
  · skip
    obtain ⟨k75, hk76, rfl⟩ := mI_lt1 (by omega) e78
    have htx := hx.2.2 k75 hk76
    refine me_if_eq (p' := 16) k200_13 rfl (fun h => absurd h (by decide)) (fun _ => ?_)
    refine me_iload_n (p' := 17) k200_16 rfl rfl ?_
    refine me_iconst (p' := 18) k200_17 rfl (v := nI 0) (by decide) ?_
    refine me_iconst (p' := 19) k200_18 rfl (v := nI 1) (by decide) ?_
    refine me_cs (p' := 22) k200_19 rfl rfl rfl rfl rfl (cl_le mx_134 rfl) (by decide) (cl_sum rfl) (ct_in (fun e79 => ?_) (fun e79 => ?_))
    · skip
      obtain ⟨k80, hk81, rfl⟩ := mI_in1 (n := 1) (by omega) e79
      have hk81 : k80 < 2 := by omega
      refine me_if_ne (p' := 25) k200_22 rfl (fun h => absurd h (by decide)) (fun _ => ?_)
      refine me_iload_n (p' := 29) k200_28 rfl rfl ?_
      refine me_if_ne (p' := 32) k200_29 rfl (fun c1 => ?_) (fun c1 => ?_)
      · skip
        rw [cI_eq0 (a := k80) (by omega)] at c1
        refine me_aload_n (p' := 33) k200_32 rfl rfl ?_
        refine me_gfr (p' := 36) k200_33 rfl (by decide) rfl (b := 128) rfl ?_
        refine me_bipush (p' := 38) k200_36 rfl (v := nI 109) (by decide) ?_
        refine me_iconst (p' := 39) k200_38 rfl (v := nI 2) (by decide) ?_
        refine me_iload_n (p' := 40) k200_39 rfl rfl ?_
        refine me_imul (p' := 41) k200_40 rfl (v := nI (2 * k75)) (mI_mul _ _) ?_
        refine me_iadd (p' := 42) k200_41 rfl (v := nI (109 + (2 * k75))) (mI_add _ _) ?_
        refine me_iald (p' := 43) k200_42 rfl (by decide) rfl (j := 109 + (2 * k75)) rfl (by omega) (by decide) rfl ?_
        rw [htx.2.2.2.1]
        have h9 := htx.1
        have h8 := htx.2.1
        refine me_sipush (p' := 46) k200_43 rfl (v := nI 1000) (by decide) ?_
        refine me_idiv (p' := 47) k200_46 rfl (nI_ne0 (by omega) (by omega)) (v := nI ((1000 * T.kf k75 + (T.tk k75).length) / 1000)) (mI_div (by omega) (by omega)) ?_
        rw [show (1000 * T.kf k75 + (T.tk k75).length) / 1000 = T.kf k75 by omega]
        refine me_goto k200_47 ?_
        refine me_reti k200_63 rt_200 rfl ?_
        simp only [sp_ttold, sp_rg_s hk76 (by omega), sp_rg_s (m := 2) hk81 (by omega), c1, if_true, if_false] at hQ
        exact hQ
      · skip
        rw [cI_eq0 (a := k80) (by omega)] at c1
        refine me_aload_n (p' := 51) k200_50 rfl rfl ?_
        refine me_gfr (p' := 54) k200_51 rfl (by decide) rfl (b := 128) rfl ?_
        refine me_bipush (p' := 56) k200_54 rfl (v := nI 109) (by decide) ?_
        refine me_iconst (p' := 57) k200_56 rfl (v := nI 2) (by decide) ?_
        refine me_iload_n (p' := 58) k200_57 rfl rfl ?_
        refine me_imul (p' := 59) k200_58 rfl (v := nI (2 * k75)) (mI_mul _ _) ?_
        refine me_iadd (p' := 60) k200_59 rfl (v := nI (109 + (2 * k75))) (mI_add _ _) ?_
        refine me_iconst (p' := 61) k200_60 rfl (v := nI 1) (by decide) ?_
        refine me_iadd (p' := 62) k200_61 rfl (v := nI ((109 + (2 * k75)) + 1)) (mI_add _ _) ?_
        refine me_iald (p' := 63) k200_62 rfl (by decide) rfl (j := (109 + (2 * k75)) + 1) rfl (by omega) (by decide) rfl ?_
        rw [show I 128 ((109 + (2 * k75)) + 1) = nI (T.na k75) from htx.2.2.2.2.1]
        refine me_reti k200_63 rt_200 rfl ?_
        simp only [sp_ttold, sp_rg_s hk76 (by omega), sp_rg_s (m := 2) hk81 (by omega), c1, if_true, if_false] at hQ
        exact hQ
    · skip
      have hz82 : ∀ k : Nat, k < 2 → wh ≠ nI k := fun k hk => mI_in0 (n := 1) (by omega) e79 (by omega)
      refine me_if_ne (p' := 25) k200_22 rfl (fun _ => ?_) (fun h => absurd (by decide) h)
      refine me_ldc (p' := 27) k200_25 rfl (v := (-1000000001)) (by decide) ?_
      refine me_reti k200_27 rt_200 rfl ?_
      simp only [sp_ttold, sp_rg_s hk76 (by omega), sp_rg_n (m := 2) (by omega) hz82, if_true, if_false] at hQ
      exact hQ
  · skip
    have hz77 : ∀ k : Nat, k < T.nt → t ≠ nI k := fun k hk => mI_lt0 (by omega) e78 hk
    refine me_if_eq (p' := 16) k200_13 rfl (fun _ => ?_) (fun h => absurd (by decide) h)
    refine me_ldc (p' := 27) k200_25 rfl (v := (-1000000001)) (by decide) ?_
    refine me_reti k200_27 rt_200 rfl ?_
    simp only [sp_ttold, sp_rg_n (by omega) hz77, if_true, if_false] at hQ
    exact hQ
