/-! ===== the model: what is called (1) ===== -/
def sp_rg (m : Nat) (v : Int32) : Option Nat := if 0 ≤ v ∧ v < nI m then some v.toNatClampNeg else none
theorem sp_rg_s {m k : Nat} (hk : k < m) (hm : m < 2 ^ 31) : sp_rg m (nI k) = some k := by
  unfold sp_rg
  rw [if_pos ⟨nI_pos' (by omega), (cI_lt (by omega) hm).mpr hk⟩, nI_clamp (by omega)]
theorem sp_rg_n {m : Nat} {v : Int32} (hm : m < 2 ^ 31) (h : ∀ k : Nat, k < m → v ≠ nI k) : sp_rg m v = none := by
  unfold sp_rg
  refine if_neg (fun z => ?_)
  obtain ⟨k, rfl, hk⟩ := mI_of z.1
  exact h k ((cI_lt hk hm).mp z.2) rfl
theorem mI_ex (m : Nat) (hm : m < 2 ^ 31) (v : Int32) : (∃ k, k < m ∧ v = nI k) ∨ (∀ k : Nat, k < m → v ≠ nI k) := by
  by_cases h : 0 ≤ v ∧ v < nI m
  · obtain ⟨k, rfl, hk⟩ := mI_of h.1
    exact Or.inl ⟨k, (cI_lt hk hm).mp h.2, rfl⟩
  · right
    rintro k hk rfl
    exact h ⟨nI_pos' (by omega), (cI_lt (by omega) hm).mpr hk⟩
theorem mI_tout {m : Nat} {v : Int32} (hm : m < 2 ^ 31) (h : ∀ k : Nat, k < m → v ≠ nI k) : v.toInt < 0 ∨ ((m : Int) - 1) < v.toInt := by
  rcases Int.lt_or_le v.toInt 0 with h0 | h0
  · exact Or.inl h0
  · right
    obtain ⟨k, rfl, hk⟩ := mI_of (x := v) (by rw [Int32.le_iff_toInt_le]; exact h0)
    have : ¬ k < m := fun z => h k z rfl
    rw [nI_toInt hk]
    omega
theorem ct_in2 {d L : Nat} {xs : Nat → Int32} {I : Nat → Nat → Int32} {Q : Option Value → mj_H → Prop} {v : Int32} (a : Nat) (ha : a < 1000) (h1 : v = nI a → Q (some (.int (nI 1))) (mg_h L xs I)) (h2 : v = nI (a + 1) → Q (some (.int (nI 1))) (mg_h L xs I))
    (h0 : (∀ k : Nat, k < 2 → v ≠ nI (a + k)) → Q (some (.int (nI 0))) (mg_h L xs I)) : mj_Cl d 134 [.int v, .int (nI a), .int (nI (a + 1))] (mg_h L xs I) Q := by
  refine ct_in (fun e => ?_) (fun e => ?_)
  · obtain ⟨k, rfl, hk⟩ := mI_of (Int32.le_trans (nI_pos' (show a < 2 ^ 31 by omega)) e.1)
    have e1 := (cI_le (by omega) hk).mp e.1
    have e2 := (cI_le hk (by omega)).mp e.2
    rcases (show k = a ∨ k = a + 1 by omega) with rfl | rfl
    · exact h1 rfl
    · exact h2 rfl
  · refine h0 (fun k hk z => e ?_)
    subst z
    exact ⟨(cI_le (by omega) (by omega)).mpr (by omega), (cI_le (by omega) (by omega)).mpr (by omega)⟩
def sp_car (s : Nat → Int32) (n : Nat) (k f w : Int32) : Int32 × (Nat → Int32) := match sp_rg 6 k with
  | none => ((-1000000001), s)
  | some _ => match sp_rg 240 f with
    | none => ((-1000000001), s)
    | some _ => if nI 1 ≤ w ∧ w ≤ nI 99 then (if n = 8 then ((-1000000003), s) else (nI n, sp_comes s n k f w)) else ((-1000000001), s)
def sp_told (T : mT) (s : Nat → Int32) (n : Nat) (car what : Int32) : Int32 := match sp_rg n car with
  | none => (-1000000001)
  | some c => match sp_rg 11 what with
    | none => (-1000000001)
    | some 7 => sp_pc T s c (sF s c / 20)
    | some 8 => sp_room s (-1) c n
    | some 9 => nI (sp_loud (sQ s c))
    | some 10 => sp_worth (sQ s c) (s (53 + 7 * c + 2))
    | some k => s (53 + 7 * c + k)
def sp_pcall (T : mT) (s : Nat → Int32) (n : Nat) (car part : Int32) : Int32 := match sp_rg n car with
  | none => (-1000000001)
  | some c => match sp_rg 12 part with
    | none => (-1000000001)
    | some p => sp_pc T s c p
theorem ct_Mcar {d L : Nat} {xs : Nat → Int32} {I : Nat → Nat → Int32} {Q : Option Value → mj_H → Prop} {n : Nat} (hk : mOk (I 128) n) {q f w : Int32} (hQ : ∀ I2, mFr [128] I I2 → I2 128 = (sp_car (I 128) n q f w).2 → Q (some (.int (sp_car (I 128) n q f w).1)) (mg_h L xs I2)) : mj_Cl (d + 1) 133 [.ref 127, .int q, .int f, .int w] (mg_h L xs I) Q := by
  have hn8 := hk.hn.2
  refine cl_start mx_133 (ls := [.ref 127, .int q, .int f, .int w]) rfl ?_
  refine me_iload_n (p' := 1) k133_0 rfl rfl ?_
  refine me_iconst (p' := 2) k133_1 rfl (v := nI 0) (by decide) ?_
  refine me_iconst (p' := 3) k133_2 rfl (v := nI 5) (by decide) ?_
  refine me_cs (p' := 6) k133_3 rfl rfl rfl rfl rfl (cl_le mx_134 rfl) (by decide) (cl_sum rfl) (ct_in (fun e1 => ?_) (fun e1 => ?_))
  · skip
    obtain ⟨k2, hk3, rfl⟩ := mI_in1 (n := 5) (by omega) e1
    have hk3 : k2 < 6 := by omega
    refine me_if_eq (p' := 9) k133_6 rfl (fun h => absurd h (by decide)) (fun _ => ?_)
    refine me_iload_n (p' := 10) k133_9 rfl rfl ?_
    refine me_iconst (p' := 11) k133_10 rfl (v := nI 0) (by decide) ?_
    refine me_sipush (p' := 14) k133_11 rfl (v := nI 239) (by decide) ?_
    refine me_cs (p' := 17) k133_14 rfl rfl rfl rfl rfl (cl_le mx_134 rfl) (by decide) (cl_sum rfl) (ct_in (fun e5 => ?_) (fun e5 => ?_))
    · skip
      obtain ⟨k6, hk7, rfl⟩ := mI_in1 (n := 239) (by omega) e5
      have hk7 : k6 < 240 := by omega
      refine me_if_eq (p' := 20) k133_17 rfl (fun h => absurd h (by decide)) (fun _ => ?_)
      refine me_iload_n (p' := 21) k133_20 rfl rfl ?_
      refine me_iconst (p' := 22) k133_21 rfl (v := nI 1) (by decide) ?_
      refine me_bipush (p' := 24) k133_22 rfl (v := nI 99) (by decide) ?_
      refine me_cs (p' := 27) k133_24 rfl rfl rfl rfl rfl (cl_le mx_134 rfl) (by decide) (cl_sum rfl) (ct_in (fun e9 => ?_) (fun e9 => ?_))
      · skip
        refine me_if_ne (p' := 30) k133_27 rfl (fun h => absurd h (by decide)) (fun _ => ?_)
        refine me_aload_n (p' := 34) k133_33 rfl rfl ?_
        refine me_gfr (p' := 37) k133_34 rfl (by decide) rfl (b := 128) rfl ?_
        refine me_iconst (p' := 38) k133_37 rfl (v := nI 1) (by decide) ?_
        refine me_iald (p' := 39) k133_38 rfl (by decide) rfl (j := 1) rfl (by omega) (by decide) rfl ?_
        rw [hk.hn.1]
        refine me_bipush (p' := 41) k133_39 rfl (v := nI 8) (by decide) ?_
        refine me_ic_ne (p' := 44) k133_41 rfl (fun c1 => ?_) (fun c1 => ?_)
        · skip
          rw [cI_eq (a := n) (b := 8) (by omega) (by omega)] at c1
          refine me_ldc (p' := 46) k133_44 rfl (v := (-1000000003)) (by decide) ?_
          refine me_goto k133_46 ?_
          refine me_reti k133_56 rt_133 rfl ?_
          simp only [sp_car, sp_rg_s (m := 6) hk3 (by omega), sp_rg_s (m := 240) hk7 (by omega), if_pos e9, c1, if_true, if_false] at hQ
          exact hQ _ mFr.rf rfl
        · skip
          rw [cI_eq (a := n) (b := 8) (by omega) (by omega)] at c1
          refine me_aload_n (p' := 50) k133_49 rfl rfl ?_
          refine me_iload_n (p' := 51) k133_50 rfl rfl ?_
          refine me_iload_n (p' := 52) k133_51 rfl rfl ?_
          refine me_iload_n (p' := 53) k133_52 rfl rfl ?_
          refine me_cv (p' := 56) k133_53 rfl rfl (by decide) rfl (by decide) (by decide) dp_135 rfl rfl (cl_le mx_135 rfl) (by decide) (cl_sum rfl) (ct_comes hk.hn (by have := hk.hn.2; omega) ?_)
          refine me_reti k133_56 rt_133 rfl ?_
          simp only [sp_car, sp_rg_s (m := 6) hk3 (by omega), sp_rg_s (m := 240) hk7 (by omega), if_pos e9, c1, if_true, if_false] at hQ
          exact hQ _ (mFr.w (by decide)) mw_eqf
      · skip
        refine me_if_ne (p' := 30) k133_27 rfl (fun _ => ?_) (fun h => absurd (by decide) h)
        refine me_ldc (p' := 32) k133_30 rfl (v := (-1000000001)) (by decide) ?_
        refine me_reti k133_32 rt_133 rfl ?_
        simp only [sp_car, sp_rg_s (m := 6) hk3 (by omega), sp_rg_s (m := 240) hk7 (by omega), if_neg e9, if_true, if_false] at hQ
        exact hQ _ mFr.rf rfl
    · skip
      have hz8 : ∀ k : Nat, k < 240 → f ≠ nI k := fun k hk => mI_in0 (n := 239) (by omega) e5 (by omega)
      refine me_if_eq (p' := 20) k133_17 rfl (fun _ => ?_) (fun h => absurd (by decide) h)
      refine me_ldc (p' := 32) k133_30 rfl (v := (-1000000001)) (by decide) ?_
      refine me_reti k133_32 rt_133 rfl ?_
      simp only [sp_car, sp_rg_s (m := 6) hk3 (by omega), sp_rg_n (m := 240) (by omega) hz8, if_true, if_false] at hQ
      exact hQ _ mFr.rf rfl
  · skip
    have hz4 : ∀ k : Nat, k < 6 → q ≠ nI k := fun k hk => mI_in0 (n := 5) (by omega) e1 (by omega)
    refine me_if_eq (p' := 9) k133_6 rfl (fun _ => ?_) (fun h => absurd (by decide) h)
    refine me_ldc (p' := 32) k133_30 rfl (v := (-1000000001)) (by decide) ?_
    refine me_reti k133_32 rt_133 rfl ?_
    simp only [sp_car, sp_rg_n (m := 6) (by omega) hz4, if_true, if_false] at hQ
    exact hQ _ mFr.rf rfl
theorem ct_Mtold {d L : Nat} {xs : Nat → Int32} {I : Nat → Nat → Int32} {Q : Option Value → mj_H → Prop} {T : mT} {n : Nat} (hx : mTx I T) (hk : mOk (I 128) n) (haw : I 127 4 = -1) {car wh : Int32} (hQ : ∀ I2, mFr [138, 139] I I2 → Q (some (.int (sp_told T (I 128) n car wh))) (mg_h L xs I2)) : mj_Cl (d + 3) 145 [.ref 127, .int car, .int wh] (mg_h L xs I) Q := by
  have hn8 := hk.hn.2
  refine cl_start mx_145 (ls := [.ref 127, .int car, .int wh]) rfl ?_
  refine me_aload_n (p' := 1) k145_0 rfl rfl ?_
  refine me_iload_n (p' := 2) k145_1 rfl rfl ?_
  refine me_cv (p' := 5) k145_2 rfl rfl (by decide) rfl (by decide) (by decide) dp_137 rfl rfl (cl_le mx_137 rfl) (by decide) (cl_sum rfl) (ct_MisCar hk.hn (fun k10 hk11 he => ?_) (fun hz12 => ?_))
  · skip
    subst he
    refine me_if_ne (p' := 8) k145_5 rfl (fun h => absurd h (by decide)) (fun _ => ?_)
    refine me_iload_n (p' := 12) k145_11 rfl rfl ?_
    rcases mI_ex 11 (by decide) wh with ⟨k14, hk9, rfl⟩ | hz13
    rotate_left
    · refine me_tsw (p' := 112) k145_12 (by rw [if_pos (show (wh).toInt < 0 ∨ 10 < (wh).toInt from by have := mI_tout (m := 11) (by decide) hz13; omega)]; rfl) ?_
      refine me_ldc (p' := 114) k145_112 rfl (v := (-1000000001)) (by decide) ?_
      refine me_reti k145_114 rt_145 rfl ?_
      simp only [sp_told, sp_rg_s hk11 (by omega), sp_rg_n (m := 11) (by omega) hz13, if_true, if_false] at hQ
      exact hQ _ mFr.rf
    rcases (show k14 = 0 ∨ k14 = 1 ∨ k14 = 2 ∨ k14 = 3 ∨ k14 = 4 ∨ k14 = 5 ∨ k14 = 6 ∨ k14 = 7 ∨ k14 = 8 ∨ k14 = 9 ∨ k14 = 10 by omega) with rfl | rfl | rfl | rfl | rfl | rfl | rfl | rfl | rfl | rfl | rfl
    · skip
      refine me_tsw (p' := 72) k145_12 (by decide) ?_
      refine me_aload_n (p' := 73) k145_72 rfl rfl ?_
      refine me_iload_n (p' := 74) k145_73 rfl rfl ?_
      refine me_iload_n (p' := 75) k145_74 rfl rfl ?_
      refine me_cv (p' := 78) k145_75 rfl rfl (by decide) rfl (by decide) (by decide) dp_141 rfl rfl (cl_le mx_141 rfl) (by decide) (cl_sum rfl) (ct_of (by omega) ?_)
      refine me_reti k145_78 rt_145 rfl ?_
      simp only [sp_told, sp_rg_s hk11 (by omega), sp_rg_s (show 0 < 11 by decide) (by decide), if_true, if_false] at hQ
      exact hQ _ mFr.rf
    · skip
      refine me_tsw (p' := 72) k145_12 (by decide) ?_
      refine me_aload_n (p' := 73) k145_72 rfl rfl ?_
      refine me_iload_n (p' := 74) k145_73 rfl rfl ?_
      refine me_iload_n (p' := 75) k145_74 rfl rfl ?_
      refine me_cv (p' := 78) k145_75 rfl rfl (by decide) rfl (by decide) (by decide) dp_141 rfl rfl (cl_le mx_141 rfl) (by decide) (cl_sum rfl) (ct_of (by omega) ?_)
      refine me_reti k145_78 rt_145 rfl ?_
      simp only [sp_told, sp_rg_s hk11 (by omega), sp_rg_s (show 1 < 11 by decide) (by decide), if_true, if_false] at hQ
      exact hQ _ mFr.rf
    · skip
      refine me_tsw (p' := 72) k145_12 (by decide) ?_
      refine me_aload_n (p' := 73) k145_72 rfl rfl ?_
      refine me_iload_n (p' := 74) k145_73 rfl rfl ?_
      refine me_iload_n (p' := 75) k145_74 rfl rfl ?_
      refine me_cv (p' := 78) k145_75 rfl rfl (by decide) rfl (by decide) (by decide) dp_141 rfl rfl (cl_le mx_141 rfl) (by decide) (cl_sum rfl) (ct_of (by omega) ?_)
      refine me_reti k145_78 rt_145 rfl ?_
      simp only [sp_told, sp_rg_s hk11 (by omega), sp_rg_s (show 2 < 11 by decide) (by decide), if_true, if_false] at hQ
      exact hQ _ mFr.rf
    · skip
      refine me_tsw (p' := 72) k145_12 (by decide) ?_
      refine me_aload_n (p' := 73) k145_72 rfl rfl ?_
      refine me_iload_n (p' := 74) k145_73 rfl rfl ?_
      refine me_iload_n (p' := 75) k145_74 rfl rfl ?_
      refine me_cv (p' := 78) k145_75 rfl rfl (by decide) rfl (by decide) (by decide) dp_141 rfl rfl (cl_le mx_141 rfl) (by decide) (cl_sum rfl) (ct_of (by omega) ?_)
      refine me_reti k145_78 rt_145 rfl ?_
      simp only [sp_told, sp_rg_s hk11 (by omega), sp_rg_s (show 3 < 11 by decide) (by decide), if_true, if_false] at hQ
      exact hQ _ mFr.rf
    · skip
      refine me_tsw (p' := 72) k145_12 (by decide) ?_
      refine me_aload_n (p' := 73) k145_72 rfl rfl ?_
      refine me_iload_n (p' := 74) k145_73 rfl rfl ?_
      refine me_iload_n (p' := 75) k145_74 rfl rfl ?_
      refine me_cv (p' := 78) k145_75 rfl rfl (by decide) rfl (by decide) (by decide) dp_141 rfl rfl (cl_le mx_141 rfl) (by decide) (cl_sum rfl) (ct_of (by omega) ?_)
      refine me_reti k145_78 rt_145 rfl ?_
      simp only [sp_told, sp_rg_s hk11 (by omega), sp_rg_s (show 4 < 11 by decide) (by decide), if_true, if_false] at hQ
      exact hQ _ mFr.rf
    · skip
      refine me_tsw (p' := 72) k145_12 (by decide) ?_
      refine me_aload_n (p' := 73) k145_72 rfl rfl ?_
      refine me_iload_n (p' := 74) k145_73 rfl rfl ?_
      refine me_iload_n (p' := 75) k145_74 rfl rfl ?_
      refine me_cv (p' := 78) k145_75 rfl rfl (by decide) rfl (by decide) (by decide) dp_141 rfl rfl (cl_le mx_141 rfl) (by decide) (cl_sum rfl) (ct_of (by omega) ?_)
      refine me_reti k145_78 rt_145 rfl ?_
      simp only [sp_told, sp_rg_s hk11 (by omega), sp_rg_s (show 5 < 11 by decide) (by decide), if_true, if_false] at hQ
      exact hQ _ mFr.rf
    · skip
      refine me_tsw (p' := 72) k145_12 (by decide) ?_
      refine me_aload_n (p' := 73) k145_72 rfl rfl ?_
      refine me_iload_n (p' := 74) k145_73 rfl rfl ?_
      refine me_iload_n (p' := 75) k145_74 rfl rfl ?_
      refine me_cv (p' := 78) k145_75 rfl rfl (by decide) rfl (by decide) (by decide) dp_141 rfl rfl (cl_le mx_141 rfl) (by decide) (cl_sum rfl) (ct_of (by omega) ?_)
      refine me_reti k145_78 rt_145 rfl ?_
      simp only [sp_told, sp_rg_s hk11 (by omega), sp_rg_s (show 6 < 11 by decide) (by decide), if_true, if_false] at hQ
      exact hQ _ mFr.rf
    · skip
      refine me_tsw (p' := 79) k145_12 (by decide) ?_
      refine me_aload_n (p' := 80) k145_79 rfl rfl ?_
      refine me_iload_n (p' := 81) k145_80 rfl rfl ?_
      refine me_aload_n (p' := 82) k145_81 rfl rfl ?_
      refine me_iload_n (p' := 83) k145_82 rfl rfl ?_
      refine me_iconst (p' := 84) k145_83 rfl (v := nI 1) (by decide) ?_
      refine me_cv (p' := 87) k145_84 rfl rfl (by decide) rfl (by decide) (by decide) dp_141 rfl rfl (cl_le mx_141 rfl) (by decide) (cl_sum rfl) (ct_of (by omega) ?_)
      have hF0 := (hk.ft k10 (by omega)).2
      rw [(hk.ft k10 (by omega)).1]
      refine me_bipush (p' := 89) k145_87 rfl (v := nI 20) (by decide) ?_
      refine me_idiv (p' := 90) k145_89 rfl (nI_ne0 (by omega) (by omega)) (v := nI ((sF (I 128) k10) / 20)) (mI_div (by omega) (by omega)) ?_
      refine me_cv (p' := 93) k145_90 rfl rfl (by decide) rfl (by decide) (by decide) dp_139 rfl rfl (cl_le mx_139 rfl) (by decide) (cl_sum rfl) (ct_paceIn hx (by omega) (by omega) (hk.kd k10 (by omega)).1 (hk.kd k10 (by omega)).2 (fun I1 hI1 => ?_))
      show mj_Ev _ _ _ _ (.int (sp_pc T (I 128) k10 ((sF (I 128) k10) / 20)) :: _) _ _
      refine me_reti k145_93 rt_145 rfl ?_
      simp only [sp_told, sp_rg_s hk11 (by omega), sp_rg_s (show 7 < 11 by decide) (by decide), if_true, if_false] at hQ
      exact hQ _ hI1
    · skip
      refine me_tsw (p' := 94) k145_12 (by decide) ?_
      refine me_aload_n (p' := 95) k145_94 rfl rfl ?_
      refine me_iload_n (p' := 96) k145_95 rfl rfl ?_
      refine me_cv (p' := 99) k145_96 rfl rfl (by decide) rfl (by decide) (by decide) dp_146 rfl rfl (cl_le mx_146 rfl) (by decide) (cl_sum rfl) (ct_roomOf hk.hn hk.ft (by omega) ?_)
      rw [haw]
      refine me_reti k145_99 rt_145 rfl ?_
      simp only [sp_told, sp_rg_s hk11 (by omega), sp_rg_s (show 8 < 11 by decide) (by decide), if_true, if_false] at hQ
      exact hQ _ mFr.rf
    · skip
      refine me_tsw (p' := 100) k145_12 (by decide) ?_
      refine me_aload_n (p' := 101) k145_100 rfl rfl ?_
      refine me_iload_n (p' := 102) k145_101 rfl rfl ?_
      refine me_cv (p' := 105) k145_102 rfl rfl (by decide) rfl (by decide) (by decide) dp_147 rfl rfl (cl_le mx_147 rfl) (by decide) (cl_sum rfl) (ct_loudOf (by omega) (hk.kd k10 (by omega)).1 (hk.kd k10 (by omega)).2 ?_)
      refine me_reti k145_105 rt_145 rfl ?_
      simp only [sp_told, sp_rg_s hk11 (by omega), sp_rg_s (show 9 < 11 by decide) (by decide), if_true, if_false] at hQ
      exact hQ _ mFr.rf
    · skip
      refine me_tsw (p' := 106) k145_12 (by decide) ?_
      refine me_aload_n (p' := 107) k145_106 rfl rfl ?_
      refine me_iload_n (p' := 108) k145_107 rfl rfl ?_
      refine me_cv (p' := 111) k145_108 rfl rfl (by decide) rfl (by decide) (by decide) dp_148 rfl rfl (cl_le mx_148 rfl) (by decide) (cl_sum rfl) (ct_worthOf (by omega) (hk.kd k10 (by omega)).1 (hk.kd k10 (by omega)).2 ?_)
      refine me_reti k145_111 rt_145 rfl ?_
      simp only [sp_told, sp_rg_s hk11 (by omega), sp_rg_s (show 10 < 11 by decide) (by decide), if_true, if_false] at hQ
      exact hQ _ mFr.rf
  · skip
    refine me_if_ne (p' := 8) k145_5 rfl (fun _ => ?_) (fun h => absurd (by decide) h)
    refine me_ldc (p' := 10) k145_8 rfl (v := (-1000000001)) (by decide) ?_
    refine me_reti k145_10 rt_145 rfl ?_
    simp only [sp_told, sp_rg_n (by omega) hz12, if_true, if_false] at hQ
    exact hQ _ mFr.rf
theorem ct_Mpace {d L : Nat} {xs : Nat → Int32} {I : Nat → Nat → Int32} {Q : Option Value → mj_H → Prop} {T : mT} {n : Nat} (hx : mTx I T) (hk : mOk (I 128) n) {car pt : Int32} (hQ : ∀ I2, mFr [138, 139] I I2 → Q (some (.int (sp_pcall T (I 128) n car pt))) (mg_h L xs I2)) : mj_Cl (d + 3) 136 [.ref 127, .int car, .int pt] (mg_h L xs I) Q := by
  have hn8 := hk.hn.2
  refine cl_start mx_136 (ls := [.ref 127, .int car, .int pt]) rfl ?_
  refine me_aload_n (p' := 1) k136_0 rfl rfl ?_
  refine me_iload_n (p' := 2) k136_1 rfl rfl ?_
  refine me_cv (p' := 5) k136_2 rfl rfl (by decide) rfl (by decide) (by decide) dp_137 rfl rfl (cl_le mx_137 rfl) (by decide) (cl_sum rfl) (ct_MisCar hk.hn (fun k15 hk16 he => ?_) (fun hz17 => ?_))
  · skip
    subst he
    refine me_if_eq (p' := 8) k136_5 rfl (fun h => absurd h (by decide)) (fun _ => ?_)
    refine me_iload_n (p' := 9) k136_8 rfl rfl ?_
    refine me_cs (p' := 12) k136_9 rfl rfl rfl rfl rfl (cl_le mx_138 rfl) (by decide) (cl_sum rfl) (ct_MisPart (fun k18 hk19 he => ?_) (fun hz20 => ?_))
    · skip
      subst he
      refine me_if_eq (p' := 15) k136_12 rfl (fun h => absurd h (by decide)) (fun _ => ?_)
      refine me_aload_n (p' := 16) k136_15 rfl rfl ?_
      refine me_iload_n (p' := 17) k136_16 rfl rfl ?_
      refine me_iload_n (p' := 18) k136_17 rfl rfl ?_
      refine me_cv (p' := 21) k136_18 rfl rfl (by decide) rfl (by decide) (by decide) dp_139 rfl rfl (cl_le mx_139 rfl) (by decide) (cl_sum rfl) (ct_paceIn hx (by omega) (by omega) (hk.kd k15 (by omega)).1 (hk.kd k15 (by omega)).2 (fun I1 hI1 => ?_))
      show mj_Ev _ _ _ _ (.int (sp_pc T (I 128) k15 k18) :: _) _ _
      refine me_goto k136_21 ?_
      refine me_reti k136_26 rt_136 rfl ?_
      simp only [sp_pcall, sp_rg_s hk16 (by omega), sp_rg_s hk19 (by omega), if_true, if_false] at hQ
      exact hQ _ hI1
    · skip
      refine me_if_eq (p' := 15) k136_12 rfl (fun _ => ?_) (fun h => absurd (by decide) h)
      refine me_ldc (p' := 26) k136_24 rfl (v := (-1000000001)) (by decide) ?_
      refine me_reti k136_26 rt_136 rfl ?_
      simp only [sp_pcall, sp_rg_s hk16 (by omega), sp_rg_n (by omega) hz20, if_true, if_false] at hQ
      exact hQ _ mFr.rf
  · skip
    refine me_if_eq (p' := 8) k136_5 rfl (fun _ => ?_) (fun h => absurd (by decide) h)
    refine me_ldc (p' := 26) k136_24 rfl (v := (-1000000001)) (by decide) ?_
    refine me_reti k136_26 rt_136 rfl ?_
    simp only [sp_pcall, sp_rg_n (by omega) hz17, if_true, if_false] at hQ
    exact hQ _ mFr.rf
