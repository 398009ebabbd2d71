/-! ===== the model: a TEXT worked out ===== -/
def sp_op : Nat → Int32 → Int32 → Int32
  | 1, a, b => if a = 0 then (if b = 0 then nI 0 else nI 1) else nI 1
  | 2, a, b => if a = 0 then nI 0 else if b = 0 then nI 0 else nI 1
  | 3, a, b => if b ≤ a then nI 0 else nI 1
  | 4, a, b => if a = b then nI 1 else nI 0
  | 5, a, b => if a ≤ b then nI 0 else nI 1
  | 6, a, b => a + b
  | 7, a, b => a - b
  | 8, a, b => a * b
  | _, a, b => if b = 0 then nI 0 else a / b
/-- words of a TEXT as it is worked out: below 10000 a NUMBER, 10000 and on NAMES, 20001 .. 20009 signs of two, 20010 ! -/
def sp_tok (fa : Nat → Int32) (t : Nat) (st : List Int32) : List Int32 :=
  if t < 10000 then nI t :: st else if t < 20000 then fa (t - 10000) :: st else if t = 20010 then (match st with
    | x :: r => (if x = 0 then nI 1 else nI 0) :: r
    | [] => []) else (match st with
    | b :: a :: r => sp_op (t - 20000) a b :: r
    | _ => [])
def sp_ev (fa : Nat → Int32) : List Nat → List Int32 → List Int32
  | [], st => st
  | t :: l, st => sp_ev fa l (sp_tok fa t st)
/-- it can be worked out: with n on the stack at first, one at the end -/
def sp_ok : List Nat → Nat → Bool
  | [], n => n == 1
  | t :: l, n => if t < 20000 then decide (t < 10003) && decide (n < 96) && sp_ok l (n + 1) else if t = 20010 then decide (1 ≤ n) && sp_ok l n else decide (20001 ≤ t) && decide (t ≤ 20009) && decide (2 ≤ n) && sp_ok l (n - 1)
/-- such a word in the model -/
def sp_mc (t : Nat) : Int32 := if t < 20000 then nI t else -(nI (t - 20000))
/-- the stack (its top first) lies in an array -/
def mStk (a : Nat → Int32) (st : List Int32) : Prop := ∀ j : Nat, j < st.length → a j = st.getD (st.length - 1 - j) 0
theorem mStk.push {I : Nat → Nat → Int32} {i : Nat} {st : List Int32} {v : Int32} (h : mStk (I i) st) : mStk (mg_u I i st.length v i) (v :: st) := by
  intro j hj
  rw [List.length_cons] at hj ⊢
  by_cases e : j = st.length
  · subst e
    rw [mg_ueq, show st.length + 1 - 1 - st.length = 0 by omega]
    rfl
  · rw [mg_une (fun z => e z.2), h j (by omega), show st.length + 1 - 1 - j = (st.length - 1 - j) + 1 by omega]
    rfl
theorem mStk.top {a : Nat → Int32} {v : Int32} {st : List Int32} (h : mStk a (v :: st)) : a st.length = v := by
  have := h st.length (by rw [List.length_cons]; omega)
  rw [List.length_cons, show st.length + 1 - 1 - st.length = 0 by omega] at this
  exact this
theorem mStk.tl {a : Nat → Int32} {v : Int32} {st : List Int32} (h : mStk a (v :: st)) : mStk a st := by
  intro j hj
  rw [h j (by rw [List.length_cons]; omega), List.length_cons, show st.length + 1 - 1 - j = (st.length - 1 - j) + 1 by omega]
  rfl
theorem ct_two {d L : Nat} {xs : Nat → Int32} {I : Nat → Nat → Int32} {Q : Option Value → mj_H → Prop} {o : Nat} {a b : Int32} (ho : 1 ≤ o ∧ o ≤ 9) (hQ : Q (some (.int (sp_op o a b))) (mg_h L xs I)) : mj_Cl d 143 [.int (sp_mc (20000 + o)), .int a, .int b] (mg_h L xs I) Q := by
  refine cl_start mx_143 (ls := [.int (sp_mc (20000 + o)), .int a, .int b]) rfl ?_
  refine me_iload_n (p' := 1) k143_0 rfl rfl ?_
  unfold sp_mc
  rcases (show o = 1 ∨ o = 2 ∨ o = 3 ∨ o = 4 ∨ o = 5 ∨ o = 6 ∨ o = 7 ∨ o = 8 ∨ o = 9 by omega) with rfl | rfl | rfl | rfl | rfl | rfl | rfl | rfl | rfl
  · skip
    refine me_tsw (p' := 48) k143_1 (by decide) ?_
    refine me_iload_n (p' := 49) k143_48 rfl rfl ?_
    refine me_if_ne (p' := 52) k143_49 rfl (fun c1 => ?_) (fun c1 => ?_)
    · skip
      refine me_iload_n (p' := 53) k143_52 rfl rfl ?_
      refine me_if_eq (p' := 56) k143_53 rfl (fun c2 => ?_) (fun c2 => ?_)
      · skip
        refine me_iconst (p' := 61) k143_60 rfl (v := nI 0) (by decide) ?_
        refine me_reti k143_61 rt_143 rfl ?_
        simp only [sp_op, c1, c2, if_true, if_false] at hQ
        exact hQ
      · skip
        refine me_iconst (p' := 57) k143_56 rfl (v := nI 1) (by decide) ?_
        refine me_goto k143_57 ?_
        refine me_reti k143_61 rt_143 rfl ?_
        simp only [sp_op, c1, c2, if_true, if_false] at hQ
        exact hQ
    · skip
      refine me_iconst (p' := 57) k143_56 rfl (v := nI 1) (by decide) ?_
      refine me_goto k143_57 ?_
      refine me_reti k143_61 rt_143 rfl ?_
      simp only [sp_op, c1, if_true, if_false] at hQ
      exact hQ
  · skip
    refine me_tsw (p' := 62) k143_1 (by decide) ?_
    refine me_iload_n (p' := 63) k143_62 rfl rfl ?_
    refine me_if_eq (p' := 66) k143_63 rfl (fun c3 => ?_) (fun c3 => ?_)
    · skip
      refine me_iconst (p' := 75) k143_74 rfl (v := nI 0) (by decide) ?_
      refine me_reti k143_75 rt_143 rfl ?_
      simp only [sp_op, c3, if_true, if_false] at hQ
      exact hQ
    · skip
      refine me_iload_n (p' := 67) k143_66 rfl rfl ?_
      refine me_if_eq (p' := 70) k143_67 rfl (fun c4 => ?_) (fun c4 => ?_)
      · skip
        refine me_iconst (p' := 75) k143_74 rfl (v := nI 0) (by decide) ?_
        refine me_reti k143_75 rt_143 rfl ?_
        simp only [sp_op, c3, c4, if_true, if_false] at hQ
        exact hQ
      · skip
        refine me_iconst (p' := 71) k143_70 rfl (v := nI 1) (by decide) ?_
        refine me_goto k143_71 ?_
        refine me_reti k143_75 rt_143 rfl ?_
        simp only [sp_op, c3, c4, if_true, if_false] at hQ
        exact hQ
  · skip
    refine me_tsw (p' := 76) k143_1 (by decide) ?_
    refine me_iload_n (p' := 77) k143_76 rfl rfl ?_
    refine me_iload_n (p' := 78) k143_77 rfl rfl ?_
    refine me_ic_ge (p' := 81) k143_78 rfl (fun c5 => ?_) (fun c5 => ?_)
    · skip
      refine me_iconst (p' := 86) k143_85 rfl (v := nI 0) (by decide) ?_
      refine me_reti k143_86 rt_143 rfl ?_
      simp only [sp_op, c5, if_true, if_false] at hQ
      exact hQ
    · skip
      refine me_iconst (p' := 82) k143_81 rfl (v := nI 1) (by decide) ?_
      refine me_goto k143_82 ?_
      refine me_reti k143_86 rt_143 rfl ?_
      simp only [sp_op, c5, if_true, if_false] at hQ
      exact hQ
  · skip
    refine me_tsw (p' := 87) k143_1 (by decide) ?_
    refine me_iload_n (p' := 88) k143_87 rfl rfl ?_
    refine me_iload_n (p' := 89) k143_88 rfl rfl ?_
    refine me_ic_ne (p' := 92) k143_89 rfl (fun c6 => ?_) (fun c6 => ?_)
    · skip
      refine me_iconst (p' := 93) k143_92 rfl (v := nI 1) (by decide) ?_
      refine me_goto k143_93 ?_
      refine me_reti k143_97 rt_143 rfl ?_
      simp only [sp_op, c6, if_true, if_false] at hQ
      exact hQ
    · skip
      refine me_iconst (p' := 97) k143_96 rfl (v := nI 0) (by decide) ?_
      refine me_reti k143_97 rt_143 rfl ?_
      simp only [sp_op, c6, if_true, if_false] at hQ
      exact hQ
  · skip
    refine me_tsw (p' := 98) k143_1 (by decide) ?_
    refine me_iload_n (p' := 99) k143_98 rfl rfl ?_
    refine me_iload_n (p' := 100) k143_99 rfl rfl ?_
    refine me_ic_le (p' := 103) k143_100 rfl (fun c7 => ?_) (fun c7 => ?_)
    · skip
      refine me_iconst (p' := 108) k143_107 rfl (v := nI 0) (by decide) ?_
      refine me_reti k143_108 rt_143 rfl ?_
      simp only [sp_op, c7, if_true, if_false] at hQ
      exact hQ
    · skip
      refine me_iconst (p' := 104) k143_103 rfl (v := nI 1) (by decide) ?_
      refine me_goto k143_104 ?_
      refine me_reti k143_108 rt_143 rfl ?_
      simp only [sp_op, c7, if_true, if_false] at hQ
      exact hQ
  · skip
    refine me_tsw (p' := 109) k143_1 (by decide) ?_
    refine me_iload_n (p' := 110) k143_109 rfl rfl ?_
    refine me_iload_n (p' := 111) k143_110 rfl rfl ?_
    refine me_iadd (p' := 112) k143_111 rfl rfl ?_
    refine me_reti k143_112 rt_143 rfl ?_
    simp only [sp_op, if_true, if_false] at hQ
    exact hQ
  · skip
    refine me_tsw (p' := 113) k143_1 (by decide) ?_
    refine me_iload_n (p' := 114) k143_113 rfl rfl ?_
    refine me_iload_n (p' := 115) k143_114 rfl rfl ?_
    refine me_isub (p' := 116) k143_115 rfl rfl ?_
    refine me_reti k143_116 rt_143 rfl ?_
    simp only [sp_op, if_true, if_false] at hQ
    exact hQ
  · skip
    refine me_tsw (p' := 117) k143_1 (by decide) ?_
    refine me_iload_n (p' := 118) k143_117 rfl rfl ?_
    refine me_iload_n (p' := 119) k143_118 rfl rfl ?_
    refine me_imul (p' := 120) k143_119 rfl rfl ?_
    refine me_reti k143_120 rt_143 rfl ?_
    simp only [sp_op, if_true, if_false] at hQ
    exact hQ
  · skip
    refine me_tsw (p' := 121) k143_1 (by decide) ?_
    refine me_iload_n (p' := 122) k143_121 rfl rfl ?_
    refine me_if_ne (p' := 125) k143_122 rfl (fun c8 => ?_) (fun c8 => ?_)
    · skip
      refine me_iconst (p' := 126) k143_125 rfl (v := nI 0) (by decide) ?_
      refine me_goto k143_126 ?_
      refine me_reti k143_132 rt_143 rfl ?_
      simp only [sp_op, c8, if_true, if_false] at hQ
      exact hQ
    · skip
      refine me_iload_n (p' := 130) k143_129 rfl rfl ?_
      refine me_iload_n (p' := 131) k143_130 rfl rfl ?_
      refine me_idiv (p' := 132) k143_131 rfl (by assumption) rfl ?_
      refine me_reti k143_132 rt_143 rfl ?_
      simp only [sp_op, c8, if_true, if_false] at hQ
      exact hQ
theorem mI_sub {a b : Nat} (h : b ≤ a) : nI a - nI b = nI (a - b) := by
  have e : nI (a - b) + nI b = nI a := by
    rw [mI_add]
    congr 1
    omega
  rw [← e]
  simp
theorem sp_mc_lt {t : Nat} (h : t < 20000) : sp_mc t = nI t := by unfold sp_mc; rw [if_pos h]
theorem sp_mc_neg {o : Nat} (h : 1 ≤ o ∧ o ≤ 10) : sp_mc (20000 + o) < 0 ∧ (sp_mc (20000 + o) = -10 ↔ o = 10) := by
  have hall : ∀ o : Nat, o < 11 → 1 ≤ o → sp_mc (20000 + o) < 0 ∧ (sp_mc (20000 + o) = -10 ↔ o = 10) := by decide
  exact hall o (by omega) h.1
theorem sp_ok_tok {t n : Nat} {l : List Nat} (h : sp_ok (t :: l) n = true) : (t < 10003 ∧ n < 96 ∧ sp_ok l (n + 1) = true) ∨ (t = 20010 ∧ 1 ≤ n ∧ sp_ok l n = true) ∨ ∃ o, t = 20000 + o ∧ 1 ≤ o ∧ o ≤ 9 ∧ 2 ≤ n ∧ sp_ok l (n - 1) = true := by
  unfold sp_ok at h
  split at h
  · simp only [Bool.and_eq_true, decide_eq_true_eq] at h
    exact Or.inl ⟨h.1.1, h.1.2, h.2⟩
  · split at h
    · rename_i h1
      simp only [Bool.and_eq_true, decide_eq_true_eq] at h
      exact Or.inr (Or.inl ⟨h1, h.1, h.2⟩)
    · simp only [Bool.and_eq_true, decide_eq_true_eq] at h
      exact Or.inr (Or.inr ⟨t - 20000, by omega, by omega, by omega, h.1.2, h.2⟩)
theorem lp_worksOut {d L : Nat} {xs : Nat → Int32} {I : Nat → Nat → Int32} {Q : Option Value → mj_H → Prop} {t m : Nat} {fa : Nat → Int32} (ht : t < 14) (hm : m ≤ 96) (hfa : ∀ j, j < 3 → I 139 j = fa j) : ∀ (l : List Nat) (k : Nat) (st : List Int32) (I1 : Nat → Nat → Int32) (u : Value), mFr [138] I I1 → mStk (I1 138) st → sp_ok l st.length = true → k + l.length = m → m ≤ 96 → (∀ j, j < l.length → I 128 (137 + 96 * t + (k + j)) = sp_mc (l.getD j 0)) → st.length ≤ 96 → (∀ I2, mFr [138] I I2 → Q (some (.int ((sp_ev fa l st).headD 0))) (mg_h L xs I2)) → mj_Ev (d + 1) 142 21 [.ref 127, .int (nI t), .int (nI st.length), .int (nI m), .int (nI k), u] [] (mg_h L xs I1) Q := by
  intro l
  induction l with
  | nil =>
    intro k st I1 u hfr hst hok hkm hm hcode hsl hQ
    obtain ⟨x, rfl⟩ : ∃ x, st = [x] := by
      have h1 : st.length = 1 := by simpa [sp_ok] using hok
      match st, h1 with
      | [x], _ => exact ⟨x, rfl⟩
    refine me_iload (p' := 23) k142_21 rfl rfl ?_
    refine me_iload_n (p' := 24) k142_23 rfl rfl ?_
    refine me_ic_ge (p' := 27) k142_24 rfl (fun c1 => ?_) (fun c1 => ?_)
    · skip
      rw [cI_le (a := m) (b := k) (by omega) (by omega)] at c1
      refine me_aload_n (p' := 157) k142_156 rfl rfl ?_
      refine me_gfr (p' := 160) k142_157 rfl (by decide) rfl (b := 138) rfl ?_
      refine me_iconst (p' := 161) k142_160 rfl (v := nI 0) (by decide) ?_
      refine me_iald (p' := 162) k142_161 rfl (by decide) rfl (j := 0) rfl (by omega) (by decide) rfl ?_
      refine me_reti k142_162 rt_142 rfl ?_
      rw [show I1 138 0 = x from hst.top]
      exact hQ _ hfr
    · skip
      rw [cI_le (a := m) (b := k) (by omega) (by omega)] at c1
      exfalso
      rw [List.length_nil] at hkm
      omega
  | cons t0 l ih =>
    intro k st I1 u hfr hst hok hkm hm hcode hsl hQ
    have hkm2 := hkm
    rw [List.length_cons] at hkm2
    have hc0 : I1 128 (137 + 96 * t + k) = sp_mc t0 := by
      have := hcode 0 (by rw [List.length_cons]; omega)
      rw [hfr 128 _ (by decide)]
      exact this
    refine me_iload (p' := 23) k142_21 rfl rfl ?_
    refine me_iload_n (p' := 24) k142_23 rfl rfl ?_
    refine me_ic_ge (p' := 27) k142_24 rfl (fun c1 => ?_) (fun c1 => ?_)
    · skip
      rw [cI_le (a := m) (b := k) (by omega) (by omega)] at c1
      exfalso
      rw [List.length_cons] at hkm
      omega
    · skip
      rw [cI_le (a := m) (b := k) (by omega) (by omega)] at c1
      refine me_aload_n (p' := 28) k142_27 rfl rfl ?_
      refine me_gfr (p' := 31) k142_28 rfl (by decide) rfl (b := 128) rfl ?_
      refine me_sipush (p' := 34) k142_31 rfl (v := nI 137) (by decide) ?_
      refine me_bipush (p' := 36) k142_34 rfl (v := nI 96) (by decide) ?_
      refine me_iload_n (p' := 37) k142_36 rfl rfl ?_
      refine me_imul (p' := 38) k142_37 rfl (v := nI (96 * t)) (mI_mul _ _) ?_
      refine me_iadd (p' := 39) k142_38 rfl (v := nI (137 + (96 * t))) (mI_add _ _) ?_
      refine me_iload (p' := 41) k142_39 rfl rfl ?_
      refine me_iadd (p' := 42) k142_41 rfl (v := nI ((137 + (96 * t)) + k)) (mI_add _ _) ?_
      refine me_iald (p' := 43) k142_42 rfl (by decide) rfl (j := (137 + (96 * t)) + k) rfl (by first | omega | (simp only [List.length_cons] at *; omega)) (by decide) rfl ?_
      rw [hc0]
      refine me_istore (p' := 45) k142_43 rfl ⟨Nat.le_of_ble_eq_true rfl, rfl⟩ rfl ?_
      refine me_iload (p' := 47) k142_45 rfl rfl ?_
      refine me_if_lt (p' := 50) k142_47 rfl (fun c2 => ?_) (fun c2 => ?_)
      · skip
        have cneg := c2
        refine me_iload (p' := 88) k142_86 rfl rfl ?_
        refine me_bipush (p' := 90) k142_88 rfl (v := (-10)) (by decide) ?_
        refine me_ic_ne (p' := 93) k142_90 rfl (fun c3 => ?_) (fun c3 => ?_)
        · skip
          have g1 : 1 ≤ st.length ∧ sp_ok l st.length = true := by
            rcases sp_ok_tok hok with ⟨q, -⟩ | ⟨q, q2⟩ | ⟨o, q, q1, q2, -⟩
            · rw [sp_mc_lt (by omega)] at c3
              exact absurd (c3 ▸ (by decide : (-10 : Int32) < 0)) (nI_pos (by omega))
            · exact q2
            · subst q; have := (sp_mc_neg ⟨q1, by omega⟩).2.mp c3; omega
          have g2 : t0 = 20010 := by
            rcases sp_ok_tok hok with ⟨q, -⟩ | ⟨q, q2⟩ | ⟨o, q, q1, q2, -⟩
            · rw [sp_mc_lt (by omega)] at c3
              exact absurd (c3 ▸ (by decide : (-10 : Int32) < 0)) (nI_pos (by omega))
            · exact q
            · subst q; have := (sp_mc_neg ⟨q1, by omega⟩).2.mp c3; omega
          subst g2
          obtain ⟨x, r, rfl⟩ : ∃ x r, st = x :: r := by
            cases st with
            | nil => exact absurd g1.1 (by simp)
            | cons x r => exact ⟨x, r, rfl⟩
          refine me_aload_n (p' := 94) k142_93 rfl rfl ?_
          refine me_gfr (p' := 97) k142_94 rfl (by decide) rfl (b := 138) rfl ?_
          refine me_iload_n (p' := 98) k142_97 rfl rfl ?_
          refine me_iconst (p' := 99) k142_98 rfl (v := nI 1) (by decide) ?_
          refine me_isub (p' := 100) k142_99 rfl rfl ?_
          refine me_aload_n (p' := 101) k142_100 rfl rfl ?_
          refine me_gfr (p' := 104) k142_101 rfl (by decide) rfl (b := 138) rfl ?_
          refine me_iload_n (p' := 105) k142_104 rfl rfl ?_
          refine me_iconst (p' := 106) k142_105 rfl (v := nI 1) (by decide) ?_
          refine me_isub (p' := 107) k142_106 rfl rfl ?_
          refine me_iald (p' := 108) k142_107 rfl (by decide) rfl (j := r.length) (by rw [mI_sub (by simp)]; rfl) (by first | omega | (simp only [List.length_cons] at *; omega)) (by decide) rfl ?_
          refine me_if_ne (p' := 111) k142_108 rfl (fun c4 => ?_) (fun c4 => ?_)
          · skip
            refine me_iconst (p' := 112) k142_111 rfl (v := nI 1) (by decide) ?_
            refine me_goto k142_112 ?_
            refine me_iast (p' := 117) k142_116 rfl (by decide) rfl (j := r.length) (by rw [mI_sub (by simp)]; rfl) (by first | omega | (simp only [List.length_cons] at *; omega)) (by decide) rfl ?_
            refine me_goto k142_117 ?_
            refine me_iinc (p' := 153) k142_150 rfl rfl rfl (v := nI (k + 1)) (mI_inc (by decide)) rfl ?_
            refine me_goto k142_153 ?_
            rw [hst.top] at c4
            have e7 : sp_ev fa (20010 :: l) (x :: r) = sp_ev fa l (nI 1 :: r) := by simp [sp_ev, sp_tok, c4]
            rw [e7] at hQ
            refine ih (k + 1) (nI 1 :: r) _ _ (hfr.tr (mFr.up (by decide))) (hst.tl.push) (by exact g1.2) (by rw [List.length_cons] at hkm; omega) hm (fun j hj => ?_) (by rw [List.length_cons] at hsl ⊢; omega) hQ
            have := hcode (j + 1) (by rw [List.length_cons]; omega)
            rw [show k + (j + 1) = k + 1 + j by omega] at this
            exact this
          · skip
            refine me_iconst (p' := 116) k142_115 rfl (v := nI 0) (by decide) ?_
            refine me_iast (p' := 117) k142_116 rfl (by decide) rfl (j := r.length) (by rw [mI_sub (by simp)]; rfl) (by first | omega | (simp only [List.length_cons] at *; omega)) (by decide) rfl ?_
            refine me_goto k142_117 ?_
            refine me_iinc (p' := 153) k142_150 rfl rfl rfl (v := nI (k + 1)) (mI_inc (by decide)) rfl ?_
            refine me_goto k142_153 ?_
            rw [hst.top] at c4
            have e7 : sp_ev fa (20010 :: l) (x :: r) = sp_ev fa l (nI 0 :: r) := by simp [sp_ev, sp_tok, c4]
            rw [e7] at hQ
            refine ih (k + 1) (nI 0 :: r) _ _ (hfr.tr (mFr.up (by decide))) (hst.tl.push) (by exact g1.2) (by rw [List.length_cons] at hkm; omega) hm (fun j hj => ?_) (by rw [List.length_cons] at hsl ⊢; omega) hQ
            have := hcode (j + 1) (by rw [List.length_cons]; omega)
            rw [show k + (j + 1) = k + 1 + j by omega] at this
            exact this
        · skip
          obtain ⟨o, rfl, g1⟩ : ∃ o, t0 = 20000 + o ∧ (1 ≤ o ∧ o ≤ 9) ∧ 2 ≤ st.length ∧ sp_ok l (st.length - 1) = true := by
            rcases sp_ok_tok hok with ⟨q, -⟩ | ⟨q, q2⟩ | ⟨o, q, q1, q2, q3⟩
            · rw [sp_mc_lt (by omega)] at cneg; exact absurd cneg (nI_pos (by omega))
            · subst q; exact absurd (by decide) c3
            · exact ⟨o, q, ⟨q1, q2⟩, q3⟩
          obtain ⟨b2, b1, r, rfl⟩ : ∃ b2 b1 r, st = b2 :: b1 :: r := by
            match st, g1.2.1 with
            | b2 :: b1 :: r, _ => exact ⟨b2, b1, r, rfl⟩
          refine me_iinc (p' := 123) k142_120 rfl rfl rfl rfl rfl ?_
          rw [show nI (b2 :: b1 :: r).length + Int32.ofInt (-1) = nI (r.length + 1) from by
            have e : nI (r.length + 1) + nI 1 = nI (b2 :: b1 :: r).length := by rw [mI_add]; rfl
            rw [← e, show Int32.ofInt (-1) = - nI 1 from by decide, ← Int32.sub_eq_add_neg]
            simp]
          refine me_aload_n (p' := 124) k142_123 rfl rfl ?_
          refine me_gfr (p' := 127) k142_124 rfl (by decide) rfl (b := 138) rfl ?_
          refine me_iload_n (p' := 128) k142_127 rfl rfl ?_
          refine me_iconst (p' := 129) k142_128 rfl (v := nI 1) (by decide) ?_
          refine me_isub (p' := 130) k142_129 rfl rfl ?_
          refine me_iload (p' := 132) k142_130 rfl rfl ?_
          refine me_aload_n (p' := 133) k142_132 rfl rfl ?_
          refine me_gfr (p' := 136) k142_133 rfl (by decide) rfl (b := 138) rfl ?_
          refine me_iload_n (p' := 137) k142_136 rfl rfl ?_
          refine me_iconst (p' := 138) k142_137 rfl (v := nI 1) (by decide) ?_
          refine me_isub (p' := 139) k142_138 rfl rfl ?_
          refine me_iald (p' := 140) k142_139 rfl (by decide) rfl (j := r.length) (by rw [mI_sub (by omega)]; rfl) (by first | omega | (simp only [List.length_cons] at *; omega)) (by decide) rfl ?_
          refine me_aload_n (p' := 141) k142_140 rfl rfl ?_
          refine me_gfr (p' := 144) k142_141 rfl (by decide) rfl (b := 138) rfl ?_
          refine me_iload_n (p' := 145) k142_144 rfl rfl ?_
          refine me_iald (p' := 146) k142_145 rfl (by decide) rfl (j := (r.length + 1)) rfl (by first | omega | (simp only [List.length_cons] at *; omega)) (by decide) rfl ?_
          have t1 := hst.top
          have t2 := hst.tl.top
          rw [List.length_cons] at t1
          rw [t1, t2]
          refine me_cs (p' := 149) k142_146 rfl rfl rfl rfl rfl (cl_le mx_143 rfl) (by decide) (cl_sum rfl) (ct_two g1.1 ?_)
          refine me_iast (p' := 150) k142_149 rfl (by decide) rfl (j := r.length) (by rw [mI_sub (by omega)]; rfl) (by first | omega | (simp only [List.length_cons] at *; omega)) (by decide) rfl ?_
          refine me_iinc (p' := 153) k142_150 rfl rfl rfl (v := nI (k + 1)) (mI_inc (by decide)) rfl ?_
          refine me_goto k142_153 ?_
          have e7 : sp_ev fa ((20000 + o) :: l) (b2 :: b1 :: r) = sp_ev fa l (sp_op o b1 b2 :: r) := by simp [sp_ev, sp_tok, show ¬ 20000 + o < 10000 by omega, show ¬ 20000 + o < 20000 by omega, show ¬ 20000 + o = 20010 by omega]
          rw [e7] at hQ
          refine ih (k + 1) (sp_op o b1 b2 :: r) _ _ (hfr.tr (mFr.up (by decide))) (hst.tl.tl.push) (by have := g1.2.2; rw [List.length_cons, List.length_cons] at this; exact this) (by rw [List.length_cons] at hkm; omega) hm (fun j hj => ?_) (by rw [List.length_cons, List.length_cons] at hsl; rw [List.length_cons]; omega) hQ
          have := hcode (j + 1) (by rw [List.length_cons]; omega)
          rw [show k + (j + 1) = k + 1 + j by omega] at this
          exact this
      · skip
        have g1 : t0 < 10003 ∧ st.length < 96 ∧ sp_ok l (st.length + 1) = true := by
          rcases sp_ok_tok hok with q | ⟨q, -⟩ | ⟨o, q, q1, q2, -⟩
          · exact q
          · subst q; exact absurd (by decide) c2
          · subst q; exact absurd (sp_mc_neg ⟨q1, by omega⟩).1 c2
        rw [sp_mc_lt (by omega : t0 < 20000)]
        refine me_aload_n (p' := 51) k142_50 rfl rfl ?_
        refine me_gfr (p' := 54) k142_51 rfl (by decide) rfl (b := 138) rfl ?_
        refine me_iload_n (p' := 55) k142_54 rfl rfl ?_
        refine me_iload (p' := 57) k142_55 rfl rfl ?_
        refine me_sipush (p' := 60) k142_57 rfl (v := nI 10000) (by decide) ?_
        refine me_ic_ge (p' := 63) k142_60 rfl (fun c5 => ?_) (fun c5 => ?_)
        · skip
          rw [cI_le (a := 10000) (b := t0) (by omega) (by omega)] at c5
          refine me_aload_n (p' := 69) k142_68 rfl rfl ?_
          refine me_gfr (p' := 72) k142_69 rfl (by decide) rfl (b := 139) rfl ?_
          refine me_iload (p' := 74) k142_72 rfl rfl ?_
          refine me_sipush (p' := 77) k142_74 rfl (v := nI 10000) (by decide) ?_
          refine me_isub (p' := 78) k142_77 rfl rfl ?_
          refine me_iald (p' := 79) k142_78 rfl (by decide) rfl (j := (t0 - 10000)) (mI_sub (by omega)) (by first | omega | (simp only [List.length_cons] at *; omega)) (by decide) rfl ?_
          rw [hfr 139 _ (by decide), hfa _ (by omega)]
          refine me_iast (p' := 80) k142_79 rfl (by decide) rfl (j := st.length) rfl (by first | omega | (simp only [List.length_cons] at *; omega)) (by decide) rfl ?_
          refine me_iinc (p' := 83) k142_80 rfl rfl rfl (v := nI (st.length + 1)) (mI_inc (by decide)) rfl ?_
          refine me_goto k142_83 ?_
          refine me_iinc (p' := 153) k142_150 rfl rfl rfl (v := nI (k + 1)) (mI_inc (by decide)) rfl ?_
          refine me_goto k142_153 ?_
          have e7 : sp_ev fa (t0 :: l) st = sp_ev fa l (fa (t0 - 10000) :: st) := by simp [sp_ev, sp_tok, show ¬ t0 < 10000 by omega, show t0 < 20000 by omega]
          rw [e7] at hQ
          refine ih (k + 1) (fa (t0 - 10000) :: st) _ _ (hfr.tr (mFr.up (by decide))) hst.push (g1.2.2) (by rw [List.length_cons] at hkm; omega) hm (fun j hj => ?_) (by rw [List.length_cons]; omega) hQ
          have := hcode (j + 1) (by rw [List.length_cons]; omega)
          rw [show k + (j + 1) = k + 1 + j by omega] at this
          exact this
        · skip
          rw [cI_le (a := 10000) (b := t0) (by omega) (by omega)] at c5
          refine me_iload (p' := 65) k142_63 rfl rfl ?_
          refine me_goto k142_65 ?_
          refine me_iast (p' := 80) k142_79 rfl (by decide) rfl (j := st.length) rfl (by first | omega | (simp only [List.length_cons] at *; omega)) (by decide) rfl ?_
          refine me_iinc (p' := 83) k142_80 rfl rfl rfl (v := nI (st.length + 1)) (mI_inc (by decide)) rfl ?_
          refine me_goto k142_83 ?_
          refine me_iinc (p' := 153) k142_150 rfl rfl rfl (v := nI (k + 1)) (mI_inc (by decide)) rfl ?_
          refine me_goto k142_153 ?_
          have e7 : sp_ev fa (t0 :: l) st = sp_ev fa l (nI t0 :: st) := by simp [sp_ev, sp_tok, show t0 < 10000 by omega]
          rw [e7] at hQ
          refine ih (k + 1) (nI t0 :: st) _ _ (hfr.tr (mFr.up (by decide))) hst.push (g1.2.2) (by rw [List.length_cons] at hkm; omega) hm (fun j hj => ?_) (by rw [List.length_cons]; omega) hQ
          have := hcode (j + 1) (by rw [List.length_cons]; omega)
          rw [show k + (j + 1) = k + 1 + j by omega] at this
          exact this
