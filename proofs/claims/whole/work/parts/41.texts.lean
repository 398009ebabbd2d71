/-! ===== the class: TEXTS worked out ===== -/
theorem tb_T : ∀ t : Nat, t < 15 → mg_tbl.getD (59 + 3 * t) (99, 0) = (10, 5) := by decide
theorem tb_Tc : ∀ t : Nat, t < 15 → mg_tbl.getD (60 + 3 * t) (99, 0) = (20, 96) := by decide
theorem tb_Ts : ∀ t : Nat, t < 15 → mg_tbl.getD (61 + 3 * t) (99, 0) = (20, 96) := by decide
theorem rc_T0 : ∀ t : Nat, t < 15 → mg_rc (59 + 3 * t) 0 = (60 + 3 * t) + 2 := by decide
theorem rc_T1 : ∀ t : Nat, t < 15 → mg_rc (59 + 3 * t) 1 = (61 + 3 * t) + 2 := by decide
theorem rc_Ti : ∀ t : Nat, t < 15 → ∀ k : Nat, k < 5 → 2 ≤ k → mg_rc (59 + 3 * t) k = 0 := by decide
theorem rc_8 : ∀ t : Nat, t < 15 → mg_rc 8 t = (59 + 3 * t) + 2 := by decide
theorem rc_nil : ∀ i : Nat, i < 200 → mg_rt.getD i [] = [] → ∀ k : Nat, mg_rc i k = 0 := fun i _ h k => by
  unfold mg_rc
  rw [h]
  rfl
theorem rt_Tc : ∀ t : Nat, t < 15 → mg_rt.getD (60 + 3 * t) [] = [] ∧ mg_rt.getD (61 + 3 * t) [] = [] := by decide
theorem rc_Tc {t : Nat} (h : t < 15) (k : Nat) : mg_rc (60 + 3 * t) k = 0 := rc_nil _ (by omega) (rt_Tc t h).1 k
theorem rc_Ts {t : Nat} (h : t < 15) (k : Nat) : mg_rc (61 + 3 * t) k = 0 := rc_nil _ (by omega) (rt_Tc t h).2 k
def sp_sg (o : Nat) : Nat := [0, 124, 38, 60, 61, 62, 43, 45, 42, 47, 33].getD o 0
/-- a word of a TEXT in the class -/
def sp_cc (t : Nat) : Int32 := if t < 10000 then nI t else if t < 20000 then -(nI (t - 10000 + 1)) else nI (10000 + sp_sg (t - 20000))
theorem sp_ok_tok6 {t n : Nat} {l : List Nat} (h : sp_ok (t :: l) n = true) : (t < 10000 ∧ n < 96 ∧ sp_ok l (n + 1) = true) ∨ (t = 10000 ∧ n < 96 ∧ sp_ok l (n + 1) = true) ∨ (t = 10001 ∧ n < 96 ∧ sp_ok l (n + 1) = true) ∨ (t = 10002 ∧ n < 96 ∧ sp_ok l (n + 1) = true) ∨ (t = 20010 ∧ 1 ≤ n ∧ sp_ok l n = true) ∨ ∃ o, t = 20000 + o ∧ 1 ≤ o ∧ o ≤ 9 ∧ 2 ≤ n ∧ sp_ok l (n - 1) = true := by
  rcases sp_ok_tok h with ⟨q, q1, q2⟩ | q | q
  · rcases (show t < 10000 ∨ t = 10000 ∨ t = 10001 ∨ t = 10002 by omega) with e | e | e | e
    · exact Or.inl ⟨e, q1, q2⟩
    · exact Or.inr (Or.inl ⟨e, q1, q2⟩)
    · exact Or.inr (Or.inr (Or.inl ⟨e, q1, q2⟩))
    · exact Or.inr (Or.inr (Or.inr (Or.inl ⟨e, q1, q2⟩)))
  · exact Or.inr (Or.inr (Or.inr (Or.inr (Or.inl q))))
  · exact Or.inr (Or.inr (Or.inr (Or.inr (Or.inr q))))
theorem sp_sg_lt : ∀ o : Nat, o < 10 → sp_sg o < 125 ∧ sp_sg o ≠ 33 := by decide
theorem rc_1 : ∀ q : Nat, q < 6 → mg_rc 1 q = (2 + q) + 2 := by decide
theorem ct_joined {d L : Nat} {xs : Nat → Int32} {I : Nat → Nat → Int32} {Q : Option Value → mj_H → Prop} {o : Nat} {a b : Int32} (ho : 1 ≤ o ∧ o ≤ 9) (hQ : Q (some (.int (sp_op o a b))) (mg_h L xs I)) : mj_Cl d 23 [.int (nI (sp_sg o)), .int a, .int b] (mg_h L xs I) Q := by
  refine cl_start mx_23 (ls := [.int (nI (sp_sg o)), .int a, .int b]) rfl ?_
  refine me_iload_n (p' := 1) k23_0 rfl rfl ?_
  rcases (show o = 1 ∨ o = 2 ∨ o = 3 ∨ o = 4 ∨ o = 5 ∨ o = 6 ∨ o = 7 ∨ o = 8 ∨ o = 9 by omega) with rfl | rfl | rfl | rfl | rfl | rfl | rfl | rfl | rfl
  · skip
    refine me_lsw (p' := 76) k23_1 (by decide) ?_
    refine me_iload_n (p' := 77) k23_76 rfl rfl ?_
    refine me_if_ne (p' := 80) k23_77 rfl (fun c1 => ?_) (fun c1 => ?_)
    · skip
      refine me_iload_n (p' := 81) k23_80 rfl rfl ?_
      refine me_if_eq (p' := 84) k23_81 rfl (fun c2 => ?_) (fun c2 => ?_)
      · skip
        refine me_iconst (p' := 89) k23_88 rfl (v := nI 0) (by decide) ?_
        refine me_reti k23_89 rt_23 rfl ?_
        simp only [sp_op, c1, c2, if_true, if_false] at hQ
        exact hQ
      · skip
        refine me_iconst (p' := 85) k23_84 rfl (v := nI 1) (by decide) ?_
        refine me_goto k23_85 ?_
        refine me_reti k23_89 rt_23 rfl ?_
        simp only [sp_op, c1, c2, if_true, if_false] at hQ
        exact hQ
    · skip
      refine me_iconst (p' := 85) k23_84 rfl (v := nI 1) (by decide) ?_
      refine me_goto k23_85 ?_
      refine me_reti k23_89 rt_23 rfl ?_
      simp only [sp_op, c1, if_true, if_false] at hQ
      exact hQ
  · skip
    refine me_lsw (p' := 90) k23_1 (by decide) ?_
    refine me_iload_n (p' := 91) k23_90 rfl rfl ?_
    refine me_if_eq (p' := 94) k23_91 rfl (fun c3 => ?_) (fun c3 => ?_)
    · skip
      refine me_iconst (p' := 103) k23_102 rfl (v := nI 0) (by decide) ?_
      refine me_reti k23_103 rt_23 rfl ?_
      simp only [sp_op, c3, if_true, if_false] at hQ
      exact hQ
    · skip
      refine me_iload_n (p' := 95) k23_94 rfl rfl ?_
      refine me_if_eq (p' := 98) k23_95 rfl (fun c4 => ?_) (fun c4 => ?_)
      · skip
        refine me_iconst (p' := 103) k23_102 rfl (v := nI 0) (by decide) ?_
        refine me_reti k23_103 rt_23 rfl ?_
        simp only [sp_op, c3, c4, if_true, if_false] at hQ
        exact hQ
      · skip
        refine me_iconst (p' := 99) k23_98 rfl (v := nI 1) (by decide) ?_
        refine me_goto k23_99 ?_
        refine me_reti k23_103 rt_23 rfl ?_
        simp only [sp_op, c3, c4, if_true, if_false] at hQ
        exact hQ
  · skip
    refine me_lsw (p' := 104) k23_1 (by decide) ?_
    refine me_iload_n (p' := 105) k23_104 rfl rfl ?_
    refine me_iload_n (p' := 106) k23_105 rfl rfl ?_
    refine me_ic_ge (p' := 109) k23_106 rfl (fun c5 => ?_) (fun c5 => ?_)
    · skip
      refine me_iconst (p' := 114) k23_113 rfl (v := nI 0) (by decide) ?_
      refine me_reti k23_114 rt_23 rfl ?_
      simp only [sp_op, c5, if_true, if_false] at hQ
      exact hQ
    · skip
      refine me_iconst (p' := 110) k23_109 rfl (v := nI 1) (by decide) ?_
      refine me_goto k23_110 ?_
      refine me_reti k23_114 rt_23 rfl ?_
      simp only [sp_op, c5, if_true, if_false] at hQ
      exact hQ
  · skip
    refine me_lsw (p' := 115) k23_1 (by decide) ?_
    refine me_iload_n (p' := 116) k23_115 rfl rfl ?_
    refine me_iload_n (p' := 117) k23_116 rfl rfl ?_
    refine me_ic_ne (p' := 120) k23_117 rfl (fun c6 => ?_) (fun c6 => ?_)
    · skip
      refine me_iconst (p' := 121) k23_120 rfl (v := nI 1) (by decide) ?_
      refine me_goto k23_121 ?_
      refine me_reti k23_125 rt_23 rfl ?_
      simp only [sp_op, c6, if_true, if_false] at hQ
      exact hQ
    · skip
      refine me_iconst (p' := 125) k23_124 rfl (v := nI 0) (by decide) ?_
      refine me_reti k23_125 rt_23 rfl ?_
      simp only [sp_op, c6, if_true, if_false] at hQ
      exact hQ
  · skip
    refine me_lsw (p' := 126) k23_1 (by decide) ?_
    refine me_iload_n (p' := 127) k23_126 rfl rfl ?_
    refine me_iload_n (p' := 128) k23_127 rfl rfl ?_
    refine me_ic_le (p' := 131) k23_128 rfl (fun c7 => ?_) (fun c7 => ?_)
    · skip
      refine me_iconst (p' := 136) k23_135 rfl (v := nI 0) (by decide) ?_
      refine me_reti k23_136 rt_23 rfl ?_
      simp only [sp_op, c7, if_true, if_false] at hQ
      exact hQ
    · skip
      refine me_iconst (p' := 132) k23_131 rfl (v := nI 1) (by decide) ?_
      refine me_goto k23_132 ?_
      refine me_reti k23_136 rt_23 rfl ?_
      simp only [sp_op, c7, if_true, if_false] at hQ
      exact hQ
  · skip
    refine me_lsw (p' := 137) k23_1 (by decide) ?_
    refine me_iload_n (p' := 138) k23_137 rfl rfl ?_
    refine me_iload_n (p' := 139) k23_138 rfl rfl ?_
    refine me_iadd (p' := 140) k23_139 rfl rfl ?_
    refine me_reti k23_140 rt_23 rfl ?_
    simp only [sp_op, if_true, if_false] at hQ
    exact hQ
  · skip
    refine me_lsw (p' := 141) k23_1 (by decide) ?_
    refine me_iload_n (p' := 142) k23_141 rfl rfl ?_
    refine me_iload_n (p' := 143) k23_142 rfl rfl ?_
    refine me_isub (p' := 144) k23_143 rfl rfl ?_
    refine me_reti k23_144 rt_23 rfl ?_
    simp only [sp_op, if_true, if_false] at hQ
    exact hQ
  · skip
    refine me_lsw (p' := 145) k23_1 (by decide) ?_
    refine me_iload_n (p' := 146) k23_145 rfl rfl ?_
    refine me_iload_n (p' := 147) k23_146 rfl rfl ?_
    refine me_imul (p' := 148) k23_147 rfl rfl ?_
    refine me_reti k23_148 rt_23 rfl ?_
    simp only [sp_op, if_true, if_false] at hQ
    exact hQ
  · skip
    refine me_lsw (p' := 149) k23_1 (by decide) ?_
    refine me_iload_n (p' := 150) k23_149 rfl rfl ?_
    refine me_if_ne (p' := 153) k23_150 rfl (fun c8 => ?_) (fun c8 => ?_)
    · skip
      refine me_iconst (p' := 154) k23_153 rfl (v := nI 0) (by decide) ?_
      refine me_goto k23_154 ?_
      refine me_reti k23_160 rt_23 rfl ?_
      simp only [sp_op, c8, if_true, if_false] at hQ
      exact hQ
    · skip
      refine me_iload_n (p' := 158) k23_157 rfl rfl ?_
      refine me_iload_n (p' := 159) k23_158 rfl rfl ?_
      refine me_idiv (p' := 160) k23_159 rfl (by assumption) rfl ?_
      refine me_reti k23_160 rt_23 rfl ?_
      simp only [sp_op, c8, if_true, if_false] at hQ
      exact hQ
theorem lp_gives {d L : Nat} {xs : Nat → Int32} {I : Nat → Nat → Int32} {Q : Option Value → mj_H → Prop} {t m : Nat} {f0 f1 f2 : Int32} (ht : t < 15) (hmL : I (59 + 3 * t) 2 = nI m) : ∀ (l : List Nat) (k : Nat) (st : List Int32) (I1 : Nat → Nat → Int32) (u : Value), mFr [61 + 3 * t] I I1 → mStk (I1 (61 + 3 * t)) st → sp_ok l st.length = true → k + l.length = m → m ≤ 96 → (∀ j, j < l.length → I (60 + 3 * t) (k + j) = sp_cc (l.getD j 0)) → st.length ≤ 96 → (∀ I2, mFr [61 + 3 * t] I I2 → Q (some (.int ((sp_ev (fun j => [f0, f1, f2].getD j 0) l st).headD 0))) (mg_h L xs I2)) → mj_Ev (d + 1) 22 6 [.ref (59 + 3 * t), .int f0, .int f1, .int f2, .int (nI st.length), .int (nI k), u] [] (mg_h L xs I1) Q := by
  intro l
  induction l with
  | nil =>
    intro k st I1 u hfr hst hok hkm hm hcode hsl hQ
    obtain ⟨x, rfl⟩ : ∃ x, st = [x] := by
      have h1 : st.length = 1 := by simpa [sp_ok] using hok
      match st, h1 with
      | [x], _ => exact ⟨x, rfl⟩
    refine me_iload (p' := 8) k22_6 rfl rfl ?_
    refine me_aload_n (p' := 9) k22_8 rfl rfl ?_
    refine me_gfi (p' := 12) k22_9 rfl (by omega) (congrArg Prod.fst (tb_T t (by omega))) (rc_Ti t (by omega) 2 (by decide) (by decide)) ?_
    rw [show I1 (59 + 3 * t) 2 = nI m from by rw [hfr (59 + 3 * t) 2 (by simp)]; exact hmL]
    refine me_ic_ge (p' := 15) k22_12 rfl (fun c1 => ?_) (fun c1 => ?_)
    · skip
      rw [cI_le (a := m) (b := k) (by omega) (by omega)] at c1
      refine me_aload_n (p' := 191) k22_190 rfl rfl ?_
      refine me_gfr (p' := 194) k22_191 rfl (by omega) (congrArg Prod.fst (tb_T t (by omega))) (b := 61 + 3 * t) (rc_T1 t (by omega)) ?_
      refine me_iconst (p' := 195) k22_194 rfl (v := nI 0) (by decide) ?_
      refine me_iald (p' := 196) k22_195 rfl (by omega) (tb_Ts t (by omega)) (j := 0) rfl (by omega) (by decide) (rc_Ts (by omega) _) ?_
      refine me_reti k22_196 rt_22 rfl ?_
      rw [show I1 (61 + 3 * t) 0 = x from hst.top]
      exact hQ _ hfr
    · skip
      rw [cI_le (a := m) (b := k) (by omega) (by omega)] at c1
      exfalso
      rw [List.length_nil] at hkm
      omega
  | cons t0 l ih =>
    intro k st I1 u hfr hst hok hkm hm hcode hsl hQ
    have hkm2 := hkm
    rw [List.length_cons] at hkm2
    have hc0 : I1 (60 + 3 * t) k = sp_cc t0 := by
      have := hcode 0 (by rw [List.length_cons]; omega)
      rw [hfr (60 + 3 * t) _ (by simp)]
      exact this
    refine me_iload (p' := 8) k22_6 rfl rfl ?_
    refine me_aload_n (p' := 9) k22_8 rfl rfl ?_
    refine me_gfi (p' := 12) k22_9 rfl (by omega) (congrArg Prod.fst (tb_T t (by omega))) (rc_Ti t (by omega) 2 (by decide) (by decide)) ?_
    rw [show I1 (59 + 3 * t) 2 = nI m from by rw [hfr (59 + 3 * t) 2 (by simp)]; exact hmL]
    refine me_ic_ge (p' := 15) k22_12 rfl (fun c1 => ?_) (fun c1 => ?_)
    · skip
      rw [cI_le (a := m) (b := k) (by omega) (by omega)] at c1
      exfalso
      rw [List.length_cons] at hkm
      omega
    · skip
      rw [cI_le (a := m) (b := k) (by omega) (by omega)] at c1
      refine me_aload_n (p' := 16) k22_15 rfl rfl ?_
      refine me_gfr (p' := 19) k22_16 rfl (by omega) (congrArg Prod.fst (tb_T t (by omega))) (b := 60 + 3 * t) (rc_T0 t (by omega)) ?_
      refine me_iload (p' := 21) k22_19 rfl rfl ?_
      refine me_iald (p' := 22) k22_21 rfl (by omega) (tb_Tc t (by omega)) (j := k) rfl (by first | omega | (simp only [List.length_cons] at *; omega)) (by decide) (rc_Tc (by omega) _) ?_
      refine me_istore (p' := 24) k22_22 rfl ⟨Nat.le_of_ble_eq_true rfl, rfl⟩ rfl ?_
      rw [hc0]
      rcases sp_ok_tok6 hok with ⟨q4, hs96, hok2⟩ | ⟨q4, hs96, hok2⟩ | ⟨q4, hs96, hok2⟩ | ⟨q4, hs96, hok2⟩ | ⟨q, hs1, hok2⟩ | ⟨o, q, q1, q2, hs2, hok2⟩
      · skip
        rw [show sp_cc t0 = nI t0 from if_pos q4]
        refine me_iload (p' := 26) k22_24 rfl rfl ?_
        refine me_sipush (p' := 29) k22_26 rfl (v := nI 10000) (by decide) ?_
        refine me_ic_lt (p' := 32) k22_29 rfl (fun c2 => ?_) (fun c2 => ?_)
        · skip
          rw [cI_lt (a := t0) (b := 10000) (by omega) (by omega)] at c2
          refine me_iload (p' := 91) k22_89 rfl rfl ?_
          refine me_sipush (p' := 94) k22_91 rfl (v := nI 10000) (by decide) ?_
          refine me_ic_lt (p' := 97) k22_94 rfl (fun c3 => ?_) (fun c3 => ?_)
          · skip
            rw [cI_lt (a := t0) (b := 10000) (by omega) (by omega)] at c3
            refine me_iload (p' := 134) k22_132 rfl rfl ?_
            refine me_aload_n (p' := 135) k22_134 rfl rfl ?_
            refine me_gfr (p' := 138) k22_135 rfl (by omega) (congrArg Prod.fst (tb_T t (by omega))) (b := 61 + 3 * t) (rc_T1 t (by omega)) ?_
            refine me_alen (p' := 139) k22_138 rfl (by omega) (tb_Ts t (by omega)) ⟨by decide, by decide⟩ (v := nI 96) rfl ?_
            refine me_ic_ge (p' := 142) k22_139 rfl (fun c4 => ?_) (fun c4 => ?_)
            · skip
              rw [cI_le (a := 96) (b := st.length) (by omega) (by omega)] at c4
              exfalso
              omega
            · skip
              rw [cI_le (a := 96) (b := st.length) (by omega) (by omega)] at c4
              refine me_aload_n (p' := 143) k22_142 rfl rfl ?_
              refine me_gfr (p' := 146) k22_143 rfl (by omega) (congrArg Prod.fst (tb_T t (by omega))) (b := 61 + 3 * t) (rc_T1 t (by omega)) ?_
              refine me_iload (p' := 148) k22_146 rfl rfl ?_
              refine me_iload (p' := 150) k22_148 rfl rfl ?_
              refine me_if_lt (p' := 153) k22_150 rfl (fun c5 => ?_) (fun c5 => ?_)
              · skip
                rw [cI_lt0 (a := t0) (by omega)] at c5
                exact c5.elim
              · skip
                rw [cI_lt0 (a := t0) (by omega)] at c5
                refine me_iload (p' := 155) k22_153 rfl rfl ?_
                refine me_goto k22_155 ?_
                refine me_iast (p' := 181) k22_180 rfl (by omega) (tb_Ts t (by omega)) (j := st.length) rfl (by first | omega | (simp only [List.length_cons] at *; omega)) (by decide) (rc_Ts (by omega) _) ?_
                refine me_iinc (p' := 184) k22_181 rfl rfl rfl (v := nI (st.length + 1)) (mI_inc (by decide)) rfl ?_
                refine me_iinc (p' := 187) k22_184 rfl rfl rfl (v := nI (k + 1)) (mI_inc (by decide)) rfl ?_
                refine me_goto k22_187 ?_
                have e7 : sp_ev (fun j => [f0, f1, f2].getD j 0) (t0 :: l) st = sp_ev (fun j => [f0, f1, f2].getD j 0) l (nI t0 :: st) := by simp [sp_ev, sp_tok, q4]
                rw [e7] at hQ
                refine ih (k + 1) (nI t0 :: st) _ _ (hfr.tr (mFr.up (by simp))) hst.push (hok2) (by rw [List.length_cons] at hkm; omega) hm (fun j hj => ?_) (by rw [List.length_cons]; omega) hQ
                have := hcode (j + 1) (by rw [List.length_cons]; omega)
                rw [show k + (j + 1) = k + 1 + j by omega] at this
                exact this
          · skip
            rw [cI_lt (a := t0) (b := 10000) (by omega) (by omega)] at c3
            exfalso
            omega
        · skip
          rw [cI_lt (a := t0) (b := 10000) (by omega) (by omega)] at c2
          exfalso
          omega
      · skip
        subst q4
        rw [show sp_cc 10000 = (-1) from by decide]
        refine me_iload (p' := 26) k22_24 rfl rfl ?_
        refine me_sipush (p' := 29) k22_26 rfl (v := nI 10000) (by decide) ?_
        refine me_ic_lt (p' := 32) k22_29 rfl (fun c6 => ?_) (fun c6 => ?_)
        · skip
          refine me_iload (p' := 91) k22_89 rfl rfl ?_
          refine me_sipush (p' := 94) k22_91 rfl (v := nI 10000) (by decide) ?_
          refine me_ic_lt (p' := 97) k22_94 rfl (fun c7 => ?_) (fun c7 => ?_)
          · skip
            refine me_iload (p' := 134) k22_132 rfl rfl ?_
            refine me_aload_n (p' := 135) k22_134 rfl rfl ?_
            refine me_gfr (p' := 138) k22_135 rfl (by omega) (congrArg Prod.fst (tb_T t (by omega))) (b := 61 + 3 * t) (rc_T1 t (by omega)) ?_
            refine me_alen (p' := 139) k22_138 rfl (by omega) (tb_Ts t (by omega)) ⟨by decide, by decide⟩ (v := nI 96) rfl ?_
            refine me_ic_ge (p' := 142) k22_139 rfl (fun c8 => ?_) (fun c8 => ?_)
            · skip
              rw [cI_le (a := 96) (b := st.length) (by omega) (by omega)] at c8
              exfalso
              omega
            · skip
              rw [cI_le (a := 96) (b := st.length) (by omega) (by omega)] at c8
              refine me_aload_n (p' := 143) k22_142 rfl rfl ?_
              refine me_gfr (p' := 146) k22_143 rfl (by omega) (congrArg Prod.fst (tb_T t (by omega))) (b := 61 + 3 * t) (rc_T1 t (by omega)) ?_
              refine me_iload (p' := 148) k22_146 rfl rfl ?_
              refine me_iload (p' := 150) k22_148 rfl rfl ?_
              refine me_if_lt (p' := 153) k22_150 rfl (fun c9 => ?_) (fun c9 => ?_)
              · skip
                refine me_iload (p' := 160) k22_158 rfl rfl ?_
                refine me_iconst (p' := 161) k22_160 rfl (v := (-1)) (by decide) ?_
                refine me_ic_ne (p' := 164) k22_161 rfl (fun c10 => ?_) (fun c10 => ?_)
                · skip
                  refine me_iload_n (p' := 165) k22_164 rfl rfl ?_
                  refine me_goto k22_165 ?_
                  refine me_iast (p' := 181) k22_180 rfl (by omega) (tb_Ts t (by omega)) (j := st.length) rfl (by first | omega | (simp only [List.length_cons] at *; omega)) (by decide) (rc_Ts (by omega) _) ?_
                  refine me_iinc (p' := 184) k22_181 rfl rfl rfl (v := nI (st.length + 1)) (mI_inc (by decide)) rfl ?_
                  refine me_iinc (p' := 187) k22_184 rfl rfl rfl (v := nI (k + 1)) (mI_inc (by decide)) rfl ?_
                  refine me_goto k22_187 ?_
                  have e7 : sp_ev (fun j => [f0, f1, f2].getD j 0) (10000 :: l) st = sp_ev (fun j => [f0, f1, f2].getD j 0) l (f0 :: st) := by simp [sp_ev, sp_tok]
                  rw [e7] at hQ
                  refine ih (k + 1) (f0 :: st) _ _ (hfr.tr (mFr.up (by simp))) hst.push (hok2) (by rw [List.length_cons] at hkm; omega) hm (fun j hj => ?_) (by rw [List.length_cons]; omega) hQ
                  have := hcode (j + 1) (by rw [List.length_cons]; omega)
                  rw [show k + (j + 1) = k + 1 + j by omega] at this
                  exact this
                · skip
                  exact absurd rfl c10
              · skip
                exact absurd (by decide) c9
          · skip
            exact absurd (by decide) c7
        · skip
          exact absurd (by decide) c6
      · skip
        subst q4
        rw [show sp_cc 10001 = (-2) from by decide]
        refine me_iload (p' := 26) k22_24 rfl rfl ?_
        refine me_sipush (p' := 29) k22_26 rfl (v := nI 10000) (by decide) ?_
        refine me_ic_lt (p' := 32) k22_29 rfl (fun c11 => ?_) (fun c11 => ?_)
        · skip
          refine me_iload (p' := 91) k22_89 rfl rfl ?_
          refine me_sipush (p' := 94) k22_91 rfl (v := nI 10000) (by decide) ?_
          refine me_ic_lt (p' := 97) k22_94 rfl (fun c12 => ?_) (fun c12 => ?_)
          · skip
            refine me_iload (p' := 134) k22_132 rfl rfl ?_
            refine me_aload_n (p' := 135) k22_134 rfl rfl ?_
            refine me_gfr (p' := 138) k22_135 rfl (by omega) (congrArg Prod.fst (tb_T t (by omega))) (b := 61 + 3 * t) (rc_T1 t (by omega)) ?_
            refine me_alen (p' := 139) k22_138 rfl (by omega) (tb_Ts t (by omega)) ⟨by decide, by decide⟩ (v := nI 96) rfl ?_
            refine me_ic_ge (p' := 142) k22_139 rfl (fun c13 => ?_) (fun c13 => ?_)
            · skip
              rw [cI_le (a := 96) (b := st.length) (by omega) (by omega)] at c13
              exfalso
              omega
            · skip
              rw [cI_le (a := 96) (b := st.length) (by omega) (by omega)] at c13
              refine me_aload_n (p' := 143) k22_142 rfl rfl ?_
              refine me_gfr (p' := 146) k22_143 rfl (by omega) (congrArg Prod.fst (tb_T t (by omega))) (b := 61 + 3 * t) (rc_T1 t (by omega)) ?_
              refine me_iload (p' := 148) k22_146 rfl rfl ?_
              refine me_iload (p' := 150) k22_148 rfl rfl ?_
              refine me_if_lt (p' := 153) k22_150 rfl (fun c14 => ?_) (fun c14 => ?_)
              · skip
                refine me_iload (p' := 160) k22_158 rfl rfl ?_
                refine me_iconst (p' := 161) k22_160 rfl (v := (-1)) (by decide) ?_
                refine me_ic_ne (p' := 164) k22_161 rfl (fun c15 => ?_) (fun c15 => ?_)
                · skip
                  exact absurd c15 (by decide)
                · skip
                  refine me_iload (p' := 170) k22_168 rfl rfl ?_
                  refine me_bipush (p' := 172) k22_170 rfl (v := (-2)) (by decide) ?_
                  refine me_ic_ne (p' := 175) k22_172 rfl (fun c16 => ?_) (fun c16 => ?_)
                  · skip
                    refine me_iload_n (p' := 176) k22_175 rfl rfl ?_
                    refine me_goto k22_176 ?_
                    refine me_iast (p' := 181) k22_180 rfl (by omega) (tb_Ts t (by omega)) (j := st.length) rfl (by first | omega | (simp only [List.length_cons] at *; omega)) (by decide) (rc_Ts (by omega) _) ?_
                    refine me_iinc (p' := 184) k22_181 rfl rfl rfl (v := nI (st.length + 1)) (mI_inc (by decide)) rfl ?_
                    refine me_iinc (p' := 187) k22_184 rfl rfl rfl (v := nI (k + 1)) (mI_inc (by decide)) rfl ?_
                    refine me_goto k22_187 ?_
                    have e7 : sp_ev (fun j => [f0, f1, f2].getD j 0) (10001 :: l) st = sp_ev (fun j => [f0, f1, f2].getD j 0) l (f1 :: st) := by simp [sp_ev, sp_tok]
                    rw [e7] at hQ
                    refine ih (k + 1) (f1 :: st) _ _ (hfr.tr (mFr.up (by simp))) hst.push (hok2) (by rw [List.length_cons] at hkm; omega) hm (fun j hj => ?_) (by rw [List.length_cons]; omega) hQ
                    have := hcode (j + 1) (by rw [List.length_cons]; omega)
                    rw [show k + (j + 1) = k + 1 + j by omega] at this
                    exact this
                  · skip
                    exact absurd rfl c16
              · skip
                exact absurd (by decide) c14
          · skip
            exact absurd (by decide) c12
        · skip
          exact absurd (by decide) c11
      · skip
        subst q4
        rw [show sp_cc 10002 = (-3) from by decide]
        refine me_iload (p' := 26) k22_24 rfl rfl ?_
        refine me_sipush (p' := 29) k22_26 rfl (v := nI 10000) (by decide) ?_
        refine me_ic_lt (p' := 32) k22_29 rfl (fun c17 => ?_) (fun c17 => ?_)
        · skip
          refine me_iload (p' := 91) k22_89 rfl rfl ?_
          refine me_sipush (p' := 94) k22_91 rfl (v := nI 10000) (by decide) ?_
          refine me_ic_lt (p' := 97) k22_94 rfl (fun c18 => ?_) (fun c18 => ?_)
          · skip
            refine me_iload (p' := 134) k22_132 rfl rfl ?_
            refine me_aload_n (p' := 135) k22_134 rfl rfl ?_
            refine me_gfr (p' := 138) k22_135 rfl (by omega) (congrArg Prod.fst (tb_T t (by omega))) (b := 61 + 3 * t) (rc_T1 t (by omega)) ?_
            refine me_alen (p' := 139) k22_138 rfl (by omega) (tb_Ts t (by omega)) ⟨by decide, by decide⟩ (v := nI 96) rfl ?_
            refine me_ic_ge (p' := 142) k22_139 rfl (fun c19 => ?_) (fun c19 => ?_)
            · skip
              rw [cI_le (a := 96) (b := st.length) (by omega) (by omega)] at c19
              exfalso
              omega
            · skip
              rw [cI_le (a := 96) (b := st.length) (by omega) (by omega)] at c19
              refine me_aload_n (p' := 143) k22_142 rfl rfl ?_
              refine me_gfr (p' := 146) k22_143 rfl (by omega) (congrArg Prod.fst (tb_T t (by omega))) (b := 61 + 3 * t) (rc_T1 t (by omega)) ?_
              refine me_iload (p' := 148) k22_146 rfl rfl ?_
              refine me_iload (p' := 150) k22_148 rfl rfl ?_
              refine me_if_lt (p' := 153) k22_150 rfl (fun c20 => ?_) (fun c20 => ?_)
              · skip
                refine me_iload (p' := 160) k22_158 rfl rfl ?_
                refine me_iconst (p' := 161) k22_160 rfl (v := (-1)) (by decide) ?_
                refine me_ic_ne (p' := 164) k22_161 rfl (fun c21 => ?_) (fun c21 => ?_)
                · skip
                  exact absurd c21 (by decide)
                · skip
                  refine me_iload (p' := 170) k22_168 rfl rfl ?_
                  refine me_bipush (p' := 172) k22_170 rfl (v := (-2)) (by decide) ?_
                  refine me_ic_ne (p' := 175) k22_172 rfl (fun c22 => ?_) (fun c22 => ?_)
                  · skip
                    exact absurd c22 (by decide)
                  · skip
                    refine me_iload_n (p' := 180) k22_179 rfl rfl ?_
                    refine me_iast (p' := 181) k22_180 rfl (by omega) (tb_Ts t (by omega)) (j := st.length) rfl (by first | omega | (simp only [List.length_cons] at *; omega)) (by decide) (rc_Ts (by omega) _) ?_
                    refine me_iinc (p' := 184) k22_181 rfl rfl rfl (v := nI (st.length + 1)) (mI_inc (by decide)) rfl ?_
                    refine me_iinc (p' := 187) k22_184 rfl rfl rfl (v := nI (k + 1)) (mI_inc (by decide)) rfl ?_
                    refine me_goto k22_187 ?_
                    have e7 : sp_ev (fun j => [f0, f1, f2].getD j 0) (10002 :: l) st = sp_ev (fun j => [f0, f1, f2].getD j 0) l (f2 :: st) := by simp [sp_ev, sp_tok]
                    rw [e7] at hQ
                    refine ih (k + 1) (f2 :: st) _ _ (hfr.tr (mFr.up (by simp))) hst.push (hok2) (by rw [List.length_cons] at hkm; omega) hm (fun j hj => ?_) (by rw [List.length_cons]; omega) hQ
                    have := hcode (j + 1) (by rw [List.length_cons]; omega)
                    rw [show k + (j + 1) = k + 1 + j by omega] at this
                    exact this
              · skip
                exact absurd (by decide) c20
          · skip
            exact absurd (by decide) c18
        · skip
          exact absurd (by decide) c17
      · skip
        subst q
        obtain ⟨x, r, rfl⟩ : ∃ x r, st = x :: r := by
          cases st with
          | nil => exact absurd hs1 (by simp)
          | cons x r => exact ⟨x, r, rfl⟩
        rw [show sp_cc 20010 = nI 10033 from by decide]
        refine me_iload (p' := 26) k22_24 rfl rfl ?_
        refine me_sipush (p' := 29) k22_26 rfl (v := nI 10000) (by decide) ?_
        refine me_ic_lt (p' := 32) k22_29 rfl (fun h => absurd h (by decide)) (fun _ => ?_)
        refine me_iload (p' := 34) k22_32 rfl rfl ?_
        refine me_sipush (p' := 37) k22_34 rfl (v := nI 10000) (by decide) ?_
        refine me_isub (p' := 38) k22_37 rfl rfl ?_
        refine me_bipush (p' := 40) k22_38 rfl (v := nI 33) (by decide) ?_
        refine me_ic_eq (p' := 43) k22_40 rfl (fun c23 => ?_) (fun c23 => ?_)
        · skip
          refine me_iload (p' := 91) k22_89 rfl rfl ?_
          refine me_sipush (p' := 94) k22_91 rfl (v := nI 10000) (by decide) ?_
          refine me_ic_lt (p' := 97) k22_94 rfl (fun h => absurd h (by decide)) (fun _ => ?_)
          refine me_iload (p' := 99) k22_97 rfl rfl ?_
          refine me_iconst (p' := 100) k22_99 rfl (v := nI 1) (by decide) ?_
          refine me_ic_lt (p' := 103) k22_100 rfl (fun c24 => ?_) (fun c24 => ?_)
          · skip
            rw [cI_lt (a := (x :: r).length) (b := 1) (by omega) (by omega)] at c24
            exfalso
            simp only [List.length_cons] at *
            omega
          · skip
            rw [cI_lt (a := (x :: r).length) (b := 1) (by omega) (by omega)] at c24
            refine me_aload_n (p' := 104) k22_103 rfl rfl ?_
            refine me_gfr (p' := 107) k22_104 rfl (by omega) (congrArg Prod.fst (tb_T t (by omega))) (b := 61 + 3 * t) (rc_T1 t (by omega)) ?_
            refine me_iload (p' := 109) k22_107 rfl rfl ?_
            refine me_iconst (p' := 110) k22_109 rfl (v := nI 1) (by decide) ?_
            refine me_isub (p' := 111) k22_110 rfl rfl ?_
            refine me_aload_n (p' := 112) k22_111 rfl rfl ?_
            refine me_gfr (p' := 115) k22_112 rfl (by omega) (congrArg Prod.fst (tb_T t (by omega))) (b := 61 + 3 * t) (rc_T1 t (by omega)) ?_
            refine me_iload (p' := 117) k22_115 rfl rfl ?_
            refine me_iconst (p' := 118) k22_117 rfl (v := nI 1) (by decide) ?_
            refine me_isub (p' := 119) k22_118 rfl rfl ?_
            refine me_iald (p' := 120) k22_119 rfl (by omega) (tb_Ts t (by omega)) (j := r.length) (by rw [mI_sub (by simp)]; rfl) (by first | omega | (simp only [List.length_cons] at *; omega)) (by decide) (rc_Ts (by omega) _) ?_
            refine me_if_ne (p' := 123) k22_120 rfl (fun c25 => ?_) (fun c25 => ?_)
            · skip
              refine me_iconst (p' := 124) k22_123 rfl (v := nI 1) (by decide) ?_
              refine me_goto k22_124 ?_
              refine me_iast (p' := 129) k22_128 rfl (by omega) (tb_Ts t (by omega)) (j := r.length) (by rw [mI_sub (by simp)]; rfl) (by first | omega | (simp only [List.length_cons] at *; omega)) (by decide) (rc_Ts (by omega) _) ?_
              refine me_goto k22_129 ?_
              refine me_iinc (p' := 187) k22_184 rfl rfl rfl (v := nI (k + 1)) (mI_inc (by decide)) rfl ?_
              refine me_goto k22_187 ?_
              rw [hst.top] at c25
              have e7 : sp_ev (fun j => [f0, f1, f2].getD j 0) (20010 :: l) (x :: r) = sp_ev (fun j => [f0, f1, f2].getD j 0) l (nI 1 :: r) := by simp [sp_ev, sp_tok, c25]
              rw [e7] at hQ
              refine ih (k + 1) (nI 1 :: r) _ _ (hfr.tr (mFr.up (by simp))) hst.tl.push (by exact hok2) (by rw [List.length_cons] at hkm; omega) hm (fun j hj => ?_) (by rw [List.length_cons] at hsl ⊢; omega) hQ
              have := hcode (j + 1) (by rw [List.length_cons]; omega)
              rw [show k + (j + 1) = k + 1 + j by omega] at this
              exact this
            · skip
              refine me_iconst (p' := 128) k22_127 rfl (v := nI 0) (by decide) ?_
              refine me_iast (p' := 129) k22_128 rfl (by omega) (tb_Ts t (by omega)) (j := r.length) (by rw [mI_sub (by simp)]; rfl) (by first | omega | (simp only [List.length_cons] at *; omega)) (by decide) (rc_Ts (by omega) _) ?_
              refine me_goto k22_129 ?_
              refine me_iinc (p' := 187) k22_184 rfl rfl rfl (v := nI (k + 1)) (mI_inc (by decide)) rfl ?_
              refine me_goto k22_187 ?_
              rw [hst.top] at c25
              have e7 : sp_ev (fun j => [f0, f1, f2].getD j 0) (20010 :: l) (x :: r) = sp_ev (fun j => [f0, f1, f2].getD j 0) l (nI 0 :: r) := by simp [sp_ev, sp_tok, c25]
              rw [e7] at hQ
              refine ih (k + 1) (nI 0 :: r) _ _ (hfr.tr (mFr.up (by simp))) hst.tl.push (by exact hok2) (by rw [List.length_cons] at hkm; omega) hm (fun j hj => ?_) (by rw [List.length_cons] at hsl ⊢; omega) hQ
              have := hcode (j + 1) (by rw [List.length_cons]; omega)
              rw [show k + (j + 1) = k + 1 + j by omega] at this
              exact this
        · skip
          exact absurd (by decide) c23
      · skip
        subst q
        obtain ⟨b2, b1, r, rfl⟩ : ∃ b2 b1 r, st = b2 :: b1 :: r := by
          match st, hs2 with
          | b2 :: b1 :: r, _ => exact ⟨b2, b1, r, rfl⟩
        have hsg := sp_sg_lt o (by omega)
        rw [show sp_cc (20000 + o) = nI (10000 + sp_sg o) from by unfold sp_cc; rw [if_neg (by omega), if_neg (by omega), show 20000 + o - 20000 = o by omega]]
        refine me_iload (p' := 26) k22_24 rfl rfl ?_
        refine me_sipush (p' := 29) k22_26 rfl (v := nI 10000) (by decide) ?_
        refine me_ic_lt (p' := 32) k22_29 rfl (fun c26 => ?_) (fun c26 => ?_)
        · skip
          rw [cI_lt (a := 10000 + sp_sg o) (b := 10000) (by omega) (by omega)] at c26
          exfalso
          omega
        · skip
          rw [cI_lt (a := 10000 + sp_sg o) (b := 10000) (by omega) (by omega)] at c26
          refine me_iload (p' := 34) k22_32 rfl rfl ?_
          refine me_sipush (p' := 37) k22_34 rfl (v := nI 10000) (by decide) ?_
          refine me_isub (p' := 38) k22_37 rfl rfl ?_
          rw [mI_sub (by omega), show 10000 + sp_sg o - 10000 = sp_sg o by omega]
          refine me_bipush (p' := 40) k22_38 rfl (v := nI 33) (by decide) ?_
          refine me_ic_eq (p' := 43) k22_40 rfl (fun c27 => ?_) (fun c27 => ?_)
          · skip
            rw [cI_eq (a := sp_sg o) (b := 33) (by omega) (by omega)] at c27
            exfalso
            omega
          · skip
            rw [cI_eq (a := sp_sg o) (b := 33) (by omega) (by omega)] at c27
            refine me_iload (p' := 45) k22_43 rfl rfl ?_
            refine me_iconst (p' := 46) k22_45 rfl (v := nI 2) (by decide) ?_
            refine me_ic_lt (p' := 49) k22_46 rfl (fun c28 => ?_) (fun c28 => ?_)
            · skip
              rw [cI_lt (a := (b2 :: b1 :: r).length) (b := 2) (by omega) (by omega)] at c28
              exfalso
              simp only [List.length_cons] at *
              omega
            · skip
              rw [cI_lt (a := (b2 :: b1 :: r).length) (b := 2) (by omega) (by omega)] at c28
              refine me_iinc (p' := 52) k22_49 rfl rfl rfl rfl rfl ?_
              rw [show nI (b2 :: b1 :: r).length + Int32.ofInt (-1) = nI (r.length + 1) from by
                have e : nI (r.length + 1) + nI 1 = nI (b2 :: b1 :: r).length := by rw [mI_add]; rfl
                rw [← e, show Int32.ofInt (-1) = - nI 1 from by decide, ← Int32.sub_eq_add_neg]
                simp]
              refine me_aload_n (p' := 53) k22_52 rfl rfl ?_
              refine me_gfr (p' := 56) k22_53 rfl (by omega) (congrArg Prod.fst (tb_T t (by omega))) (b := 61 + 3 * t) (rc_T1 t (by omega)) ?_
              refine me_iload (p' := 58) k22_56 rfl rfl ?_
              refine me_iconst (p' := 59) k22_58 rfl (v := nI 1) (by decide) ?_
              refine me_isub (p' := 60) k22_59 rfl rfl ?_
              refine me_iload (p' := 62) k22_60 rfl rfl ?_
              refine me_sipush (p' := 65) k22_62 rfl (v := nI 10000) (by decide) ?_
              refine me_isub (p' := 66) k22_65 rfl rfl ?_
              rw [mI_sub (by omega), show 10000 + sp_sg o - 10000 = sp_sg o by omega]
              refine me_aload_n (p' := 67) k22_66 rfl rfl ?_
              refine me_gfr (p' := 70) k22_67 rfl (by omega) (congrArg Prod.fst (tb_T t (by omega))) (b := 61 + 3 * t) (rc_T1 t (by omega)) ?_
              refine me_iload (p' := 72) k22_70 rfl rfl ?_
              refine me_iconst (p' := 73) k22_72 rfl (v := nI 1) (by decide) ?_
              refine me_isub (p' := 74) k22_73 rfl rfl ?_
              refine me_iald (p' := 75) k22_74 rfl (by omega) (tb_Ts t (by omega)) (j := r.length) (by rw [mI_sub (by omega)]; rfl) (by first | omega | (simp only [List.length_cons] at *; omega)) (by decide) (rc_Ts (by omega) _) ?_
              refine me_aload_n (p' := 76) k22_75 rfl rfl ?_
              refine me_gfr (p' := 79) k22_76 rfl (by omega) (congrArg Prod.fst (tb_T t (by omega))) (b := 61 + 3 * t) (rc_T1 t (by omega)) ?_
              refine me_iload (p' := 81) k22_79 rfl rfl ?_
              refine me_iald (p' := 82) k22_81 rfl (by omega) (tb_Ts t (by omega)) (j := (r.length + 1)) rfl (by first | omega | (simp only [List.length_cons] at *; omega)) (by decide) (rc_Ts (by omega) _) ?_
              have t1 := hst.top
              have t2 := hst.tl.top
              rw [List.length_cons] at t1
              rw [t1, t2]
              refine me_cs (p' := 85) k22_82 rfl rfl rfl rfl rfl (cl_le mx_23 rfl) (by decide) (cl_sum rfl) (ct_joined ⟨q1, q2⟩ ?_)
              refine me_iast (p' := 86) k22_85 rfl (by omega) (tb_Ts t (by omega)) (j := r.length) (by rw [mI_sub (by omega)]; rfl) (by first | omega | (simp only [List.length_cons] at *; omega)) (by decide) (rc_Ts (by omega) _) ?_
              refine me_goto k22_86 ?_
              refine me_iinc (p' := 187) k22_184 rfl rfl rfl (v := nI (k + 1)) (mI_inc (by decide)) rfl ?_
              refine me_goto k22_187 ?_
              have e7 : sp_ev (fun j => [f0, f1, f2].getD j 0) ((20000 + o) :: l) (b2 :: b1 :: r) = sp_ev (fun j => [f0, f1, f2].getD j 0) l (sp_op o b1 b2 :: r) := by simp [sp_ev, sp_tok, show ¬ 20000 + o < 10000 by omega, show ¬ 20000 + o < 20000 by omega, show ¬ 20000 + o = 20010 by omega]
              rw [e7] at hQ
              refine ih (k + 1) (sp_op o b1 b2 :: r) _ _ (hfr.tr (mFr.up (by simp))) hst.tl.tl.push (by have := hok2; rw [List.length_cons, List.length_cons] at this; exact this) (by rw [List.length_cons] at hkm; omega) hm (fun j hj => ?_) (by rw [List.length_cons, List.length_cons] at hsl; rw [List.length_cons]; omega) hQ
              have := hcode (j + 1) (by rw [List.length_cons]; omega)
              rw [show k + (j + 1) = k + 1 + j by omega] at this
              exact this
theorem ct_gives {d L : Nat} {xs : Nat → Int32} {I : Nat → Nat → Int32} {Q : Option Value → mj_H → Prop} {t m : Nat} {l : List Nat} {f0 f1 f2 : Int32} (ht : t < 15) (hmL : I (59 + 3 * t) 2 = nI m) (hm : m = l.length) (hlen : m ≤ 96) (hok : sp_ok l 0 = true) (hcode : ∀ j, j < l.length → I (60 + 3 * t) j = sp_cc (l.getD j 0)) (hQ : ∀ I2, mFr [61 + 3 * t] I I2 → Q (some (.int ((sp_ev (fun j => [f0, f1, f2].getD j 0) l []).headD 0))) (mg_h L xs I2)) : mj_Cl (d + 1) 22 [.ref (59 + 3 * t), .int f0, .int f1, .int f2] (mg_h L xs I) Q := by
  refine cl_start mx_22 (ls := [.ref (59 + 3 * t), .int f0, .int f1, .int f2, mj_no, mj_no, mj_no]) rfl ?_
  refine me_iconst (p' := 1) k22_0 rfl (v := nI 0) (by decide) ?_
  refine me_istore (p' := 3) k22_1 rfl ⟨Nat.le_of_ble_eq_true rfl, rfl⟩ rfl ?_
  refine me_iconst (p' := 4) k22_3 rfl (v := nI 0) (by decide) ?_
  refine me_istore (p' := 6) k22_4 rfl ⟨Nat.le_of_ble_eq_true rfl, rfl⟩ rfl ?_
  exact lp_gives ht hmL l 0 [] I _ mFr.rf (fun j hj => by simp at hj) hok (by omega) hlen (fun j hj => by rw [Nat.zero_add]; exact hcode j hj) (by simp) hQ
theorem sp_held (v a b : Int32) (h : a ≤ b) : (if a < (if v < b then v else b) then (if v < b then v else b) else a) = sp_within v a b := by
  unfold sp_within
  simp only [Int32.lt_iff_toInt_lt, Int32.le_iff_toInt_le] at *
  by_cases h1 : v.toInt < b.toInt
  · simp only [h1, if_true]
    by_cases h2 : a.toInt < v.toInt
    · rw [if_pos h2, if_pos (by omega), if_pos (by omega)]
    · rw [if_neg h2]
      by_cases h3 : a.toInt ≤ v.toInt
      · rw [if_pos h3, if_pos (by omega)]
        exact Int32.toInt_inj.mp (by omega)
      · rw [if_neg h3]
  · simp only [h1, if_false]
    by_cases h2 : a.toInt < b.toInt
    · rw [if_pos h2, if_pos (by omega)]
      split
      · exact Int32.toInt_inj.mp (by omega)
      · rfl
    · rw [if_neg h2, if_pos (by omega)]
      split
      · exact Int32.toInt_inj.mp (by omega)
      · exact Int32.toInt_inj.mp (by omega)
theorem ct_held {d L : Nat} {xs : Nat → Int32} {I : Nat → Nat → Int32} {Q : Option Value → mj_H → Prop} {v a b : Int32} (h : a ≤ b) (hQ : Q (some (.int (sp_within v a b))) (mg_h L xs I)) : mj_Cl d 25 [.int v, .int a, .int b] (mg_h L xs I) Q := by
  refine cl_start mx_25 (ls := [.int v, .int a, .int b]) rfl ?_
  refine me_iload_n (p' := 1) k25_0 rfl rfl ?_
  refine me_iload_n (p' := 2) k25_1 rfl rfl ?_
  refine me_iload_n (p' := 3) k25_2 rfl rfl ?_
  refine me_min (p' := 6) k25_3 rfl (cl_sum rfl) rfl ?_
  refine me_max (p' := 9) k25_6 rfl (cl_sum rfl) rfl ?_
  refine me_reti k25_9 rt_25 rfl ?_
  rw [sp_held v a b h]
  exact hQ
