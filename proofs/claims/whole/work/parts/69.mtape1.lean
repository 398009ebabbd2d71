/-! ===== the model: words and signs off THE TAPE ===== -/
def mTp (I : Nat → Nat → Int32) (B : Nat → Nat) (tl : Nat) : Prop := I 127 7 = nI tl ∧ tl ≤ 96 ∧ ∀ k : Nat, k < tl → I 132 k = nI (B k) ∧ B k < 256
/-- where the last word ended -/
def mEd (I : Nat → Nat → Int32) (a : Nat) (w : Prop) : Prop := (w → I 127 12 = nI a) ∧ (¬ w → ∀ q : Nat, a ≤ q → q ≤ 96 → I 127 12 ≠ nI q)
def mTk (I : Nat → Nat → Int32) (B : Nat → Nat) (t : Nat × Nat × Nat) : Prop := I 127 8 = nI t.2.2 ∧ I 127 9 = nI t.2.1 ∧ I 127 10 = nI t.1 ∧ (t.1 = 1 ∨ t.1 = 3 → I 127 11 = nI (B t.2.1)) ∧ (t.1 = 2 → I 127 11 = nI (tNum B t.2.1 (t.2.2 - t.2.1))) ∧ (t.1 = 1 ∨ t.1 = 2 ∨ t.1 = 3 → mEd I t.2.2 (t.1 = 1 ∨ t.1 = 2))
/-- THE TAPE alone is read on -/
def mGf (I J : Nat → Nat → Int32) : Prop := mFr [127] I J ∧ ∀ k : Nat, k ≠ 8 → k ≠ 9 → k ≠ 10 → k ≠ 11 → k ≠ 12 → J 127 k = I 127 k
theorem mGf.rf {I : Nat → Nat → Int32} : mGf I I := ⟨mFr.rf, fun _ _ _ _ _ _ => rfl⟩
theorem mGf.tr {I J K : Nat → Nat → Int32} (h : mGf I J) (h2 : mGf J K) : mGf I K := ⟨h.1.tr h2.1, fun k a b c d e => (h2.2 k a b c d e).trans (h.2 k a b c d e)⟩
theorem mGf.u {I J : Nat → Nat → Int32} {k : Nat} {v : Int32} (h : mGf I J) (hk : k = 8 ∨ k = 9 ∨ k = 10 ∨ k = 11 ∨ k = 12) : mGf I (mg_u J 127 k v) := ⟨h.1.tr (mFr.up (by decide)), fun q a b c d e => (mg_une (by omega)).trans (h.2 q a b c d e)⟩
theorem mTp.fr {I J : Nat → Nat → Int32} {B : Nat → Nat} {tl : Nat} (h : mTp I B tl) (hf : mGf I J) : mTp J B tl := ⟨(hf.2 7 (by decide) (by decide) (by decide) (by decide) (by decide)).trans h.1, h.2.1, fun k hk => ⟨(hf.1 132 k (by decide)).trans (h.2.2 k hk).1, (h.2.2 k hk).2⟩⟩
theorem tSo_1 {b : Nat} : tSo b = 1 ↔ 97 ≤ b ∧ b ≤ 122 := by
  unfold tSo
  by_cases e : 97 ≤ b ∧ b ≤ 122
  · rw [if_pos e]; exact ⟨fun _ => e, fun _ => rfl⟩
  · rw [if_neg e]
    refine ⟨fun z => ?_, fun z => absurd z e⟩
    split at z <;> omega
theorem tSo_2' {b : Nat} : tSo b = 2 ↔ 48 ≤ b ∧ b ≤ 57 := by
  refine ⟨tSo_2, fun h => ?_⟩
  unfold tSo
  rw [if_neg (by omega), if_pos h]
theorem ct_isLetter {d L : Nat} {xs : Nat → Int32} {I : Nat → Nat → Int32} {Q : Option Value → mj_H → Prop} {B : Nat → Nat} {tl k : Nat} (hT : mTp I B tl) (hk : k ≤ 200) (h1 : k < tl ∧ tSo (B k) = 1 → Q (some (.int (nI 1))) (mg_h L xs I)) (h0 : ¬ (k < tl ∧ tSo (B k) = 1) → Q (some (.int (nI 0))) (mg_h L xs I)) : mj_Cl d 190 [.ref 127, .int (nI k)] (mg_h L xs I) Q := by
  have htl := hT.2.1
  refine cl_start mx_190 (ls := [.ref 127, .int (nI k)]) rfl ?_
  refine me_iload_n (p' := 1) k190_0 rfl rfl ?_
  refine me_aload_n (p' := 2) k190_1 rfl rfl ?_
  refine me_gfi (p' := 5) k190_2 rfl (by decide) rfl rfl ?_
  rw [hT.1]
  refine me_ic_ge (p' := 8) k190_5 rfl (fun c1 => ?_) (fun c1 => ?_)
  · skip
    rw [cI_le (a := tl) (b := k) (by omega) (by omega)] at c1
    refine me_iconst (p' := 35) k190_34 rfl (v := nI 0) (by decide) ?_
    refine me_reti k190_35 rt_190 (by decide) ?_
    exact h0 (fun z => by have := tSo_1.mp z.2; omega)
  · skip
    rw [cI_le (a := tl) (b := k) (by omega) (by omega)] at c1
    refine me_aload_n (p' := 9) k190_8 rfl rfl ?_
    refine me_gfr (p' := 12) k190_9 rfl (by decide) rfl (b := 132) rfl ?_
    refine me_iload_n (p' := 13) k190_12 rfl rfl ?_
    refine me_iald (p' := 14) k190_13 rfl (by decide) rfl (j := k) rfl (by omega) (by decide) rfl ?_
    rw [(hT.2.2 k (by omega)).1]
    have hB9 := (hT.2.2 k (by omega)).2
    refine me_bipush (p' := 16) k190_14 rfl (v := nI 97) (by decide) ?_
    refine me_ic_lt (p' := 19) k190_16 rfl (fun c2 => ?_) (fun c2 => ?_)
    · skip
      rw [cI_lt (a := B k) (b := 97) (by omega) (by omega)] at c2
      refine me_iconst (p' := 35) k190_34 rfl (v := nI 0) (by decide) ?_
      refine me_reti k190_35 rt_190 (by decide) ?_
      exact h0 (fun z => by have := tSo_1.mp z.2; omega)
    · skip
      rw [cI_lt (a := B k) (b := 97) (by omega) (by omega)] at c2
      refine me_aload_n (p' := 20) k190_19 rfl rfl ?_
      refine me_gfr (p' := 23) k190_20 rfl (by decide) rfl (b := 132) rfl ?_
      refine me_iload_n (p' := 24) k190_23 rfl rfl ?_
      refine me_iald (p' := 25) k190_24 rfl (by decide) rfl (j := k) rfl (by omega) (by decide) rfl ?_
      rw [(hT.2.2 k (by omega)).1]
      have hB9 := (hT.2.2 k (by omega)).2
      refine me_bipush (p' := 27) k190_25 rfl (v := nI 122) (by decide) ?_
      refine me_ic_gt (p' := 30) k190_27 rfl (fun c3 => ?_) (fun c3 => ?_)
      · skip
        rw [cI_lt (a := 122) (b := B k) (by omega) (by omega)] at c3
        refine me_iconst (p' := 35) k190_34 rfl (v := nI 0) (by decide) ?_
        refine me_reti k190_35 rt_190 (by decide) ?_
        exact h0 (fun z => by have := tSo_1.mp z.2; omega)
      · skip
        rw [cI_lt (a := 122) (b := B k) (by omega) (by omega)] at c3
        refine me_iconst (p' := 31) k190_30 rfl (v := nI 1) (by decide) ?_
        refine me_goto k190_31 ?_
        refine me_reti k190_35 rt_190 (by decide) ?_
        exact h1 ⟨by omega, tSo_1.mpr ⟨by omega, by omega⟩⟩
theorem ct_isFigure {d L : Nat} {xs : Nat → Int32} {I : Nat → Nat → Int32} {Q : Option Value → mj_H → Prop} {B : Nat → Nat} {tl k : Nat} (hT : mTp I B tl) (hk : k ≤ 200) (h1 : k < tl ∧ tSo (B k) = 2 → Q (some (.int (nI 1))) (mg_h L xs I)) (h0 : ¬ (k < tl ∧ tSo (B k) = 2) → Q (some (.int (nI 0))) (mg_h L xs I)) : mj_Cl d 191 [.ref 127, .int (nI k)] (mg_h L xs I) Q := by
  have htl := hT.2.1
  refine cl_start mx_191 (ls := [.ref 127, .int (nI k)]) rfl ?_
  refine me_iload_n (p' := 1) k191_0 rfl rfl ?_
  refine me_aload_n (p' := 2) k191_1 rfl rfl ?_
  refine me_gfi (p' := 5) k191_2 rfl (by decide) rfl rfl ?_
  rw [hT.1]
  refine me_ic_ge (p' := 8) k191_5 rfl (fun c1 => ?_) (fun c1 => ?_)
  · skip
    rw [cI_le (a := tl) (b := k) (by omega) (by omega)] at c1
    refine me_iconst (p' := 35) k191_34 rfl (v := nI 0) (by decide) ?_
    refine me_reti k191_35 rt_191 (by decide) ?_
    exact h0 (fun z => by have := tSo_2'.mp z.2; omega)
  · skip
    rw [cI_le (a := tl) (b := k) (by omega) (by omega)] at c1
    refine me_aload_n (p' := 9) k191_8 rfl rfl ?_
    refine me_gfr (p' := 12) k191_9 rfl (by decide) rfl (b := 132) rfl ?_
    refine me_iload_n (p' := 13) k191_12 rfl rfl ?_
    refine me_iald (p' := 14) k191_13 rfl (by decide) rfl (j := k) rfl (by omega) (by decide) rfl ?_
    rw [(hT.2.2 k (by omega)).1]
    have hB9 := (hT.2.2 k (by omega)).2
    refine me_bipush (p' := 16) k191_14 rfl (v := nI 48) (by decide) ?_
    refine me_ic_lt (p' := 19) k191_16 rfl (fun c2 => ?_) (fun c2 => ?_)
    · skip
      rw [cI_lt (a := B k) (b := 48) (by omega) (by omega)] at c2
      refine me_iconst (p' := 35) k191_34 rfl (v := nI 0) (by decide) ?_
      refine me_reti k191_35 rt_191 (by decide) ?_
      exact h0 (fun z => by have := tSo_2'.mp z.2; omega)
    · skip
      rw [cI_lt (a := B k) (b := 48) (by omega) (by omega)] at c2
      refine me_aload_n (p' := 20) k191_19 rfl rfl ?_
      refine me_gfr (p' := 23) k191_20 rfl (by decide) rfl (b := 132) rfl ?_
      refine me_iload_n (p' := 24) k191_23 rfl rfl ?_
      refine me_iald (p' := 25) k191_24 rfl (by decide) rfl (j := k) rfl (by omega) (by decide) rfl ?_
      rw [(hT.2.2 k (by omega)).1]
      have hB9 := (hT.2.2 k (by omega)).2
      refine me_bipush (p' := 27) k191_25 rfl (v := nI 57) (by decide) ?_
      refine me_ic_gt (p' := 30) k191_27 rfl (fun c3 => ?_) (fun c3 => ?_)
      · skip
        rw [cI_lt (a := 57) (b := B k) (by omega) (by omega)] at c3
        refine me_iconst (p' := 35) k191_34 rfl (v := nI 0) (by decide) ?_
        refine me_reti k191_35 rt_191 (by decide) ?_
        exact h0 (fun z => by have := tSo_2'.mp z.2; omega)
      · skip
        rw [cI_lt (a := 57) (b := B k) (by omega) (by omega)] at c3
        refine me_iconst (p' := 31) k191_30 rfl (v := nI 1) (by decide) ?_
        refine me_goto k191_31 ?_
        refine me_reti k191_35 rt_191 (by decide) ?_
        exact h1 ⟨by omega, tSo_2'.mpr ⟨by omega, by omega⟩⟩
theorem lp_goL {d L : Nat} {xs : Nat → Int32} {I : Nat → Nat → Int32} {Q : Option Value → mj_H → Prop} {B : Nat → Nat} {tl : Nat} (hT : mTp I B tl) {cl s : Nat} {z : Int32} : ∀ (f k : Nat), tl - k = f → k ≤ tl → (hE : ∀ G, mGf I G → G 127 8 = nI (tRn B tl 1 k) → G 127 9 = nI s → G 127 12 = z → mj_Ev (d + 1) 189 117 [.ref 127, .int (nI cl)] [] (mg_h L xs G) Q) → ∀ G, mGf I G → G 127 8 = nI k → G 127 9 = nI s → G 127 12 = z → mj_Ev (d + 1) 189 93 [.ref 127, .int (nI cl)] [] (mg_h L xs G) Q := by
  have htl := hT.2.1
  intro f
  induction f with
  | zero =>
    intro k hfk hk hE G hf h8 h9 h12
    refine me_aload_n (p' := 94) k189_93 rfl rfl ?_
    refine me_aload_n (p' := 95) k189_94 rfl rfl ?_
    refine me_gfi (p' := 98) k189_95 rfl (by decide) rfl rfl ?_
    rw [h8]
    refine me_cv (p' := 101) k189_98 rfl rfl (by decide) rfl (by decide) (by decide) dp_190 rfl rfl (cl_le mx_190 rfl) (by decide) (cl_sum rfl) (ct_isLetter (hT.fr hf) (by omega) (fun e494 => ?_) (fun e494 => ?_))
    · skip
      refine me_if_eq (p' := 104) k189_101 rfl (fun h => absurd h (by decide)) (fun _ => ?_)
      exfalso
      have e9 := e494
      omega
    · skip
      refine me_if_eq (p' := 104) k189_101 rfl (fun _ => ?_) (fun h => absurd (by decide) h)
      have e9 := e494
      rw [tRn_0 e9] at hE
      exact hE G hf h8 h9 h12
  | succ f ih =>
    intro k hfk hk hE G hf h8 h9 h12
    refine me_aload_n (p' := 94) k189_93 rfl rfl ?_
    refine me_aload_n (p' := 95) k189_94 rfl rfl ?_
    refine me_gfi (p' := 98) k189_95 rfl (by decide) rfl rfl ?_
    rw [h8]
    refine me_cv (p' := 101) k189_98 rfl rfl (by decide) rfl (by decide) (by decide) dp_190 rfl rfl (cl_le mx_190 rfl) (by decide) (cl_sum rfl) (ct_isLetter (hT.fr hf) (by omega) (fun e493 => ?_) (fun e493 => ?_))
    · skip
      refine me_if_eq (p' := 104) k189_101 rfl (fun h => absurd h (by decide)) (fun _ => ?_)
      refine me_aload_n (p' := 105) k189_104 rfl rfl ?_
      refine me_dup (p' := 106) k189_105 rfl rfl ?_
      refine me_gfi (p' := 109) k189_106 rfl (by decide) rfl rfl ?_
      rw [h8]
      refine me_iconst (p' := 110) k189_109 rfl (v := nI 1) (by decide) ?_
      refine me_iadd (p' := 111) k189_110 rfl (v := nI (k + 1)) (mI_add _ _) ?_
      refine me_pfi (p' := 114) k189_111 rfl (by decide) rfl rfl rfl rfl ?_
      refine me_goto k189_114 ?_
      have e9 := e493
      refine ih (k + 1) (by omega) (by omega) ?_ _ (hf.u (by omega)) mg_ueq ((mg_une (by decide)).trans h9) ((mg_une (by decide)).trans h12)
      rw [← tRn_1 e9.1 e9.2]
      exact hE
    · skip
      refine me_if_eq (p' := 104) k189_101 rfl (fun _ => ?_) (fun h => absurd (by decide) h)
      have e9 := e493
      rw [tRn_0 e9] at hE
      exact hE G hf h8 h9 h12
theorem lp_goF {d L : Nat} {xs : Nat → Int32} {I : Nat → Nat → Int32} {Q : Option Value → mj_H → Prop} {B : Nat → Nat} {tl : Nat} (hT : mTp I B tl) {cl s : Nat} {z : Int32} : ∀ (f k : Nat), tl - k = f → k ≤ tl → s ≤ k → (hE : ∀ G, mGf I G → G 127 8 = nI (tRn B tl 2 k) → G 127 9 = nI s → G 127 12 = z → G 127 11 = nI (tNum B s (min (tRn B tl 2 k - s) 4)) → mj_Ev (d + 1) 189 238 [.ref 127, .int (nI cl)] [] (mg_h L xs G) Q) → ∀ G, mGf I G → G 127 8 = nI k → G 127 9 = nI s → G 127 12 = z → G 127 11 = nI (tNum B s (min (k - s) 4)) → mj_Ev (d + 1) 189 170 [.ref 127, .int (nI cl)] [] (mg_h L xs G) Q := by
  have htl := hT.2.1
  intro f
  induction f with
  | zero =>
    intro k hfk hk hsk hE G hf h8 h9 h12 h11
    refine me_aload_n (p' := 171) k189_170 rfl rfl ?_
    refine me_aload_n (p' := 172) k189_171 rfl rfl ?_
    refine me_gfi (p' := 175) k189_172 rfl (by decide) rfl rfl ?_
    rw [h8]
    refine me_cv (p' := 178) k189_175 rfl rfl (by decide) rfl (by decide) (by decide) dp_191 rfl rfl (cl_le mx_191 rfl) (by decide) (cl_sum rfl) (ct_isFigure (hT.fr hf) (by omega) (fun e496 => ?_) (fun e496 => ?_))
    · skip
      refine me_if_eq (p' := 181) k189_178 rfl (fun h => absurd h (by decide)) (fun _ => ?_)
      exfalso
      have e9 := e496
      omega
    · skip
      refine me_if_eq (p' := 181) k189_178 rfl (fun _ => ?_) (fun h => absurd (by decide) h)
      have e9 := e496
      rw [tRn_0 e9] at hE
      exact hE G hf h8 h9 h12 h11
  | succ f ih =>
    intro k hfk hk hsk hE G hf h8 h9 h12 h11
    refine me_aload_n (p' := 171) k189_170 rfl rfl ?_
    refine me_aload_n (p' := 172) k189_171 rfl rfl ?_
    refine me_gfi (p' := 175) k189_172 rfl (by decide) rfl rfl ?_
    rw [h8]
    refine me_cv (p' := 178) k189_175 rfl rfl (by decide) rfl (by decide) (by decide) dp_191 rfl rfl (cl_le mx_191 rfl) (by decide) (cl_sum rfl) (ct_isFigure (hT.fr hf) (by omega) (fun e495 => ?_) (fun e495 => ?_))
    · skip
      refine me_if_eq (p' := 181) k189_178 rfl (fun h => absurd h (by decide)) (fun _ => ?_)
      have e9 := e495
      have hk9 := e9.1
      refine me_aload_n (p' := 182) k189_181 rfl rfl ?_
      refine me_aload_n (p' := 183) k189_182 rfl rfl ?_
      refine me_gfi (p' := 186) k189_183 rfl (by decide) rfl rfl ?_
      rw [h8]
      refine me_aload_n (p' := 187) k189_186 rfl rfl ?_
      refine me_gfi (p' := 190) k189_187 rfl (by decide) rfl rfl ?_
      rw [h9]
      refine me_isub (p' := 191) k189_190 rfl rfl ?_
      rw [mI_sub (by omega)]
      refine me_iconst (p' := 192) k189_191 rfl (v := nI 4) (by decide) ?_
      refine me_ic_ge (p' := 195) k189_192 rfl (fun c1 => ?_) (fun c1 => ?_)
      · skip
        rw [cI_le (a := 4) (b := k - s) (by omega) (by omega)] at c1
        refine me_aload_n (p' := 219) k189_218 rfl rfl ?_
        refine me_gfi (p' := 222) k189_219 rfl (by decide) rfl rfl ?_
        rw [h11, show min (k - s) 4 = min (k + 1 - s) 4 by omega]
        refine me_pfi (p' := 225) k189_222 rfl (by decide) rfl rfl rfl rfl ?_
        refine me_aload_n (p' := 226) k189_225 rfl rfl ?_
        refine me_dup (p' := 227) k189_226 rfl rfl ?_
        refine me_gfi (p' := 230) k189_227 rfl (by decide) rfl rfl ?_
        rw [(mg_une (by decide)).trans h8]
        refine me_iconst (p' := 231) k189_230 rfl (v := nI 1) (by decide) ?_
        refine me_iadd (p' := 232) k189_231 rfl (v := nI (k + 1)) (mI_add _ _) ?_
        refine me_pfi (p' := 235) k189_232 rfl (by decide) rfl rfl rfl rfl ?_
        refine me_goto k189_235 ?_
        have e9 := e495
        refine ih (k + 1) (by omega) (by omega) (by omega) ?_ _ ((hf.u (by omega)).u (by omega)) (by rw [mg_ueq]) ((mg_une (by decide)).trans ((mg_une (by decide)).trans h9)) ((mg_une (by decide)).trans ((mg_une (by decide)).trans h12)) ?_
        · rw [← tRn_1 e9.1 e9.2]
          exact hE
        · rw [mg_une (by decide), mg_ueq]
      · skip
        rw [cI_le (a := 4) (b := k - s) (by omega) (by omega)] at c1
        refine me_bipush (p' := 197) k189_195 rfl (v := nI 10) (by decide) ?_
        refine me_aload_n (p' := 198) k189_197 rfl rfl ?_
        refine me_gfi (p' := 201) k189_198 rfl (by decide) rfl rfl ?_
        rw [h11]
        refine me_imul (p' := 202) k189_201 rfl (v := nI (10 * (tNum B s (min (k - s) 4)))) (mI_mul _ _) ?_
        refine me_aload_n (p' := 203) k189_202 rfl rfl ?_
        refine me_gfr (p' := 206) k189_203 rfl (by decide) rfl (b := 132) rfl ?_
        refine me_aload_n (p' := 207) k189_206 rfl rfl ?_
        refine me_gfi (p' := 210) k189_207 rfl (by decide) rfl rfl ?_
        rw [h8]
        refine me_iald (p' := 211) k189_210 rfl (by decide) rfl (j := k) rfl (by omega) (by decide) rfl ?_
        rw [((hT.fr hf).2.2 k (by omega)).1]
        refine me_iadd (p' := 212) k189_211 rfl (v := nI ((10 * (tNum B s (min (k - s) 4))) + (B k))) (mI_add _ _) ?_
        refine me_bipush (p' := 214) k189_212 rfl (v := nI 48) (by decide) ?_
        refine me_isub (p' := 215) k189_214 rfl rfl ?_
        have hf9 := tSo_2 e495.2
        rw [mI_sub (by omega), show 10 * (tNum B s (min (k - s) 4)) + B k - 48 = tNum B s (min (k + 1 - s) 4) from by
          rw [show min (k + 1 - s) 4 = min (k - s) 4 + 1 by omega, show min (k - s) 4 = k - s by omega]
          show _ = 10 * tNum B s (k - s) + (B (s + (k - s)) - 48)
          rw [show s + (k - s) = k by omega]
          omega]
        refine me_goto k189_215 ?_
        refine me_pfi (p' := 225) k189_222 rfl (by decide) rfl rfl rfl rfl ?_
        refine me_aload_n (p' := 226) k189_225 rfl rfl ?_
        refine me_dup (p' := 227) k189_226 rfl rfl ?_
        refine me_gfi (p' := 230) k189_227 rfl (by decide) rfl rfl ?_
        rw [(mg_une (by decide)).trans h8]
        refine me_iconst (p' := 231) k189_230 rfl (v := nI 1) (by decide) ?_
        refine me_iadd (p' := 232) k189_231 rfl (v := nI (k + 1)) (mI_add _ _) ?_
        refine me_pfi (p' := 235) k189_232 rfl (by decide) rfl rfl rfl rfl ?_
        refine me_goto k189_235 ?_
        have e9 := e495
        refine ih (k + 1) (by omega) (by omega) (by omega) ?_ _ ((hf.u (by omega)).u (by omega)) (by rw [mg_ueq]) ((mg_une (by decide)).trans ((mg_une (by decide)).trans h9)) ((mg_une (by decide)).trans ((mg_une (by decide)).trans h12)) ?_
        · rw [← tRn_1 e9.1 e9.2]
          exact hE
        · rw [mg_une (by decide), mg_ueq]
    · skip
      refine me_if_eq (p' := 181) k189_178 rfl (fun _ => ?_) (fun h => absurd (by decide) h)
      have e9 := e495
      rw [tRn_0 e9] at hE
      exact hE G hf h8 h9 h12 h11
theorem lp_go38 {d L : Nat} {xs : Nat → Int32} {I : Nat → Nat → Int32} {Q : Option Value → mj_H → Prop} {B : Nat → Nat} {tl : Nat} (hT : mTp I B tl) {a s : Nat} {z : Int32} {w : Prop} [Decidable w] {G : Nat → Nat → Int32} (has : a ≤ s) (hs : s ≤ tl) (hsE : tSk B tl a = s) (hE : (w → z = nI a) ∧ (¬ w → ∀ q : Nat, a ≤ q → q ≤ 96 → z ≠ nI q)) (hf : mGf I G) (h8 : G 127 8 = nI s) (h12 : G 127 12 = z) (hQ : ∀ K, mGf I K → mTk K B (tk B tl a w) → Q none (mg_h L xs K)) (u1 : Value) : mj_Ev (d + 1) 189 38 [.ref 127, u1] [] (mg_h L xs G) Q := by
  have htl := hT.2.1
  refine me_aload_n (p' := 39) k189_38 rfl rfl ?_
  refine me_aload_n (p' := 40) k189_39 rfl rfl ?_
  refine me_gfi (p' := 43) k189_40 rfl (by decide) rfl rfl ?_
  rw [h8]
  refine me_pfi (p' := 46) k189_43 rfl (by decide) rfl rfl rfl rfl ?_
  refine me_aload_n (p' := 47) k189_46 rfl rfl ?_
  refine me_gfi (p' := 50) k189_47 rfl (by decide) rfl rfl ?_
  rw [mg_ueq]
  refine me_aload_n (p' := 51) k189_50 rfl rfl ?_
  refine me_gfi (p' := 54) k189_51 rfl (by decide) rfl rfl ?_
  rw [mg_une (by decide), h12]
  refine me_ic_ne (p' := 57) k189_54 rfl (fun c1 => ?_) (fun c1 => ?_)
  · skip
    refine me_iconst (p' := 58) k189_57 rfl (v := nI 1) (by decide) ?_
    refine me_goto k189_58 ?_
    have hcl : w ∧ s = a := by
      by_cases hw : w
      · have := hE.1 hw
        rw [this] at c1
        exact ⟨hw, (cI_eq (by omega) (by omega)).mp c1⟩
      · exact absurd c1.symm (hE.2 hw s (by omega) (by omega))
    refine me_istore_n (p' := 63) k189_62 rfl ⟨Nat.le_of_ble_eq_true rfl, rfl⟩ rfl ?_
    refine me_aload_n (p' := 64) k189_63 rfl rfl ?_
    refine me_gfi (p' := 67) k189_64 rfl (by decide) rfl rfl ?_
    rw [mg_ueq]
    refine me_aload_n (p' := 68) k189_67 rfl rfl ?_
    refine me_gfi (p' := 71) k189_68 rfl (by decide) rfl rfl ?_
    rw [(mg_une (by decide)).trans (hT.fr hf).1]
    refine me_ic_ne (p' := 74) k189_71 rfl (fun c2 => ?_) (fun c2 => ?_)
    · skip
      rw [cI_eq (a := s) (b := tl) (by omega) (by omega)] at c2
      refine me_aload_n (p' := 75) k189_74 rfl rfl ?_
      refine me_iconst (p' := 76) k189_75 rfl (v := nI 0) (by decide) ?_
      refine me_pfi (p' := 79) k189_76 rfl (by decide) rfl rfl rfl rfl ?_
      refine me_goto k189_79 ?_
      refine me_retv k189_303 rt_189 ?_
      refine hQ (mg_u (mg_u G 127 9 (nI s)) 127 10 (nI 0)) ((hf.u (by omega)).u (by omega)) ?_
      rw [show (tk B tl a w) = (0, s, s) from by unfold tk; rw [hsE, if_pos (by omega)]]
      exact ⟨by rw [mg_une (by decide), mg_une (by decide), h8], by rw [mg_une (by decide), mg_ueq], mg_ueq, fun z => (show False from by have hz9 : (0 : Nat) = 1 ∨ (0 : Nat) = 3 := z; omega).elim, fun z => (show False from by have hz9 : (0 : Nat) = 2 := z; omega).elim, fun z => (show False from by have hz9 : (0 : Nat) = 1 ∨ (0 : Nat) = 2 ∨ (0 : Nat) = 3 := z; omega).elim⟩
    · skip
      rw [cI_eq (a := s) (b := tl) (by omega) (by omega)] at c2
      refine me_aload_n (p' := 83) k189_82 rfl rfl ?_
      refine me_aload_n (p' := 84) k189_83 rfl rfl ?_
      refine me_gfi (p' := 87) k189_84 rfl (by decide) rfl rfl ?_
      rw [mg_ueq]
      refine me_cv (p' := 90) k189_87 rfl rfl (by decide) rfl (by decide) (by decide) dp_190 rfl rfl (cl_le mx_190 rfl) (by decide) (cl_sum rfl) (ct_isLetter (hT.fr (hf.u (by omega))) (by omega) (fun e497 => ?_) (fun e497 => ?_))
      · skip
        refine me_if_eq (p' := 93) k189_90 rfl (fun h => absurd h (by decide)) (fun _ => ?_)
        have es := e497
        have hrn := tRn_ge (B := B) (tl := tl) (s := 1) (tl - s) s rfl (by omega)
        have hr1 : tRn B tl 1 s = tRn B tl 1 (s + 1) := tRn_1 es.1 es.2
        refine lp_goL (I := I) (cl := 1) (s := s) (z := z) hT (tl - s) s rfl (by omega) (fun G2 hf2 h82 h92 h122 => ?_) _ (hf.u (by omega)) ((mg_une (by decide)).trans h8) mg_ueq ((mg_une (by decide)).trans h12)
        refine me_aload_n (p' := 118) k189_117 rfl rfl ?_
        refine me_iload_n (p' := 119) k189_118 rfl rfl ?_
        refine me_if_eq (p' := 122) k189_119 rfl (fun h => absurd h (by decide)) (fun _ => ?_)
        refine me_iconst (p' := 123) k189_122 rfl (v := nI 4) (by decide) ?_
        refine me_goto k189_123 ?_
        refine me_pfi (p' := 130) k189_127 rfl (by decide) rfl rfl rfl rfl ?_
        refine me_aload_n (p' := 131) k189_130 rfl rfl ?_
        refine me_aload_n (p' := 132) k189_131 rfl rfl ?_
        refine me_gfr (p' := 135) k189_132 rfl (by decide) rfl (b := 132) rfl ?_
        refine me_aload_n (p' := 136) k189_135 rfl rfl ?_
        refine me_gfi (p' := 139) k189_136 rfl (by decide) rfl rfl ?_
        rw [(mg_une (by decide)).trans h92]
        refine me_iald (p' := 140) k189_139 rfl (by decide) rfl (j := s) rfl (by omega) (by decide) rfl ?_
        rw [mg_un1 (by decide), ((hT.fr hf2).2.2 s es.1).1]
        refine me_pfi (p' := 143) k189_140 rfl (by decide) rfl rfl rfl rfl ?_
        refine me_aload_n (p' := 144) k189_143 rfl rfl ?_
        refine me_aload_n (p' := 145) k189_144 rfl rfl ?_
        refine me_gfi (p' := 148) k189_145 rfl (by decide) rfl rfl ?_
        rw [(mg_une (by decide)).trans ((mg_une (by decide)).trans h82)]
        refine me_pfi (p' := 151) k189_148 rfl (by decide) rfl rfl rfl rfl ?_
        refine me_goto k189_151 ?_
        refine me_retv k189_303 rt_189 ?_
        refine hQ _ (((hf2.u (by omega)).u (by omega)).u (by omega)) ?_
        rw [show (tk B tl a w) = (4, s, tRn B tl 1 s) from by unfold tk; rw [hsE, if_neg (by omega), if_neg (by omega), es.2, if_pos (Or.inl hcl), hr1]]
        exact ⟨by rw [mg_une (by decide), mg_une (by decide), mg_une (by decide), h82], by rw [mg_une (by decide), mg_une (by decide), mg_une (by decide), h92], by rw [mg_une (by decide), mg_une (by decide), mg_ueq], fun _ => by rw [mg_une (by decide), mg_ueq], fun z => (show False from by have hz9 : (4 : Nat) = 2 := z; omega).elim, fun z => (show False from by have hz9 : (4 : Nat) = 1 ∨ (4 : Nat) = 2 ∨ (4 : Nat) = 3 := z; omega).elim⟩
      · skip
        refine me_if_eq (p' := 93) k189_90 rfl (fun _ => ?_) (fun h => absurd (by decide) h)
        refine me_aload_n (p' := 155) k189_154 rfl rfl ?_
        refine me_aload_n (p' := 156) k189_155 rfl rfl ?_
        refine me_gfi (p' := 159) k189_156 rfl (by decide) rfl rfl ?_
        rw [mg_ueq]
        refine me_cv (p' := 162) k189_159 rfl rfl (by decide) rfl (by decide) (by decide) dp_191 rfl rfl (cl_le mx_191 rfl) (by decide) (cl_sum rfl) (ct_isFigure (hT.fr (hf.u (by omega))) (by omega) (fun e498 => ?_) (fun e498 => ?_))
        · skip
          refine me_if_eq (p' := 165) k189_162 rfl (fun h => absurd h (by decide)) (fun _ => ?_)
          refine me_aload_n (p' := 166) k189_165 rfl rfl ?_
          refine me_iconst (p' := 167) k189_166 rfl (v := nI 0) (by decide) ?_
          refine me_pfi (p' := 170) k189_167 rfl (by decide) rfl rfl rfl rfl ?_
          have es := e498
          have hrn := tRn_ge (B := B) (tl := tl) (s := 2) (tl - s) s rfl (by omega)
          have hr1 : tRn B tl 2 s = tRn B tl 2 (s + 1) := tRn_1 es.1 es.2
          refine lp_goF (I := I) (cl := 1) (s := s) (z := z) hT (tl - s) s rfl (by omega) (Nat.le_refl _) (fun G2 hf2 h82 h92 h122 h112 => ?_) _ ((hf.u (by omega)).u (by omega)) ((mg_une (by decide)).trans ((mg_une (by decide)).trans h8)) ((mg_une (by decide)).trans mg_ueq) ((mg_une (by decide)).trans ((mg_une (by decide)).trans h12)) (by rw [mg_ueq, Nat.sub_self]; rfl)
          refine me_aload_n (p' := 239) k189_238 rfl rfl ?_
          refine me_iload_n (p' := 240) k189_239 rfl rfl ?_
          refine me_if_ne (p' := 243) k189_240 rfl (fun h => absurd h (by decide)) (fun _ => ?_)
          refine me_iconst (p' := 257) k189_256 rfl (v := nI 4) (by decide) ?_
          refine me_goto k189_257 ?_
          refine me_pfi (p' := 264) k189_261 rfl (by decide) rfl rfl rfl rfl ?_
          refine me_aload_n (p' := 265) k189_264 rfl rfl ?_
          refine me_aload_n (p' := 266) k189_265 rfl rfl ?_
          refine me_gfi (p' := 269) k189_266 rfl (by decide) rfl rfl ?_
          rw [(mg_une (by decide)).trans h82]
          refine me_pfi (p' := 272) k189_269 rfl (by decide) rfl rfl rfl rfl ?_
          refine me_goto k189_272 ?_
          refine me_retv k189_303 rt_189 ?_
          refine hQ _ ((hf2.u (by omega)).u (by omega)) ?_
          rw [show (tk B tl a w) = (4, s, tRn B tl 2 s) from by unfold tk; rw [hsE, if_neg (by omega), if_neg (by omega), es.2, ← hr1, if_pos (Or.inl hcl)]]
          exact ⟨by rw [mg_une (by decide), mg_une (by decide), h82], by rw [mg_une (by decide), mg_une (by decide), h92], by rw [mg_une (by decide), mg_ueq], fun z => (show False from by have hz9 : (4 : Nat) = 1 ∨ (4 : Nat) = 3 := z; omega).elim, fun z => (show False from by have hz9 : (4 : Nat) = 2 := z; omega).elim, fun z => (show False from by have hz9 : (4 : Nat) = 1 ∨ (4 : Nat) = 2 ∨ (4 : Nat) = 3 := z; omega).elim⟩
        · skip
          refine me_if_eq (p' := 165) k189_162 rfl (fun _ => ?_) (fun h => absurd (by decide) h)
          refine me_aload_n (p' := 276) k189_275 rfl rfl ?_
          refine me_iconst (p' := 277) k189_276 rfl (v := nI 3) (by decide) ?_
          refine me_pfi (p' := 280) k189_277 rfl (by decide) rfl rfl rfl rfl ?_
          refine me_aload_n (p' := 281) k189_280 rfl rfl ?_
          refine me_aload_n (p' := 282) k189_281 rfl rfl ?_
          refine me_gfr (p' := 285) k189_282 rfl (by decide) rfl (b := 132) rfl ?_
          refine me_aload_n (p' := 286) k189_285 rfl rfl ?_
          refine me_gfi (p' := 289) k189_286 rfl (by decide) rfl rfl ?_
          rw [(mg_une (by decide)).trans mg_ueq]
          refine me_iald (p' := 290) k189_289 rfl (by decide) rfl (j := s) rfl (by omega) (by decide) rfl ?_
          rw [mg_un1 (by decide), mg_un1 (by decide), ((hT.fr hf).2.2 s (by omega)).1]
          refine me_pfi (p' := 293) k189_290 rfl (by decide) rfl rfl rfl rfl ?_
          refine me_aload_n (p' := 294) k189_293 rfl rfl ?_
          refine me_dup (p' := 295) k189_294 rfl rfl ?_
          refine me_gfi (p' := 298) k189_295 rfl (by decide) rfl rfl ?_
          rw [(mg_une (by decide)).trans ((mg_une (by decide)).trans ((mg_une (by decide)).trans h8))]
          refine me_iconst (p' := 299) k189_298 rfl (v := nI 1) (by decide) ?_
          refine me_iadd (p' := 300) k189_299 rfl (v := nI (s + 1)) (mI_add _ _) ?_
          refine me_pfi (p' := 303) k189_300 rfl (by decide) rfl rfl rfl rfl ?_
          refine me_retv k189_303 rt_189 ?_
          have hso := tSo_r (B s)
          have h3 : tSo (B s) = 3 := by
            have q1 : ¬ tSo (B s) = 1 := fun z => e497 ⟨by omega, z⟩
            have q2 : ¬ tSo (B s) = 2 := fun z => e498 ⟨by omega, z⟩
            omega
          refine hQ (mg_u (mg_u (mg_u (mg_u G 127 9 (nI s)) 127 10 (nI 3)) 127 11 (nI (B s))) 127 8 (nI (s + 1))) (((((hf.u (by omega)).u (by omega)).u (by omega)).u (by omega))) ?_
          rw [show (tk B tl a w) = (3, s, s + 1) from by unfold tk; rw [hsE, if_neg (by omega), if_pos h3]]
          refine ⟨mg_ueq, by rw [mg_une (by decide), mg_une (by decide), mg_une (by decide), mg_ueq], by rw [mg_une (by decide), mg_une (by decide), mg_ueq], fun _ => by rw [mg_une (by decide), mg_ueq], fun z => (show False from by have hz9 : (3 : Nat) = 2 := z; omega).elim, fun _ => ⟨fun z => (show False from by have hz9 : (3 : Nat) = 1 ∨ (3 : Nat) = 2 := z; omega).elim, fun _ q hq1 hq2 => ?_⟩⟩
          rw [mg_une (by decide), mg_une (by decide), mg_une (by decide), mg_une (by decide), h12]
          intro hz
          by_cases hw : w
          · have := hE.1 hw
            rw [this] at hz
            have := (cI_eq (by omega) (by omega)).mp hz
            have : s + 1 ≤ q := hq1
            omega
          · exact hE.2 hw q (by have : s + 1 ≤ q := hq1; omega) hq2 hz
  · skip
    refine me_iconst (p' := 62) k189_61 rfl (v := nI 0) (by decide) ?_
    have hcl : ¬ (w ∧ s = a) := fun z => by
      have := hE.1 z.1
      rw [this, z.2] at c1
      exact c1 rfl
    refine me_istore_n (p' := 63) k189_62 rfl ⟨Nat.le_of_ble_eq_true rfl, rfl⟩ rfl ?_
    refine me_aload_n (p' := 64) k189_63 rfl rfl ?_
    refine me_gfi (p' := 67) k189_64 rfl (by decide) rfl rfl ?_
    rw [mg_ueq]
    refine me_aload_n (p' := 68) k189_67 rfl rfl ?_
    refine me_gfi (p' := 71) k189_68 rfl (by decide) rfl rfl ?_
    rw [(mg_une (by decide)).trans (hT.fr hf).1]
    refine me_ic_ne (p' := 74) k189_71 rfl (fun c3 => ?_) (fun c3 => ?_)
    · skip
      rw [cI_eq (a := s) (b := tl) (by omega) (by omega)] at c3
      refine me_aload_n (p' := 75) k189_74 rfl rfl ?_
      refine me_iconst (p' := 76) k189_75 rfl (v := nI 0) (by decide) ?_
      refine me_pfi (p' := 79) k189_76 rfl (by decide) rfl rfl rfl rfl ?_
      refine me_goto k189_79 ?_
      refine me_retv k189_303 rt_189 ?_
      refine hQ (mg_u (mg_u G 127 9 (nI s)) 127 10 (nI 0)) ((hf.u (by omega)).u (by omega)) ?_
      rw [show (tk B tl a w) = (0, s, s) from by unfold tk; rw [hsE, if_pos (by omega)]]
      exact ⟨by rw [mg_une (by decide), mg_une (by decide), h8], by rw [mg_une (by decide), mg_ueq], mg_ueq, fun z => (show False from by have hz9 : (0 : Nat) = 1 ∨ (0 : Nat) = 3 := z; omega).elim, fun z => (show False from by have hz9 : (0 : Nat) = 2 := z; omega).elim, fun z => (show False from by have hz9 : (0 : Nat) = 1 ∨ (0 : Nat) = 2 ∨ (0 : Nat) = 3 := z; omega).elim⟩
    · skip
      rw [cI_eq (a := s) (b := tl) (by omega) (by omega)] at c3
      refine me_aload_n (p' := 83) k189_82 rfl rfl ?_
      refine me_aload_n (p' := 84) k189_83 rfl rfl ?_
      refine me_gfi (p' := 87) k189_84 rfl (by decide) rfl rfl ?_
      rw [mg_ueq]
      refine me_cv (p' := 90) k189_87 rfl rfl (by decide) rfl (by decide) (by decide) dp_190 rfl rfl (cl_le mx_190 rfl) (by decide) (cl_sum rfl) (ct_isLetter (hT.fr (hf.u (by omega))) (by omega) (fun e499 => ?_) (fun e499 => ?_))
      · skip
        refine me_if_eq (p' := 93) k189_90 rfl (fun h => absurd h (by decide)) (fun _ => ?_)
        have es := e499
        have hrn := tRn_ge (B := B) (tl := tl) (s := 1) (tl - s) s rfl (by omega)
        have hr1 : tRn B tl 1 s = tRn B tl 1 (s + 1) := tRn_1 es.1 es.2
        refine lp_goL (I := I) (cl := 0) (s := s) (z := z) hT (tl - s) s rfl (by omega) (fun G2 hf2 h82 h92 h122 => ?_) _ (hf.u (by omega)) ((mg_une (by decide)).trans h8) mg_ueq ((mg_une (by decide)).trans h12)
        refine me_aload_n (p' := 118) k189_117 rfl rfl ?_
        refine me_iload_n (p' := 119) k189_118 rfl rfl ?_
        refine me_if_eq (p' := 122) k189_119 rfl (fun _ => ?_) (fun h => absurd (by decide) h)
        refine me_iconst (p' := 127) k189_126 rfl (v := nI 1) (by decide) ?_
        refine me_pfi (p' := 130) k189_127 rfl (by decide) rfl rfl rfl rfl ?_
        refine me_aload_n (p' := 131) k189_130 rfl rfl ?_
        refine me_aload_n (p' := 132) k189_131 rfl rfl ?_
        refine me_gfr (p' := 135) k189_132 rfl (by decide) rfl (b := 132) rfl ?_
        refine me_aload_n (p' := 136) k189_135 rfl rfl ?_
        refine me_gfi (p' := 139) k189_136 rfl (by decide) rfl rfl ?_
        rw [(mg_une (by decide)).trans h92]
        refine me_iald (p' := 140) k189_139 rfl (by decide) rfl (j := s) rfl (by omega) (by decide) rfl ?_
        rw [mg_un1 (by decide), ((hT.fr hf2).2.2 s es.1).1]
        refine me_pfi (p' := 143) k189_140 rfl (by decide) rfl rfl rfl rfl ?_
        refine me_aload_n (p' := 144) k189_143 rfl rfl ?_
        refine me_aload_n (p' := 145) k189_144 rfl rfl ?_
        refine me_gfi (p' := 148) k189_145 rfl (by decide) rfl rfl ?_
        rw [(mg_une (by decide)).trans ((mg_une (by decide)).trans h82)]
        refine me_pfi (p' := 151) k189_148 rfl (by decide) rfl rfl rfl rfl ?_
        refine me_goto k189_151 ?_
        refine me_retv k189_303 rt_189 ?_
        refine hQ _ (((hf2.u (by omega)).u (by omega)).u (by omega)) ?_
        rw [show (tk B tl a w) = (1, s, tRn B tl 1 s) from by unfold tk; rw [hsE, if_neg (by omega), if_neg (by omega), es.2, if_neg (fun z => z.elim hcl (fun y => absurd y.1 (by decide))), hr1]]
        exact ⟨by rw [mg_une (by decide), mg_une (by decide), mg_une (by decide), h82], by rw [mg_une (by decide), mg_une (by decide), mg_une (by decide), h92], by rw [mg_une (by decide), mg_une (by decide), mg_ueq], fun _ => by rw [mg_une (by decide), mg_ueq], fun z => (show False from by have hz9 : (1 : Nat) = 2 := z; omega).elim, fun z => ⟨fun _ => mg_ueq, fun z => absurd (Or.inl rfl) z⟩⟩
      · skip
        refine me_if_eq (p' := 93) k189_90 rfl (fun _ => ?_) (fun h => absurd (by decide) h)
        refine me_aload_n (p' := 155) k189_154 rfl rfl ?_
        refine me_aload_n (p' := 156) k189_155 rfl rfl ?_
        refine me_gfi (p' := 159) k189_156 rfl (by decide) rfl rfl ?_
        rw [mg_ueq]
        refine me_cv (p' := 162) k189_159 rfl rfl (by decide) rfl (by decide) (by decide) dp_191 rfl rfl (cl_le mx_191 rfl) (by decide) (cl_sum rfl) (ct_isFigure (hT.fr (hf.u (by omega))) (by omega) (fun e500 => ?_) (fun e500 => ?_))
        · skip
          refine me_if_eq (p' := 165) k189_162 rfl (fun h => absurd h (by decide)) (fun _ => ?_)
          refine me_aload_n (p' := 166) k189_165 rfl rfl ?_
          refine me_iconst (p' := 167) k189_166 rfl (v := nI 0) (by decide) ?_
          refine me_pfi (p' := 170) k189_167 rfl (by decide) rfl rfl rfl rfl ?_
          have es := e500
          have hrn := tRn_ge (B := B) (tl := tl) (s := 2) (tl - s) s rfl (by omega)
          have hr1 : tRn B tl 2 s = tRn B tl 2 (s + 1) := tRn_1 es.1 es.2
          refine lp_goF (I := I) (cl := 0) (s := s) (z := z) hT (tl - s) s rfl (by omega) (Nat.le_refl _) (fun G2 hf2 h82 h92 h122 h112 => ?_) _ ((hf.u (by omega)).u (by omega)) ((mg_une (by decide)).trans ((mg_une (by decide)).trans h8)) ((mg_une (by decide)).trans mg_ueq) ((mg_une (by decide)).trans ((mg_une (by decide)).trans h12)) (by rw [mg_ueq, Nat.sub_self]; rfl)
          refine me_aload_n (p' := 239) k189_238 rfl rfl ?_
          refine me_iload_n (p' := 240) k189_239 rfl rfl ?_
          refine me_if_ne (p' := 243) k189_240 rfl (fun _ => ?_) (fun h => absurd (by decide) h)
          refine me_aload_n (p' := 244) k189_243 rfl rfl ?_
          refine me_gfi (p' := 247) k189_244 rfl (by decide) rfl rfl ?_
          rw [h82]
          refine me_aload_n (p' := 248) k189_247 rfl rfl ?_
          refine me_gfi (p' := 251) k189_248 rfl (by decide) rfl rfl ?_
          rw [h92]
          refine me_isub (p' := 252) k189_251 rfl rfl ?_
          rw [mI_sub (by omega)]
          refine me_iconst (p' := 253) k189_252 rfl (v := nI 4) (by decide) ?_
          refine me_ic_le (p' := 256) k189_253 rfl (fun c1 => ?_) (fun c1 => ?_)
          · skip
            rw [cI_le (a := tRn B tl 2 s - s) (b := 4) (by omega) (by omega)] at c1
            refine me_iconst (p' := 261) k189_260 rfl (v := nI 2) (by decide) ?_
            refine me_pfi (p' := 264) k189_261 rfl (by decide) rfl rfl rfl rfl ?_
            refine me_aload_n (p' := 265) k189_264 rfl rfl ?_
            refine me_aload_n (p' := 266) k189_265 rfl rfl ?_
            refine me_gfi (p' := 269) k189_266 rfl (by decide) rfl rfl ?_
            rw [(mg_une (by decide)).trans h82]
            refine me_pfi (p' := 272) k189_269 rfl (by decide) rfl rfl rfl rfl ?_
            refine me_goto k189_272 ?_
            refine me_retv k189_303 rt_189 ?_
            refine hQ _ ((hf2.u (by omega)).u (by omega)) ?_
            rw [show (tk B tl a w) = (2, s, tRn B tl 2 s) from by unfold tk; rw [hsE, if_neg (by omega), if_neg (by omega), es.2, ← hr1, if_neg (fun z => z.elim hcl (fun y => by omega))]]
            exact ⟨by rw [mg_une (by decide), mg_une (by decide), h82], by rw [mg_une (by decide), mg_une (by decide), h92], by rw [mg_une (by decide), mg_ueq], fun z => (show False from by have hz9 : (2 : Nat) = 1 ∨ (2 : Nat) = 3 := z; omega).elim, fun z => by rw [mg_une (by decide), mg_une (by decide), h112, show min (tRn B tl 2 s - s) 4 = tRn B tl 2 s - s by omega], fun z => ⟨fun _ => mg_ueq, fun z => absurd (Or.inr rfl) z⟩⟩
          · skip
            rw [cI_le (a := tRn B tl 2 s - s) (b := 4) (by omega) (by omega)] at c1
            refine me_iconst (p' := 257) k189_256 rfl (v := nI 4) (by decide) ?_
            refine me_goto k189_257 ?_
            refine me_pfi (p' := 264) k189_261 rfl (by decide) rfl rfl rfl rfl ?_
            refine me_aload_n (p' := 265) k189_264 rfl rfl ?_
            refine me_aload_n (p' := 266) k189_265 rfl rfl ?_
            refine me_gfi (p' := 269) k189_266 rfl (by decide) rfl rfl ?_
            rw [(mg_une (by decide)).trans h82]
            refine me_pfi (p' := 272) k189_269 rfl (by decide) rfl rfl rfl rfl ?_
            refine me_goto k189_272 ?_
            refine me_retv k189_303 rt_189 ?_
            refine hQ _ ((hf2.u (by omega)).u (by omega)) ?_
            rw [show (tk B tl a w) = (4, s, tRn B tl 2 s) from by unfold tk; rw [hsE, if_neg (by omega), if_neg (by omega), es.2, ← hr1, if_pos (Or.inr ⟨rfl, by omega⟩)]]
            exact ⟨by rw [mg_une (by decide), mg_une (by decide), h82], by rw [mg_une (by decide), mg_une (by decide), h92], by rw [mg_une (by decide), mg_ueq], fun z => (show False from by have hz9 : (4 : Nat) = 1 ∨ (4 : Nat) = 3 := z; omega).elim, fun z => (show False from by have hz9 : (4 : Nat) = 2 := z; omega).elim, fun z => (show False from by have hz9 : (4 : Nat) = 1 ∨ (4 : Nat) = 2 ∨ (4 : Nat) = 3 := z; omega).elim⟩
        · skip
          refine me_if_eq (p' := 165) k189_162 rfl (fun _ => ?_) (fun h => absurd (by decide) h)
          refine me_aload_n (p' := 276) k189_275 rfl rfl ?_
          refine me_iconst (p' := 277) k189_276 rfl (v := nI 3) (by decide) ?_
          refine me_pfi (p' := 280) k189_277 rfl (by decide) rfl rfl rfl rfl ?_
          refine me_aload_n (p' := 281) k189_280 rfl rfl ?_
          refine me_aload_n (p' := 282) k189_281 rfl rfl ?_
          refine me_gfr (p' := 285) k189_282 rfl (by decide) rfl (b := 132) rfl ?_
          refine me_aload_n (p' := 286) k189_285 rfl rfl ?_
          refine me_gfi (p' := 289) k189_286 rfl (by decide) rfl rfl ?_
          rw [(mg_une (by decide)).trans mg_ueq]
          refine me_iald (p' := 290) k189_289 rfl (by decide) rfl (j := s) rfl (by omega) (by decide) rfl ?_
          rw [mg_un1 (by decide), mg_un1 (by decide), ((hT.fr hf).2.2 s (by omega)).1]
          refine me_pfi (p' := 293) k189_290 rfl (by decide) rfl rfl rfl rfl ?_
          refine me_aload_n (p' := 294) k189_293 rfl rfl ?_
          refine me_dup (p' := 295) k189_294 rfl rfl ?_
          refine me_gfi (p' := 298) k189_295 rfl (by decide) rfl rfl ?_
          rw [(mg_une (by decide)).trans ((mg_une (by decide)).trans ((mg_une (by decide)).trans h8))]
          refine me_iconst (p' := 299) k189_298 rfl (v := nI 1) (by decide) ?_
          refine me_iadd (p' := 300) k189_299 rfl (v := nI (s + 1)) (mI_add _ _) ?_
          refine me_pfi (p' := 303) k189_300 rfl (by decide) rfl rfl rfl rfl ?_
          refine me_retv k189_303 rt_189 ?_
          have hso := tSo_r (B s)
          have h3 : tSo (B s) = 3 := by
            have q1 : ¬ tSo (B s) = 1 := fun z => e499 ⟨by omega, z⟩
            have q2 : ¬ tSo (B s) = 2 := fun z => e500 ⟨by omega, z⟩
            omega
          refine hQ (mg_u (mg_u (mg_u (mg_u G 127 9 (nI s)) 127 10 (nI 3)) 127 11 (nI (B s))) 127 8 (nI (s + 1))) (((((hf.u (by omega)).u (by omega)).u (by omega)).u (by omega))) ?_
          rw [show (tk B tl a w) = (3, s, s + 1) from by unfold tk; rw [hsE, if_neg (by omega), if_pos h3]]
          refine ⟨mg_ueq, by rw [mg_une (by decide), mg_une (by decide), mg_une (by decide), mg_ueq], by rw [mg_une (by decide), mg_une (by decide), mg_ueq], fun _ => by rw [mg_une (by decide), mg_ueq], fun z => (show False from by have hz9 : (3 : Nat) = 2 := z; omega).elim, fun _ => ⟨fun z => (show False from by have hz9 : (3 : Nat) = 1 ∨ (3 : Nat) = 2 := z; omega).elim, fun _ q hq1 hq2 => ?_⟩⟩
          rw [mg_une (by decide), mg_une (by decide), mg_une (by decide), mg_une (by decide), h12]
          intro hz
          by_cases hw : w
          · have := hE.1 hw
            rw [this] at hz
            have := (cI_eq (by omega) (by omega)).mp hz
            have : s + 1 ≤ q := hq1
            omega
          · exact hE.2 hw q (by have : s + 1 ≤ q := hq1; omega) hq2 hz
theorem lp_go0 {d L : Nat} {xs : Nat → Int32} {I : Nat → Nat → Int32} {Q : Option Value → mj_H → Prop} {B : Nat → Nat} {tl : Nat} (hT : mTp I B tl) {z : Int32} (u1 : Value) : ∀ (f k : Nat), tl - k = f → k ≤ tl → (hE : ∀ G, mGf I G → G 127 8 = nI (tSk B tl k) → G 127 12 = z → mj_Ev (d + 1) 189 38 [.ref 127, u1] [] (mg_h L xs G) Q) → ∀ G, mGf I G → G 127 8 = nI k → G 127 12 = z → mj_Ev (d + 1) 189 0 [.ref 127, u1] [] (mg_h L xs G) Q := by
  have htl := hT.2.1
  intro f
  induction f with
  | zero =>
    intro k hfk hk hE G hf h8 h12
    refine me_aload_n (p' := 1) k189_0 rfl rfl ?_
    refine me_gfi (p' := 4) k189_1 rfl (by decide) rfl rfl ?_
    rw [h8]
    refine me_aload_n (p' := 5) k189_4 rfl rfl ?_
    refine me_gfi (p' := 8) k189_5 rfl (by decide) rfl rfl ?_
    rw [(hT.fr hf).1]
    refine me_ic_ge (p' := 11) k189_8 rfl (fun c1 => ?_) (fun c1 => ?_)
    · skip
      rw [cI_le (a := tl) (b := k) (by omega) (by omega)] at c1
      rw [tSk_0 (by omega)] at hE
      exact hE G hf h8 h12
    · skip
      rw [cI_le (a := tl) (b := k) (by omega) (by omega)] at c1
      exfalso
      omega
  | succ f ih =>
    intro k hfk hk hE G hf h8 h12
    refine me_aload_n (p' := 1) k189_0 rfl rfl ?_
    refine me_gfi (p' := 4) k189_1 rfl (by decide) rfl rfl ?_
    rw [h8]
    refine me_aload_n (p' := 5) k189_4 rfl rfl ?_
    refine me_gfi (p' := 8) k189_5 rfl (by decide) rfl rfl ?_
    rw [(hT.fr hf).1]
    refine me_ic_ge (p' := 11) k189_8 rfl (fun c1 => ?_) (fun c1 => ?_)
    · skip
      rw [cI_le (a := tl) (b := k) (by omega) (by omega)] at c1
      rw [tSk_0 (by omega)] at hE
      exact hE G hf h8 h12
    · skip
      rw [cI_le (a := tl) (b := k) (by omega) (by omega)] at c1
      refine me_aload_n (p' := 12) k189_11 rfl rfl ?_
      refine me_gfr (p' := 15) k189_12 rfl (by decide) rfl (b := 132) rfl ?_
      refine me_aload_n (p' := 16) k189_15 rfl rfl ?_
      refine me_gfi (p' := 19) k189_16 rfl (by decide) rfl rfl ?_
      rw [h8]
      refine me_iald (p' := 20) k189_19 rfl (by decide) rfl (j := k) rfl (by omega) (by decide) rfl ?_
      rw [((hT.fr hf).2.2 k (by omega)).1]
      have hB9 := (hT.2.2 k (by omega)).2
      refine me_bipush (p' := 22) k189_20 rfl (v := nI 32) (by decide) ?_
      refine me_ic_ne (p' := 25) k189_22 rfl (fun c2 => ?_) (fun c2 => ?_)
      · skip
        rw [cI_eq (a := B k) (b := 32) (by omega) (by omega)] at c2
        refine me_aload_n (p' := 26) k189_25 rfl rfl ?_
        refine me_dup (p' := 27) k189_26 rfl rfl ?_
        refine me_gfi (p' := 30) k189_27 rfl (by decide) rfl rfl ?_
        rw [h8]
        refine me_iconst (p' := 31) k189_30 rfl (v := nI 1) (by decide) ?_
        refine me_iadd (p' := 32) k189_31 rfl (v := nI (k + 1)) (mI_add _ _) ?_
        refine me_pfi (p' := 35) k189_32 rfl (by decide) rfl rfl rfl rfl ?_
        refine me_goto k189_35 ?_
        have e9 := c2
        refine ih (k + 1) (by omega) (by omega) ?_ _ (hf.u (by omega)) mg_ueq ((mg_une (by decide)).trans h12)
        rw [tSk_1 (by omega) e9] at hE
        exact hE
      · skip
        rw [cI_eq (a := B k) (b := 32) (by omega) (by omega)] at c2
        rw [tSk_0 (by omega)] at hE
        exact hE G hf h8 h12
theorem ct_go {d L : Nat} {xs : Nat → Int32} {I : Nat → Nat → Int32} {Q : Option Value → mj_H → Prop} {B : Nat → Nat} {tl : Nat} (hT : mTp I B tl) {a : Nat} {w : Prop} [Decidable w] (ha : a ≤ tl) (h8 : I 127 8 = nI a) (hE : mEd I a w) (hQ : ∀ K, mGf I K → mTk K B (tk B tl a w) → Q none (mg_h L xs K)) : mj_Cl (d + 1) 189 [.ref 127] (mg_h L xs I) Q := by
  have hge := tSk_ge (B := B) (tl - a) a rfl ha
  refine cl_start mx_189 (ls := [.ref 127, mj_no]) rfl ?_
  exact lp_go0 (I := I) (z := I 127 12) hT _ (tl - a) a rfl ha (fun G hf h8G h12G => lp_go38 hT hge.1 hge.2 rfl hE hf h8G h12G hQ _) I mGf.rf h8 rfl
