/-! ===== the class: words and signs off THE TAPE ===== -/
theorem me_slen {d y pc p' i c : Nat} {ls r : List Value} {h : mj_H} {Q : Option Value → mj_H → Prop} {v : Int32} (hl : mj_look (mj_prog y) pc = some (.invokevirtual i, 3, 3002, 0)) (hp : pc + 3 = p') (hc : c < 14) (hr : mj_sum r ≤ 8) (hv : Int32.ofNat (mj_txt.getD c []).length = v) (k : mj_Ev d y p' ls (.int v :: r) h Q) : mj_Ev d y pc ls (.ref (mj_X + 1 + c) :: r) h Q := by
  subst hp; subst hv
  refine me_ofx hl rfl rfl rfl ?_ k
  simp only [mj_sx]
  rw [if_pos ⟨trivial, by show 1000000 < 1000000 + 1 + c; omega, by show 1000000 + 1 + c < 1000000 + 15; omega, hr⟩]
  unfold mj_tx
  rw [show mj_X + 1 + c - (mj_X + 1) = c by omega]
theorem me_scat {d y pc p' i c j : Nat} {ls r : List Value} {h : mj_H} {Q : Option Value → mj_H → Prop} (hl : mj_look (mj_prog y) pc = some (.invokevirtual i, 3, 3003, 1)) (hp : pc + 3 = p') (hc : c < 14) (hj : j < (mj_txt.getD c []).length) (hr : mj_sum r ≤ 8) (k : mj_Ev d y p' ls (.int (nI ((mj_txt.getD c []).getD j 0)) :: r) h Q) : mj_Ev d y pc ls (.int (nI j) :: .ref (mj_X + 1 + c) :: r) h Q := by
  subst hp
  have hl4 : (mj_txt.getD c []).length ≤ 4 := by
    have : ∀ c : Nat, c < 14 → (mj_txt.getD c []).length ≤ 4 := by decide
    exact this c hc
  refine me_ofx hl rfl rfl rfl ?_ k
  simp only [mj_sx]
  have e : mj_tx (mj_X + 1 + c) = mj_txt.getD c [] := by
    unfold mj_tx
    rw [show mj_X + 1 + c - (mj_X + 1) = c by omega]
  rw [e, if_pos ⟨trivial, by show 1000000 < 1000000 + 1 + c; omega, by show 1000000 + 1 + c < 1000000 + 15; omega, me_inI hj (by omega), hr⟩, nI_clamp (by omega)]
  rfl
theorem me_sidx {d y pc p' i c : Nat} {ls r : List Value} {h : mj_H} {Q : Option Value → mj_H → Prop} {x : Int32} (hl : mj_look (mj_prog y) pc = some (.invokevirtual i, 3, 3004, 1)) (hp : pc + 3 = p') (hc : c < 14) (hr : mj_sum r ≤ 8) (k : mj_Ev d y p' ls (.int (mj_find x (mj_txt.getD c []) 0) :: r) h Q) : mj_Ev d y pc ls (.int x :: .ref (mj_X + 1 + c) :: r) h Q := by
  subst hp
  refine me_ofx hl rfl rfl rfl ?_ k
  simp only [mj_sx]
  have e : mj_tx (mj_X + 1 + c) = mj_txt.getD c [] := by
    unfold mj_tx
    rw [show mj_X + 1 + c - (mj_X + 1) = c by omega]
  rw [e, if_neg (fun z => absurd z.1 (by decide)), if_pos ⟨trivial, by show 1000000 < 1000000 + 1 + c; omega, by show 1000000 + 1 + c < 1000000 + 15; omega, hr⟩]
theorem tif_cg {p q : Prop} [Decidable p] [Decidable q] {a b : Nat} (h : p ↔ q) : (if p then a else b) = if q then a else b := by
  by_cases hp : p
  · rw [if_pos hp, if_pos (h.mp hp)]
  · rw [if_neg hp, if_neg (fun z => hp (h.mpr z))]
theorem mI_i2c {b : Nat} (h : b < 65536) : (Int32.toUInt32 (nI b) % 65536).toInt32 = nI b := by
  apply Int32.toInt_inj.mp
  have e : (Int32.toUInt32 (nI b) % 65536).toInt32 = Int32.ofNat b := by
    show (UInt32.ofNat b % 65536).toInt32 = _
    have : UInt32.ofNat b % 65536 = UInt32.ofNat b := by
      apply UInt32.toNat_inj.mp
      rw [UInt32.toNat_mod]
      show (b % 2 ^ 32) % 65536 = b % 2 ^ 32
      omega
    rw [this]
    rfl
  rw [e]
  rfl
def cTp (I : Nat → Nat → Int32) (B : Nat → Nat) (tl : Nat) : Prop := I 9 1 = nI tl ∧ tl ≤ 96 ∧ ∀ k : Nat, k < tl → I 10 k = nI (B k) ∧ B k < 256
def cTk (I : Nat → Nat → Int32) (t : Nat × Nat × Nat) : Prop := I 9 2 = nI t.2.1 ∧ I 9 3 = nI t.2.2 ∧ I 9 4 = nI t.1
/-- THE TAPE alone is read on -/
def cFr (I J : Nat → Nat → Int32) : Prop := mFr [9] I J ∧ ∀ k : Nat, k ≠ 2 → k ≠ 3 → k ≠ 4 → J 9 k = I 9 k
theorem cFr.rf {I : Nat → Nat → Int32} : cFr I I := ⟨mFr.rf, fun _ _ _ _ => rfl⟩
theorem cFr.tr {I J K : Nat → Nat → Int32} (h : cFr I J) (h2 : cFr J K) : cFr I K := ⟨h.1.tr h2.1, fun k a b c => (h2.2 k a b c).trans (h.2 k a b c)⟩
theorem cFr.u {I J : Nat → Nat → Int32} {k : Nat} {v : Int32} (h : cFr I J) (hk : k = 2 ∨ k = 3 ∨ k = 4) : cFr I (mg_u J 9 k v) := ⟨h.1.tr (mFr.up (by decide)), fun q a b c => (mg_une (by omega)).trans (h.2 q a b c)⟩
theorem cTp.fr {I J : Nat → Nat → Int32} {B : Nat → Nat} {tl : Nat} (h : cTp I B tl) (hf : cFr I J) : cTp J B tl := ⟨(hf.2 1 (by decide) (by decide) (by decide)).trans h.1, h.2.1, fun k hk => ⟨(hf.1 10 k (by decide)).trans (h.2.2 k hk).1, (h.2.2 k hk).2⟩⟩
theorem ct_sortOf {d L : Nat} {xs : Nat → Int32} {I : Nat → Nat → Int32} {Q : Option Value → mj_H → Prop} {b : Nat} (hb : b < 256) (hQ : Q (some (.int (nI (tSo b)))) (mg_h L xs I)) : mj_Cl d 96 [.int (nI b)] (mg_h L xs I) Q := by
  refine cl_start mx_96 (ls := [.int (nI b)]) rfl ?_
  refine me_iload_n (p' := 1) k96_0 rfl rfl ?_
  refine me_bipush (p' := 3) k96_1 rfl (v := nI 97) (by decide) ?_
  refine me_ic_lt (p' := 6) k96_3 rfl (fun c1 => ?_) (fun c1 => ?_)
  · skip
    rw [cI_lt (a := b) (b := 97) (by omega) (by omega)] at c1
    refine me_iload_n (p' := 15) k96_14 rfl rfl ?_
    refine me_bipush (p' := 17) k96_15 rfl (v := nI 48) (by decide) ?_
    refine me_ic_lt (p' := 20) k96_17 rfl (fun c2 => ?_) (fun c2 => ?_)
    · skip
      rw [cI_lt (a := b) (b := 48) (by omega) (by omega)] at c2
      refine me_iconst (p' := 31) k96_30 rfl (v := nI 3) (by decide) ?_
      refine me_reti k96_31 rt_96 rfl ?_
      rw [show tSo b = 3 from by unfold tSo; rw [if_neg (by omega), if_neg (by omega)]] at hQ
      exact hQ
    · skip
      rw [cI_lt (a := b) (b := 48) (by omega) (by omega)] at c2
      refine me_iload_n (p' := 21) k96_20 rfl rfl ?_
      refine me_bipush (p' := 23) k96_21 rfl (v := nI 57) (by decide) ?_
      refine me_ic_gt (p' := 26) k96_23 rfl (fun c3 => ?_) (fun c3 => ?_)
      · skip
        rw [cI_lt (a := 57) (b := b) (by omega) (by omega)] at c3
        refine me_iconst (p' := 31) k96_30 rfl (v := nI 3) (by decide) ?_
        refine me_reti k96_31 rt_96 rfl ?_
        rw [show tSo b = 3 from by unfold tSo; rw [if_neg (by omega), if_neg (by omega)]] at hQ
        exact hQ
      · skip
        rw [cI_lt (a := 57) (b := b) (by omega) (by omega)] at c3
        refine me_iconst (p' := 27) k96_26 rfl (v := nI 2) (by decide) ?_
        refine me_goto k96_27 ?_
        refine me_reti k96_31 rt_96 rfl ?_
        rw [show tSo b = 2 from by unfold tSo; rw [if_neg (by omega), if_pos (by omega)]] at hQ
        exact hQ
  · skip
    rw [cI_lt (a := b) (b := 97) (by omega) (by omega)] at c1
    refine me_iload_n (p' := 7) k96_6 rfl rfl ?_
    refine me_bipush (p' := 9) k96_7 rfl (v := nI 122) (by decide) ?_
    refine me_ic_gt (p' := 12) k96_9 rfl (fun c4 => ?_) (fun c4 => ?_)
    · skip
      rw [cI_lt (a := 122) (b := b) (by omega) (by omega)] at c4
      refine me_iload_n (p' := 15) k96_14 rfl rfl ?_
      refine me_bipush (p' := 17) k96_15 rfl (v := nI 48) (by decide) ?_
      refine me_ic_lt (p' := 20) k96_17 rfl (fun c5 => ?_) (fun c5 => ?_)
      · skip
        rw [cI_lt (a := b) (b := 48) (by omega) (by omega)] at c5
        refine me_iconst (p' := 31) k96_30 rfl (v := nI 3) (by decide) ?_
        refine me_reti k96_31 rt_96 rfl ?_
        rw [show tSo b = 3 from by unfold tSo; rw [if_neg (by omega), if_neg (by omega)]] at hQ
        exact hQ
      · skip
        rw [cI_lt (a := b) (b := 48) (by omega) (by omega)] at c5
        refine me_iload_n (p' := 21) k96_20 rfl rfl ?_
        refine me_bipush (p' := 23) k96_21 rfl (v := nI 57) (by decide) ?_
        refine me_ic_gt (p' := 26) k96_23 rfl (fun c6 => ?_) (fun c6 => ?_)
        · skip
          rw [cI_lt (a := 57) (b := b) (by omega) (by omega)] at c6
          refine me_iconst (p' := 31) k96_30 rfl (v := nI 3) (by decide) ?_
          refine me_reti k96_31 rt_96 rfl ?_
          rw [show tSo b = 3 from by unfold tSo; rw [if_neg (by omega), if_neg (by omega)]] at hQ
          exact hQ
        · skip
          rw [cI_lt (a := 57) (b := b) (by omega) (by omega)] at c6
          refine me_iconst (p' := 27) k96_26 rfl (v := nI 2) (by decide) ?_
          refine me_goto k96_27 ?_
          refine me_reti k96_31 rt_96 rfl ?_
          rw [show tSo b = 2 from by unfold tSo; rw [if_neg (by omega), if_pos (by omega)]] at hQ
          exact hQ
    · skip
      rw [cI_lt (a := 122) (b := b) (by omega) (by omega)] at c4
      refine me_iconst (p' := 13) k96_12 rfl (v := nI 1) (by decide) ?_
      refine me_reti k96_13 rt_96 rfl ?_
      rw [show tSo b = 1 from by unfold tSo; rw [if_pos (by omega)]] at hQ
      exact hQ
theorem lp_adv3 {d L : Nat} {xs : Nat → Int32} {I : Nat → Nat → Int32} {Q : Option Value → mj_H → Prop} {G : Nat → Nat → Int32} {s e q g : Nat} (hg : g < 2) (hs : s ≤ e) (he : e ≤ 96) (hq : q ≤ 3) (hf : cFr I G) (h2 : G 9 2 = nI s) (h3 : G 9 3 = nI e) (h4 : G 9 4 = nI q) (hQ : ∀ J, cFr I J → cTk J (if (g = 1 ∧ q ≠ 3) ∨ (q = 2 ∧ 4 < e - s) then 4 else q, s, e) → Q none (mg_h L xs J)) (u1 u2 : Value) : mj_Ev (d + 1) 95 185 [.ref 9, u1, u2, .int (nI g)] [] (mg_h L xs G) Q := by
  refine me_iload_n (p' := 186) k95_185 rfl rfl ?_
  refine me_if_eq (p' := 189) k95_186 rfl (fun c1 => ?_) (fun c1 => ?_)
  · skip
    rw [cI_eq0 (a := g) (by omega)] at c1
    refine me_aload_n (p' := 198) k95_197 rfl rfl ?_
    refine me_gfi (p' := 201) k95_198 rfl (by decide) rfl rfl ?_
    rw [h4]
    refine me_iconst (p' := 202) k95_201 rfl (v := nI 2) (by decide) ?_
    refine me_ic_ne (p' := 205) k95_202 rfl (fun c2 => ?_) (fun c2 => ?_)
    · skip
      rw [cI_eq (a := q) (b := 2) (by omega) (by omega)] at c2
      refine me_aload_n (p' := 206) k95_205 rfl rfl ?_
      refine me_gfi (p' := 209) k95_206 rfl (by decide) rfl rfl ?_
      rw [h3]
      refine me_aload_n (p' := 210) k95_209 rfl rfl ?_
      refine me_gfi (p' := 213) k95_210 rfl (by decide) rfl rfl ?_
      rw [h2]
      refine me_isub (p' := 214) k95_213 rfl rfl ?_
      rw [mI_sub (by omega)]
      refine me_iconst (p' := 215) k95_214 rfl (v := nI 4) (by decide) ?_
      refine me_ic_le (p' := 218) k95_215 rfl (fun c3 => ?_) (fun c3 => ?_)
      · skip
        rw [cI_le (a := e - s) (b := 4) (by omega) (by omega)] at c3
        refine me_retv k95_223 rt_95 ?_
        refine hQ G hf ⟨h2, h3, ?_⟩
        rw [h4, if_neg (by omega)]
      · skip
        rw [cI_le (a := e - s) (b := 4) (by omega) (by omega)] at c3
        refine me_aload_n (p' := 219) k95_218 rfl rfl ?_
        refine me_iconst (p' := 220) k95_219 rfl (v := nI 4) (by decide) ?_
        refine me_pfi (p' := 223) k95_220 rfl (by decide) rfl rfl rfl rfl ?_
        refine me_retv k95_223 rt_95 ?_
        refine hQ _ (hf.u (by omega)) ⟨(mg_une (by decide)).trans h2, (mg_une (by decide)).trans h3, ?_⟩
        rw [mg_ueq, if_pos (by omega)]
    · skip
      rw [cI_eq (a := q) (b := 2) (by omega) (by omega)] at c2
      refine me_retv k95_223 rt_95 ?_
      refine hQ G hf ⟨h2, h3, ?_⟩
      rw [h4, if_neg (by omega)]
  · skip
    rw [cI_eq0 (a := g) (by omega)] at c1
    refine me_aload_n (p' := 190) k95_189 rfl rfl ?_
    refine me_gfi (p' := 193) k95_190 rfl (by decide) rfl rfl ?_
    rw [h4]
    refine me_iconst (p' := 194) k95_193 rfl (v := nI 3) (by decide) ?_
    refine me_ic_ne (p' := 197) k95_194 rfl (fun c4 => ?_) (fun c4 => ?_)
    · skip
      rw [cI_eq (a := q) (b := 3) (by omega) (by omega)] at c4
      refine me_aload_n (p' := 198) k95_197 rfl rfl ?_
      refine me_gfi (p' := 201) k95_198 rfl (by decide) rfl rfl ?_
      rw [h4]
      refine me_iconst (p' := 202) k95_201 rfl (v := nI 2) (by decide) ?_
      refine me_ic_ne (p' := 205) k95_202 rfl (fun c5 => ?_) (fun c5 => ?_)
      · skip
        rw [cI_eq (a := q) (b := 2) (by omega) (by omega)] at c5
        refine me_aload_n (p' := 206) k95_205 rfl rfl ?_
        refine me_gfi (p' := 209) k95_206 rfl (by decide) rfl rfl ?_
        rw [h3]
        refine me_aload_n (p' := 210) k95_209 rfl rfl ?_
        refine me_gfi (p' := 213) k95_210 rfl (by decide) rfl rfl ?_
        rw [h2]
        refine me_isub (p' := 214) k95_213 rfl rfl ?_
        rw [mI_sub (by omega)]
        refine me_iconst (p' := 215) k95_214 rfl (v := nI 4) (by decide) ?_
        refine me_ic_le (p' := 218) k95_215 rfl (fun c6 => ?_) (fun c6 => ?_)
        · skip
          rw [cI_le (a := e - s) (b := 4) (by omega) (by omega)] at c6
          refine me_retv k95_223 rt_95 ?_
          refine hQ G hf ⟨h2, h3, ?_⟩
          rw [h4, if_neg (by omega)]
        · skip
          rw [cI_le (a := e - s) (b := 4) (by omega) (by omega)] at c6
          refine me_aload_n (p' := 219) k95_218 rfl rfl ?_
          refine me_iconst (p' := 220) k95_219 rfl (v := nI 4) (by decide) ?_
          refine me_pfi (p' := 223) k95_220 rfl (by decide) rfl rfl rfl rfl ?_
          refine me_retv k95_223 rt_95 ?_
          refine hQ _ (hf.u (by omega)) ⟨(mg_une (by decide)).trans h2, (mg_une (by decide)).trans h3, ?_⟩
          rw [mg_ueq, if_pos (by omega)]
      · skip
        rw [cI_eq (a := q) (b := 2) (by omega) (by omega)] at c5
        refine me_retv k95_223 rt_95 ?_
        refine hQ G hf ⟨h2, h3, ?_⟩
        rw [h4, if_neg (by omega)]
    · skip
      rw [cI_eq (a := q) (b := 3) (by omega) (by omega)] at c4
      refine me_aload_n (p' := 219) k95_218 rfl rfl ?_
      refine me_iconst (p' := 220) k95_219 rfl (v := nI 4) (by decide) ?_
      refine me_pfi (p' := 223) k95_220 rfl (by decide) rfl rfl rfl rfl ?_
      refine me_retv k95_223 rt_95 ?_
      refine hQ _ (hf.u (by omega)) ⟨(mg_une (by decide)).trans h2, (mg_une (by decide)).trans h3, ?_⟩
      rw [mg_ueq, if_pos (by omega)]
theorem lp_adv2 {d L : Nat} {xs : Nat → Int32} {I : Nat → Nat → Int32} {Q : Option Value → mj_H → Prop} {B : Nat → Nat} {tl s q g : Nat} (hT : cTp I B tl) (hq : q < 3) (u1 u2 : Value) : ∀ (f k : Nat), tl - k = f → k ≤ tl → (hE : ∀ G, cFr I G → G 9 2 = nI s → G 9 3 = nI (tRn B tl q k) → G 9 4 = nI q → mj_Ev (d + 1) 95 185 [.ref 9, u1, u2, .int (nI g)] [] (mg_h L xs G) Q) → ∀ G, cFr I G → G 9 3 = nI k → G 9 4 = nI q → G 9 2 = nI s → mj_Ev (d + 1) 95 134 [.ref 9, u1, u2, .int (nI g)] [] (mg_h L xs G) Q := by
  have htl := hT.2.1
  intro f
  induction f with
  | zero =>
    intro k hfk hk hE G hf h3 h4 h2
    refine me_aload_n (p' := 135) k95_134 rfl rfl ?_
    refine me_gfi (p' := 138) k95_135 rfl (by decide) rfl rfl ?_
    rw [h4]
    refine me_iconst (p' := 139) k95_138 rfl (v := nI 3) (by decide) ?_
    refine me_ic_eq (p' := 142) k95_139 rfl (fun c1 => ?_) (fun c1 => ?_)
    · skip
      rw [cI_eq (a := q) (b := 3) (by omega) (by omega)] at c1
      exfalso
      omega
    · skip
      rw [cI_eq (a := q) (b := 3) (by omega) (by omega)] at c1
      refine me_aload_n (p' := 143) k95_142 rfl rfl ?_
      refine me_gfi (p' := 146) k95_143 rfl (by decide) rfl rfl ?_
      rw [h3]
      refine me_aload_n (p' := 147) k95_146 rfl rfl ?_
      refine me_gfi (p' := 150) k95_147 rfl (by decide) rfl rfl ?_
      rw [(hT.fr hf).1]
      refine me_ic_ge (p' := 153) k95_150 rfl (fun c2 => ?_) (fun c2 => ?_)
      · skip
        rw [cI_le (a := tl) (b := k) (by omega) (by omega)] at c2
        rw [tRn_0 (by omega)] at hE
        exact hE G hf h2 h3 h4
      · skip
        rw [cI_le (a := tl) (b := k) (by omega) (by omega)] at c2
        exfalso
        omega
  | succ f ih =>
    intro k hfk hk hE G hf h3 h4 h2
    refine me_aload_n (p' := 135) k95_134 rfl rfl ?_
    refine me_gfi (p' := 138) k95_135 rfl (by decide) rfl rfl ?_
    rw [h4]
    refine me_iconst (p' := 139) k95_138 rfl (v := nI 3) (by decide) ?_
    refine me_ic_eq (p' := 142) k95_139 rfl (fun c1 => ?_) (fun c1 => ?_)
    · skip
      rw [cI_eq (a := q) (b := 3) (by omega) (by omega)] at c1
      exfalso
      omega
    · skip
      rw [cI_eq (a := q) (b := 3) (by omega) (by omega)] at c1
      refine me_aload_n (p' := 143) k95_142 rfl rfl ?_
      refine me_gfi (p' := 146) k95_143 rfl (by decide) rfl rfl ?_
      rw [h3]
      refine me_aload_n (p' := 147) k95_146 rfl rfl ?_
      refine me_gfi (p' := 150) k95_147 rfl (by decide) rfl rfl ?_
      rw [(hT.fr hf).1]
      refine me_ic_ge (p' := 153) k95_150 rfl (fun c2 => ?_) (fun c2 => ?_)
      · skip
        rw [cI_le (a := tl) (b := k) (by omega) (by omega)] at c2
        rw [tRn_0 (by omega)] at hE
        exact hE G hf h2 h3 h4
      · skip
        rw [cI_le (a := tl) (b := k) (by omega) (by omega)] at c2
        refine me_aload_n (p' := 154) k95_153 rfl rfl ?_
        refine me_gfr (p' := 157) k95_154 rfl (by decide) rfl (b := 10) rfl ?_
        refine me_aload_n (p' := 158) k95_157 rfl rfl ?_
        refine me_gfi (p' := 161) k95_158 rfl (by decide) rfl rfl ?_
        rw [h3]
        refine me_iald (p' := 162) k95_161 rfl (by decide) rfl (j := k) rfl (by omega) (by decide) rfl ?_
        rw [((hT.fr hf).2.2 k (by omega)).1]
        refine me_cs (p' := 165) k95_162 rfl rfl rfl rfl rfl (cl_le mx_96 rfl) (by decide) (cl_sum rfl) (ct_sortOf (hT.2.2 k (by omega)).2 ?_)
        have hso9 := tSo_r (B k)
        refine me_aload_n (p' := 166) k95_165 rfl rfl ?_
        refine me_gfi (p' := 169) k95_166 rfl (by decide) rfl rfl ?_
        rw [h4]
        refine me_ic_ne (p' := 172) k95_169 rfl (fun c3 => ?_) (fun c3 => ?_)
        · skip
          rw [cI_eq (a := tSo (B k)) (b := q) (by omega) (by omega)] at c3
          refine me_aload_n (p' := 173) k95_172 rfl rfl ?_
          refine me_dup (p' := 174) k95_173 rfl rfl ?_
          refine me_gfi (p' := 177) k95_174 rfl (by decide) rfl rfl ?_
          rw [h3]
          refine me_iconst (p' := 178) k95_177 rfl (v := nI 1) (by decide) ?_
          refine me_iadd (p' := 179) k95_178 rfl (v := nI (k + 1)) (mI_add _ _) ?_
          refine me_pfi (p' := 182) k95_179 rfl (by decide) rfl rfl rfl rfl ?_
          refine me_goto k95_182 ?_
          refine ih (k + 1) (by omega) (by omega) ?_ _ (hf.u (by omega)) (mg_ueq) ((mg_une (by decide)).trans h4) ((mg_une (by decide)).trans h2)
          rw [← tRn_1 (by omega) c3]
          exact hE
        · skip
          rw [cI_eq (a := tSo (B k)) (b := q) (by omega) (by omega)] at c3
          rw [tRn_0 (by omega)] at hE
          exact hE G hf h2 h3 h4
theorem lp_adv1 {d L : Nat} {xs : Nat → Int32} {I : Nat → Nat → Int32} {Q : Option Value → mj_H → Prop} {B : Nat → Nat} {tl a bw s : Nat} {w : Prop} [Decidable w] {G : Nat → Nat → Int32} (hT : cTp I B tl) (ha : a ≤ s) (hbw : bw < 2) (hw : bw = 1 ↔ w) (hsE : tSk B tl a = s) (hs : s ≤ tl) (hf : cFr I G) (h3 : G 9 3 = nI s) (hQ : ∀ J, cFr I J → cTk J (tk B tl a w) → Q none (mg_h L xs J)) (u3 : Value) : mj_Ev (d + 1) 95 65 [.ref 9, .int (nI bw), .int (nI a), u3] [] (mg_h L xs G) Q := by
  have htl := hT.2.1
  refine me_iload_n (p' := 66) k95_65 rfl rfl ?_
  refine me_if_eq (p' := 69) k95_66 rfl (fun c1 => ?_) (fun c1 => ?_)
  · skip
    rw [cI_eq0 (a := bw) (by omega)] at c1
    refine me_iconst (p' := 82) k95_81 rfl (v := nI 0) (by decide) ?_
    refine me_istore_n (p' := 83) k95_82 rfl ⟨Nat.le_of_ble_eq_true rfl, rfl⟩ rfl ?_
    refine me_aload_n (p' := 84) k95_83 rfl rfl ?_
    refine me_aload_n (p' := 85) k95_84 rfl rfl ?_
    refine me_gfi (p' := 88) k95_85 rfl (by decide) rfl rfl ?_
    rw [h3]
    refine me_pfi (p' := 91) k95_88 rfl (by decide) rfl rfl rfl rfl ?_
    refine me_aload_n (p' := 92) k95_91 rfl rfl ?_
    refine me_gfi (p' := 95) k95_92 rfl (by decide) rfl rfl ?_
    rw [mg_ueq]
    refine me_aload_n (p' := 96) k95_95 rfl rfl ?_
    refine me_gfi (p' := 99) k95_96 rfl (by decide) rfl rfl ?_
    rw [mg_une (by decide), (hT.fr hf).1]
    refine me_ic_lt (p' := 102) k95_99 rfl (fun c2 => ?_) (fun c2 => ?_)
    · skip
      rw [cI_lt (a := s) (b := tl) (by omega) (by omega)] at c2
      refine me_aload_n (p' := 109) k95_108 rfl rfl ?_
      refine me_aload_n (p' := 110) k95_109 rfl rfl ?_
      refine me_gfr (p' := 113) k95_110 rfl (by decide) rfl (b := 10) rfl ?_
      refine me_aload_n (p' := 114) k95_113 rfl rfl ?_
      refine me_gfi (p' := 117) k95_114 rfl (by decide) rfl rfl ?_
      rw [mg_ueq]
      refine me_iald (p' := 118) k95_117 rfl (by decide) rfl (j := s) rfl (by omega) (by decide) rfl ?_
      rw [mg_un1 (by decide), ((hT.fr hf).2.2 s (by omega)).1]
      refine me_cs (p' := 121) k95_118 rfl rfl rfl rfl rfl (cl_le mx_96 rfl) (by decide) (cl_sum rfl) (ct_sortOf (hT.2.2 s (by omega)).2 ?_)
      have hso := tSo_r (B s)
      refine me_pfi (p' := 124) k95_121 rfl (by decide) rfl rfl rfl rfl ?_
      refine me_aload_n (p' := 125) k95_124 rfl rfl ?_
      refine me_dup (p' := 126) k95_125 rfl rfl ?_
      refine me_gfi (p' := 129) k95_126 rfl (by decide) rfl rfl ?_
      rw [mg_une (by decide), mg_une (by decide), h3]
      refine me_iconst (p' := 130) k95_129 rfl (v := nI 1) (by decide) ?_
      refine me_iadd (p' := 131) k95_130 rfl (v := nI (s + 1)) (mI_add _ _) ?_
      refine me_pfi (p' := 134) k95_131 rfl (by decide) rfl rfl rfl rfl ?_
      have hfX : cFr I (mg_u (mg_u (mg_u G 9 2 (nI s)) 9 4 (nI (tSo (B s)))) 9 3 (nI (s + 1))) := (((hf.u (by omega)).u (by omega)).u (by omega))
      by_cases e3 : tSo (B s) = 3
      · refine me_aload_n (p' := 135) k95_134 rfl rfl ?_
        refine me_gfi (p' := 138) k95_135 rfl (by decide) rfl rfl ?_
        rw [show (mg_u (mg_u (mg_u G 9 2 (nI s)) 9 4 (nI (tSo (B s)))) 9 3 (nI (s + 1))) 9 4 = nI 3 from by rw [mg_une (by decide), mg_ueq, e3]]
        refine me_iconst (p' := 139) k95_138 rfl (v := nI 3) (by decide) ?_
        refine me_ic_eq (p' := 142) k95_139 rfl (fun _ => ?_) (fun z => absurd rfl z)
        refine lp_adv3 (I := I) (s := s) (e := s + 1) (q := 3) (g := 0) (by decide) (by omega) (by omega) (by omega) hfX (by rw [mg_une (by decide), mg_une (by decide), mg_ueq]) (by rw [mg_ueq]) (by rw [mg_une (by decide), mg_ueq, e3]) (fun J hJ1 hJ2 => ?_) _ _
        refine hQ J hJ1 ?_
        rw [show tk B tl a w = (3, s, s + 1) from by unfold tk; rw [hsE, if_neg (by omega), if_pos e3]]
        rw [if_neg (by omega)] at hJ2
        exact hJ2
      · refine lp_adv2 (I := I) (B := B) (tl := tl) (s := s) (q := tSo (B s)) (g := 0) hT (by omega) _ _ (tl - (s + 1)) (s + 1) rfl (by omega) (fun G hG h2G h3G h4G => ?_) _ hfX mg_ueq (by rw [mg_une (by decide), mg_ueq]) (by rw [mg_une (by decide), mg_une (by decide), mg_ueq])
        have hrn := tRn_ge (B := B) (tl := tl) (s := tSo (B s)) (tl - (s + 1)) (s + 1) rfl (by omega)
        refine lp_adv3 (I := I) (g := 0) (by decide) (by omega) (by omega) (by omega) hG h2G h3G h4G (fun J hJ1 hJ2 => hQ J hJ1 ?_) _ _
        rw [show tk B tl a w = (if (w ∧ s = a) ∨ (tSo (B s) = 2 ∧ 4 < tRn B tl (tSo (B s)) (s + 1) - s) then 4 else tSo (B s), s, tRn B tl (tSo (B s)) (s + 1)) from by unfold tk; rw [hsE, if_neg (by omega), if_neg e3]]
        have e9 : ((0 = 1 ∧ tSo (B s) ≠ 3) ∨ (tSo (B s) = 2 ∧ 4 < tRn B tl (tSo (B s)) (s + 1) - s)) ↔ ((w ∧ s = a) ∨ (tSo (B s) = 2 ∧ 4 < tRn B tl (tSo (B s)) (s + 1) - s)) := by
          have := (show (0 = 1) ↔ (w ∧ s = a) from ⟨fun z => absurd z (by decide), fun z => by have := hw.mpr z.1; omega⟩)
          constructor
          · rintro (⟨z, -⟩ | z)
            · first | exact Or.inl (this.mp z) | exact absurd z (by decide)
            · exact Or.inr z
          · rintro (z | z)
            · exact Or.inl ⟨this.mpr z, e3⟩
            · exact Or.inr z
        rw [tif_cg e9] at hJ2
        exact hJ2
    · skip
      rw [cI_lt (a := s) (b := tl) (by omega) (by omega)] at c2
      refine me_aload_n (p' := 103) k95_102 rfl rfl ?_
      refine me_iconst (p' := 104) k95_103 rfl (v := nI 0) (by decide) ?_
      refine me_pfi (p' := 107) k95_104 rfl (by decide) rfl rfl rfl rfl ?_
      refine me_retv k95_107 rt_95 ?_
      refine hQ _ ((hf.u (by omega)).u (by omega)) ?_
      rw [show tk B tl a w = (0, s, s) from by unfold tk; rw [hsE, if_pos (by omega)]]
      exact ⟨(mg_une (by decide)).trans mg_ueq, (mg_une (by decide)).trans ((mg_une (by decide)).trans h3), mg_ueq⟩
  · skip
    rw [cI_eq0 (a := bw) (by omega)] at c1
    refine me_aload_n (p' := 70) k95_69 rfl rfl ?_
    refine me_gfi (p' := 73) k95_70 rfl (by decide) rfl rfl ?_
    rw [h3]
    refine me_iload_n (p' := 74) k95_73 rfl rfl ?_
    refine me_ic_ne (p' := 77) k95_74 rfl (fun c3 => ?_) (fun c3 => ?_)
    · skip
      rw [cI_eq (a := s) (b := a) (by omega) (by omega)] at c3
      refine me_iconst (p' := 78) k95_77 rfl (v := nI 1) (by decide) ?_
      refine me_goto k95_78 ?_
      refine me_istore_n (p' := 83) k95_82 rfl ⟨Nat.le_of_ble_eq_true rfl, rfl⟩ rfl ?_
      refine me_aload_n (p' := 84) k95_83 rfl rfl ?_
      refine me_aload_n (p' := 85) k95_84 rfl rfl ?_
      refine me_gfi (p' := 88) k95_85 rfl (by decide) rfl rfl ?_
      rw [h3]
      refine me_pfi (p' := 91) k95_88 rfl (by decide) rfl rfl rfl rfl ?_
      refine me_aload_n (p' := 92) k95_91 rfl rfl ?_
      refine me_gfi (p' := 95) k95_92 rfl (by decide) rfl rfl ?_
      rw [mg_ueq]
      refine me_aload_n (p' := 96) k95_95 rfl rfl ?_
      refine me_gfi (p' := 99) k95_96 rfl (by decide) rfl rfl ?_
      rw [mg_une (by decide), (hT.fr hf).1]
      refine me_ic_lt (p' := 102) k95_99 rfl (fun c4 => ?_) (fun c4 => ?_)
      · skip
        rw [cI_lt (a := s) (b := tl) (by omega) (by omega)] at c4
        refine me_aload_n (p' := 109) k95_108 rfl rfl ?_
        refine me_aload_n (p' := 110) k95_109 rfl rfl ?_
        refine me_gfr (p' := 113) k95_110 rfl (by decide) rfl (b := 10) rfl ?_
        refine me_aload_n (p' := 114) k95_113 rfl rfl ?_
        refine me_gfi (p' := 117) k95_114 rfl (by decide) rfl rfl ?_
        rw [mg_ueq]
        refine me_iald (p' := 118) k95_117 rfl (by decide) rfl (j := s) rfl (by omega) (by decide) rfl ?_
        rw [mg_un1 (by decide), ((hT.fr hf).2.2 s (by omega)).1]
        refine me_cs (p' := 121) k95_118 rfl rfl rfl rfl rfl (cl_le mx_96 rfl) (by decide) (cl_sum rfl) (ct_sortOf (hT.2.2 s (by omega)).2 ?_)
        have hso := tSo_r (B s)
        refine me_pfi (p' := 124) k95_121 rfl (by decide) rfl rfl rfl rfl ?_
        refine me_aload_n (p' := 125) k95_124 rfl rfl ?_
        refine me_dup (p' := 126) k95_125 rfl rfl ?_
        refine me_gfi (p' := 129) k95_126 rfl (by decide) rfl rfl ?_
        rw [mg_une (by decide), mg_une (by decide), h3]
        refine me_iconst (p' := 130) k95_129 rfl (v := nI 1) (by decide) ?_
        refine me_iadd (p' := 131) k95_130 rfl (v := nI (s + 1)) (mI_add _ _) ?_
        refine me_pfi (p' := 134) k95_131 rfl (by decide) rfl rfl rfl rfl ?_
        have hfX : cFr I (mg_u (mg_u (mg_u G 9 2 (nI s)) 9 4 (nI (tSo (B s)))) 9 3 (nI (s + 1))) := (((hf.u (by omega)).u (by omega)).u (by omega))
        by_cases e3 : tSo (B s) = 3
        · refine me_aload_n (p' := 135) k95_134 rfl rfl ?_
          refine me_gfi (p' := 138) k95_135 rfl (by decide) rfl rfl ?_
          rw [show (mg_u (mg_u (mg_u G 9 2 (nI s)) 9 4 (nI (tSo (B s)))) 9 3 (nI (s + 1))) 9 4 = nI 3 from by rw [mg_une (by decide), mg_ueq, e3]]
          refine me_iconst (p' := 139) k95_138 rfl (v := nI 3) (by decide) ?_
          refine me_ic_eq (p' := 142) k95_139 rfl (fun _ => ?_) (fun z => absurd rfl z)
          refine lp_adv3 (I := I) (s := s) (e := s + 1) (q := 3) (g := 1) (by decide) (by omega) (by omega) (by omega) hfX (by rw [mg_une (by decide), mg_une (by decide), mg_ueq]) (by rw [mg_ueq]) (by rw [mg_une (by decide), mg_ueq, e3]) (fun J hJ1 hJ2 => ?_) _ _
          refine hQ J hJ1 ?_
          rw [show tk B tl a w = (3, s, s + 1) from by unfold tk; rw [hsE, if_neg (by omega), if_pos e3]]
          rw [if_neg (by omega)] at hJ2
          exact hJ2
        · refine lp_adv2 (I := I) (B := B) (tl := tl) (s := s) (q := tSo (B s)) (g := 1) hT (by omega) _ _ (tl - (s + 1)) (s + 1) rfl (by omega) (fun G hG h2G h3G h4G => ?_) _ hfX mg_ueq (by rw [mg_une (by decide), mg_ueq]) (by rw [mg_une (by decide), mg_une (by decide), mg_ueq])
          have hrn := tRn_ge (B := B) (tl := tl) (s := tSo (B s)) (tl - (s + 1)) (s + 1) rfl (by omega)
          refine lp_adv3 (I := I) (g := 1) (by decide) (by omega) (by omega) (by omega) hG h2G h3G h4G (fun J hJ1 hJ2 => hQ J hJ1 ?_) _ _
          rw [show tk B tl a w = (if (w ∧ s = a) ∨ (tSo (B s) = 2 ∧ 4 < tRn B tl (tSo (B s)) (s + 1) - s) then 4 else tSo (B s), s, tRn B tl (tSo (B s)) (s + 1)) from by unfold tk; rw [hsE, if_neg (by omega), if_neg e3]]
          have e9 : ((1 = 1 ∧ tSo (B s) ≠ 3) ∨ (tSo (B s) = 2 ∧ 4 < tRn B tl (tSo (B s)) (s + 1) - s)) ↔ ((w ∧ s = a) ∨ (tSo (B s) = 2 ∧ 4 < tRn B tl (tSo (B s)) (s + 1) - s)) := by
            have := (show (1 = 1) ↔ (w ∧ s = a) from ⟨fun _ => ⟨hw.mp (by omega), by omega⟩, fun _ => rfl⟩)
            constructor
            · rintro (⟨z, -⟩ | z)
              · first | exact Or.inl (this.mp z) | exact absurd z (by decide)
              · exact Or.inr z
            · rintro (z | z)
              · exact Or.inl ⟨this.mpr z, e3⟩
              · exact Or.inr z
          rw [tif_cg e9] at hJ2
          exact hJ2
      · skip
        rw [cI_lt (a := s) (b := tl) (by omega) (by omega)] at c4
        refine me_aload_n (p' := 103) k95_102 rfl rfl ?_
        refine me_iconst (p' := 104) k95_103 rfl (v := nI 0) (by decide) ?_
        refine me_pfi (p' := 107) k95_104 rfl (by decide) rfl rfl rfl rfl ?_
        refine me_retv k95_107 rt_95 ?_
        refine hQ _ ((hf.u (by omega)).u (by omega)) ?_
        rw [show tk B tl a w = (0, s, s) from by unfold tk; rw [hsE, if_pos (by omega)]]
        exact ⟨(mg_une (by decide)).trans mg_ueq, (mg_une (by decide)).trans ((mg_une (by decide)).trans h3), mg_ueq⟩
    · skip
      rw [cI_eq (a := s) (b := a) (by omega) (by omega)] at c3
      refine me_iconst (p' := 82) k95_81 rfl (v := nI 0) (by decide) ?_
      refine me_istore_n (p' := 83) k95_82 rfl ⟨Nat.le_of_ble_eq_true rfl, rfl⟩ rfl ?_
      refine me_aload_n (p' := 84) k95_83 rfl rfl ?_
      refine me_aload_n (p' := 85) k95_84 rfl rfl ?_
      refine me_gfi (p' := 88) k95_85 rfl (by decide) rfl rfl ?_
      rw [h3]
      refine me_pfi (p' := 91) k95_88 rfl (by decide) rfl rfl rfl rfl ?_
      refine me_aload_n (p' := 92) k95_91 rfl rfl ?_
      refine me_gfi (p' := 95) k95_92 rfl (by decide) rfl rfl ?_
      rw [mg_ueq]
      refine me_aload_n (p' := 96) k95_95 rfl rfl ?_
      refine me_gfi (p' := 99) k95_96 rfl (by decide) rfl rfl ?_
      rw [mg_une (by decide), (hT.fr hf).1]
      refine me_ic_lt (p' := 102) k95_99 rfl (fun c5 => ?_) (fun c5 => ?_)
      · skip
        rw [cI_lt (a := s) (b := tl) (by omega) (by omega)] at c5
        refine me_aload_n (p' := 109) k95_108 rfl rfl ?_
        refine me_aload_n (p' := 110) k95_109 rfl rfl ?_
        refine me_gfr (p' := 113) k95_110 rfl (by decide) rfl (b := 10) rfl ?_
        refine me_aload_n (p' := 114) k95_113 rfl rfl ?_
        refine me_gfi (p' := 117) k95_114 rfl (by decide) rfl rfl ?_
        rw [mg_ueq]
        refine me_iald (p' := 118) k95_117 rfl (by decide) rfl (j := s) rfl (by omega) (by decide) rfl ?_
        rw [mg_un1 (by decide), ((hT.fr hf).2.2 s (by omega)).1]
        refine me_cs (p' := 121) k95_118 rfl rfl rfl rfl rfl (cl_le mx_96 rfl) (by decide) (cl_sum rfl) (ct_sortOf (hT.2.2 s (by omega)).2 ?_)
        have hso := tSo_r (B s)
        refine me_pfi (p' := 124) k95_121 rfl (by decide) rfl rfl rfl rfl ?_
        refine me_aload_n (p' := 125) k95_124 rfl rfl ?_
        refine me_dup (p' := 126) k95_125 rfl rfl ?_
        refine me_gfi (p' := 129) k95_126 rfl (by decide) rfl rfl ?_
        rw [mg_une (by decide), mg_une (by decide), h3]
        refine me_iconst (p' := 130) k95_129 rfl (v := nI 1) (by decide) ?_
        refine me_iadd (p' := 131) k95_130 rfl (v := nI (s + 1)) (mI_add _ _) ?_
        refine me_pfi (p' := 134) k95_131 rfl (by decide) rfl rfl rfl rfl ?_
        have hfX : cFr I (mg_u (mg_u (mg_u G 9 2 (nI s)) 9 4 (nI (tSo (B s)))) 9 3 (nI (s + 1))) := (((hf.u (by omega)).u (by omega)).u (by omega))
        by_cases e3 : tSo (B s) = 3
        · refine me_aload_n (p' := 135) k95_134 rfl rfl ?_
          refine me_gfi (p' := 138) k95_135 rfl (by decide) rfl rfl ?_
          rw [show (mg_u (mg_u (mg_u G 9 2 (nI s)) 9 4 (nI (tSo (B s)))) 9 3 (nI (s + 1))) 9 4 = nI 3 from by rw [mg_une (by decide), mg_ueq, e3]]
          refine me_iconst (p' := 139) k95_138 rfl (v := nI 3) (by decide) ?_
          refine me_ic_eq (p' := 142) k95_139 rfl (fun _ => ?_) (fun z => absurd rfl z)
          refine lp_adv3 (I := I) (s := s) (e := s + 1) (q := 3) (g := 0) (by decide) (by omega) (by omega) (by omega) hfX (by rw [mg_une (by decide), mg_une (by decide), mg_ueq]) (by rw [mg_ueq]) (by rw [mg_une (by decide), mg_ueq, e3]) (fun J hJ1 hJ2 => ?_) _ _
          refine hQ J hJ1 ?_
          rw [show tk B tl a w = (3, s, s + 1) from by unfold tk; rw [hsE, if_neg (by omega), if_pos e3]]
          rw [if_neg (by omega)] at hJ2
          exact hJ2
        · refine lp_adv2 (I := I) (B := B) (tl := tl) (s := s) (q := tSo (B s)) (g := 0) hT (by omega) _ _ (tl - (s + 1)) (s + 1) rfl (by omega) (fun G hG h2G h3G h4G => ?_) _ hfX mg_ueq (by rw [mg_une (by decide), mg_ueq]) (by rw [mg_une (by decide), mg_une (by decide), mg_ueq])
          have hrn := tRn_ge (B := B) (tl := tl) (s := tSo (B s)) (tl - (s + 1)) (s + 1) rfl (by omega)
          refine lp_adv3 (I := I) (g := 0) (by decide) (by omega) (by omega) (by omega) hG h2G h3G h4G (fun J hJ1 hJ2 => hQ J hJ1 ?_) _ _
          rw [show tk B tl a w = (if (w ∧ s = a) ∨ (tSo (B s) = 2 ∧ 4 < tRn B tl (tSo (B s)) (s + 1) - s) then 4 else tSo (B s), s, tRn B tl (tSo (B s)) (s + 1)) from by unfold tk; rw [hsE, if_neg (by omega), if_neg e3]]
          have e9 : ((0 = 1 ∧ tSo (B s) ≠ 3) ∨ (tSo (B s) = 2 ∧ 4 < tRn B tl (tSo (B s)) (s + 1) - s)) ↔ ((w ∧ s = a) ∨ (tSo (B s) = 2 ∧ 4 < tRn B tl (tSo (B s)) (s + 1) - s)) := by
            have := (show (0 = 1) ↔ (w ∧ s = a) from ⟨fun z => absurd z (by decide), fun z => by have := hw.mpr z.1; omega⟩)
            constructor
            · rintro (⟨z, -⟩ | z)
              · first | exact Or.inl (this.mp z) | exact absurd z (by decide)
              · exact Or.inr z
            · rintro (z | z)
              · exact Or.inl ⟨this.mpr z, e3⟩
              · exact Or.inr z
          rw [tif_cg e9] at hJ2
          exact hJ2
      · skip
        rw [cI_lt (a := s) (b := tl) (by omega) (by omega)] at c5
        refine me_aload_n (p' := 103) k95_102 rfl rfl ?_
        refine me_iconst (p' := 104) k95_103 rfl (v := nI 0) (by decide) ?_
        refine me_pfi (p' := 107) k95_104 rfl (by decide) rfl rfl rfl rfl ?_
        refine me_retv k95_107 rt_95 ?_
        refine hQ _ ((hf.u (by omega)).u (by omega)) ?_
        rw [show tk B tl a w = (0, s, s) from by unfold tk; rw [hsE, if_pos (by omega)]]
        exact ⟨(mg_une (by decide)).trans mg_ueq, (mg_une (by decide)).trans ((mg_une (by decide)).trans h3), mg_ueq⟩
theorem lp_adv0 {d L : Nat} {xs : Nat → Int32} {I : Nat → Nat → Int32} {Q : Option Value → mj_H → Prop} {B : Nat → Nat} {tl a bw : Nat} (hT : cTp I B tl) (hB : ∀ k, k < tl → B k < 256) (u3 : Value) : ∀ (f k : Nat), tl - k = f → k ≤ tl → (hE : ∀ G, cFr I G → G 9 3 = nI (tSk B tl k) → mj_Ev (d + 1) 95 65 [.ref 9, .int (nI bw), .int (nI a), u3] [] (mg_h L xs G) Q) → ∀ G, cFr I G → G 9 3 = nI k → mj_Ev (d + 1) 95 27 [.ref 9, .int (nI bw), .int (nI a), u3] [] (mg_h L xs G) Q := by
  have htl := hT.2.1
  intro f
  induction f with
  | zero =>
    intro k hfk hk hE G hf h3
    refine me_aload_n (p' := 28) k95_27 rfl rfl ?_
    refine me_gfi (p' := 31) k95_28 rfl (by decide) rfl rfl ?_
    rw [h3]
    refine me_aload_n (p' := 32) k95_31 rfl rfl ?_
    refine me_gfi (p' := 35) k95_32 rfl (by decide) rfl rfl ?_
    rw [(hT.fr hf).1]
    refine me_ic_ge (p' := 38) k95_35 rfl (fun c1 => ?_) (fun c1 => ?_)
    · skip
      rw [cI_le (a := tl) (b := k) (by omega) (by omega)] at c1
      rw [tSk_0 (by omega)] at hE
      exact hE G hf h3
    · skip
      rw [cI_le (a := tl) (b := k) (by omega) (by omega)] at c1
      exfalso
      omega
  | succ f ih =>
    intro k hfk hk hE G hf h3
    have hB9 := hB k
    refine me_aload_n (p' := 28) k95_27 rfl rfl ?_
    refine me_gfi (p' := 31) k95_28 rfl (by decide) rfl rfl ?_
    rw [h3]
    refine me_aload_n (p' := 32) k95_31 rfl rfl ?_
    refine me_gfi (p' := 35) k95_32 rfl (by decide) rfl rfl ?_
    rw [(hT.fr hf).1]
    refine me_ic_ge (p' := 38) k95_35 rfl (fun c1 => ?_) (fun c1 => ?_)
    · skip
      rw [cI_le (a := tl) (b := k) (by omega) (by omega)] at c1
      rw [tSk_0 (by omega)] at hE
      exact hE G hf h3
    · skip
      rw [cI_le (a := tl) (b := k) (by omega) (by omega)] at c1
      refine me_aload_n (p' := 39) k95_38 rfl rfl ?_
      refine me_gfr (p' := 42) k95_39 rfl (by decide) rfl (b := 10) rfl ?_
      refine me_aload_n (p' := 43) k95_42 rfl rfl ?_
      refine me_gfi (p' := 46) k95_43 rfl (by decide) rfl rfl ?_
      rw [h3]
      refine me_iald (p' := 47) k95_46 rfl (by decide) rfl (j := k) rfl (by omega) (by decide) rfl ?_
      rw [((hT.fr hf).2.2 k (by omega)).1]
      refine me_bipush (p' := 49) k95_47 rfl (v := nI 32) (by decide) ?_
      refine me_ic_ne (p' := 52) k95_49 rfl (fun c2 => ?_) (fun c2 => ?_)
      · skip
        rw [cI_eq (a := B k) (b := 32) (by omega) (by omega)] at c2
        refine me_aload_n (p' := 53) k95_52 rfl rfl ?_
        refine me_dup (p' := 54) k95_53 rfl rfl ?_
        refine me_gfi (p' := 57) k95_54 rfl (by decide) rfl rfl ?_
        rw [h3]
        refine me_iconst (p' := 58) k95_57 rfl (v := nI 1) (by decide) ?_
        refine me_iadd (p' := 59) k95_58 rfl (v := nI (k + 1)) (mI_add _ _) ?_
        refine me_pfi (p' := 62) k95_59 rfl (by decide) rfl rfl rfl rfl ?_
        refine me_goto k95_62 ?_
        refine ih (k + 1) (by omega) (by omega) ?_ _ (hf.u (by omega)) mg_ueq
        rw [tSk_1 (by omega) c2] at hE
        exact hE
      · skip
        rw [cI_eq (a := B k) (b := 32) (by omega) (by omega)] at c2
        rw [tSk_0 (by omega)] at hE
        exact hE G hf h3
theorem ct_advance {d L : Nat} {xs : Nat → Int32} {I : Nat → Nat → Int32} {Q : Option Value → mj_H → Prop} {B : Nat → Nat} {tl a q : Nat} (hT : cTp I B tl) (h : I 9 3 = nI a ∧ I 9 4 = nI q) (ha : a ≤ tl) (hq : q ≤ 4) (hQ : ∀ J, cFr I J → cTk J (tk B tl a (q = 1 ∨ q = 2)) → Q none (mg_h L xs J)) : mj_Cl (d + 1) 95 [.ref 9] (mg_h L xs I) Q := by
  have htl := hT.2.1
  refine cl_start mx_95 (ls := [.ref 9, mj_no, mj_no, mj_no]) rfl ?_
  refine me_aload_n (p' := 1) k95_0 rfl rfl ?_
  refine me_gfi (p' := 4) k95_1 rfl (by decide) rfl rfl ?_
  rw [h.2]
  refine me_iconst (p' := 5) k95_4 rfl (v := nI 1) (by decide) ?_
  refine me_ic_eq (p' := 8) k95_5 rfl (fun c1 => ?_) (fun c1 => ?_)
  · skip
    rw [cI_eq (a := q) (b := 1) (by omega) (by omega)] at c1
    refine me_iconst (p' := 17) k95_16 rfl (v := nI 1) (by decide) ?_
    refine me_goto k95_17 ?_
    refine me_istore_n (p' := 22) k95_21 rfl ⟨Nat.le_of_ble_eq_true rfl, rfl⟩ rfl ?_
    refine me_aload_n (p' := 23) k95_22 rfl rfl ?_
    refine me_gfi (p' := 26) k95_23 rfl (by decide) rfl rfl ?_
    rw [h.1]
    refine me_istore_n (p' := 27) k95_26 rfl ⟨Nat.le_of_ble_eq_true rfl, rfl⟩ rfl ?_
    have hge := tSk_ge (B := B) (tl - a) a rfl ha
    refine lp_adv0 (I := I) (bw := 1) (a := a) hT (fun k hk => (hT.2.2 k hk).2) _ (tl - a) a rfl ha (fun G hG h3G => ?_) I cFr.rf h.1
    exact lp_adv1 hT hge.1 (by decide) (by omega) rfl hge.2 hG h3G hQ _
  · skip
    rw [cI_eq (a := q) (b := 1) (by omega) (by omega)] at c1
    refine me_aload_n (p' := 9) k95_8 rfl rfl ?_
    refine me_gfi (p' := 12) k95_9 rfl (by decide) rfl rfl ?_
    rw [h.2]
    refine me_iconst (p' := 13) k95_12 rfl (v := nI 2) (by decide) ?_
    refine me_ic_ne (p' := 16) k95_13 rfl (fun c2 => ?_) (fun c2 => ?_)
    · skip
      rw [cI_eq (a := q) (b := 2) (by omega) (by omega)] at c2
      refine me_iconst (p' := 17) k95_16 rfl (v := nI 1) (by decide) ?_
      refine me_goto k95_17 ?_
      refine me_istore_n (p' := 22) k95_21 rfl ⟨Nat.le_of_ble_eq_true rfl, rfl⟩ rfl ?_
      refine me_aload_n (p' := 23) k95_22 rfl rfl ?_
      refine me_gfi (p' := 26) k95_23 rfl (by decide) rfl rfl ?_
      rw [h.1]
      refine me_istore_n (p' := 27) k95_26 rfl ⟨Nat.le_of_ble_eq_true rfl, rfl⟩ rfl ?_
      have hge := tSk_ge (B := B) (tl - a) a rfl ha
      refine lp_adv0 (I := I) (bw := 1) (a := a) hT (fun k hk => (hT.2.2 k hk).2) _ (tl - a) a rfl ha (fun G hG h3G => ?_) I cFr.rf h.1
      exact lp_adv1 hT hge.1 (by decide) (by omega) rfl hge.2 hG h3G hQ _
    · skip
      rw [cI_eq (a := q) (b := 2) (by omega) (by omega)] at c2
      refine me_iconst (p' := 21) k95_20 rfl (v := nI 0) (by decide) ?_
      refine me_istore_n (p' := 22) k95_21 rfl ⟨Nat.le_of_ble_eq_true rfl, rfl⟩ rfl ?_
      refine me_aload_n (p' := 23) k95_22 rfl rfl ?_
      refine me_gfi (p' := 26) k95_23 rfl (by decide) rfl rfl ?_
      rw [h.1]
      refine me_istore_n (p' := 27) k95_26 rfl ⟨Nat.le_of_ble_eq_true rfl, rfl⟩ rfl ?_
      have hge := tSk_ge (B := B) (tl - a) a rfl ha
      refine lp_adv0 (I := I) (bw := 0) (a := a) hT (fun k hk => (hT.2.2 k hk).2) _ (tl - a) a rfl ha (fun G hG h3G => ?_) I cFr.rf h.1
      exact lp_adv1 hT hge.1 (by decide) (by omega) rfl hge.2 hG h3G hQ _
