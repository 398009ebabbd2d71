/-! ===== the class: words, names, numbers; what a TEXT takes down ===== -/
/-- the TEXT t0 of the class as it is written: its KEY, what stands of it -/
def cTo (I : Nat → Nat → Int32) (t0 key : Nat) (o : List Nat) : Prop := I (59 + 3 * t0) 2 = nI o.length ∧ I (59 + 3 * t0) 3 = nI key ∧ I (59 + 3 * t0) 4 = nI (tNa o) ∧ ∀ j : Nat, j < o.length → I (60 + 3 * t0) j = sp_cc (o.getD j 0)
theorem cTo.fr {S : List Nat} {I J : Nat → Nat → Int32} {t0 key : Nat} {o : List Nat} (h : cTo I t0 key o) (hf : mFr S I J) (hd : 59 + 3 * t0 ∉ S ∧ 60 + 3 * t0 ∉ S) : cTo J t0 key o := ⟨(hf _ _ hd.1).trans h.1, (hf _ _ hd.1).trans h.2.1, (hf _ _ hd.1).trans h.2.2.1, fun j hj => (hf _ _ hd.2).trans (h.2.2.2 j hj)⟩
theorem o_get {o : List Nat} {x j : Nat} (h : j < o.length + 1) : (o ++ [x]).getD j 0 = if j = o.length then x else o.getD j 0 := by
  by_cases e : j = o.length
  · subst e
    rw [if_pos rfl, List.getD_eq_getElem?_getD, List.getElem?_append_right (Nat.le_refl _), Nat.sub_self]
    rfl
  · rw [if_neg e, List.getD_eq_getElem?_getD, List.getElem?_append_left (by omega), List.getD_eq_getElem?_getD]
theorem cTo.add0 {I : Nat → Nat → Int32} {t0 key x : Nat} {o : List Nat} (h : cTo I t0 key o) (hx : ¬ x < 20000) : cTo (mg_u (mg_u I (60 + 3 * t0) o.length (sp_cc x)) (59 + 3 * t0) 2 (nI (o.length + 1))) t0 key (o ++ [x]) := by
  refine ⟨?_, ?_, ?_, fun j hj => ?_⟩
  · rw [mg_ueq, List.length_append, List.length_singleton]
  · rw [mg_une (by omega), mg_un1 (by omega)]; exact h.2.1
  · rw [mg_une (by omega), mg_un1 (by omega), tNa_0 hx]; exact h.2.2.1
  · rw [List.length_append, List.length_singleton] at hj
    rw [mg_un1 (by omega), o_get hj]
    by_cases e : j = o.length
    · rw [if_pos e, e, mg_ueq]
    · rw [if_neg e, mg_une (fun z => e z.2)]
      exact h.2.2.2 j (by omega)
theorem cTo.add1 {I : Nat → Nat → Int32} {t0 key x : Nat} {o : List Nat} (h : cTo I t0 key o) (hx : x < 20000) : cTo (mg_u (mg_u (mg_u I (60 + 3 * t0) o.length (sp_cc x)) (59 + 3 * t0) 2 (nI (o.length + 1))) (59 + 3 * t0) 4 (nI (tNa o + 1))) t0 key (o ++ [x]) := by
  refine ⟨?_, ?_, ?_, fun j hj => ?_⟩
  · rw [mg_une (by omega), mg_ueq, List.length_append, List.length_singleton]
  · rw [mg_une (by omega), mg_une (by omega), mg_un1 (by omega)]; exact h.2.1
  · rw [mg_ueq, tNa_1 hx]
  · rw [List.length_append, List.length_singleton] at hj
    rw [mg_un1 (by omega), mg_un1 (by omega), o_get hj]
    by_cases e : j = o.length
    · rw [if_pos e, e, mg_ueq]
    · rw [if_neg e, mg_une (fun z => e z.2)]
      exact h.2.2.2 j (by omega)
theorem mem_2 {a b : Nat} : a ∈ [a, b] ∧ b ∈ [a, b] := by simp
theorem txt_len : ∀ c : Nat, c < 14 → (mj_txt.getD c []).length ≤ 4 ∧ ∀ x ∈ mj_txt.getD c [], x < 256 := by decide
theorem mI_find0 {b c : Nat} (hb : b < 256) (hc : c < 14) : 0 ≤ mj_find (nI b) (mj_txt.getD c []) 0 ↔ b ∈ mj_txt.getD c [] := by
  rw [mj_find_pos (by omega) _ 0 (fun x hx => by have := (txt_len c hc).2 x hx; omega), ← tPos_mem (b := b) _ 0]
  cases h : tPos b (mj_txt.getD c []) 0 with
  | none => exact ⟨fun z => absurd z (by decide), fun z => absurd z (by simp)⟩
  | some j =>
    have := (tPos_lt _ _ _ h).2
    have h4 := (txt_len c hc).1
    exact ⟨fun _ => rfl, fun _ => nI_pos' (by omega)⟩
theorem mI_findo {b c : Nat} (hb : b < 256) (hc : c < 14) : mj_find (nI b) (mj_txt.getD c []) 0 = oI (tPos b (mj_txt.getD c []) 0) := by
  rw [mj_find_pos (by omega) _ 0 (fun x hx => by have := (txt_len c hc).2 x hx; omega)]
  cases tPos b (mj_txt.getD c []) 0 <;> rfl
def tIs (B : Nat → Nat) (t : Nat × Nat × Nat) (l : List Nat) : Prop := t.1 = 1 ∧ t.2.2 - t.2.1 = l.length ∧ ∀ i : Nat, i < l.length → B (t.2.1 + i) = l.getD i 0
theorem ct_isOneOf {d L : Nat} {xs : Nat → Int32} {I : Nat → Nat → Int32} {Q : Option Value → mj_H → Prop} {B : Nat → Nat} {tl c : Nat} {t : Nat × Nat × Nat} (hT : cTp I B tl) (hk : cTk I t) (ht4 : t.1 ≤ 4) (ht96 : t.2.1 ≤ 96) (he : t.1 = 3 → t.2.1 < tl) (hc : c < 14) (h1 : t.1 = 3 ∧ B t.2.1 ∈ mj_txt.getD c [] → Q (some (.int (nI 1))) (mg_h L xs I)) (h0 : ¬ (t.1 = 3 ∧ B t.2.1 ∈ mj_txt.getD c []) → Q (some (.int (nI 0))) (mg_h L xs I)) : mj_Cl d 102 [.ref 9, .ref (mj_X + 1 + c)] (mg_h L xs I) Q := by
  have htl := hT.2.1
  refine cl_start mx_102 (ls := [.ref 9, .ref (mj_X + 1 + c)]) rfl ?_
  refine me_aload_n (p' := 1) k102_0 rfl rfl ?_
  refine me_gfi (p' := 4) k102_1 rfl (by decide) rfl rfl ?_
  rw [hk.2.2]
  refine me_iconst (p' := 5) k102_4 rfl (v := nI 3) (by decide) ?_
  refine me_ic_ne (p' := 8) k102_5 rfl (fun c1 => ?_) (fun c1 => ?_)
  · skip
    rw [cI_eq (a := t.1) (b := 3) (by omega) (by omega)] at c1
    refine me_aload_n (p' := 9) k102_8 rfl rfl ?_
    refine me_aload_n (p' := 10) k102_9 rfl rfl ?_
    refine me_gfr (p' := 13) k102_10 rfl (by decide) rfl (b := 10) rfl ?_
    refine me_aload_n (p' := 14) k102_13 rfl rfl ?_
    refine me_gfi (p' := 17) k102_14 rfl (by decide) rfl rfl ?_
    rw [hk.1]
    refine me_iald (p' := 18) k102_17 rfl (by decide) rfl (j := t.2.1) rfl (by have := he (by omega); omega) (by decide) rfl ?_
    have hst := he (by omega)
    rw [(hT.2.2 _ hst).1]
    have hB9 := (hT.2.2 _ hst).2
    refine me_i2c (p' := 19) k102_18 rfl rfl ?_
    rw [mI_i2c (by omega)]
    refine me_sidx (p' := 22) k102_19 rfl (c := c) hc (cl_sum rfl) ?_
    refine me_if_lt (p' := 25) k102_22 rfl (fun c2 => ?_) (fun c2 => ?_)
    · skip
      refine me_iconst (p' := 30) k102_29 rfl (v := nI 0) (by decide) ?_
      refine me_reti k102_30 rt_102 (by decide) ?_
      exact h0 (fun z => absurd ((mI_find0 hB9 hc).mpr z.2) (Int32.not_le.mpr c2))
    · skip
      refine me_iconst (p' := 26) k102_25 rfl (v := nI 1) (by decide) ?_
      refine me_goto k102_26 ?_
      refine me_reti k102_30 rt_102 (by decide) ?_
      rw [← Int32.not_le, Classical.not_not, mI_find0 hB9 hc] at c2
      exact h1 ⟨by omega, c2⟩
  · skip
    rw [cI_eq (a := t.1) (b := 3) (by omega) (by omega)] at c1
    refine me_iconst (p' := 30) k102_29 rfl (v := nI 0) (by decide) ?_
    refine me_reti k102_30 rt_102 (by decide) ?_
    exact h0 (fun z => c1 z.1)
theorem lp_isWord {d L : Nat} {xs : Nat → Int32} {I : Nat → Nat → Int32} {Q : Option Value → mj_H → Prop} {B : Nat → Nat} {tl c : Nat} {t : Nat × Nat × Nat} (hT : cTp I B tl) (hk : cTk I t) (hw : tWf B tl t) (hc : c < 14) (hi1 : t.1 = 1) (hi2 : t.2.2 - t.2.1 = (mj_txt.getD c []).length) (h1 : tIs B t (mj_txt.getD c []) → Q (some (.int (nI 1))) (mg_h L xs I)) (h0 : ¬ tIs B t (mj_txt.getD c []) → Q (some (.int (nI 0))) (mg_h L xs I)) : ∀ i : Nat, i ≤ (mj_txt.getD c []).length → (hm : ∀ j, j < i → B (t.2.1 + j) = (mj_txt.getD c []).getD j 0) → mj_Ev d 98 28 [.ref 9, .ref (mj_X + 1 + c), .int (nI i)] [] (mg_h L xs I) Q := by
  have htl := hT.2.1
  have hlen := (txt_len c hc).1
  have hw2 := hw.2.1
  refine loop_ind (n := (mj_txt.getD c []).length) (fun i hin ih => ?_)
  intro hm
  refine me_iload_n (p' := 29) k98_28 rfl rfl ?_
  refine me_aload_n (p' := 30) k98_29 rfl rfl ?_
  refine me_slen (p' := 33) k98_30 rfl (c := c) hc (cl_sum rfl) (v := nI ((mj_txt.getD c []).length)) rfl ?_
  refine me_ic_ge (p' := 36) k98_33 rfl (fun c1 => ?_) (fun c1 => ?_)
  · skip
    rw [cI_le (a := (mj_txt.getD c []).length) (b := i) (by omega) (by omega)] at c1
    refine me_iconst (p' := 64) k98_63 rfl (v := nI 1) (by decide) ?_
    refine me_reti k98_64 rt_98 (by decide) ?_
    obtain rfl : i = (mj_txt.getD c []).length := by omega
    exact h1 ⟨hi1, hi2, hm⟩
  · skip
    rw [cI_le (a := (mj_txt.getD c []).length) (b := i) (by omega) (by omega)] at c1
    refine me_aload_n (p' := 37) k98_36 rfl rfl ?_
    refine me_gfr (p' := 40) k98_37 rfl (by decide) rfl (b := 10) rfl ?_
    refine me_aload_n (p' := 41) k98_40 rfl rfl ?_
    refine me_gfi (p' := 44) k98_41 rfl (by decide) rfl rfl ?_
    rw [hk.1]
    refine me_iload_n (p' := 45) k98_44 rfl rfl ?_
    refine me_iadd (p' := 46) k98_45 rfl (v := nI (t.2.1 + i)) (mI_add _ _) ?_
    refine me_iald (p' := 47) k98_46 rfl (by decide) rfl (j := t.2.1 + i) rfl (by omega) (by decide) rfl ?_
    rw [(hT.2.2 (t.2.1 + i) (by omega)).1]
    have hB9 := (hT.2.2 (t.2.1 + i) (by omega)).2
    have hl9 : (mj_txt.getD c []).getD i 0 < 256 := by
      rw [List.getD_eq_getElem?_getD, List.getElem?_eq_getElem (by omega)]
      exact (txt_len c hc).2 _ (List.getElem_mem _)
    refine me_aload_n (p' := 48) k98_47 rfl rfl ?_
    refine me_iload_n (p' := 49) k98_48 rfl rfl ?_
    refine me_scat (p' := 52) k98_49 rfl (c := c) (j := i) hc (by omega) (cl_sum rfl) ?_
    refine me_ic_eq (p' := 55) k98_52 rfl (fun c2 => ?_) (fun c2 => ?_)
    · skip
      rw [cI_eq (a := B (t.2.1 + i)) (b := (mj_txt.getD c []).getD i 0) (by omega) (by omega)] at c2
      refine me_iinc (p' := 60) k98_57 rfl rfl rfl (v := nI (i + 1)) (mI_inc (by decide)) rfl ?_
      refine me_goto k98_60 ?_
      refine ih (by omega) (fun j hj => ?_)
      rcases Nat.eq_or_lt_of_le (Nat.lt_succ_iff.mp hj) with e | e
      · subst e; exact c2
      · exact hm j e
    · skip
      rw [cI_eq (a := B (t.2.1 + i)) (b := (mj_txt.getD c []).getD i 0) (by omega) (by omega)] at c2
      refine me_iconst (p' := 56) k98_55 rfl (v := nI 0) (by decide) ?_
      refine me_reti k98_56 rt_98 (by decide) ?_
      exact h0 (fun z => c2 (z.2.2 i (by omega)))
theorem ct_isWordHere {d L : Nat} {xs : Nat → Int32} {I : Nat → Nat → Int32} {Q : Option Value → mj_H → Prop} {B : Nat → Nat} {tl c : Nat} {t : Nat × Nat × Nat} (hT : cTp I B tl) (hk : cTk I t) (hw : tWf B tl t) (hc : c < 14) (h1 : tIs B t (mj_txt.getD c []) → Q (some (.int (nI 1))) (mg_h L xs I)) (h0 : ¬ tIs B t (mj_txt.getD c []) → Q (some (.int (nI 0))) (mg_h L xs I)) : mj_Cl d 98 [.ref 9, .ref (mj_X + 1 + c)] (mg_h L xs I) Q := by
  have htl := hT.2.1
  have hlen := (txt_len c hc).1
  have hw1 := hw.1
  have hw2 := hw.2.1
  have hw4 := hw.2.2.2.2.1
  have hw9 := hw.2.2.2.2.2.2.2.2
  refine cl_start mx_98 (ls := [.ref 9, .ref (mj_X + 1 + c), mj_no]) rfl ?_
  refine me_aload_n (p' := 1) k98_0 rfl rfl ?_
  refine me_gfi (p' := 4) k98_1 rfl (by decide) rfl rfl ?_
  rw [hk.2.2]
  refine me_iconst (p' := 5) k98_4 rfl (v := nI 1) (by decide) ?_
  refine me_ic_ne (p' := 8) k98_5 rfl (fun c1 => ?_) (fun c1 => ?_)
  · skip
    rw [cI_eq (a := t.1) (b := 1) (by omega) (by omega)] at c1
    refine me_aload_n (p' := 9) k98_8 rfl rfl ?_
    refine me_gfi (p' := 12) k98_9 rfl (by decide) rfl rfl ?_
    rw [hk.2.1]
    refine me_aload_n (p' := 13) k98_12 rfl rfl ?_
    refine me_gfi (p' := 16) k98_13 rfl (by decide) rfl rfl ?_
    rw [hk.1]
    refine me_isub (p' := 17) k98_16 rfl rfl ?_
    rw [mI_sub (by omega)]
    refine me_aload_n (p' := 18) k98_17 rfl rfl ?_
    refine me_slen (p' := 21) k98_18 rfl (c := c) hc (cl_sum rfl) (v := nI ((mj_txt.getD c []).length)) rfl ?_
    refine me_ic_eq (p' := 24) k98_21 rfl (fun c2 => ?_) (fun c2 => ?_)
    · skip
      rw [cI_eq (a := t.2.2 - t.2.1) (b := (mj_txt.getD c []).length) (by omega) (by omega)] at c2
      refine me_iconst (p' := 27) k98_26 rfl (v := nI 0) (by decide) ?_
      refine me_istore_n (p' := 28) k98_27 rfl ⟨Nat.le_of_ble_eq_true rfl, rfl⟩ rfl ?_
      exact lp_isWord hT hk hw hc (by omega) (by omega) h1 h0 0 (Nat.zero_le _) (fun j hj => by omega)
    · skip
      rw [cI_eq (a := t.2.2 - t.2.1) (b := (mj_txt.getD c []).length) (by omega) (by omega)] at c2
      refine me_iconst (p' := 25) k98_24 rfl (v := nI 0) (by decide) ?_
      refine me_reti k98_25 rt_98 (by decide) ?_
      exact h0 (fun z => c2 z.2.1)
  · skip
    rw [cI_eq (a := t.1) (b := 1) (by omega) (by omega)] at c1
    refine me_iconst (p' := 25) k98_24 rfl (v := nI 0) (by decide) ?_
    refine me_reti k98_25 rt_98 (by decide) ?_
    exact h0 (fun z => c1 z.1)
theorem ct_keyHere {d L : Nat} {xs : Nat → Int32} {I : Nat → Nat → Int32} {Q : Option Value → mj_H → Prop} {B : Nat → Nat} {tl : Nat} {t : Nat × Nat × Nat} (hT : cTp I B tl) (hk : cTk I t) (hw : tWf B tl t) (h0 : tIs B t (mj_txt.getD 0 []) → Q (some (.int (nI 0))) (mg_h L xs I)) (h1 : ¬ tIs B t (mj_txt.getD 0 []) → tIs B t (mj_txt.getD 1 []) → Q (some (.int (nI 1))) (mg_h L xs I)) (h2 : ¬ tIs B t (mj_txt.getD 0 []) → ¬ tIs B t (mj_txt.getD 1 []) → tIs B t (mj_txt.getD 2 []) → Q (some (.int (nI 2))) (mg_h L xs I)) (hN : ¬ tIs B t (mj_txt.getD 0 []) → ¬ tIs B t (mj_txt.getD 1 []) → ¬ tIs B t (mj_txt.getD 2 []) → Q (some (.int (-1))) (mg_h L xs I)) : mj_Cl (d + 1) 97 [.ref 9] (mg_h L xs I) Q := by
  refine cl_start mx_97 (ls := [.ref 9]) rfl ?_
  refine me_aload_n (p' := 1) k97_0 rfl rfl ?_
  refine me_ldcs (p' := 3) k97_1 rfl ?_
  refine me_cv (p' := 6) k97_3 rfl rfl (by decide) rfl (by decide) (by decide) dp_98 rfl rfl (cl_le mx_98 rfl) (by decide) (cl_sum rfl) (ct_isWordHere (c := 0) hT hk hw (by decide) (fun e0 => ?_) (fun e0 => ?_))
  · skip
    refine me_if_eq (p' := 9) k97_6 rfl (fun h => absurd h (by decide)) (fun _ => ?_)
    refine me_iconst (p' := 10) k97_9 rfl (v := nI 0) (by decide) ?_
    refine me_reti k97_10 rt_97 rfl ?_
    exact h0 e0
  · skip
    refine me_if_eq (p' := 9) k97_6 rfl (fun _ => ?_) (fun h => absurd (by decide) h)
    refine me_aload_n (p' := 12) k97_11 rfl rfl ?_
    refine me_ldcs (p' := 14) k97_12 rfl ?_
    refine me_cv (p' := 17) k97_14 rfl rfl (by decide) rfl (by decide) (by decide) dp_98 rfl rfl (cl_le mx_98 rfl) (by decide) (cl_sum rfl) (ct_isWordHere (c := 1) hT hk hw (by decide) (fun e1 => ?_) (fun e1 => ?_))
    · skip
      refine me_if_eq (p' := 20) k97_17 rfl (fun h => absurd h (by decide)) (fun _ => ?_)
      refine me_iconst (p' := 21) k97_20 rfl (v := nI 1) (by decide) ?_
      refine me_reti k97_21 rt_97 rfl ?_
      exact h1 e0 e1
    · skip
      refine me_if_eq (p' := 20) k97_17 rfl (fun _ => ?_) (fun h => absurd (by decide) h)
      refine me_aload_n (p' := 23) k97_22 rfl rfl ?_
      refine me_ldcs (p' := 25) k97_23 rfl ?_
      refine me_cv (p' := 28) k97_25 rfl rfl (by decide) rfl (by decide) (by decide) dp_98 rfl rfl (cl_le mx_98 rfl) (by decide) (cl_sum rfl) (ct_isWordHere (c := 2) hT hk hw (by decide) (fun e2 => ?_) (fun e2 => ?_))
      · skip
        refine me_if_eq (p' := 31) k97_28 rfl (fun h => absurd h (by decide)) (fun _ => ?_)
        refine me_iconst (p' := 32) k97_31 rfl (v := nI 2) (by decide) ?_
        refine me_goto k97_32 ?_
        refine me_reti k97_36 rt_97 rfl ?_
        exact h2 e0 e1 e2
      · skip
        refine me_if_eq (p' := 31) k97_28 rfl (fun _ => ?_) (fun h => absurd (by decide) h)
        refine me_iconst (p' := 36) k97_35 rfl (v := (-1)) (by decide) ?_
        refine me_reti k97_36 rt_97 rfl ?_
        exact hN e0 e1 e2
theorem ct_begin {d L : Nat} {xs : Nat → Int32} {I : Nat → Nat → Int32} {Q : Option Value → mj_H → Prop} {t0 key : Nat} (ht0 : t0 < 15) (hQ : ∀ J, mFr [59 + 3 * t0, 60 + 3 * t0] I J → cTo J t0 key [] → Q none (mg_h L xs J)) : mj_Cl d 99 [.ref (59 + 3 * t0), .int (nI key)] (mg_h L xs I) Q := by
  refine cl_start mx_99 (ls := [.ref (59 + 3 * t0), .int (nI key)]) rfl ?_
  refine me_aload_n (p' := 1) k99_0 rfl rfl ?_
  refine me_iload_n (p' := 2) k99_1 rfl rfl ?_
  refine me_pfi (p' := 5) k99_2 rfl (by omega) (congrArg Prod.fst (tb_T t0 (by omega))) (rc_Ti t0 (by omega) 3 (by decide) (by decide)) rfl rfl ?_
  refine me_aload_n (p' := 6) k99_5 rfl rfl ?_
  refine me_iconst (p' := 7) k99_6 rfl (v := nI 0) (by decide) ?_
  refine me_pfi (p' := 10) k99_7 rfl (by omega) (congrArg Prod.fst (tb_T t0 (by omega))) (rc_Ti t0 (by omega) 2 (by decide) (by decide)) rfl rfl ?_
  refine me_aload_n (p' := 11) k99_10 rfl rfl ?_
  refine me_iconst (p' := 12) k99_11 rfl (v := nI 0) (by decide) ?_
  refine me_pfi (p' := 15) k99_12 rfl (by omega) (congrArg Prod.fst (tb_T t0 (by omega))) (rc_Ti t0 (by omega) 4 (by decide) (by decide)) rfl rfl ?_
  refine me_retv k99_15 rt_99 ?_
  refine hQ _ (((mFr.up mem_2.1).tr (mFr.up mem_2.1)).tr (mFr.up mem_2.1)) ⟨?_, ?_, ?_, fun j hj => absurd hj (by simp)⟩
  · rw [mg_une (by omega), mg_ueq]; rfl
  · rw [mg_une (by omega), mg_une (by omega), mg_ueq]
  · rw [mg_ueq]; rfl
theorem ct_add {d L : Nat} {xs : Nat → Int32} {I : Nat → Nat → Int32} {Q : Option Value → mj_H → Prop} {t0 : Nat} {o : List Nat} {v : Int32} (ht0 : t0 < 15) (ho : I (59 + 3 * t0) 2 = nI o.length) (hl : o.length < 96) (hQ : Q none (mg_h L xs (mg_u (mg_u I (60 + 3 * t0) o.length v) (59 + 3 * t0) 2 (nI (o.length + 1))))) : mj_Cl d 104 [.ref (59 + 3 * t0), .int v] (mg_h L xs I) Q := by
  refine cl_start mx_104 (ls := [.ref (59 + 3 * t0), .int v]) rfl ?_
  refine me_aload_n (p' := 1) k104_0 rfl rfl ?_
  refine me_gfi (p' := 4) k104_1 rfl (by omega) (congrArg Prod.fst (tb_T t0 (by omega))) (rc_Ti t0 (by omega) 2 (by decide) (by decide)) ?_
  rw [ho]
  refine me_aload_n (p' := 5) k104_4 rfl rfl ?_
  refine me_gfr (p' := 8) k104_5 rfl (by omega) (congrArg Prod.fst (tb_T t0 (by omega))) (b := 60 + 3 * t0) (rc_T0 t0 (by omega)) ?_
  refine me_alen (p' := 9) k104_8 rfl (by omega) (tb_Tc t0 (by omega)) ⟨by decide, by decide⟩ (v := nI 96) rfl ?_
  refine me_ic_ge (p' := 12) k104_9 rfl (fun c1 => ?_) (fun c1 => ?_)
  · skip
    rw [cI_le (a := 96) (b := o.length) (by omega) (by omega)] at c1
    exfalso
    omega
  · skip
    rw [cI_le (a := 96) (b := o.length) (by omega) (by omega)] at c1
    refine me_aload_n (p' := 13) k104_12 rfl rfl ?_
    refine me_gfr (p' := 16) k104_13 rfl (by omega) (congrArg Prod.fst (tb_T t0 (by omega))) (b := 60 + 3 * t0) (rc_T0 t0 (by omega)) ?_
    refine me_aload_n (p' := 17) k104_16 rfl rfl ?_
    refine me_gfi (p' := 20) k104_17 rfl (by omega) (congrArg Prod.fst (tb_T t0 (by omega))) (rc_Ti t0 (by omega) 2 (by decide) (by decide)) ?_
    rw [ho]
    refine me_iload_n (p' := 21) k104_20 rfl rfl ?_
    refine me_iast (p' := 22) k104_21 rfl (by omega) (tb_Tc t0 (by omega)) (j := o.length) rfl (by omega) (by decide) (rc_Tc (by omega) _) ?_
    refine me_aload_n (p' := 23) k104_22 rfl rfl ?_
    refine me_dup (p' := 24) k104_23 rfl rfl ?_
    refine me_gfi (p' := 27) k104_24 rfl (by omega) (congrArg Prod.fst (tb_T t0 (by omega))) (rc_Ti t0 (by omega) 2 (by decide) (by decide)) ?_
    rw [mg_un1 (by omega), ho]
    refine me_iconst (p' := 28) k104_27 rfl (v := nI 1) (by decide) ?_
    refine me_iadd (p' := 29) k104_28 rfl (v := nI (o.length + 1)) (mI_add _ _) ?_
    refine me_pfi (p' := 32) k104_29 rfl (by omega) (congrArg Prod.fst (tb_T t0 (by omega))) (rc_Ti t0 (by omega) 2 (by decide) (by decide)) rfl rfl ?_
    refine me_retv k104_32 rt_104 ?_
    exact hQ
theorem ct_addSign {d L : Nat} {xs : Nat → Int32} {I : Nat → Nat → Int32} {Q : Option Value → mj_H → Prop} {q : Nat} {t0 key : Nat} {o : List Nat} (ht0 : t0 < 15) (ho : cTo I t0 key o) (hl : o.length < 96) (hq : 1 ≤ q ∧ q ≤ 10) (hQ : ∀ J, mFr [59 + 3 * t0, 60 + 3 * t0] I J → cTo J t0 key (o ++ [20000 + q]) → Q none (mg_h L xs J)) : mj_Cl (d + 1) 103 [.ref (59 + 3 * t0), .int (nI (sp_sg q))] (mg_h L xs I) Q := by
  refine cl_start mx_103 (ls := [.ref (59 + 3 * t0), .int (nI (sp_sg q))]) rfl ?_
  refine me_aload_n (p' := 1) k103_0 rfl rfl ?_
  refine me_sipush (p' := 4) k103_1 rfl (v := nI 10000) (by decide) ?_
  refine me_iload_n (p' := 5) k103_4 rfl rfl ?_
  refine me_iadd (p' := 6) k103_5 rfl (v := nI (10000 + (sp_sg q))) (mI_add _ _) ?_
  refine me_cv (p' := 9) k103_6 rfl rfl (by omega) (congrArg Prod.fst (tb_T t0 (by omega))) (by decide) (by decide) dp_104 rfl rfl (cl_le mx_104 rfl) (by decide) (cl_sum rfl) (ct_add (o := o) ht0 ho.1 hl ?_)
  rw [show nI (10000 + (sp_sg q)) = sp_cc (20000 + q) from by unfold sp_cc; rw [if_neg (by omega), if_neg (by omega), show 20000 + q - 20000 = q by omega]]
  refine me_retv k103_9 rt_103 ?_
  exact hQ _ ((mFr.up mem_2.2).tr (mFr.up mem_2.1)) (ho.add0 (by omega))
theorem ct_addNumber {d L : Nat} {xs : Nat → Int32} {I : Nat → Nat → Int32} {Q : Option Value → mj_H → Prop} {a : Nat} {t0 key : Nat} {o : List Nat} (ht0 : t0 < 15) (ho : cTo I t0 key o) (hl : o.length < 96) (ha : a < 10000) (hQ : ∀ J, mFr [59 + 3 * t0, 60 + 3 * t0] I J → cTo J t0 key (o ++ [a]) → Q none (mg_h L xs J)) : mj_Cl (d + 1) 108 [.ref (59 + 3 * t0), .int (nI a)] (mg_h L xs I) Q := by
  refine cl_start mx_108 (ls := [.ref (59 + 3 * t0), .int (nI a)]) rfl ?_
  refine me_aload_n (p' := 1) k108_0 rfl rfl ?_
  refine me_iload_n (p' := 2) k108_1 rfl rfl ?_
  refine me_cv (p' := 5) k108_2 rfl rfl (by omega) (congrArg Prod.fst (tb_T t0 (by omega))) (by decide) (by decide) dp_104 rfl rfl (cl_le mx_104 rfl) (by decide) (cl_sum rfl) (ct_add (o := o) ht0 ho.1 hl ?_)
  rw [show nI a = sp_cc a from by unfold sp_cc; rw [if_pos ha]]
  refine me_aload_n (p' := 6) k108_5 rfl rfl ?_
  refine me_dup (p' := 7) k108_6 rfl rfl ?_
  refine me_gfi (p' := 10) k108_7 rfl (by omega) (congrArg Prod.fst (tb_T t0 (by omega))) (rc_Ti t0 (by omega) 4 (by decide) (by decide)) ?_
  rw [mg_une (by omega), mg_un1 (by omega), ho.2.2.1]
  refine me_iconst (p' := 11) k108_10 rfl (v := nI 1) (by decide) ?_
  refine me_iadd (p' := 12) k108_11 rfl (v := nI ((tNa o) + 1)) (mI_add _ _) ?_
  refine me_pfi (p' := 15) k108_12 rfl (by omega) (congrArg Prod.fst (tb_T t0 (by omega))) (rc_Ti t0 (by omega) 4 (by decide) (by decide)) rfl rfl ?_
  refine me_retv k108_15 rt_108 ?_
  exact hQ _ (((mFr.up mem_2.2).tr (mFr.up mem_2.1)).tr (mFr.up mem_2.1)) (ho.add1 (by omega))
theorem mI_nm : ∀ j : Nat, j < 3 → (-1) - nI j = -(nI (j + 1)) := by decide
theorem ct_addName {d L : Nat} {xs : Nat → Int32} {I : Nat → Nat → Int32} {Q : Option Value → mj_H → Prop} {j : Nat} {t0 key : Nat} {o : List Nat} (ht0 : t0 < 15) (ho : cTo I t0 key o) (hl : o.length < 96) (hj : j < 3) (hQ : ∀ J, mFr [59 + 3 * t0, 60 + 3 * t0] I J → cTo J t0 key (o ++ [10000 + j]) → Q none (mg_h L xs J)) : mj_Cl (d + 1) 109 [.ref (59 + 3 * t0), .int (nI j)] (mg_h L xs I) Q := by
  refine cl_start mx_109 (ls := [.ref (59 + 3 * t0), .int (nI j)]) rfl ?_
  refine me_aload_n (p' := 1) k109_0 rfl rfl ?_
  refine me_iconst (p' := 2) k109_1 rfl (v := (-1)) (by decide) ?_
  refine me_iload_n (p' := 3) k109_2 rfl rfl ?_
  refine me_isub (p' := 4) k109_3 rfl rfl ?_
  refine me_cv (p' := 7) k109_4 rfl rfl (by omega) (congrArg Prod.fst (tb_T t0 (by omega))) (by decide) (by decide) dp_104 rfl rfl (cl_le mx_104 rfl) (by decide) (cl_sum rfl) (ct_add (o := o) ht0 ho.1 hl ?_)
  rw [show ((-1) - nI j) = sp_cc (10000 + j) from by unfold sp_cc; rw [if_neg (by omega), if_pos (by omega), show 10000 + j - 10000 + 1 = j + 1 by omega]; exact mI_nm j hj]
  refine me_aload_n (p' := 8) k109_7 rfl rfl ?_
  refine me_dup (p' := 9) k109_8 rfl rfl ?_
  refine me_gfi (p' := 12) k109_9 rfl (by omega) (congrArg Prod.fst (tb_T t0 (by omega))) (rc_Ti t0 (by omega) 4 (by decide) (by decide)) ?_
  rw [mg_une (by omega), mg_un1 (by omega), ho.2.2.1]
  refine me_iconst (p' := 13) k109_12 rfl (v := nI 1) (by decide) ?_
  refine me_iadd (p' := 14) k109_13 rfl (v := nI ((tNa o) + 1)) (mI_add _ _) ?_
  refine me_pfi (p' := 17) k109_14 rfl (by omega) (congrArg Prod.fst (tb_T t0 (by omega))) (rc_Ti t0 (by omega) 4 (by decide) (by decide)) rfl rfl ?_
  refine me_retv k109_17 rt_109 ?_
  exact hQ _ (((mFr.up mem_2.2).tr (mFr.up mem_2.1)).tr (mFr.up mem_2.1)) (ho.add1 (by omega))
theorem ct_nameHere {d L : Nat} {xs : Nat → Int32} {I : Nat → Nat → Int32} {Q : Option Value → mj_H → Prop} {B : Nat → Nat} {tl : Nat} {t : Nat × Nat × Nat} (hT : cTp I B tl) (hk : cTk I t) (hw : tWf B tl t) {key : Nat} (hkey : key < 3) (hQ : Q (some (.int (oI (tNm B key t)))) (mg_h L xs I)) : mj_Cl d 106 [.ref 9, .int (nI key)] (mg_h L xs I) Q := by
  have htl := hT.2.1
  have hw1 := hw.1
  have hw2 := hw.2.1
  have hw3 := hw.2.2.2.1
  have hw4 := hw.2.2.2.2.1
  have hw9 := hw.2.2.2.2.2.2.2.2
  refine cl_start mx_106 (ls := [.ref 9, .int (nI key), mj_no]) rfl ?_
  refine me_aload_n (p' := 1) k106_0 rfl rfl ?_
  refine me_gfi (p' := 4) k106_1 rfl (by decide) rfl rfl ?_
  rw [hk.2.2]
  refine me_iconst (p' := 5) k106_4 rfl (v := nI 1) (by decide) ?_
  refine me_ic_ne (p' := 8) k106_5 rfl (fun c1 => ?_) (fun c1 => ?_)
  · skip
    rw [cI_eq (a := t.1) (b := 1) (by omega) (by omega)] at c1
    refine me_aload_n (p' := 9) k106_8 rfl rfl ?_
    refine me_gfi (p' := 12) k106_9 rfl (by decide) rfl rfl ?_
    rw [hk.2.1]
    refine me_aload_n (p' := 13) k106_12 rfl rfl ?_
    refine me_gfi (p' := 16) k106_13 rfl (by decide) rfl rfl ?_
    rw [hk.1]
    refine me_isub (p' := 17) k106_16 rfl rfl ?_
    rw [mI_sub (by omega)]
    refine me_iconst (p' := 18) k106_17 rfl (v := nI 1) (by decide) ?_
    refine me_ic_eq (p' := 21) k106_18 rfl (fun c2 => ?_) (fun c2 => ?_)
    · skip
      rw [cI_eq (a := t.2.2 - t.2.1) (b := 1) (by omega) (by omega)] at c2
      refine me_iload_n (p' := 24) k106_23 rfl rfl ?_
      refine me_if_ne (p' := 27) k106_24 rfl (fun c3 => ?_) (fun c3 => ?_)
      · skip
        rw [cI_eq0 (a := key) (by omega)] at c3
        refine me_ldcs (p' := 29) k106_27 rfl ?_
        refine me_goto k106_29 ?_
        refine me_astore_n (p' := 45) k106_44 rfl ⟨Nat.le_of_ble_eq_true rfl, rfl⟩ rfl ?_
        refine me_aload_n (p' := 46) k106_45 rfl rfl ?_
        refine me_aload_n (p' := 47) k106_46 rfl rfl ?_
        refine me_gfr (p' := 50) k106_47 rfl (by decide) rfl (b := 10) rfl ?_
        refine me_aload_n (p' := 51) k106_50 rfl rfl ?_
        refine me_gfi (p' := 54) k106_51 rfl (by decide) rfl rfl ?_
        rw [hk.1]
        refine me_iald (p' := 55) k106_54 rfl (by decide) rfl (j := t.2.1) rfl (by omega) (by decide) rfl ?_
        rw [(hT.2.2 t.2.1 (by omega)).1]
        have hB9 := (hT.2.2 t.2.1 (by omega)).2
        refine me_i2c (p' := 56) k106_55 rfl rfl ?_
        rw [mI_i2c (by omega)]
        refine me_sidx (p' := 59) k106_56 rfl (c := 6) (by decide) (cl_sum rfl) ?_
        rw [mI_findo hB9 (by decide)]
        refine me_reti k106_59 rt_106 rfl ?_
        rw [show tNm B key t = tPos (B t.2.1) (mj_txt.getD 6 []) 0 from by unfold tNm; rw [if_pos ⟨by omega, by omega⟩]; unfold tNms; rw [if_pos (by omega)]; rfl] at hQ
        exact hQ
      · skip
        rw [cI_eq0 (a := key) (by omega)] at c3
        refine me_iload_n (p' := 33) k106_32 rfl rfl ?_
        refine me_iconst (p' := 34) k106_33 rfl (v := nI 1) (by decide) ?_
        refine me_ic_ne (p' := 37) k106_34 rfl (fun c4 => ?_) (fun c4 => ?_)
        · skip
          rw [cI_eq (a := key) (b := 1) (by omega) (by omega)] at c4
          refine me_ldcs (p' := 39) k106_37 rfl ?_
          refine me_goto k106_39 ?_
          refine me_astore_n (p' := 45) k106_44 rfl ⟨Nat.le_of_ble_eq_true rfl, rfl⟩ rfl ?_
          refine me_aload_n (p' := 46) k106_45 rfl rfl ?_
          refine me_aload_n (p' := 47) k106_46 rfl rfl ?_
          refine me_gfr (p' := 50) k106_47 rfl (by decide) rfl (b := 10) rfl ?_
          refine me_aload_n (p' := 51) k106_50 rfl rfl ?_
          refine me_gfi (p' := 54) k106_51 rfl (by decide) rfl rfl ?_
          rw [hk.1]
          refine me_iald (p' := 55) k106_54 rfl (by decide) rfl (j := t.2.1) rfl (by omega) (by decide) rfl ?_
          rw [(hT.2.2 t.2.1 (by omega)).1]
          have hB9 := (hT.2.2 t.2.1 (by omega)).2
          refine me_i2c (p' := 56) k106_55 rfl rfl ?_
          rw [mI_i2c (by omega)]
          refine me_sidx (p' := 59) k106_56 rfl (c := 7) (by decide) (cl_sum rfl) ?_
          rw [mI_findo hB9 (by decide)]
          refine me_reti k106_59 rt_106 rfl ?_
          rw [show tNm B key t = tPos (B t.2.1) (mj_txt.getD 7 []) 0 from by unfold tNm; rw [if_pos ⟨by omega, by omega⟩]; unfold tNms; rw [if_neg (by omega), if_pos (by omega)]; rfl] at hQ
          exact hQ
        · skip
          rw [cI_eq (a := key) (b := 1) (by omega) (by omega)] at c4
          refine me_ldcs (p' := 44) k106_42 rfl ?_
          refine me_astore_n (p' := 45) k106_44 rfl ⟨Nat.le_of_ble_eq_true rfl, rfl⟩ rfl ?_
          refine me_aload_n (p' := 46) k106_45 rfl rfl ?_
          refine me_aload_n (p' := 47) k106_46 rfl rfl ?_
          refine me_gfr (p' := 50) k106_47 rfl (by decide) rfl (b := 10) rfl ?_
          refine me_aload_n (p' := 51) k106_50 rfl rfl ?_
          refine me_gfi (p' := 54) k106_51 rfl (by decide) rfl rfl ?_
          rw [hk.1]
          refine me_iald (p' := 55) k106_54 rfl (by decide) rfl (j := t.2.1) rfl (by omega) (by decide) rfl ?_
          rw [(hT.2.2 t.2.1 (by omega)).1]
          have hB9 := (hT.2.2 t.2.1 (by omega)).2
          refine me_i2c (p' := 56) k106_55 rfl rfl ?_
          rw [mI_i2c (by omega)]
          refine me_sidx (p' := 59) k106_56 rfl (c := 8) (by decide) (cl_sum rfl) ?_
          rw [mI_findo hB9 (by decide)]
          refine me_reti k106_59 rt_106 rfl ?_
          rw [show tNm B key t = tPos (B t.2.1) (mj_txt.getD 8 []) 0 from by unfold tNm; rw [if_pos ⟨by omega, by omega⟩]; unfold tNms; rw [if_neg (by omega), if_neg (by omega)]; rfl] at hQ
          exact hQ
    · skip
      rw [cI_eq (a := t.2.2 - t.2.1) (b := 1) (by omega) (by omega)] at c2
      refine me_iconst (p' := 22) k106_21 rfl (v := (-1)) (by decide) ?_
      refine me_reti k106_22 rt_106 rfl ?_
      rw [show tNm B key t = none from by unfold tNm; rw [if_neg (by omega)]] at hQ
      exact hQ
  · skip
    rw [cI_eq (a := t.1) (b := 1) (by omega) (by omega)] at c1
    refine me_iconst (p' := 22) k106_21 rfl (v := (-1)) (by decide) ?_
    refine me_reti k106_22 rt_106 rfl ?_
    rw [show tNm B key t = none from by unfold tNm; rw [if_neg (by omega)]] at hQ
    exact hQ
theorem tSo_2 {b : Nat} (h : tSo b = 2) : 48 ≤ b ∧ b ≤ 57 := by
  unfold tSo at h
  split at h
  · omega
  · split at h
    · assumption
    · omega
theorem lp_number {d L : Nat} {xs : Nat → Int32} {I : Nat → Nat → Int32} {Q : Option Value → mj_H → Prop} {B : Nat → Nat} {tl : Nat} {t : Nat × Nat × Nat} (hT : cTp I B tl) (hk : cTk I t) (hw : tWf B tl t) (h2 : t.1 = 2) (hQ : Q (some (.int (nI (tNum B t.2.1 (t.2.2 - t.2.1))))) (mg_h L xs I)) : ∀ k : Nat, k ≤ t.2.2 - t.2.1 → mj_Ev d 107 7 [.ref 9, .int (nI (tNum B t.2.1 k)), .int (nI (t.2.1 + k))] [] (mg_h L xs I) Q := by
  have htl := hT.2.1
  have hw1 := hw.1
  have hw2 := hw.2.1
  have hw3 := hw.2.2.2.1
  have hw4 := hw.2.2.2.2.1
  have hw9 := hw.2.2.2.2.2.2.2.2
  obtain ⟨h4, hd⟩ := hw.2.2.2.2.2.1 h2
  refine loop_ind (n := t.2.2 - t.2.1) (fun k hkn ih => ?_)
  have hnl := tNum_lt (B := B) (s := t.2.1) k (fun j h1 h3 => hd j h1 (by omega))
  have hp4 : 10 ^ k ≤ 10 ^ 4 := Nat.pow_le_pow_right (by decide) (by omega)
  have hp5 : (10 : Nat) ^ 4 = 10000 := by decide
  refine me_iload_n (p' := 8) k107_7 rfl rfl ?_
  refine me_aload_n (p' := 9) k107_8 rfl rfl ?_
  refine me_gfi (p' := 12) k107_9 rfl (by decide) rfl rfl ?_
  rw [hk.2.1]
  refine me_ic_ge (p' := 15) k107_12 rfl (fun c1 => ?_) (fun c1 => ?_)
  · skip
    rw [cI_le (a := t.2.2) (b := t.2.1 + k) (by omega) (by omega)] at c1
    refine me_iload_n (p' := 37) k107_36 rfl rfl ?_
    refine me_reti k107_37 rt_107 rfl ?_
    obtain rfl : k = t.2.2 - t.2.1 := by omega
    exact hQ
  · skip
    rw [cI_le (a := t.2.2) (b := t.2.1 + k) (by omega) (by omega)] at c1
    refine me_bipush (p' := 17) k107_15 rfl (v := nI 10) (by decide) ?_
    refine me_iload_n (p' := 18) k107_17 rfl rfl ?_
    refine me_imul (p' := 19) k107_18 rfl (v := nI (10 * (tNum B t.2.1 k))) (mI_mul _ _) ?_
    refine me_aload_n (p' := 20) k107_19 rfl rfl ?_
    refine me_gfr (p' := 23) k107_20 rfl (by decide) rfl (b := 10) rfl ?_
    refine me_iload_n (p' := 24) k107_23 rfl rfl ?_
    refine me_iald (p' := 25) k107_24 rfl (by decide) rfl (j := t.2.1 + k) rfl (by omega) (by decide) rfl ?_
    rw [(hT.2.2 (t.2.1 + k) (by omega)).1]
    have hB9 := (hT.2.2 (t.2.1 + k) (by omega)).2
    have hf9 := tSo_2 (hd (t.2.1 + k) (by omega) (by omega))
    refine me_iadd (p' := 26) k107_25 rfl (v := nI ((10 * (tNum B t.2.1 k)) + (B (t.2.1 + k)))) (mI_add _ _) ?_
    refine me_bipush (p' := 28) k107_26 rfl (v := nI 48) (by decide) ?_
    refine me_isub (p' := 29) k107_28 rfl rfl ?_
    rw [mI_sub (by omega), show 10 * tNum B t.2.1 k + B (t.2.1 + k) - 48 = tNum B t.2.1 (k + 1) from by show _ = 10 * tNum B t.2.1 k + (B (t.2.1 + k) - 48); omega]
    refine me_istore_n (p' := 30) k107_29 rfl ⟨Nat.le_of_ble_eq_true rfl, rfl⟩ rfl ?_
    refine me_iinc (p' := 33) k107_30 rfl rfl rfl (v := nI (t.2.1 + k + 1)) (mI_inc (by decide)) rfl ?_
    refine me_goto k107_33 ?_
    exact ih (by omega)
theorem ct_numberHere {d L : Nat} {xs : Nat → Int32} {I : Nat → Nat → Int32} {Q : Option Value → mj_H → Prop} {B : Nat → Nat} {tl : Nat} {t : Nat × Nat × Nat} (hT : cTp I B tl) (hk : cTk I t) (hw : tWf B tl t) (h2 : t.1 = 2) (hQ : Q (some (.int (nI (tNum B t.2.1 (t.2.2 - t.2.1))))) (mg_h L xs I)) : mj_Cl d 107 [.ref 9] (mg_h L xs I) Q := by
  refine cl_start mx_107 (ls := [.ref 9, mj_no, mj_no]) rfl ?_
  refine me_iconst (p' := 1) k107_0 rfl (v := nI 0) (by decide) ?_
  refine me_istore_n (p' := 2) k107_1 rfl ⟨Nat.le_of_ble_eq_true rfl, rfl⟩ rfl ?_
  refine me_aload_n (p' := 3) k107_2 rfl rfl ?_
  refine me_gfi (p' := 6) k107_3 rfl (by decide) rfl rfl ?_
  rw [hk.1]
  refine me_istore_n (p' := 7) k107_6 rfl ⟨Nat.le_of_ble_eq_true rfl, rfl⟩ rfl ?_
  exact lp_number hT hk hw h2 hQ 0 (Nat.zero_le _)
theorem ct_operatorsOf {d L : Nat} {xs : Nat → Int32} {I : Nat → Nat → Int32} {Q : Option Value → mj_H → Prop} {l : Nat} (hl : l < 5) (hQ : Q (some (.ref (mj_X + 1 + (9 + l)))) (mg_h L xs I)) : mj_Cl d 110 [.int (nI l)] (mg_h L xs I) Q := by
  refine cl_start mx_110 (ls := [.int (nI l)]) rfl ?_
  refine me_iload_n (p' := 1) k110_0 rfl rfl ?_
  rcases (show l = 0 ∨ l = 1 ∨ l = 2 ∨ l = 3 ∨ l = 4 by omega) with rfl | rfl | rfl | rfl | rfl
  · skip
    refine me_tsw (p' := 32) k110_1 (by decide) ?_
    refine me_ldcs (p' := 34) k110_32 rfl ?_
    refine me_reta k110_34 rt_110 ?_
    exact hQ
  · skip
    refine me_tsw (p' := 35) k110_1 (by decide) ?_
    refine me_ldcs (p' := 37) k110_35 rfl ?_
    refine me_reta k110_37 rt_110 ?_
    exact hQ
  · skip
    refine me_tsw (p' := 38) k110_1 (by decide) ?_
    refine me_ldcs (p' := 40) k110_38 rfl ?_
    refine me_reta k110_40 rt_110 ?_
    exact hQ
  · skip
    refine me_tsw (p' := 41) k110_1 (by decide) ?_
    refine me_ldcs (p' := 43) k110_41 rfl ?_
    refine me_reta k110_43 rt_110 ?_
    exact hQ
  · skip
    refine me_tsw (p' := 44) k110_1 (by decide) ?_
    refine me_ldcs (p' := 46) k110_44 rfl ?_
    refine me_reta k110_46 rt_110 ?_
    exact hQ
theorem cTp.fr2 {S : List Nat} {I J : Nat → Nat → Int32} {B : Nat → Nat} {tl : Nat} (h : cTp I B tl) (hf : mFr S I J) (hd : 9 ∉ S ∧ 10 ∉ S) : cTp J B tl := ⟨(hf 9 1 hd.1).trans h.1, h.2.1, fun k hk => ⟨(hf 10 k hd.2).trans (h.2.2 k hk).1, (h.2.2 k hk).2⟩⟩
/-- THE TAPE is read on and the TEXT t0 written -/
def cFt (t0 : Nat) (I J : Nat → Nat → Int32) : Prop := mFr [9, 59 + 3 * t0, 60 + 3 * t0] I J ∧ ∀ k : Nat, k ≠ 2 → k ≠ 3 → k ≠ 4 → J 9 k = I 9 k
theorem cFt.rf {t0 : Nat} {I : Nat → Nat → Int32} : cFt t0 I I := ⟨mFr.rf, fun _ _ _ _ => rfl⟩
theorem cFt.tr {t0 : Nat} {I J K : Nat → Nat → Int32} (h : cFt t0 I J) (h2 : cFt t0 J K) : cFt t0 I K := ⟨h.1.tr h2.1, fun k a b c => (h2.2 k a b c).trans (h.2 k a b c)⟩
theorem cFt.tp {t0 : Nat} {I J : Nat → Nat → Int32} (h : cFr I J) : cFt t0 I J := ⟨h.1.mono (by simp), h.2⟩
theorem cFt.tx {t0 : Nat} {I J : Nat → Nat → Int32} (h : mFr [59 + 3 * t0, 60 + 3 * t0] I J) : cFt t0 I J := ⟨h.mono (by intro x hx; simp at hx ⊢; omega), fun k _ _ _ => h 9 k (by simp; omega)⟩
theorem cTp.ft {t0 : Nat} {I J : Nat → Nat → Int32} {B : Nat → Nat} {tl : Nat} (h : cTp I B tl) (hf : cFt t0 I J) : cTp J B tl := ⟨(hf.2 1 (by decide) (by decide) (by decide)).trans h.1, h.2.1, fun k hk => ⟨(hf.1 10 k (by simp; omega)).trans (h.2.2 k hk).1, (h.2.2 k hk).2⟩⟩
theorem cTo.tp {t0 key : Nat} {o : List Nat} {I J : Nat → Nat → Int32} (h : cTo I t0 key o) (hf : cFr I J) : cTo J t0 key o := h.fr hf.1 (by simp; omega)
theorem ct_readOperand {d L : Nat} {xs : Nat → Int32} {I : Nat → Nat → Int32} {Q : Option Value → mj_H → Prop} {B : Nat → Nat} {tl : Nat} {t : Nat × Nat × Nat} (hT : cTp I B tl) (hk : cTk I t) (hw : tWf B tl t) {t0 key : Nat} {o : List Nat} (ht0 : t0 < 15) (hkey : key < 3) (ho : cTo I t0 key o) (hl : o.length < 96) (hT1 : ∀ a, tAt B key t = some a → ∀ K, cFt t0 I K → cTk K (tgo B tl t) → cTo K t0 key (o ++ [a]) → Q (some (.int (nI 1))) (mg_h L xs K)) (hF : tAt B key t = none → Q (some (.int (nI 0))) (mg_h L xs I)) : mj_Cl (d + 2) 105 [.ref 9, .ref (59 + 3 * t0)] (mg_h L xs I) Q := by
  have htl := hT.2.1
  have hw1 := hw.1
  have hw2 := hw.2.1
  have hw3 := hw.2.2.2.1
  have hw4 := hw.2.2.2.2.1
  have hw9 := hw.2.2.2.2.2.2.2.2
  refine cl_start mx_105 (ls := [.ref 9, .ref (59 + 3 * t0), mj_no]) rfl ?_
  refine me_aload_n (p' := 1) k105_0 rfl rfl ?_
  refine me_aload_n (p' := 2) k105_1 rfl rfl ?_
  refine me_gfi (p' := 5) k105_2 rfl (by omega) (congrArg Prod.fst (tb_T t0 (by omega))) (rc_Ti t0 (by omega) 3 (by decide) (by decide)) ?_
  rw [ho.2.1]
  refine me_cv (p' := 8) k105_5 rfl rfl (by decide) rfl (by decide) (by decide) dp_106 rfl rfl (cl_le mx_106 rfl) (by decide) (cl_sum rfl) (ct_nameHere hT hk hw hkey ?_)
  refine me_istore_n (p' := 9) k105_8 rfl ⟨Nat.le_of_ble_eq_true rfl, rfl⟩ rfl ?_
  refine me_aload_n (p' := 10) k105_9 rfl rfl ?_
  refine me_gfi (p' := 13) k105_10 rfl (by decide) rfl rfl ?_
  rw [hk.2.2]
  refine me_iconst (p' := 14) k105_13 rfl (v := nI 2) (by decide) ?_
  refine me_ic_ne (p' := 17) k105_14 rfl (fun c1 => ?_) (fun c1 => ?_)
  · skip
    rw [cI_eq (a := t.1) (b := 2) (by omega) (by omega)] at c1
    obtain ⟨h24, h2d⟩ := hw.2.2.2.2.2.1 (by omega)
    have hnl := tNum_lt (B := B) (s := t.2.1) (t.2.2 - t.2.1) (fun j h1 h3 => h2d j h1 (by omega))
    have hp4 : 10 ^ (t.2.2 - t.2.1) ≤ 10 ^ 4 := Nat.pow_le_pow_right (by decide) h24
    have hp5 : (10 : Nat) ^ 4 = 10000 := by decide
    refine me_aload_n (p' := 18) k105_17 rfl rfl ?_
    refine me_aload_n (p' := 19) k105_18 rfl rfl ?_
    refine me_cv (p' := 22) k105_19 rfl rfl (by decide) rfl (by decide) (by decide) dp_107 rfl rfl (cl_le mx_107 rfl) (by decide) (cl_sum rfl) (ct_numberHere hT hk hw (by omega) ?_)
    refine me_cv (p' := 25) k105_22 rfl rfl (by omega) (congrArg Prod.fst (tb_T t0 (by omega))) (by decide) (by decide) dp_108 rfl rfl (cl_le mx_108 rfl) (by decide) (cl_sum rfl) (ct_addNumber ht0 ho hl (by omega) (fun J hJ1 hJ2 => ?_))
    have hat : tAt B key t = some (tNum B t.2.1 (t.2.2 - t.2.1)) := by unfold tAt; rw [if_pos (by omega)]
    refine me_goto k105_25 ?_
    refine me_aload_n (p' := 43) k105_42 rfl rfl ?_
    refine me_cv (p' := 46) k105_43 rfl rfl (by decide) rfl (by decide) (by decide) dp_95 rfl rfl (cl_le mx_95 rfl) (by decide) (cl_sum rfl) (ct_advance (B := B) (tl := tl) (a := t.2.2) (q := t.1) (cTp.fr2 hT hJ1 (by simp; omega)) ⟨(hJ1 9 3 (by simp; omega)).trans hk.2.1, (hJ1 9 4 (by simp; omega)).trans hk.2.2⟩ hw2 hw4 (fun K hK1 hK2 => ?_))
    refine me_iconst (p' := 47) k105_46 rfl (v := nI 1) (by decide) ?_
    refine me_reti k105_47 rt_105 (by decide) ?_
    exact hT1 _ hat K ((cFt.tx hJ1).tr (cFt.tp hK1)) hK2 (hJ2.tp hK1)
  · skip
    rw [cI_eq (a := t.1) (b := 2) (by omega) (by omega)] at c1
    refine me_iload_n (p' := 29) k105_28 rfl rfl ?_
    refine me_if_lt (p' := 32) k105_29 rfl (fun c2 => ?_) (fun c2 => ?_)
    · skip
      refine me_iconst (p' := 41) k105_40 rfl (v := nI 0) (by decide) ?_
      refine me_reti k105_41 rt_105 (by decide) ?_
      refine hF ?_
      unfold tAt
      rw [if_neg (by omega)]
      cases hn : tNm B key t with
      | none => rfl
      | some j =>
        rw [hn] at c2
        unfold tNm at hn
        split at hn
        · have := (tPos_lt _ _ _ hn).2
          have h3 : (tNms key).length ≤ 3 := by unfold tNms; split <;> (try split) <;> decide
          exact absurd c2 (nI_pos (by omega))
        · cases hn
    · skip
      refine me_aload_n (p' := 33) k105_32 rfl rfl ?_
      obtain ⟨j, hnm, hj⟩ : ∃ j, tNm B key t = some j ∧ j < 3 := by
        cases hn : tNm B key t with
        | none => rw [hn] at c2; exact absurd c2 (by decide)
        | some j =>
          refine ⟨j, rfl, ?_⟩
          unfold tNm at hn
          split at hn
          · have := (tPos_lt _ _ _ hn).2
            have h3 : (tNms key).length ≤ 3 := by unfold tNms; split <;> (try split) <;> decide
            omega
          · cases hn
      rw [hnm]
      simp only [oI]
      refine me_iload_n (p' := 34) k105_33 rfl rfl ?_
      refine me_cv (p' := 37) k105_34 rfl rfl (by omega) (congrArg Prod.fst (tb_T t0 (by omega))) (by decide) (by decide) dp_109 rfl rfl (cl_le mx_109 rfl) (by decide) (cl_sum rfl) (ct_addName ht0 ho hl (by omega) (fun J hJ1 hJ2 => ?_))
      have hat : tAt B key t = some (10000 + j) := by unfold tAt; rw [if_neg (by omega), hnm]
      refine me_goto k105_37 ?_
      refine me_aload_n (p' := 43) k105_42 rfl rfl ?_
      refine me_cv (p' := 46) k105_43 rfl rfl (by decide) rfl (by decide) (by decide) dp_95 rfl rfl (cl_le mx_95 rfl) (by decide) (cl_sum rfl) (ct_advance (B := B) (tl := tl) (a := t.2.2) (q := t.1) (cTp.fr2 hT hJ1 (by simp; omega)) ⟨(hJ1 9 3 (by simp; omega)).trans hk.2.1, (hJ1 9 4 (by simp; omega)).trans hk.2.2⟩ hw2 hw4 (fun K hK1 hK2 => ?_))
      refine me_iconst (p' := 47) k105_46 rfl (v := nI 1) (by decide) ?_
      refine me_reti k105_47 rt_105 (by decide) ?_
      exact hT1 _ hat K ((cFt.tx hJ1).tr (cFt.tp hK1)) hK2 (hJ2.tp hK1)
