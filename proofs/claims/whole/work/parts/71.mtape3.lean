/-! ===== the model: takesPart, takesKey ===== -/
/-- a TEXT is read -/
def mZf (I J : Nat → Nat → Int32) : Prop := mFr [127, 135, 136, 137] I J ∧ ∀ k : Nat, k ≠ 8 → k ≠ 9 → k ≠ 10 → k ≠ 11 → k ≠ 12 → k ≠ 17 → k ≠ 18 → k ≠ 20 → J 127 k = I 127 k
theorem mZf.rf {I : Nat → Nat → Int32} : mZf I I := ⟨mFr.rf, fun _ _ _ _ _ _ _ _ _ => rfl⟩
theorem mZf.tr {I J K : Nat → Nat → Int32} (h : mZf I J) (h2 : mZf J K) : mZf I K := ⟨h.1.tr h2.1, fun k a b c d e f g i => (h2.2 k a b c d e f g i).trans (h.2 k a b c d e f g i)⟩
theorem mZf.g {I J : Nat → Nat → Int32} (h : mGf I J) : mZf I J := ⟨h.1.sub (by decide), fun k a b c d e _ _ _ => h.2 k a b c d e⟩
theorem mZf.s {I J : Nat → Nat → Int32} (h : mSf I J) : mZf I J := ⟨h.1.sub (by decide), fun k _ _ _ _ _ f _ i => h.2 k f i⟩
theorem mZf.u {I : Nat → Nat → Int32} {i k : Nat} {v : Int32} (hk : i = 135 ∨ i = 136 ∨ i = 137 ∨ (i = 127 ∧ (k = 17 ∨ k = 18 ∨ k = 20))) : mZf I (mg_u I i k v) := ⟨mFr.up (by rcases hk with z | z | z | z <;> simp [z]), fun q _ _ _ _ _ _ _ _ => mg_une (by omega)⟩
theorem mTp.zf {I J : Nat → Nat → Int32} {B : Nat → Nat} {tl : Nat} (h : mTp I B tl) (hf : mZf I J) : mTp J B tl := ⟨(hf.2 7 (by decide) (by decide) (by decide) (by decide) (by decide) (by decide) (by decide) (by decide)).trans h.1, h.2.1, fun k hk => ⟨(hf.1 132 k (by decide)).trans (h.2.2 k hk).1, (h.2.2 k hk).2⟩⟩
theorem mPs.gf {I J : Nat → Nat → Int32} {S o : List Nat} (h : mPs I S o) (hf : mGf I J) : mPs J S o := by
  have e : ∀ i, i ≠ 127 → J i = I i := fun i hi => funext fun k => hf.1 i k (by simp [hi])
  refine ⟨(hf.2 20 (by decide) (by decide) (by decide) (by decide) (by decide)).trans h.1, ?_, (hf.2 17 (by decide) (by decide) (by decide) (by decide) (by decide)).trans h.2.2.1, fun j hj => ?_⟩
  · rw [e 136 (by decide)]; exact h.2.1
  · rw [e 135 (by decide)]; exact h.2.2.2 j hj
theorem mPs.atom {I : Nat → Nat → Int32} {S o : List Nat} {a : Nat} (h : mPs I S o) (ha : a < 20000) : mPs (mg_u (mg_u (mg_u I 135 o.length (nI a)) 127 17 (nI (o.length + 1))) 127 18 (nI (tNa o + 1))) S (o ++ [a]) := by
  refine ⟨?_, ?_, ?_, fun j hj => ?_⟩
  · rw [mg_une (by decide), mg_une (by decide), mg_un1 (by decide)]; exact h.1
  · rw [mg_un (by decide), mg_un (by decide), mg_un (by decide)]; exact h.2.1
  · rw [mg_une (by decide), mg_ueq, List.length_append, List.length_singleton]
  · rw [List.length_append, List.length_singleton] at hj
    rw [mg_un1 (by decide), mg_un1 (by decide), o_get hj]
    by_cases e : j = o.length
    · rw [if_pos e, e, mg_ueq]
      unfold sp_mc
      rw [if_pos ha]
    · rw [if_neg e, mg_une (fun z => e z.2)]
      exact h.2.2.2 j (by omega)
theorem tNa_mcs {r : Nat} : ∀ (S o : List Nat), tNa (mcs r S o).2 = tNa o
  | [], _ => rfl
  | x :: S, o => by
    unfold mcs
    split
    · rw [tNa_mcs S, tNa_0 (by omega)]
    · rfl
theorem mcs_len {r : Nat} : ∀ (S o : List Nat), (mcs r S o).1.length + (mcs r S o).2.length = S.length + o.length
  | [], _ => by simp [mcs]
  | x :: S, o => by
    unfold mcs
    split
    · rw [mcs_len S, List.length_append, List.length_singleton, List.length_cons]; omega
    · rfl
theorem mcs_11 {r : Nat} : ∀ (S o : List Nat), (mcs r S o).1.count 11 = S.count 11
  | [], _ => rfl
  | x :: S, o => by
    unfold mcs
    split
    · rename_i h
      rw [mcs_11 S, List.count_cons_of_ne h.1]
    · rfl
theorem mcs_in {r : Nat} {Pp : Nat → Prop} : ∀ (S o : List Nat), (∀ x ∈ S, Pp x) → ∀ x ∈ (mcs r S o).1, Pp x
  | [], _, h => h
  | x :: S, o, h => by
    unfold mcs
    split
    · exact mcs_in S _ (fun y hy => h y (by simp [hy]))
    · exact h
theorem mcs_0 : ∀ (S o : List Nat), 0 < S.count 11 → ∃ S2, (mcs 0 S o).1 = 11 :: S2
  | [], _, h => absurd h (by simp)
  | x :: S, o, h => by
    unfold mcs
    by_cases e : x = 11
    · subst e
      rw [if_neg (fun z => z.1 rfl)]
      exact ⟨S, rfl⟩
    · rw [if_pos ⟨e, Nat.zero_le _⟩]
      rw [List.count_cons_of_ne e] at h
      exact mcs_0 S _ h
theorem mEd.fr {I J : Nat → Nat → Int32} {a : Nat} {w : Prop} (h : mEd I a w) (e : J 127 12 = I 127 12) : mEd J a w := by
  unfold mEd
  rw [e]
  exact h
theorem ct_takesPart {d L : Nat} {xs : Nat → Int32} {I : Nat → Nat → Int32} {Q : Option Value → mj_H → Prop} {B : Nat → Nat} {tl : Nat} {t : Nat × Nat × Nat} {key : Nat} {S o : List Nat} (hT : mTp I B tl) (hk : mTk I B t) (hw : tWf B tl t) (hp : mPs I S o) (hna : I 127 18 = nI (tNa o)) (hkey : I 127 13 = nI key) (hk3 : key < 3) (hS : ∀ x ∈ S, 1 ≤ x ∧ x ≤ 11) (hl : o.length + S.length < t.2.1) (hT1 : ∀ a, tAt B key t = some a → ∀ K, mZf I K → mTk K B (tgo B tl t) → mPs K (mcs 6 S (o ++ [a])).1 (mcs 6 S (o ++ [a])).2 → K 127 18 = nI (tNa (o ++ [a])) → (∀ k, K 137 k = I 137 k) → Q (some (.int (nI 1))) (mg_h L xs K)) (hF : tAt B key t = none → Q (some (.int (nI 0))) (mg_h L xs I)) : mj_Cl (d + 2) 194 [.ref 127] (mg_h L xs I) Q := by
  have htl := hT.2.1
  have hw1 := hw.1
  have hw2 := hw.2.1
  have hw3 := hw.2.2.2.1
  have hw4 := hw.2.2.2.2.1
  have hw9 := hw.2.2.2.2.2.2.2.2
  refine cl_start mx_194 (ls := [.ref 127, mj_no]) rfl ?_
  refine me_aload_n (p' := 1) k194_0 rfl rfl ?_
  refine me_gfi (p' := 4) k194_1 rfl (by decide) rfl rfl ?_
  rw [hk.2.2.1]
  refine me_iconst (p' := 5) k194_4 rfl (v := nI 1) (by decide) ?_
  refine me_ic_ne (p' := 8) k194_5 rfl (fun c1 => ?_) (fun c1 => ?_)
  · skip
    rw [cI_eq (a := t.1) (b := 1) (by omega) (by omega)] at c1
    refine me_aload_n (p' := 9) k194_8 rfl rfl ?_
    refine me_gfi (p' := 12) k194_9 rfl (by decide) rfl rfl ?_
    rw [hk.1]
    refine me_aload_n (p' := 13) k194_12 rfl rfl ?_
    refine me_gfi (p' := 16) k194_13 rfl (by decide) rfl rfl ?_
    rw [hk.2.1]
    refine me_isub (p' := 17) k194_16 rfl rfl ?_
    rw [mI_sub (by omega)]
    refine me_iconst (p' := 18) k194_17 rfl (v := nI 1) (by decide) ?_
    refine me_ic_ne (p' := 21) k194_18 rfl (fun c2 => ?_) (fun c2 => ?_)
    · skip
      rw [cI_eq (a := t.2.2 - t.2.1) (b := 1) (by omega) (by omega)] at c2
      refine me_aload_n (p' := 22) k194_21 rfl rfl ?_
      refine me_aload_n (p' := 23) k194_22 rfl rfl ?_
      refine me_gfi (p' := 26) k194_23 rfl (by decide) rfl rfl ?_
      rw [hk.2.2.2.1 (Or.inl (by omega))]
      have hB9 := (hT.2.2 t.2.1 (by have := hw3 (by omega); omega)).2
      refine me_cv (p' := 29) k194_26 rfl rfl (by decide) rfl (by decide) (by decide) dp_195 rfl rfl (cl_le mx_195 rfl) (by decide) (cl_sum rfl) (ct_nameOf hB9 hkey hk3 ?_)
      refine me_if_lt (p' := 32) k194_29 rfl (fun c3 => ?_) (fun c3 => ?_)
      · skip
        refine me_iconst (p' := 37) k194_36 rfl (v := nI 0) (by decide) ?_
        refine me_istore_n (p' := 38) k194_37 rfl ⟨Nat.le_of_ble_eq_true rfl, rfl⟩ rfl ?_
        refine me_aload_n (p' := 39) k194_38 rfl rfl ?_
        refine me_gfi (p' := 42) k194_39 rfl (by decide) rfl rfl ?_
        rw [hk.2.2.1]
        refine me_iconst (p' := 43) k194_42 rfl (v := nI 2) (by decide) ?_
        refine me_ic_eq (p' := 46) k194_43 rfl (fun c4 => ?_) (fun c4 => ?_)
        · skip
          rw [cI_eq (a := t.1) (b := 2) (by omega) (by omega)] at c4
          refine me_aload_n (p' := 53) k194_52 rfl rfl ?_
          refine me_gfr (p' := 56) k194_53 rfl (by decide) rfl (b := 135) rfl ?_
          refine me_aload_n (p' := 57) k194_56 rfl rfl ?_
          refine me_gfi (p' := 60) k194_57 rfl (by decide) rfl rfl ?_
          rw [hp.2.2.1]
          refine me_aload_n (p' := 61) k194_60 rfl rfl ?_
          refine me_gfi (p' := 64) k194_61 rfl (by decide) rfl rfl ?_
          rw [hk.2.2.1]
          refine me_iconst (p' := 65) k194_64 rfl (v := nI 2) (by decide) ?_
          refine me_ic_ne (p' := 68) k194_65 rfl (fun c5 => ?_) (fun c5 => ?_)
          · skip
            rw [cI_eq (a := t.1) (b := 2) (by omega) (by omega)] at c5
            refine me_aload_n (p' := 69) k194_68 rfl rfl ?_
            refine me_gfi (p' := 72) k194_69 rfl (by decide) rfl rfl ?_
            rw [hk.2.2.2.2.1 (by omega)]
            refine me_goto k194_72 ?_
            have hat : tAt B key t = some (tNum B t.2.1 (t.2.2 - t.2.1)) := by unfold tAt; rw [if_pos (by omega)]
            have hal := (tAt_lt (key := key) hw hat).1
            refine me_iast (p' := 88) k194_87 rfl (by decide) rfl (j := o.length) rfl (by omega) (by decide) rfl ?_
            refine me_aload_n (p' := 89) k194_88 rfl rfl ?_
            refine me_dup (p' := 90) k194_89 rfl rfl ?_
            refine me_gfi (p' := 93) k194_90 rfl (by decide) rfl rfl ?_
            rw [mg_un1 (by decide), hp.2.2.1]
            refine me_iconst (p' := 94) k194_93 rfl (v := nI 1) (by decide) ?_
            refine me_iadd (p' := 95) k194_94 rfl (v := nI (o.length + 1)) (mI_add _ _) ?_
            refine me_pfi (p' := 98) k194_95 rfl (by decide) rfl rfl rfl rfl ?_
            refine me_aload_n (p' := 99) k194_98 rfl rfl ?_
            refine me_dup (p' := 100) k194_99 rfl rfl ?_
            refine me_gfi (p' := 103) k194_100 rfl (by decide) rfl rfl ?_
            rw [mg_une (by decide), mg_un1 (by decide), hna]
            refine me_iconst (p' := 104) k194_103 rfl (v := nI 1) (by decide) ?_
            refine me_iadd (p' := 105) k194_104 rfl (v := nI ((tNa o) + 1)) (mI_add _ _) ?_
            refine me_pfi (p' := 108) k194_105 rfl (by decide) rfl rfl rfl rfl ?_
            refine me_aload_n (p' := 109) k194_108 rfl rfl ?_
            refine me_bipush (p' := 111) k194_109 rfl (v := nI 6) (by decide) ?_
            refine me_cv (p' := 114) k194_111 rfl rfl (by decide) rfl (by decide) (by decide) dp_196 rfl rfl (cl_le mx_196 rfl) (by decide) (cl_sum rfl) (ct_settle (S := S) (o := o ++ [tNum B t.2.1 (t.2.2 - t.2.1)]) (by decide) (hp.atom (by omega)) hS (by rw [List.length_append, List.length_singleton]; omega) (fun K1 hK1 hK1p => ?_))
            have hz1 : mZf I K1 := (((mZf.u (by simp)).tr (mZf.u (by simp))).tr (mZf.u (by simp))).tr (mZf.s hK1)
            have hn1 : K1 127 18 = nI (tNa (o ++ [tNum B t.2.1 (t.2.2 - t.2.1)])) := (hK1.2 18 (by decide) (by decide)).trans (by rw [mg_ueq, tNa_1 (by omega)])
            have e12 : K1 127 12 = I 127 12 := (hK1.2 12 (by decide) (by decide)).trans (by rw [mg_une (by decide), mg_une (by decide), mg_un1 (by decide)])
            have e8 : K1 127 8 = I 127 8 := (hK1.2 8 (by decide) (by decide)).trans (by rw [mg_une (by decide), mg_une (by decide), mg_un1 (by decide)])
            refine me_aload_n (p' := 115) k194_114 rfl rfl ?_
            refine me_cv (p' := 118) k194_115 rfl rfl (by decide) rfl (by decide) (by decide) dp_189 rfl rfl (cl_le mx_189 rfl) (by decide) (cl_sum rfl) (ct_go (B := B) (tl := tl) (a := t.2.2) (w := t.1 = 1 ∨ t.1 = 2) (hT.zf hz1) hw.2.1 (e8.trans hk.1) ((hk.2.2.2.2.2 (by omega)).fr e12) (fun K2 hK2 hK2t => ?_))
            refine me_iconst (p' := 119) k194_118 rfl (v := nI 1) (by decide) ?_
            refine me_reti k194_119 rt_194 (by decide) ?_
            exact hT1 _ hat K2 (hz1.tr (mZf.g hK2)) hK2t (hK1p.gf hK2) ((hK2.2 18 (by decide) (by decide) (by decide) (by decide) (by decide)).trans hn1) (fun k => (((((mFr.up (S := [127, 135]) (by decide)).tr (mFr.up (by decide))).tr (mFr.up (by decide))).tr hK1.1).tr (hK2.1.sub (by decide))) 137 k (by decide))
          · skip
            rw [cI_eq (a := t.1) (b := 2) (by omega) (by omega)] at c5
            exfalso
            omega
        · skip
          rw [cI_eq (a := t.1) (b := 2) (by omega) (by omega)] at c4
          refine me_iload_n (p' := 47) k194_46 rfl rfl ?_
          refine me_if_ne (p' := 50) k194_47 rfl (fun _ => ?_) (fun h => absurd (by decide) h)
          refine me_iconst (p' := 51) k194_50 rfl (v := nI 0) (by decide) ?_
          refine me_reti k194_51 rt_194 (by decide) ?_
          refine hF ?_
          unfold tAt tNm
          rw [if_neg (by omega)]
          rw [if_pos ⟨by omega, by omega⟩]
          cases hq : tPos (B t.2.1) (tNms key) 0 with
          | none => rfl
          | some j =>
            rw [hq] at c3
            have h1 := (tPos_lt _ _ _ hq).2
            have h2 : (tNms key).length ≤ 3 := by unfold tNms; split <;> (try split) <;> decide
            exact absurd c3 (nI_pos (by omega))
      · skip
        obtain ⟨j, hj⟩ : ∃ j, tPos (B t.2.1) (tNms key) 0 = some j := by
          cases hq : tPos (B t.2.1) (tNms key) 0 with
          | none => rw [hq] at c3; exact absurd (by decide) c3
          | some j => exact ⟨j, rfl⟩
        have hat : tAt B key t = some (10000 + j) := by unfold tAt tNm; rw [if_neg (by omega), if_pos ⟨by omega, by omega⟩, hj]
        refine me_iconst (p' := 33) k194_32 rfl (v := nI 1) (by decide) ?_
        refine me_goto k194_33 ?_
        refine me_istore_n (p' := 38) k194_37 rfl ⟨Nat.le_of_ble_eq_true rfl, rfl⟩ rfl ?_
        refine me_aload_n (p' := 39) k194_38 rfl rfl ?_
        refine me_gfi (p' := 42) k194_39 rfl (by decide) rfl rfl ?_
        rw [hk.2.2.1]
        refine me_iconst (p' := 43) k194_42 rfl (v := nI 2) (by decide) ?_
        refine me_ic_eq (p' := 46) k194_43 rfl (fun c6 => ?_) (fun c6 => ?_)
        · skip
          rw [cI_eq (a := t.1) (b := 2) (by omega) (by omega)] at c6
          exfalso
          omega
        · skip
          rw [cI_eq (a := t.1) (b := 2) (by omega) (by omega)] at c6
          refine me_iload_n (p' := 47) k194_46 rfl rfl ?_
          refine me_if_ne (p' := 50) k194_47 rfl (fun h => absurd h (by decide)) (fun _ => ?_)
          refine me_aload_n (p' := 53) k194_52 rfl rfl ?_
          refine me_gfr (p' := 56) k194_53 rfl (by decide) rfl (b := 135) rfl ?_
          refine me_aload_n (p' := 57) k194_56 rfl rfl ?_
          refine me_gfi (p' := 60) k194_57 rfl (by decide) rfl rfl ?_
          rw [hp.2.2.1]
          refine me_aload_n (p' := 61) k194_60 rfl rfl ?_
          refine me_gfi (p' := 64) k194_61 rfl (by decide) rfl rfl ?_
          rw [hk.2.2.1]
          refine me_iconst (p' := 65) k194_64 rfl (v := nI 2) (by decide) ?_
          refine me_ic_ne (p' := 68) k194_65 rfl (fun c7 => ?_) (fun c7 => ?_)
          · skip
            rw [cI_eq (a := t.1) (b := 2) (by omega) (by omega)] at c7
            exfalso
            omega
          · skip
            rw [cI_eq (a := t.1) (b := 2) (by omega) (by omega)] at c7
            refine me_sipush (p' := 78) k194_75 rfl (v := nI 10000) (by decide) ?_
            refine me_aload_n (p' := 79) k194_78 rfl rfl ?_
            refine me_aload_n (p' := 80) k194_79 rfl rfl ?_
            refine me_gfi (p' := 83) k194_80 rfl (by decide) rfl rfl ?_
            rw [hk.2.2.2.1 (Or.inl (by omega))]
            refine me_cv (p' := 86) k194_83 rfl rfl (by decide) rfl (by decide) (by decide) dp_195 rfl rfl (cl_le mx_195 rfl) (by decide) (cl_sum rfl) (ct_nameOf hB9 hkey hk3 ?_)
            rw [hj]
            simp only [oI]
            refine me_iadd (p' := 87) k194_86 rfl (v := nI (10000 + j)) (mI_add _ _) ?_
            have hal := (tAt_lt (key := key) hw hat).1
            refine me_iast (p' := 88) k194_87 rfl (by decide) rfl (j := o.length) rfl (by omega) (by decide) rfl ?_
            refine me_aload_n (p' := 89) k194_88 rfl rfl ?_
            refine me_dup (p' := 90) k194_89 rfl rfl ?_
            refine me_gfi (p' := 93) k194_90 rfl (by decide) rfl rfl ?_
            rw [mg_un1 (by decide), hp.2.2.1]
            refine me_iconst (p' := 94) k194_93 rfl (v := nI 1) (by decide) ?_
            refine me_iadd (p' := 95) k194_94 rfl (v := nI (o.length + 1)) (mI_add _ _) ?_
            refine me_pfi (p' := 98) k194_95 rfl (by decide) rfl rfl rfl rfl ?_
            refine me_aload_n (p' := 99) k194_98 rfl rfl ?_
            refine me_dup (p' := 100) k194_99 rfl rfl ?_
            refine me_gfi (p' := 103) k194_100 rfl (by decide) rfl rfl ?_
            rw [mg_une (by decide), mg_un1 (by decide), hna]
            refine me_iconst (p' := 104) k194_103 rfl (v := nI 1) (by decide) ?_
            refine me_iadd (p' := 105) k194_104 rfl (v := nI ((tNa o) + 1)) (mI_add _ _) ?_
            refine me_pfi (p' := 108) k194_105 rfl (by decide) rfl rfl rfl rfl ?_
            refine me_aload_n (p' := 109) k194_108 rfl rfl ?_
            refine me_bipush (p' := 111) k194_109 rfl (v := nI 6) (by decide) ?_
            refine me_cv (p' := 114) k194_111 rfl rfl (by decide) rfl (by decide) (by decide) dp_196 rfl rfl (cl_le mx_196 rfl) (by decide) (cl_sum rfl) (ct_settle (S := S) (o := o ++ [10000 + j]) (by decide) (hp.atom (by omega)) hS (by rw [List.length_append, List.length_singleton]; omega) (fun K1 hK1 hK1p => ?_))
            have hz1 : mZf I K1 := (((mZf.u (by simp)).tr (mZf.u (by simp))).tr (mZf.u (by simp))).tr (mZf.s hK1)
            have hn1 : K1 127 18 = nI (tNa (o ++ [10000 + j])) := (hK1.2 18 (by decide) (by decide)).trans (by rw [mg_ueq, tNa_1 (by omega)])
            have e12 : K1 127 12 = I 127 12 := (hK1.2 12 (by decide) (by decide)).trans (by rw [mg_une (by decide), mg_une (by decide), mg_un1 (by decide)])
            have e8 : K1 127 8 = I 127 8 := (hK1.2 8 (by decide) (by decide)).trans (by rw [mg_une (by decide), mg_une (by decide), mg_un1 (by decide)])
            refine me_aload_n (p' := 115) k194_114 rfl rfl ?_
            refine me_cv (p' := 118) k194_115 rfl rfl (by decide) rfl (by decide) (by decide) dp_189 rfl rfl (cl_le mx_189 rfl) (by decide) (cl_sum rfl) (ct_go (B := B) (tl := tl) (a := t.2.2) (w := t.1 = 1 ∨ t.1 = 2) (hT.zf hz1) hw.2.1 (e8.trans hk.1) ((hk.2.2.2.2.2 (by omega)).fr e12) (fun K2 hK2 hK2t => ?_))
            refine me_iconst (p' := 119) k194_118 rfl (v := nI 1) (by decide) ?_
            refine me_reti k194_119 rt_194 (by decide) ?_
            exact hT1 _ hat K2 (hz1.tr (mZf.g hK2)) hK2t (hK1p.gf hK2) ((hK2.2 18 (by decide) (by decide) (by decide) (by decide) (by decide)).trans hn1) (fun k => (((((mFr.up (S := [127, 135]) (by decide)).tr (mFr.up (by decide))).tr (mFr.up (by decide))).tr hK1.1).tr (hK2.1.sub (by decide))) 137 k (by decide))
    · skip
      rw [cI_eq (a := t.2.2 - t.2.1) (b := 1) (by omega) (by omega)] at c2
      refine me_iconst (p' := 37) k194_36 rfl (v := nI 0) (by decide) ?_
      refine me_istore_n (p' := 38) k194_37 rfl ⟨Nat.le_of_ble_eq_true rfl, rfl⟩ rfl ?_
      refine me_aload_n (p' := 39) k194_38 rfl rfl ?_
      refine me_gfi (p' := 42) k194_39 rfl (by decide) rfl rfl ?_
      rw [hk.2.2.1]
      refine me_iconst (p' := 43) k194_42 rfl (v := nI 2) (by decide) ?_
      refine me_ic_eq (p' := 46) k194_43 rfl (fun c8 => ?_) (fun c8 => ?_)
      · skip
        rw [cI_eq (a := t.1) (b := 2) (by omega) (by omega)] at c8
        refine me_aload_n (p' := 53) k194_52 rfl rfl ?_
        refine me_gfr (p' := 56) k194_53 rfl (by decide) rfl (b := 135) rfl ?_
        refine me_aload_n (p' := 57) k194_56 rfl rfl ?_
        refine me_gfi (p' := 60) k194_57 rfl (by decide) rfl rfl ?_
        rw [hp.2.2.1]
        refine me_aload_n (p' := 61) k194_60 rfl rfl ?_
        refine me_gfi (p' := 64) k194_61 rfl (by decide) rfl rfl ?_
        rw [hk.2.2.1]
        refine me_iconst (p' := 65) k194_64 rfl (v := nI 2) (by decide) ?_
        refine me_ic_ne (p' := 68) k194_65 rfl (fun c9 => ?_) (fun c9 => ?_)
        · skip
          rw [cI_eq (a := t.1) (b := 2) (by omega) (by omega)] at c9
          refine me_aload_n (p' := 69) k194_68 rfl rfl ?_
          refine me_gfi (p' := 72) k194_69 rfl (by decide) rfl rfl ?_
          rw [hk.2.2.2.2.1 (by omega)]
          refine me_goto k194_72 ?_
          have hat : tAt B key t = some (tNum B t.2.1 (t.2.2 - t.2.1)) := by unfold tAt; rw [if_pos (by omega)]
          have hal := (tAt_lt (key := key) hw hat).1
          refine me_iast (p' := 88) k194_87 rfl (by decide) rfl (j := o.length) rfl (by omega) (by decide) rfl ?_
          refine me_aload_n (p' := 89) k194_88 rfl rfl ?_
          refine me_dup (p' := 90) k194_89 rfl rfl ?_
          refine me_gfi (p' := 93) k194_90 rfl (by decide) rfl rfl ?_
          rw [mg_un1 (by decide), hp.2.2.1]
          refine me_iconst (p' := 94) k194_93 rfl (v := nI 1) (by decide) ?_
          refine me_iadd (p' := 95) k194_94 rfl (v := nI (o.length + 1)) (mI_add _ _) ?_
          refine me_pfi (p' := 98) k194_95 rfl (by decide) rfl rfl rfl rfl ?_
          refine me_aload_n (p' := 99) k194_98 rfl rfl ?_
          refine me_dup (p' := 100) k194_99 rfl rfl ?_
          refine me_gfi (p' := 103) k194_100 rfl (by decide) rfl rfl ?_
          rw [mg_une (by decide), mg_un1 (by decide), hna]
          refine me_iconst (p' := 104) k194_103 rfl (v := nI 1) (by decide) ?_
          refine me_iadd (p' := 105) k194_104 rfl (v := nI ((tNa o) + 1)) (mI_add _ _) ?_
          refine me_pfi (p' := 108) k194_105 rfl (by decide) rfl rfl rfl rfl ?_
          refine me_aload_n (p' := 109) k194_108 rfl rfl ?_
          refine me_bipush (p' := 111) k194_109 rfl (v := nI 6) (by decide) ?_
          refine me_cv (p' := 114) k194_111 rfl rfl (by decide) rfl (by decide) (by decide) dp_196 rfl rfl (cl_le mx_196 rfl) (by decide) (cl_sum rfl) (ct_settle (S := S) (o := o ++ [tNum B t.2.1 (t.2.2 - t.2.1)]) (by decide) (hp.atom (by omega)) hS (by rw [List.length_append, List.length_singleton]; omega) (fun K1 hK1 hK1p => ?_))
          have hz1 : mZf I K1 := (((mZf.u (by simp)).tr (mZf.u (by simp))).tr (mZf.u (by simp))).tr (mZf.s hK1)
          have hn1 : K1 127 18 = nI (tNa (o ++ [tNum B t.2.1 (t.2.2 - t.2.1)])) := (hK1.2 18 (by decide) (by decide)).trans (by rw [mg_ueq, tNa_1 (by omega)])
          have e12 : K1 127 12 = I 127 12 := (hK1.2 12 (by decide) (by decide)).trans (by rw [mg_une (by decide), mg_une (by decide), mg_un1 (by decide)])
          have e8 : K1 127 8 = I 127 8 := (hK1.2 8 (by decide) (by decide)).trans (by rw [mg_une (by decide), mg_une (by decide), mg_un1 (by decide)])
          refine me_aload_n (p' := 115) k194_114 rfl rfl ?_
          refine me_cv (p' := 118) k194_115 rfl rfl (by decide) rfl (by decide) (by decide) dp_189 rfl rfl (cl_le mx_189 rfl) (by decide) (cl_sum rfl) (ct_go (B := B) (tl := tl) (a := t.2.2) (w := t.1 = 1 ∨ t.1 = 2) (hT.zf hz1) hw.2.1 (e8.trans hk.1) ((hk.2.2.2.2.2 (by omega)).fr e12) (fun K2 hK2 hK2t => ?_))
          refine me_iconst (p' := 119) k194_118 rfl (v := nI 1) (by decide) ?_
          refine me_reti k194_119 rt_194 (by decide) ?_
          exact hT1 _ hat K2 (hz1.tr (mZf.g hK2)) hK2t (hK1p.gf hK2) ((hK2.2 18 (by decide) (by decide) (by decide) (by decide) (by decide)).trans hn1) (fun k => (((((mFr.up (S := [127, 135]) (by decide)).tr (mFr.up (by decide))).tr (mFr.up (by decide))).tr hK1.1).tr (hK2.1.sub (by decide))) 137 k (by decide))
        · skip
          rw [cI_eq (a := t.1) (b := 2) (by omega) (by omega)] at c9
          exfalso
          omega
      · skip
        rw [cI_eq (a := t.1) (b := 2) (by omega) (by omega)] at c8
        refine me_iload_n (p' := 47) k194_46 rfl rfl ?_
        refine me_if_ne (p' := 50) k194_47 rfl (fun _ => ?_) (fun h => absurd (by decide) h)
        refine me_iconst (p' := 51) k194_50 rfl (v := nI 0) (by decide) ?_
        refine me_reti k194_51 rt_194 (by decide) ?_
        refine hF ?_
        unfold tAt tNm
        rw [if_neg (by omega)]
        rw [if_neg (by omega)]
  · skip
    rw [cI_eq (a := t.1) (b := 1) (by omega) (by omega)] at c1
    refine me_iconst (p' := 37) k194_36 rfl (v := nI 0) (by decide) ?_
    refine me_istore_n (p' := 38) k194_37 rfl ⟨Nat.le_of_ble_eq_true rfl, rfl⟩ rfl ?_
    refine me_aload_n (p' := 39) k194_38 rfl rfl ?_
    refine me_gfi (p' := 42) k194_39 rfl (by decide) rfl rfl ?_
    rw [hk.2.2.1]
    refine me_iconst (p' := 43) k194_42 rfl (v := nI 2) (by decide) ?_
    refine me_ic_eq (p' := 46) k194_43 rfl (fun c10 => ?_) (fun c10 => ?_)
    · skip
      rw [cI_eq (a := t.1) (b := 2) (by omega) (by omega)] at c10
      refine me_aload_n (p' := 53) k194_52 rfl rfl ?_
      refine me_gfr (p' := 56) k194_53 rfl (by decide) rfl (b := 135) rfl ?_
      refine me_aload_n (p' := 57) k194_56 rfl rfl ?_
      refine me_gfi (p' := 60) k194_57 rfl (by decide) rfl rfl ?_
      rw [hp.2.2.1]
      refine me_aload_n (p' := 61) k194_60 rfl rfl ?_
      refine me_gfi (p' := 64) k194_61 rfl (by decide) rfl rfl ?_
      rw [hk.2.2.1]
      refine me_iconst (p' := 65) k194_64 rfl (v := nI 2) (by decide) ?_
      refine me_ic_ne (p' := 68) k194_65 rfl (fun c11 => ?_) (fun c11 => ?_)
      · skip
        rw [cI_eq (a := t.1) (b := 2) (by omega) (by omega)] at c11
        refine me_aload_n (p' := 69) k194_68 rfl rfl ?_
        refine me_gfi (p' := 72) k194_69 rfl (by decide) rfl rfl ?_
        rw [hk.2.2.2.2.1 (by omega)]
        refine me_goto k194_72 ?_
        have hat : tAt B key t = some (tNum B t.2.1 (t.2.2 - t.2.1)) := by unfold tAt; rw [if_pos (by omega)]
        have hal := (tAt_lt (key := key) hw hat).1
        refine me_iast (p' := 88) k194_87 rfl (by decide) rfl (j := o.length) rfl (by omega) (by decide) rfl ?_
        refine me_aload_n (p' := 89) k194_88 rfl rfl ?_
        refine me_dup (p' := 90) k194_89 rfl rfl ?_
        refine me_gfi (p' := 93) k194_90 rfl (by decide) rfl rfl ?_
        rw [mg_un1 (by decide), hp.2.2.1]
        refine me_iconst (p' := 94) k194_93 rfl (v := nI 1) (by decide) ?_
        refine me_iadd (p' := 95) k194_94 rfl (v := nI (o.length + 1)) (mI_add _ _) ?_
        refine me_pfi (p' := 98) k194_95 rfl (by decide) rfl rfl rfl rfl ?_
        refine me_aload_n (p' := 99) k194_98 rfl rfl ?_
        refine me_dup (p' := 100) k194_99 rfl rfl ?_
        refine me_gfi (p' := 103) k194_100 rfl (by decide) rfl rfl ?_
        rw [mg_une (by decide), mg_un1 (by decide), hna]
        refine me_iconst (p' := 104) k194_103 rfl (v := nI 1) (by decide) ?_
        refine me_iadd (p' := 105) k194_104 rfl (v := nI ((tNa o) + 1)) (mI_add _ _) ?_
        refine me_pfi (p' := 108) k194_105 rfl (by decide) rfl rfl rfl rfl ?_
        refine me_aload_n (p' := 109) k194_108 rfl rfl ?_
        refine me_bipush (p' := 111) k194_109 rfl (v := nI 6) (by decide) ?_
        refine me_cv (p' := 114) k194_111 rfl rfl (by decide) rfl (by decide) (by decide) dp_196 rfl rfl (cl_le mx_196 rfl) (by decide) (cl_sum rfl) (ct_settle (S := S) (o := o ++ [tNum B t.2.1 (t.2.2 - t.2.1)]) (by decide) (hp.atom (by omega)) hS (by rw [List.length_append, List.length_singleton]; omega) (fun K1 hK1 hK1p => ?_))
        have hz1 : mZf I K1 := (((mZf.u (by simp)).tr (mZf.u (by simp))).tr (mZf.u (by simp))).tr (mZf.s hK1)
        have hn1 : K1 127 18 = nI (tNa (o ++ [tNum B t.2.1 (t.2.2 - t.2.1)])) := (hK1.2 18 (by decide) (by decide)).trans (by rw [mg_ueq, tNa_1 (by omega)])
        have e12 : K1 127 12 = I 127 12 := (hK1.2 12 (by decide) (by decide)).trans (by rw [mg_une (by decide), mg_une (by decide), mg_un1 (by decide)])
        have e8 : K1 127 8 = I 127 8 := (hK1.2 8 (by decide) (by decide)).trans (by rw [mg_une (by decide), mg_une (by decide), mg_un1 (by decide)])
        refine me_aload_n (p' := 115) k194_114 rfl rfl ?_
        refine me_cv (p' := 118) k194_115 rfl rfl (by decide) rfl (by decide) (by decide) dp_189 rfl rfl (cl_le mx_189 rfl) (by decide) (cl_sum rfl) (ct_go (B := B) (tl := tl) (a := t.2.2) (w := t.1 = 1 ∨ t.1 = 2) (hT.zf hz1) hw.2.1 (e8.trans hk.1) ((hk.2.2.2.2.2 (by omega)).fr e12) (fun K2 hK2 hK2t => ?_))
        refine me_iconst (p' := 119) k194_118 rfl (v := nI 1) (by decide) ?_
        refine me_reti k194_119 rt_194 (by decide) ?_
        exact hT1 _ hat K2 (hz1.tr (mZf.g hK2)) hK2t (hK1p.gf hK2) ((hK2.2 18 (by decide) (by decide) (by decide) (by decide) (by decide)).trans hn1) (fun k => (((((mFr.up (S := [127, 135]) (by decide)).tr (mFr.up (by decide))).tr (mFr.up (by decide))).tr hK1.1).tr (hK2.1.sub (by decide))) 137 k (by decide))
      · skip
        rw [cI_eq (a := t.1) (b := 2) (by omega) (by omega)] at c11
        exfalso
        omega
    · skip
      rw [cI_eq (a := t.1) (b := 2) (by omega) (by omega)] at c10
      refine me_iload_n (p' := 47) k194_46 rfl rfl ?_
      refine me_if_ne (p' := 50) k194_47 rfl (fun _ => ?_) (fun h => absurd (by decide) h)
      refine me_iconst (p' := 51) k194_50 rfl (v := nI 0) (by decide) ?_
      refine me_reti k194_51 rt_194 (by decide) ?_
      refine hF ?_
      unfold tAt tNm
      rw [if_neg (by omega)]
      rw [if_neg (by omega)]
def mKy (I : Nat → Nat → Int32) : Prop := (∀ j : Nat, j < 11 → I 133 j = nI ([112, 97, 99, 101, 102, 101, 101, 102, 105, 110, 101].getD j 0)) ∧ ∀ j : Nat, j < 4 → I 134 j = nI ([0, 4, 7, 11].getD j 0)
theorem lp_key0 {d L : Nat} {xs : Nat → Int32} {I : Nat → Nat → Int32} {Q : Option Value → mj_H → Prop} {B : Nat → Nat} {tl : Nat} {t : Nat × Nat × Nat} (hT : mTp I B tl) (hk : mTk I B t) (hw : tWf B tl t) (hky : mKy I) (ht1 : t.1 = 1) (hN : ¬ tIs B t (mj_txt.getD 0 []) → ∀ u2 u3 u4 : Value, mj_Ev (d + 2) 192 12 [.ref 127, .int (nI 1), u2, u3, u4] [] (mg_h L xs I) Q) (hY : tIs B t (mj_txt.getD 0 []) → ∀ u2 u3 u4 : Value, mj_Ev (d + 2) 192 110 [.ref 127, .int (nI 0), u2, u3, u4] [] (mg_h L xs I) Q) (u2 u3 u4 : Value) : mj_Ev (d + 2) 192 12 [.ref 127, .int (nI 0), u2, u3, u4] [] (mg_h L xs I) Q := by
  have htl := hT.2.1
  have hw1 := hw.1
  have hw2 := hw.2.1
  have hw3 := hw.2.2.2.1
  have hw4 := hw.2.2.2.2.1
  have hw9 := hw.2.2.2.2.2.2.2.2
  refine me_iload_n (p' := 13) k192_12 rfl rfl ?_
  refine me_iconst (p' := 14) k192_13 rfl (v := nI 3) (by decide) ?_
  refine me_ic_ge (p' := 17) k192_14 rfl (fun h => absurd h (by decide)) (fun _ => ?_)
  refine me_aload_n (p' := 18) k192_17 rfl rfl ?_
  refine me_gfr (p' := 21) k192_18 rfl (by decide) rfl (b := 134) rfl ?_
  refine me_iload_n (p' := 22) k192_21 rfl rfl ?_
  refine me_iconst (p' := 23) k192_22 rfl (v := nI 1) (by decide) ?_
  refine me_iadd (p' := 24) k192_23 rfl (v := nI (0 + 1)) (mI_add _ _) ?_
  refine me_iald (p' := 25) k192_24 rfl (by decide) rfl (j := 0 + 1) rfl (by omega) (by decide) rfl ?_
  rw [show I 134 (0 + 1) = nI 4 from hky.2 1 (by decide)]
  refine me_aload_n (p' := 26) k192_25 rfl rfl ?_
  refine me_gfr (p' := 29) k192_26 rfl (by decide) rfl (b := 134) rfl ?_
  refine me_iload_n (p' := 30) k192_29 rfl rfl ?_
  refine me_iald (p' := 31) k192_30 rfl (by decide) rfl (j := 0) rfl (by omega) (by decide) rfl ?_
  rw [show I 134 0 = nI 0 from hky.2 0 (by decide)]
  refine me_isub (p' := 32) k192_31 rfl rfl ?_
  rw [show nI 4 - nI 0 = nI 4 from by decide]
  refine me_istore_n (p' := 33) k192_32 rfl ⟨Nat.le_of_ble_eq_true rfl, rfl⟩ rfl ?_
  refine me_iload_n (p' := 34) k192_33 rfl rfl ?_
  refine me_aload_n (p' := 35) k192_34 rfl rfl ?_
  refine me_gfi (p' := 38) k192_35 rfl (by decide) rfl rfl ?_
  rw [hk.1]
  refine me_aload_n (p' := 39) k192_38 rfl rfl ?_
  refine me_gfi (p' := 42) k192_39 rfl (by decide) rfl rfl ?_
  rw [hk.2.1]
  refine me_isub (p' := 43) k192_42 rfl rfl ?_
  rw [mI_sub (by omega)]
  refine me_ic_ne (p' := 46) k192_43 rfl (fun c1 => ?_) (fun c1 => ?_)
  · skip
    rw [cI_eq (a := 4) (b := t.2.2 - t.2.1) (by omega) (by omega)] at c1
    refine me_iconst (p' := 47) k192_46 rfl (v := nI 1) (by decide) ?_
    refine me_goto k192_47 ?_
    refine me_istore_n (p' := 52) k192_51 rfl ⟨Nat.le_of_ble_eq_true rfl, rfl⟩ rfl ?_
    refine me_iconst (p' := 53) k192_52 rfl (v := nI 0) (by decide) ?_
    refine me_istore (p' := 55) k192_53 rfl ⟨Nat.le_of_ble_eq_true rfl, rfl⟩ rfl ?_
    refine me_iload (p' := 57) k192_55 rfl rfl ?_
    refine me_iload_n (p' := 58) k192_57 rfl rfl ?_
    refine me_ic_ge (p' := 61) k192_58 rfl (fun h => absurd h (by decide)) (fun _ => ?_)
    refine me_iload_n (p' := 62) k192_61 rfl rfl ?_
    refine me_if_eq (p' := 65) k192_62 rfl (fun h => absurd h (by decide)) (fun _ => ?_)
    refine me_aload_n (p' := 66) k192_65 rfl rfl ?_
    refine me_gfr (p' := 69) k192_66 rfl (by decide) rfl (b := 132) rfl ?_
    refine me_aload_n (p' := 70) k192_69 rfl rfl ?_
    refine me_gfi (p' := 73) k192_70 rfl (by decide) rfl rfl ?_
    rw [hk.2.1]
    refine me_iload (p' := 75) k192_73 rfl rfl ?_
    refine me_iadd (p' := 76) k192_75 rfl (v := nI (t.2.1 + 0)) (mI_add _ _) ?_
    refine me_iald (p' := 77) k192_76 rfl (by decide) rfl (j := t.2.1 + 0) rfl (by omega) (by decide) rfl ?_
    rw [(hT.2.2 (t.2.1 + 0) (by omega)).1]
    have hB0 := (hT.2.2 (t.2.1 + 0) (by omega)).2
    refine me_aload_n (p' := 78) k192_77 rfl rfl ?_
    refine me_gfr (p' := 81) k192_78 rfl (by decide) rfl (b := 133) rfl ?_
    refine me_aload_n (p' := 82) k192_81 rfl rfl ?_
    refine me_gfr (p' := 85) k192_82 rfl (by decide) rfl (b := 134) rfl ?_
    refine me_iload_n (p' := 86) k192_85 rfl rfl ?_
    refine me_iald (p' := 87) k192_86 rfl (by decide) rfl (j := 0) rfl (by omega) (by decide) rfl ?_
    rw [show I 134 0 = nI 0 from hky.2 0 (by decide)]
    refine me_iload (p' := 89) k192_87 rfl rfl ?_
    refine me_iadd (p' := 90) k192_89 rfl (v := nI (0 + 0)) (mI_add _ _) ?_
    refine me_cald (p' := 91) k192_90 rfl (by decide) rfl (j := 0 + 0) rfl (by omega) (by decide) rfl ?_
    rw [show I 133 (0 + 0) = nI 112 from hky.1 0 (by decide)]
    refine me_ic_ne (p' := 94) k192_91 rfl (fun c2 => ?_) (fun c2 => ?_)
    · skip
      rw [cI_eq (a := B (t.2.1 + 0)) (b := 112) (by omega) (by omega)] at c2
      refine me_iconst (p' := 95) k192_94 rfl (v := nI 1) (by decide) ?_
      refine me_goto k192_95 ?_
      refine me_istore_n (p' := 100) k192_99 rfl ⟨Nat.le_of_ble_eq_true rfl, rfl⟩ rfl ?_
      refine me_iinc (p' := 103) k192_100 rfl rfl rfl (v := nI (1)) (by decide) rfl ?_
      refine me_goto k192_103 ?_
      refine me_iload (p' := 57) k192_55 rfl rfl ?_
      refine me_iload_n (p' := 58) k192_57 rfl rfl ?_
      refine me_ic_ge (p' := 61) k192_58 rfl (fun h => absurd h (by decide)) (fun _ => ?_)
      refine me_iload_n (p' := 62) k192_61 rfl rfl ?_
      refine me_if_eq (p' := 65) k192_62 rfl (fun h => absurd h (by decide)) (fun _ => ?_)
      refine me_aload_n (p' := 66) k192_65 rfl rfl ?_
      refine me_gfr (p' := 69) k192_66 rfl (by decide) rfl (b := 132) rfl ?_
      refine me_aload_n (p' := 70) k192_69 rfl rfl ?_
      refine me_gfi (p' := 73) k192_70 rfl (by decide) rfl rfl ?_
      rw [hk.2.1]
      refine me_iload (p' := 75) k192_73 rfl rfl ?_
      refine me_iadd (p' := 76) k192_75 rfl (v := nI (t.2.1 + 1)) (mI_add _ _) ?_
      refine me_iald (p' := 77) k192_76 rfl (by decide) rfl (j := t.2.1 + 1) rfl (by omega) (by decide) rfl ?_
      rw [(hT.2.2 (t.2.1 + 1) (by omega)).1]
      have hB1 := (hT.2.2 (t.2.1 + 1) (by omega)).2
      refine me_aload_n (p' := 78) k192_77 rfl rfl ?_
      refine me_gfr (p' := 81) k192_78 rfl (by decide) rfl (b := 133) rfl ?_
      refine me_aload_n (p' := 82) k192_81 rfl rfl ?_
      refine me_gfr (p' := 85) k192_82 rfl (by decide) rfl (b := 134) rfl ?_
      refine me_iload_n (p' := 86) k192_85 rfl rfl ?_
      refine me_iald (p' := 87) k192_86 rfl (by decide) rfl (j := 0) rfl (by omega) (by decide) rfl ?_
      rw [show I 134 0 = nI 0 from hky.2 0 (by decide)]
      refine me_iload (p' := 89) k192_87 rfl rfl ?_
      refine me_iadd (p' := 90) k192_89 rfl (v := nI (0 + 1)) (mI_add _ _) ?_
      refine me_cald (p' := 91) k192_90 rfl (by decide) rfl (j := 0 + 1) rfl (by omega) (by decide) rfl ?_
      rw [show I 133 (0 + 1) = nI 97 from hky.1 1 (by decide)]
      refine me_ic_ne (p' := 94) k192_91 rfl (fun c3 => ?_) (fun c3 => ?_)
      · skip
        rw [cI_eq (a := B (t.2.1 + 1)) (b := 97) (by omega) (by omega)] at c3
        refine me_iconst (p' := 95) k192_94 rfl (v := nI 1) (by decide) ?_
        refine me_goto k192_95 ?_
        refine me_istore_n (p' := 100) k192_99 rfl ⟨Nat.le_of_ble_eq_true rfl, rfl⟩ rfl ?_
        refine me_iinc (p' := 103) k192_100 rfl rfl rfl (v := nI (2)) (by decide) rfl ?_
        refine me_goto k192_103 ?_
        refine me_iload (p' := 57) k192_55 rfl rfl ?_
        refine me_iload_n (p' := 58) k192_57 rfl rfl ?_
        refine me_ic_ge (p' := 61) k192_58 rfl (fun h => absurd h (by decide)) (fun _ => ?_)
        refine me_iload_n (p' := 62) k192_61 rfl rfl ?_
        refine me_if_eq (p' := 65) k192_62 rfl (fun h => absurd h (by decide)) (fun _ => ?_)
        refine me_aload_n (p' := 66) k192_65 rfl rfl ?_
        refine me_gfr (p' := 69) k192_66 rfl (by decide) rfl (b := 132) rfl ?_
        refine me_aload_n (p' := 70) k192_69 rfl rfl ?_
        refine me_gfi (p' := 73) k192_70 rfl (by decide) rfl rfl ?_
        rw [hk.2.1]
        refine me_iload (p' := 75) k192_73 rfl rfl ?_
        refine me_iadd (p' := 76) k192_75 rfl (v := nI (t.2.1 + 2)) (mI_add _ _) ?_
        refine me_iald (p' := 77) k192_76 rfl (by decide) rfl (j := t.2.1 + 2) rfl (by omega) (by decide) rfl ?_
        rw [(hT.2.2 (t.2.1 + 2) (by omega)).1]
        have hB2 := (hT.2.2 (t.2.1 + 2) (by omega)).2
        refine me_aload_n (p' := 78) k192_77 rfl rfl ?_
        refine me_gfr (p' := 81) k192_78 rfl (by decide) rfl (b := 133) rfl ?_
        refine me_aload_n (p' := 82) k192_81 rfl rfl ?_
        refine me_gfr (p' := 85) k192_82 rfl (by decide) rfl (b := 134) rfl ?_
        refine me_iload_n (p' := 86) k192_85 rfl rfl ?_
        refine me_iald (p' := 87) k192_86 rfl (by decide) rfl (j := 0) rfl (by omega) (by decide) rfl ?_
        rw [show I 134 0 = nI 0 from hky.2 0 (by decide)]
        refine me_iload (p' := 89) k192_87 rfl rfl ?_
        refine me_iadd (p' := 90) k192_89 rfl (v := nI (0 + 2)) (mI_add _ _) ?_
        refine me_cald (p' := 91) k192_90 rfl (by decide) rfl (j := 0 + 2) rfl (by omega) (by decide) rfl ?_
        rw [show I 133 (0 + 2) = nI 99 from hky.1 2 (by decide)]
        refine me_ic_ne (p' := 94) k192_91 rfl (fun c4 => ?_) (fun c4 => ?_)
        · skip
          rw [cI_eq (a := B (t.2.1 + 2)) (b := 99) (by omega) (by omega)] at c4
          refine me_iconst (p' := 95) k192_94 rfl (v := nI 1) (by decide) ?_
          refine me_goto k192_95 ?_
          refine me_istore_n (p' := 100) k192_99 rfl ⟨Nat.le_of_ble_eq_true rfl, rfl⟩ rfl ?_
          refine me_iinc (p' := 103) k192_100 rfl rfl rfl (v := nI (3)) (by decide) rfl ?_
          refine me_goto k192_103 ?_
          refine me_iload (p' := 57) k192_55 rfl rfl ?_
          refine me_iload_n (p' := 58) k192_57 rfl rfl ?_
          refine me_ic_ge (p' := 61) k192_58 rfl (fun h => absurd h (by decide)) (fun _ => ?_)
          refine me_iload_n (p' := 62) k192_61 rfl rfl ?_
          refine me_if_eq (p' := 65) k192_62 rfl (fun h => absurd h (by decide)) (fun _ => ?_)
          refine me_aload_n (p' := 66) k192_65 rfl rfl ?_
          refine me_gfr (p' := 69) k192_66 rfl (by decide) rfl (b := 132) rfl ?_
          refine me_aload_n (p' := 70) k192_69 rfl rfl ?_
          refine me_gfi (p' := 73) k192_70 rfl (by decide) rfl rfl ?_
          rw [hk.2.1]
          refine me_iload (p' := 75) k192_73 rfl rfl ?_
          refine me_iadd (p' := 76) k192_75 rfl (v := nI (t.2.1 + 3)) (mI_add _ _) ?_
          refine me_iald (p' := 77) k192_76 rfl (by decide) rfl (j := t.2.1 + 3) rfl (by omega) (by decide) rfl ?_
          rw [(hT.2.2 (t.2.1 + 3) (by omega)).1]
          have hB3 := (hT.2.2 (t.2.1 + 3) (by omega)).2
          refine me_aload_n (p' := 78) k192_77 rfl rfl ?_
          refine me_gfr (p' := 81) k192_78 rfl (by decide) rfl (b := 133) rfl ?_
          refine me_aload_n (p' := 82) k192_81 rfl rfl ?_
          refine me_gfr (p' := 85) k192_82 rfl (by decide) rfl (b := 134) rfl ?_
          refine me_iload_n (p' := 86) k192_85 rfl rfl ?_
          refine me_iald (p' := 87) k192_86 rfl (by decide) rfl (j := 0) rfl (by omega) (by decide) rfl ?_
          rw [show I 134 0 = nI 0 from hky.2 0 (by decide)]
          refine me_iload (p' := 89) k192_87 rfl rfl ?_
          refine me_iadd (p' := 90) k192_89 rfl (v := nI (0 + 3)) (mI_add _ _) ?_
          refine me_cald (p' := 91) k192_90 rfl (by decide) rfl (j := 0 + 3) rfl (by omega) (by decide) rfl ?_
          rw [show I 133 (0 + 3) = nI 101 from hky.1 3 (by decide)]
          refine me_ic_ne (p' := 94) k192_91 rfl (fun c5 => ?_) (fun c5 => ?_)
          · skip
            rw [cI_eq (a := B (t.2.1 + 3)) (b := 101) (by omega) (by omega)] at c5
            refine me_iconst (p' := 95) k192_94 rfl (v := nI 1) (by decide) ?_
            refine me_goto k192_95 ?_
            refine me_istore_n (p' := 100) k192_99 rfl ⟨Nat.le_of_ble_eq_true rfl, rfl⟩ rfl ?_
            refine me_iinc (p' := 103) k192_100 rfl rfl rfl (v := nI (4)) (by decide) rfl ?_
            refine me_goto k192_103 ?_
            refine me_iload (p' := 57) k192_55 rfl rfl ?_
            refine me_iload_n (p' := 58) k192_57 rfl rfl ?_
            refine me_ic_ge (p' := 61) k192_58 rfl (fun _ => ?_) (fun h => absurd (by decide) h)
            refine me_iload_n (p' := 107) k192_106 rfl rfl ?_
            refine me_if_eq (p' := 110) k192_107 rfl (fun h => absurd h (by decide)) (fun _ => ?_)
            refine hY ⟨ht1, by have := c1; simp [mj_txt]; omega, fun i hi => ?_⟩ _ _ _
            have hi9 : i < 4 := hi
            rcases (show i = 0 ∨ i = 1 ∨ i = 2 ∨ i = 3 by omega) with rfl | rfl | rfl | rfl
            · exact c2
            · exact c3
            · exact c4
            · exact c5
          · skip
            rw [cI_eq (a := B (t.2.1 + 3)) (b := 101) (by omega) (by omega)] at c5
            refine me_iconst (p' := 99) k192_98 rfl (v := nI 0) (by decide) ?_
            refine me_istore_n (p' := 100) k192_99 rfl ⟨Nat.le_of_ble_eq_true rfl, rfl⟩ rfl ?_
            refine me_iinc (p' := 103) k192_100 rfl rfl rfl (v := nI (4)) (by decide) rfl ?_
            refine me_goto k192_103 ?_
            refine me_iload (p' := 57) k192_55 rfl rfl ?_
            refine me_iload_n (p' := 58) k192_57 rfl rfl ?_
            refine me_ic_ge (p' := 61) k192_58 rfl (fun _ => ?_) (fun h => absurd (by decide) h)
            refine me_iload_n (p' := 107) k192_106 rfl rfl ?_
            refine me_if_eq (p' := 110) k192_107 rfl (fun _ => ?_) (fun h => absurd (by decide) h)
            refine me_iinc (p' := 124) k192_121 rfl rfl rfl (v := nI (1)) (by decide) rfl ?_
            refine me_goto k192_124 ?_
            exact hN (fun z => c5 (z.2.2 3 (by decide))) _ _ _
        · skip
          rw [cI_eq (a := B (t.2.1 + 2)) (b := 99) (by omega) (by omega)] at c4
          refine me_iconst (p' := 99) k192_98 rfl (v := nI 0) (by decide) ?_
          refine me_istore_n (p' := 100) k192_99 rfl ⟨Nat.le_of_ble_eq_true rfl, rfl⟩ rfl ?_
          refine me_iinc (p' := 103) k192_100 rfl rfl rfl (v := nI (3)) (by decide) rfl ?_
          refine me_goto k192_103 ?_
          refine me_iload (p' := 57) k192_55 rfl rfl ?_
          refine me_iload_n (p' := 58) k192_57 rfl rfl ?_
          refine me_ic_ge (p' := 61) k192_58 rfl (fun h => absurd h (by decide)) (fun _ => ?_)
          refine me_iload_n (p' := 62) k192_61 rfl rfl ?_
          refine me_if_eq (p' := 65) k192_62 rfl (fun _ => ?_) (fun h => absurd (by decide) h)
          refine me_iload_n (p' := 107) k192_106 rfl rfl ?_
          refine me_if_eq (p' := 110) k192_107 rfl (fun _ => ?_) (fun h => absurd (by decide) h)
          refine me_iinc (p' := 124) k192_121 rfl rfl rfl (v := nI (1)) (by decide) rfl ?_
          refine me_goto k192_124 ?_
          exact hN (fun z => c4 (z.2.2 2 (by decide))) _ _ _
      · skip
        rw [cI_eq (a := B (t.2.1 + 1)) (b := 97) (by omega) (by omega)] at c3
        refine me_iconst (p' := 99) k192_98 rfl (v := nI 0) (by decide) ?_
        refine me_istore_n (p' := 100) k192_99 rfl ⟨Nat.le_of_ble_eq_true rfl, rfl⟩ rfl ?_
        refine me_iinc (p' := 103) k192_100 rfl rfl rfl (v := nI (2)) (by decide) rfl ?_
        refine me_goto k192_103 ?_
        refine me_iload (p' := 57) k192_55 rfl rfl ?_
        refine me_iload_n (p' := 58) k192_57 rfl rfl ?_
        refine me_ic_ge (p' := 61) k192_58 rfl (fun h => absurd h (by decide)) (fun _ => ?_)
        refine me_iload_n (p' := 62) k192_61 rfl rfl ?_
        refine me_if_eq (p' := 65) k192_62 rfl (fun _ => ?_) (fun h => absurd (by decide) h)
        refine me_iload_n (p' := 107) k192_106 rfl rfl ?_
        refine me_if_eq (p' := 110) k192_107 rfl (fun _ => ?_) (fun h => absurd (by decide) h)
        refine me_iinc (p' := 124) k192_121 rfl rfl rfl (v := nI (1)) (by decide) rfl ?_
        refine me_goto k192_124 ?_
        exact hN (fun z => c3 (z.2.2 1 (by decide))) _ _ _
    · skip
      rw [cI_eq (a := B (t.2.1 + 0)) (b := 112) (by omega) (by omega)] at c2
      refine me_iconst (p' := 99) k192_98 rfl (v := nI 0) (by decide) ?_
      refine me_istore_n (p' := 100) k192_99 rfl ⟨Nat.le_of_ble_eq_true rfl, rfl⟩ rfl ?_
      refine me_iinc (p' := 103) k192_100 rfl rfl rfl (v := nI (1)) (by decide) rfl ?_
      refine me_goto k192_103 ?_
      refine me_iload (p' := 57) k192_55 rfl rfl ?_
      refine me_iload_n (p' := 58) k192_57 rfl rfl ?_
      refine me_ic_ge (p' := 61) k192_58 rfl (fun h => absurd h (by decide)) (fun _ => ?_)
      refine me_iload_n (p' := 62) k192_61 rfl rfl ?_
      refine me_if_eq (p' := 65) k192_62 rfl (fun _ => ?_) (fun h => absurd (by decide) h)
      refine me_iload_n (p' := 107) k192_106 rfl rfl ?_
      refine me_if_eq (p' := 110) k192_107 rfl (fun _ => ?_) (fun h => absurd (by decide) h)
      refine me_iinc (p' := 124) k192_121 rfl rfl rfl (v := nI (1)) (by decide) rfl ?_
      refine me_goto k192_124 ?_
      exact hN (fun z => c2 (z.2.2 0 (by decide))) _ _ _
  · skip
    rw [cI_eq (a := 4) (b := t.2.2 - t.2.1) (by omega) (by omega)] at c1
    refine me_iconst (p' := 51) k192_50 rfl (v := nI 0) (by decide) ?_
    refine me_istore_n (p' := 52) k192_51 rfl ⟨Nat.le_of_ble_eq_true rfl, rfl⟩ rfl ?_
    refine me_iconst (p' := 53) k192_52 rfl (v := nI 0) (by decide) ?_
    refine me_istore (p' := 55) k192_53 rfl ⟨Nat.le_of_ble_eq_true rfl, rfl⟩ rfl ?_
    refine me_iload (p' := 57) k192_55 rfl rfl ?_
    refine me_iload_n (p' := 58) k192_57 rfl rfl ?_
    refine me_ic_ge (p' := 61) k192_58 rfl (fun h => absurd h (by decide)) (fun _ => ?_)
    refine me_iload_n (p' := 62) k192_61 rfl rfl ?_
    refine me_if_eq (p' := 65) k192_62 rfl (fun _ => ?_) (fun h => absurd (by decide) h)
    refine me_iload_n (p' := 107) k192_106 rfl rfl ?_
    refine me_if_eq (p' := 110) k192_107 rfl (fun _ => ?_) (fun h => absurd (by decide) h)
    refine me_iinc (p' := 124) k192_121 rfl rfl rfl (v := nI (1)) (by decide) rfl ?_
    refine me_goto k192_124 ?_
    exact hN (fun z => c1 (by have := z.2.1; simp [mj_txt] at this; omega)) _ _ _
theorem lp_key1 {d L : Nat} {xs : Nat → Int32} {I : Nat → Nat → Int32} {Q : Option Value → mj_H → Prop} {B : Nat → Nat} {tl : Nat} {t : Nat × Nat × Nat} (hT : mTp I B tl) (hk : mTk I B t) (hw : tWf B tl t) (hky : mKy I) (ht1 : t.1 = 1) (hN : ¬ tIs B t (mj_txt.getD 1 []) → ∀ u2 u3 u4 : Value, mj_Ev (d + 2) 192 12 [.ref 127, .int (nI 2), u2, u3, u4] [] (mg_h L xs I) Q) (hY : tIs B t (mj_txt.getD 1 []) → ∀ u2 u3 u4 : Value, mj_Ev (d + 2) 192 110 [.ref 127, .int (nI 1), u2, u3, u4] [] (mg_h L xs I) Q) (u2 u3 u4 : Value) : mj_Ev (d + 2) 192 12 [.ref 127, .int (nI 1), u2, u3, u4] [] (mg_h L xs I) Q := by
  have htl := hT.2.1
  have hw1 := hw.1
  have hw2 := hw.2.1
  have hw3 := hw.2.2.2.1
  have hw4 := hw.2.2.2.2.1
  have hw9 := hw.2.2.2.2.2.2.2.2
  refine me_iload_n (p' := 13) k192_12 rfl rfl ?_
  refine me_iconst (p' := 14) k192_13 rfl (v := nI 3) (by decide) ?_
  refine me_ic_ge (p' := 17) k192_14 rfl (fun h => absurd h (by decide)) (fun _ => ?_)
  refine me_aload_n (p' := 18) k192_17 rfl rfl ?_
  refine me_gfr (p' := 21) k192_18 rfl (by decide) rfl (b := 134) rfl ?_
  refine me_iload_n (p' := 22) k192_21 rfl rfl ?_
  refine me_iconst (p' := 23) k192_22 rfl (v := nI 1) (by decide) ?_
  refine me_iadd (p' := 24) k192_23 rfl (v := nI (1 + 1)) (mI_add _ _) ?_
  refine me_iald (p' := 25) k192_24 rfl (by decide) rfl (j := 1 + 1) rfl (by omega) (by decide) rfl ?_
  rw [show I 134 (1 + 1) = nI 7 from hky.2 2 (by decide)]
  refine me_aload_n (p' := 26) k192_25 rfl rfl ?_
  refine me_gfr (p' := 29) k192_26 rfl (by decide) rfl (b := 134) rfl ?_
  refine me_iload_n (p' := 30) k192_29 rfl rfl ?_
  refine me_iald (p' := 31) k192_30 rfl (by decide) rfl (j := 1) rfl (by omega) (by decide) rfl ?_
  rw [show I 134 1 = nI 4 from hky.2 1 (by decide)]
  refine me_isub (p' := 32) k192_31 rfl rfl ?_
  rw [show nI 7 - nI 4 = nI 3 from by decide]
  refine me_istore_n (p' := 33) k192_32 rfl ⟨Nat.le_of_ble_eq_true rfl, rfl⟩ rfl ?_
  refine me_iload_n (p' := 34) k192_33 rfl rfl ?_
  refine me_aload_n (p' := 35) k192_34 rfl rfl ?_
  refine me_gfi (p' := 38) k192_35 rfl (by decide) rfl rfl ?_
  rw [hk.1]
  refine me_aload_n (p' := 39) k192_38 rfl rfl ?_
  refine me_gfi (p' := 42) k192_39 rfl (by decide) rfl rfl ?_
  rw [hk.2.1]
  refine me_isub (p' := 43) k192_42 rfl rfl ?_
  rw [mI_sub (by omega)]
  refine me_ic_ne (p' := 46) k192_43 rfl (fun c1 => ?_) (fun c1 => ?_)
  · skip
    rw [cI_eq (a := 3) (b := t.2.2 - t.2.1) (by omega) (by omega)] at c1
    refine me_iconst (p' := 47) k192_46 rfl (v := nI 1) (by decide) ?_
    refine me_goto k192_47 ?_
    refine me_istore_n (p' := 52) k192_51 rfl ⟨Nat.le_of_ble_eq_true rfl, rfl⟩ rfl ?_
    refine me_iconst (p' := 53) k192_52 rfl (v := nI 0) (by decide) ?_
    refine me_istore (p' := 55) k192_53 rfl ⟨Nat.le_of_ble_eq_true rfl, rfl⟩ rfl ?_
    refine me_iload (p' := 57) k192_55 rfl rfl ?_
    refine me_iload_n (p' := 58) k192_57 rfl rfl ?_
    refine me_ic_ge (p' := 61) k192_58 rfl (fun h => absurd h (by decide)) (fun _ => ?_)
    refine me_iload_n (p' := 62) k192_61 rfl rfl ?_
    refine me_if_eq (p' := 65) k192_62 rfl (fun h => absurd h (by decide)) (fun _ => ?_)
    refine me_aload_n (p' := 66) k192_65 rfl rfl ?_
    refine me_gfr (p' := 69) k192_66 rfl (by decide) rfl (b := 132) rfl ?_
    refine me_aload_n (p' := 70) k192_69 rfl rfl ?_
    refine me_gfi (p' := 73) k192_70 rfl (by decide) rfl rfl ?_
    rw [hk.2.1]
    refine me_iload (p' := 75) k192_73 rfl rfl ?_
    refine me_iadd (p' := 76) k192_75 rfl (v := nI (t.2.1 + 0)) (mI_add _ _) ?_
    refine me_iald (p' := 77) k192_76 rfl (by decide) rfl (j := t.2.1 + 0) rfl (by omega) (by decide) rfl ?_
    rw [(hT.2.2 (t.2.1 + 0) (by omega)).1]
    have hB0 := (hT.2.2 (t.2.1 + 0) (by omega)).2
    refine me_aload_n (p' := 78) k192_77 rfl rfl ?_
    refine me_gfr (p' := 81) k192_78 rfl (by decide) rfl (b := 133) rfl ?_
    refine me_aload_n (p' := 82) k192_81 rfl rfl ?_
    refine me_gfr (p' := 85) k192_82 rfl (by decide) rfl (b := 134) rfl ?_
    refine me_iload_n (p' := 86) k192_85 rfl rfl ?_
    refine me_iald (p' := 87) k192_86 rfl (by decide) rfl (j := 1) rfl (by omega) (by decide) rfl ?_
    rw [show I 134 1 = nI 4 from hky.2 1 (by decide)]
    refine me_iload (p' := 89) k192_87 rfl rfl ?_
    refine me_iadd (p' := 90) k192_89 rfl (v := nI (4 + 0)) (mI_add _ _) ?_
    refine me_cald (p' := 91) k192_90 rfl (by decide) rfl (j := 4 + 0) rfl (by omega) (by decide) rfl ?_
    rw [show I 133 (4 + 0) = nI 102 from hky.1 4 (by decide)]
    refine me_ic_ne (p' := 94) k192_91 rfl (fun c2 => ?_) (fun c2 => ?_)
    · skip
      rw [cI_eq (a := B (t.2.1 + 0)) (b := 102) (by omega) (by omega)] at c2
      refine me_iconst (p' := 95) k192_94 rfl (v := nI 1) (by decide) ?_
      refine me_goto k192_95 ?_
      refine me_istore_n (p' := 100) k192_99 rfl ⟨Nat.le_of_ble_eq_true rfl, rfl⟩ rfl ?_
      refine me_iinc (p' := 103) k192_100 rfl rfl rfl (v := nI (1)) (by decide) rfl ?_
      refine me_goto k192_103 ?_
      refine me_iload (p' := 57) k192_55 rfl rfl ?_
      refine me_iload_n (p' := 58) k192_57 rfl rfl ?_
      refine me_ic_ge (p' := 61) k192_58 rfl (fun h => absurd h (by decide)) (fun _ => ?_)
      refine me_iload_n (p' := 62) k192_61 rfl rfl ?_
      refine me_if_eq (p' := 65) k192_62 rfl (fun h => absurd h (by decide)) (fun _ => ?_)
      refine me_aload_n (p' := 66) k192_65 rfl rfl ?_
      refine me_gfr (p' := 69) k192_66 rfl (by decide) rfl (b := 132) rfl ?_
      refine me_aload_n (p' := 70) k192_69 rfl rfl ?_
      refine me_gfi (p' := 73) k192_70 rfl (by decide) rfl rfl ?_
      rw [hk.2.1]
      refine me_iload (p' := 75) k192_73 rfl rfl ?_
      refine me_iadd (p' := 76) k192_75 rfl (v := nI (t.2.1 + 1)) (mI_add _ _) ?_
      refine me_iald (p' := 77) k192_76 rfl (by decide) rfl (j := t.2.1 + 1) rfl (by omega) (by decide) rfl ?_
      rw [(hT.2.2 (t.2.1 + 1) (by omega)).1]
      have hB1 := (hT.2.2 (t.2.1 + 1) (by omega)).2
      refine me_aload_n (p' := 78) k192_77 rfl rfl ?_
      refine me_gfr (p' := 81) k192_78 rfl (by decide) rfl (b := 133) rfl ?_
      refine me_aload_n (p' := 82) k192_81 rfl rfl ?_
      refine me_gfr (p' := 85) k192_82 rfl (by decide) rfl (b := 134) rfl ?_
      refine me_iload_n (p' := 86) k192_85 rfl rfl ?_
      refine me_iald (p' := 87) k192_86 rfl (by decide) rfl (j := 1) rfl (by omega) (by decide) rfl ?_
      rw [show I 134 1 = nI 4 from hky.2 1 (by decide)]
      refine me_iload (p' := 89) k192_87 rfl rfl ?_
      refine me_iadd (p' := 90) k192_89 rfl (v := nI (4 + 1)) (mI_add _ _) ?_
      refine me_cald (p' := 91) k192_90 rfl (by decide) rfl (j := 4 + 1) rfl (by omega) (by decide) rfl ?_
      rw [show I 133 (4 + 1) = nI 101 from hky.1 5 (by decide)]
      refine me_ic_ne (p' := 94) k192_91 rfl (fun c3 => ?_) (fun c3 => ?_)
      · skip
        rw [cI_eq (a := B (t.2.1 + 1)) (b := 101) (by omega) (by omega)] at c3
        refine me_iconst (p' := 95) k192_94 rfl (v := nI 1) (by decide) ?_
        refine me_goto k192_95 ?_
        refine me_istore_n (p' := 100) k192_99 rfl ⟨Nat.le_of_ble_eq_true rfl, rfl⟩ rfl ?_
        refine me_iinc (p' := 103) k192_100 rfl rfl rfl (v := nI (2)) (by decide) rfl ?_
        refine me_goto k192_103 ?_
        refine me_iload (p' := 57) k192_55 rfl rfl ?_
        refine me_iload_n (p' := 58) k192_57 rfl rfl ?_
        refine me_ic_ge (p' := 61) k192_58 rfl (fun h => absurd h (by decide)) (fun _ => ?_)
        refine me_iload_n (p' := 62) k192_61 rfl rfl ?_
        refine me_if_eq (p' := 65) k192_62 rfl (fun h => absurd h (by decide)) (fun _ => ?_)
        refine me_aload_n (p' := 66) k192_65 rfl rfl ?_
        refine me_gfr (p' := 69) k192_66 rfl (by decide) rfl (b := 132) rfl ?_
        refine me_aload_n (p' := 70) k192_69 rfl rfl ?_
        refine me_gfi (p' := 73) k192_70 rfl (by decide) rfl rfl ?_
        rw [hk.2.1]
        refine me_iload (p' := 75) k192_73 rfl rfl ?_
        refine me_iadd (p' := 76) k192_75 rfl (v := nI (t.2.1 + 2)) (mI_add _ _) ?_
        refine me_iald (p' := 77) k192_76 rfl (by decide) rfl (j := t.2.1 + 2) rfl (by omega) (by decide) rfl ?_
        rw [(hT.2.2 (t.2.1 + 2) (by omega)).1]
        have hB2 := (hT.2.2 (t.2.1 + 2) (by omega)).2
        refine me_aload_n (p' := 78) k192_77 rfl rfl ?_
        refine me_gfr (p' := 81) k192_78 rfl (by decide) rfl (b := 133) rfl ?_
        refine me_aload_n (p' := 82) k192_81 rfl rfl ?_
        refine me_gfr (p' := 85) k192_82 rfl (by decide) rfl (b := 134) rfl ?_
        refine me_iload_n (p' := 86) k192_85 rfl rfl ?_
        refine me_iald (p' := 87) k192_86 rfl (by decide) rfl (j := 1) rfl (by omega) (by decide) rfl ?_
        rw [show I 134 1 = nI 4 from hky.2 1 (by decide)]
        refine me_iload (p' := 89) k192_87 rfl rfl ?_
        refine me_iadd (p' := 90) k192_89 rfl (v := nI (4 + 2)) (mI_add _ _) ?_
        refine me_cald (p' := 91) k192_90 rfl (by decide) rfl (j := 4 + 2) rfl (by omega) (by decide) rfl ?_
        rw [show I 133 (4 + 2) = nI 101 from hky.1 6 (by decide)]
        refine me_ic_ne (p' := 94) k192_91 rfl (fun c4 => ?_) (fun c4 => ?_)
        · skip
          rw [cI_eq (a := B (t.2.1 + 2)) (b := 101) (by omega) (by omega)] at c4
          refine me_iconst (p' := 95) k192_94 rfl (v := nI 1) (by decide) ?_
          refine me_goto k192_95 ?_
          refine me_istore_n (p' := 100) k192_99 rfl ⟨Nat.le_of_ble_eq_true rfl, rfl⟩ rfl ?_
          refine me_iinc (p' := 103) k192_100 rfl rfl rfl (v := nI (3)) (by decide) rfl ?_
          refine me_goto k192_103 ?_
          refine me_iload (p' := 57) k192_55 rfl rfl ?_
          refine me_iload_n (p' := 58) k192_57 rfl rfl ?_
          refine me_ic_ge (p' := 61) k192_58 rfl (fun _ => ?_) (fun h => absurd (by decide) h)
          refine me_iload_n (p' := 107) k192_106 rfl rfl ?_
          refine me_if_eq (p' := 110) k192_107 rfl (fun h => absurd h (by decide)) (fun _ => ?_)
          refine hY ⟨ht1, by have := c1; simp [mj_txt]; omega, fun i hi => ?_⟩ _ _ _
          have hi9 : i < 3 := hi
          rcases (show i = 0 ∨ i = 1 ∨ i = 2 by omega) with rfl | rfl | rfl
          · exact c2
          · exact c3
          · exact c4
        · skip
          rw [cI_eq (a := B (t.2.1 + 2)) (b := 101) (by omega) (by omega)] at c4
          refine me_iconst (p' := 99) k192_98 rfl (v := nI 0) (by decide) ?_
          refine me_istore_n (p' := 100) k192_99 rfl ⟨Nat.le_of_ble_eq_true rfl, rfl⟩ rfl ?_
          refine me_iinc (p' := 103) k192_100 rfl rfl rfl (v := nI (3)) (by decide) rfl ?_
          refine me_goto k192_103 ?_
          refine me_iload (p' := 57) k192_55 rfl rfl ?_
          refine me_iload_n (p' := 58) k192_57 rfl rfl ?_
          refine me_ic_ge (p' := 61) k192_58 rfl (fun _ => ?_) (fun h => absurd (by decide) h)
          refine me_iload_n (p' := 107) k192_106 rfl rfl ?_
          refine me_if_eq (p' := 110) k192_107 rfl (fun _ => ?_) (fun h => absurd (by decide) h)
          refine me_iinc (p' := 124) k192_121 rfl rfl rfl (v := nI (2)) (by decide) rfl ?_
          refine me_goto k192_124 ?_
          exact hN (fun z => c4 (z.2.2 2 (by decide))) _ _ _
      · skip
        rw [cI_eq (a := B (t.2.1 + 1)) (b := 101) (by omega) (by omega)] at c3
        refine me_iconst (p' := 99) k192_98 rfl (v := nI 0) (by decide) ?_
        refine me_istore_n (p' := 100) k192_99 rfl ⟨Nat.le_of_ble_eq_true rfl, rfl⟩ rfl ?_
        refine me_iinc (p' := 103) k192_100 rfl rfl rfl (v := nI (2)) (by decide) rfl ?_
        refine me_goto k192_103 ?_
        refine me_iload (p' := 57) k192_55 rfl rfl ?_
        refine me_iload_n (p' := 58) k192_57 rfl rfl ?_
        refine me_ic_ge (p' := 61) k192_58 rfl (fun h => absurd h (by decide)) (fun _ => ?_)
        refine me_iload_n (p' := 62) k192_61 rfl rfl ?_
        refine me_if_eq (p' := 65) k192_62 rfl (fun _ => ?_) (fun h => absurd (by decide) h)
        refine me_iload_n (p' := 107) k192_106 rfl rfl ?_
        refine me_if_eq (p' := 110) k192_107 rfl (fun _ => ?_) (fun h => absurd (by decide) h)
        refine me_iinc (p' := 124) k192_121 rfl rfl rfl (v := nI (2)) (by decide) rfl ?_
        refine me_goto k192_124 ?_
        exact hN (fun z => c3 (z.2.2 1 (by decide))) _ _ _
    · skip
      rw [cI_eq (a := B (t.2.1 + 0)) (b := 102) (by omega) (by omega)] at c2
      refine me_iconst (p' := 99) k192_98 rfl (v := nI 0) (by decide) ?_
      refine me_istore_n (p' := 100) k192_99 rfl ⟨Nat.le_of_ble_eq_true rfl, rfl⟩ rfl ?_
      refine me_iinc (p' := 103) k192_100 rfl rfl rfl (v := nI (1)) (by decide) rfl ?_
      refine me_goto k192_103 ?_
      refine me_iload (p' := 57) k192_55 rfl rfl ?_
      refine me_iload_n (p' := 58) k192_57 rfl rfl ?_
      refine me_ic_ge (p' := 61) k192_58 rfl (fun h => absurd h (by decide)) (fun _ => ?_)
      refine me_iload_n (p' := 62) k192_61 rfl rfl ?_
      refine me_if_eq (p' := 65) k192_62 rfl (fun _ => ?_) (fun h => absurd (by decide) h)
      refine me_iload_n (p' := 107) k192_106 rfl rfl ?_
      refine me_if_eq (p' := 110) k192_107 rfl (fun _ => ?_) (fun h => absurd (by decide) h)
      refine me_iinc (p' := 124) k192_121 rfl rfl rfl (v := nI (2)) (by decide) rfl ?_
      refine me_goto k192_124 ?_
      exact hN (fun z => c2 (z.2.2 0 (by decide))) _ _ _
  · skip
    rw [cI_eq (a := 3) (b := t.2.2 - t.2.1) (by omega) (by omega)] at c1
    refine me_iconst (p' := 51) k192_50 rfl (v := nI 0) (by decide) ?_
    refine me_istore_n (p' := 52) k192_51 rfl ⟨Nat.le_of_ble_eq_true rfl, rfl⟩ rfl ?_
    refine me_iconst (p' := 53) k192_52 rfl (v := nI 0) (by decide) ?_
    refine me_istore (p' := 55) k192_53 rfl ⟨Nat.le_of_ble_eq_true rfl, rfl⟩ rfl ?_
    refine me_iload (p' := 57) k192_55 rfl rfl ?_
    refine me_iload_n (p' := 58) k192_57 rfl rfl ?_
    refine me_ic_ge (p' := 61) k192_58 rfl (fun h => absurd h (by decide)) (fun _ => ?_)
    refine me_iload_n (p' := 62) k192_61 rfl rfl ?_
    refine me_if_eq (p' := 65) k192_62 rfl (fun _ => ?_) (fun h => absurd (by decide) h)
    refine me_iload_n (p' := 107) k192_106 rfl rfl ?_
    refine me_if_eq (p' := 110) k192_107 rfl (fun _ => ?_) (fun h => absurd (by decide) h)
    refine me_iinc (p' := 124) k192_121 rfl rfl rfl (v := nI (2)) (by decide) rfl ?_
    refine me_goto k192_124 ?_
    exact hN (fun z => c1 (by have := z.2.1; simp [mj_txt] at this; omega)) _ _ _
theorem lp_key2 {d L : Nat} {xs : Nat → Int32} {I : Nat → Nat → Int32} {Q : Option Value → mj_H → Prop} {B : Nat → Nat} {tl : Nat} {t : Nat × Nat × Nat} (hT : mTp I B tl) (hk : mTk I B t) (hw : tWf B tl t) (hky : mKy I) (ht1 : t.1 = 1) (hN : ¬ tIs B t (mj_txt.getD 2 []) → ∀ u2 u3 u4 : Value, mj_Ev (d + 2) 192 12 [.ref 127, .int (nI 3), u2, u3, u4] [] (mg_h L xs I) Q) (hY : tIs B t (mj_txt.getD 2 []) → ∀ u2 u3 u4 : Value, mj_Ev (d + 2) 192 110 [.ref 127, .int (nI 2), u2, u3, u4] [] (mg_h L xs I) Q) (u2 u3 u4 : Value) : mj_Ev (d + 2) 192 12 [.ref 127, .int (nI 2), u2, u3, u4] [] (mg_h L xs I) Q := by
  have htl := hT.2.1
  have hw1 := hw.1
  have hw2 := hw.2.1
  have hw3 := hw.2.2.2.1
  have hw4 := hw.2.2.2.2.1
  have hw9 := hw.2.2.2.2.2.2.2.2
  refine me_iload_n (p' := 13) k192_12 rfl rfl ?_
  refine me_iconst (p' := 14) k192_13 rfl (v := nI 3) (by decide) ?_
  refine me_ic_ge (p' := 17) k192_14 rfl (fun h => absurd h (by decide)) (fun _ => ?_)
  refine me_aload_n (p' := 18) k192_17 rfl rfl ?_
  refine me_gfr (p' := 21) k192_18 rfl (by decide) rfl (b := 134) rfl ?_
  refine me_iload_n (p' := 22) k192_21 rfl rfl ?_
  refine me_iconst (p' := 23) k192_22 rfl (v := nI 1) (by decide) ?_
  refine me_iadd (p' := 24) k192_23 rfl (v := nI (2 + 1)) (mI_add _ _) ?_
  refine me_iald (p' := 25) k192_24 rfl (by decide) rfl (j := 2 + 1) rfl (by omega) (by decide) rfl ?_
  rw [show I 134 (2 + 1) = nI 11 from hky.2 3 (by decide)]
  refine me_aload_n (p' := 26) k192_25 rfl rfl ?_
  refine me_gfr (p' := 29) k192_26 rfl (by decide) rfl (b := 134) rfl ?_
  refine me_iload_n (p' := 30) k192_29 rfl rfl ?_
  refine me_iald (p' := 31) k192_30 rfl (by decide) rfl (j := 2) rfl (by omega) (by decide) rfl ?_
  rw [show I 134 2 = nI 7 from hky.2 2 (by decide)]
  refine me_isub (p' := 32) k192_31 rfl rfl ?_
  rw [show nI 11 - nI 7 = nI 4 from by decide]
  refine me_istore_n (p' := 33) k192_32 rfl ⟨Nat.le_of_ble_eq_true rfl, rfl⟩ rfl ?_
  refine me_iload_n (p' := 34) k192_33 rfl rfl ?_
  refine me_aload_n (p' := 35) k192_34 rfl rfl ?_
  refine me_gfi (p' := 38) k192_35 rfl (by decide) rfl rfl ?_
  rw [hk.1]
  refine me_aload_n (p' := 39) k192_38 rfl rfl ?_
  refine me_gfi (p' := 42) k192_39 rfl (by decide) rfl rfl ?_
  rw [hk.2.1]
  refine me_isub (p' := 43) k192_42 rfl rfl ?_
  rw [mI_sub (by omega)]
  refine me_ic_ne (p' := 46) k192_43 rfl (fun c1 => ?_) (fun c1 => ?_)
  · skip
    rw [cI_eq (a := 4) (b := t.2.2 - t.2.1) (by omega) (by omega)] at c1
    refine me_iconst (p' := 47) k192_46 rfl (v := nI 1) (by decide) ?_
    refine me_goto k192_47 ?_
    refine me_istore_n (p' := 52) k192_51 rfl ⟨Nat.le_of_ble_eq_true rfl, rfl⟩ rfl ?_
    refine me_iconst (p' := 53) k192_52 rfl (v := nI 0) (by decide) ?_
    refine me_istore (p' := 55) k192_53 rfl ⟨Nat.le_of_ble_eq_true rfl, rfl⟩ rfl ?_
    refine me_iload (p' := 57) k192_55 rfl rfl ?_
    refine me_iload_n (p' := 58) k192_57 rfl rfl ?_
    refine me_ic_ge (p' := 61) k192_58 rfl (fun h => absurd h (by decide)) (fun _ => ?_)
    refine me_iload_n (p' := 62) k192_61 rfl rfl ?_
    refine me_if_eq (p' := 65) k192_62 rfl (fun h => absurd h (by decide)) (fun _ => ?_)
    refine me_aload_n (p' := 66) k192_65 rfl rfl ?_
    refine me_gfr (p' := 69) k192_66 rfl (by decide) rfl (b := 132) rfl ?_
    refine me_aload_n (p' := 70) k192_69 rfl rfl ?_
    refine me_gfi (p' := 73) k192_70 rfl (by decide) rfl rfl ?_
    rw [hk.2.1]
    refine me_iload (p' := 75) k192_73 rfl rfl ?_
    refine me_iadd (p' := 76) k192_75 rfl (v := nI (t.2.1 + 0)) (mI_add _ _) ?_
    refine me_iald (p' := 77) k192_76 rfl (by decide) rfl (j := t.2.1 + 0) rfl (by omega) (by decide) rfl ?_
    rw [(hT.2.2 (t.2.1 + 0) (by omega)).1]
    have hB0 := (hT.2.2 (t.2.1 + 0) (by omega)).2
    refine me_aload_n (p' := 78) k192_77 rfl rfl ?_
    refine me_gfr (p' := 81) k192_78 rfl (by decide) rfl (b := 133) rfl ?_
    refine me_aload_n (p' := 82) k192_81 rfl rfl ?_
    refine me_gfr (p' := 85) k192_82 rfl (by decide) rfl (b := 134) rfl ?_
    refine me_iload_n (p' := 86) k192_85 rfl rfl ?_
    refine me_iald (p' := 87) k192_86 rfl (by decide) rfl (j := 2) rfl (by omega) (by decide) rfl ?_
    rw [show I 134 2 = nI 7 from hky.2 2 (by decide)]
    refine me_iload (p' := 89) k192_87 rfl rfl ?_
    refine me_iadd (p' := 90) k192_89 rfl (v := nI (7 + 0)) (mI_add _ _) ?_
    refine me_cald (p' := 91) k192_90 rfl (by decide) rfl (j := 7 + 0) rfl (by omega) (by decide) rfl ?_
    rw [show I 133 (7 + 0) = nI 102 from hky.1 7 (by decide)]
    refine me_ic_ne (p' := 94) k192_91 rfl (fun c2 => ?_) (fun c2 => ?_)
    · skip
      rw [cI_eq (a := B (t.2.1 + 0)) (b := 102) (by omega) (by omega)] at c2
      refine me_iconst (p' := 95) k192_94 rfl (v := nI 1) (by decide) ?_
      refine me_goto k192_95 ?_
      refine me_istore_n (p' := 100) k192_99 rfl ⟨Nat.le_of_ble_eq_true rfl, rfl⟩ rfl ?_
      refine me_iinc (p' := 103) k192_100 rfl rfl rfl (v := nI (1)) (by decide) rfl ?_
      refine me_goto k192_103 ?_
      refine me_iload (p' := 57) k192_55 rfl rfl ?_
      refine me_iload_n (p' := 58) k192_57 rfl rfl ?_
      refine me_ic_ge (p' := 61) k192_58 rfl (fun h => absurd h (by decide)) (fun _ => ?_)
      refine me_iload_n (p' := 62) k192_61 rfl rfl ?_
      refine me_if_eq (p' := 65) k192_62 rfl (fun h => absurd h (by decide)) (fun _ => ?_)
      refine me_aload_n (p' := 66) k192_65 rfl rfl ?_
      refine me_gfr (p' := 69) k192_66 rfl (by decide) rfl (b := 132) rfl ?_
      refine me_aload_n (p' := 70) k192_69 rfl rfl ?_
      refine me_gfi (p' := 73) k192_70 rfl (by decide) rfl rfl ?_
      rw [hk.2.1]
      refine me_iload (p' := 75) k192_73 rfl rfl ?_
      refine me_iadd (p' := 76) k192_75 rfl (v := nI (t.2.1 + 1)) (mI_add _ _) ?_
      refine me_iald (p' := 77) k192_76 rfl (by decide) rfl (j := t.2.1 + 1) rfl (by omega) (by decide) rfl ?_
      rw [(hT.2.2 (t.2.1 + 1) (by omega)).1]
      have hB1 := (hT.2.2 (t.2.1 + 1) (by omega)).2
      refine me_aload_n (p' := 78) k192_77 rfl rfl ?_
      refine me_gfr (p' := 81) k192_78 rfl (by decide) rfl (b := 133) rfl ?_
      refine me_aload_n (p' := 82) k192_81 rfl rfl ?_
      refine me_gfr (p' := 85) k192_82 rfl (by decide) rfl (b := 134) rfl ?_
      refine me_iload_n (p' := 86) k192_85 rfl rfl ?_
      refine me_iald (p' := 87) k192_86 rfl (by decide) rfl (j := 2) rfl (by omega) (by decide) rfl ?_
      rw [show I 134 2 = nI 7 from hky.2 2 (by decide)]
      refine me_iload (p' := 89) k192_87 rfl rfl ?_
      refine me_iadd (p' := 90) k192_89 rfl (v := nI (7 + 1)) (mI_add _ _) ?_
      refine me_cald (p' := 91) k192_90 rfl (by decide) rfl (j := 7 + 1) rfl (by omega) (by decide) rfl ?_
      rw [show I 133 (7 + 1) = nI 105 from hky.1 8 (by decide)]
      refine me_ic_ne (p' := 94) k192_91 rfl (fun c3 => ?_) (fun c3 => ?_)
      · skip
        rw [cI_eq (a := B (t.2.1 + 1)) (b := 105) (by omega) (by omega)] at c3
        refine me_iconst (p' := 95) k192_94 rfl (v := nI 1) (by decide) ?_
        refine me_goto k192_95 ?_
        refine me_istore_n (p' := 100) k192_99 rfl ⟨Nat.le_of_ble_eq_true rfl, rfl⟩ rfl ?_
        refine me_iinc (p' := 103) k192_100 rfl rfl rfl (v := nI (2)) (by decide) rfl ?_
        refine me_goto k192_103 ?_
        refine me_iload (p' := 57) k192_55 rfl rfl ?_
        refine me_iload_n (p' := 58) k192_57 rfl rfl ?_
        refine me_ic_ge (p' := 61) k192_58 rfl (fun h => absurd h (by decide)) (fun _ => ?_)
        refine me_iload_n (p' := 62) k192_61 rfl rfl ?_
        refine me_if_eq (p' := 65) k192_62 rfl (fun h => absurd h (by decide)) (fun _ => ?_)
        refine me_aload_n (p' := 66) k192_65 rfl rfl ?_
        refine me_gfr (p' := 69) k192_66 rfl (by decide) rfl (b := 132) rfl ?_
        refine me_aload_n (p' := 70) k192_69 rfl rfl ?_
        refine me_gfi (p' := 73) k192_70 rfl (by decide) rfl rfl ?_
        rw [hk.2.1]
        refine me_iload (p' := 75) k192_73 rfl rfl ?_
        refine me_iadd (p' := 76) k192_75 rfl (v := nI (t.2.1 + 2)) (mI_add _ _) ?_
        refine me_iald (p' := 77) k192_76 rfl (by decide) rfl (j := t.2.1 + 2) rfl (by omega) (by decide) rfl ?_
        rw [(hT.2.2 (t.2.1 + 2) (by omega)).1]
        have hB2 := (hT.2.2 (t.2.1 + 2) (by omega)).2
        refine me_aload_n (p' := 78) k192_77 rfl rfl ?_
        refine me_gfr (p' := 81) k192_78 rfl (by decide) rfl (b := 133) rfl ?_
        refine me_aload_n (p' := 82) k192_81 rfl rfl ?_
        refine me_gfr (p' := 85) k192_82 rfl (by decide) rfl (b := 134) rfl ?_
        refine me_iload_n (p' := 86) k192_85 rfl rfl ?_
        refine me_iald (p' := 87) k192_86 rfl (by decide) rfl (j := 2) rfl (by omega) (by decide) rfl ?_
        rw [show I 134 2 = nI 7 from hky.2 2 (by decide)]
        refine me_iload (p' := 89) k192_87 rfl rfl ?_
        refine me_iadd (p' := 90) k192_89 rfl (v := nI (7 + 2)) (mI_add _ _) ?_
        refine me_cald (p' := 91) k192_90 rfl (by decide) rfl (j := 7 + 2) rfl (by omega) (by decide) rfl ?_
        rw [show I 133 (7 + 2) = nI 110 from hky.1 9 (by decide)]
        refine me_ic_ne (p' := 94) k192_91 rfl (fun c4 => ?_) (fun c4 => ?_)
        · skip
          rw [cI_eq (a := B (t.2.1 + 2)) (b := 110) (by omega) (by omega)] at c4
          refine me_iconst (p' := 95) k192_94 rfl (v := nI 1) (by decide) ?_
          refine me_goto k192_95 ?_
          refine me_istore_n (p' := 100) k192_99 rfl ⟨Nat.le_of_ble_eq_true rfl, rfl⟩ rfl ?_
          refine me_iinc (p' := 103) k192_100 rfl rfl rfl (v := nI (3)) (by decide) rfl ?_
          refine me_goto k192_103 ?_
          refine me_iload (p' := 57) k192_55 rfl rfl ?_
          refine me_iload_n (p' := 58) k192_57 rfl rfl ?_
          refine me_ic_ge (p' := 61) k192_58 rfl (fun h => absurd h (by decide)) (fun _ => ?_)
          refine me_iload_n (p' := 62) k192_61 rfl rfl ?_
          refine me_if_eq (p' := 65) k192_62 rfl (fun h => absurd h (by decide)) (fun _ => ?_)
          refine me_aload_n (p' := 66) k192_65 rfl rfl ?_
          refine me_gfr (p' := 69) k192_66 rfl (by decide) rfl (b := 132) rfl ?_
          refine me_aload_n (p' := 70) k192_69 rfl rfl ?_
          refine me_gfi (p' := 73) k192_70 rfl (by decide) rfl rfl ?_
          rw [hk.2.1]
          refine me_iload (p' := 75) k192_73 rfl rfl ?_
          refine me_iadd (p' := 76) k192_75 rfl (v := nI (t.2.1 + 3)) (mI_add _ _) ?_
          refine me_iald (p' := 77) k192_76 rfl (by decide) rfl (j := t.2.1 + 3) rfl (by omega) (by decide) rfl ?_
          rw [(hT.2.2 (t.2.1 + 3) (by omega)).1]
          have hB3 := (hT.2.2 (t.2.1 + 3) (by omega)).2
          refine me_aload_n (p' := 78) k192_77 rfl rfl ?_
          refine me_gfr (p' := 81) k192_78 rfl (by decide) rfl (b := 133) rfl ?_
          refine me_aload_n (p' := 82) k192_81 rfl rfl ?_
          refine me_gfr (p' := 85) k192_82 rfl (by decide) rfl (b := 134) rfl ?_
          refine me_iload_n (p' := 86) k192_85 rfl rfl ?_
          refine me_iald (p' := 87) k192_86 rfl (by decide) rfl (j := 2) rfl (by omega) (by decide) rfl ?_
          rw [show I 134 2 = nI 7 from hky.2 2 (by decide)]
          refine me_iload (p' := 89) k192_87 rfl rfl ?_
          refine me_iadd (p' := 90) k192_89 rfl (v := nI (7 + 3)) (mI_add _ _) ?_
          refine me_cald (p' := 91) k192_90 rfl (by decide) rfl (j := 7 + 3) rfl (by omega) (by decide) rfl ?_
          rw [show I 133 (7 + 3) = nI 101 from hky.1 10 (by decide)]
          refine me_ic_ne (p' := 94) k192_91 rfl (fun c5 => ?_) (fun c5 => ?_)
          · skip
            rw [cI_eq (a := B (t.2.1 + 3)) (b := 101) (by omega) (by omega)] at c5
            refine me_iconst (p' := 95) k192_94 rfl (v := nI 1) (by decide) ?_
            refine me_goto k192_95 ?_
            refine me_istore_n (p' := 100) k192_99 rfl ⟨Nat.le_of_ble_eq_true rfl, rfl⟩ rfl ?_
            refine me_iinc (p' := 103) k192_100 rfl rfl rfl (v := nI (4)) (by decide) rfl ?_
            refine me_goto k192_103 ?_
            refine me_iload (p' := 57) k192_55 rfl rfl ?_
            refine me_iload_n (p' := 58) k192_57 rfl rfl ?_
            refine me_ic_ge (p' := 61) k192_58 rfl (fun _ => ?_) (fun h => absurd (by decide) h)
            refine me_iload_n (p' := 107) k192_106 rfl rfl ?_
            refine me_if_eq (p' := 110) k192_107 rfl (fun h => absurd h (by decide)) (fun _ => ?_)
            refine hY ⟨ht1, by have := c1; simp [mj_txt]; omega, fun i hi => ?_⟩ _ _ _
            have hi9 : i < 4 := hi
            rcases (show i = 0 ∨ i = 1 ∨ i = 2 ∨ i = 3 by omega) with rfl | rfl | rfl | rfl
            · exact c2
            · exact c3
            · exact c4
            · exact c5
          · skip
            rw [cI_eq (a := B (t.2.1 + 3)) (b := 101) (by omega) (by omega)] at c5
            refine me_iconst (p' := 99) k192_98 rfl (v := nI 0) (by decide) ?_
            refine me_istore_n (p' := 100) k192_99 rfl ⟨Nat.le_of_ble_eq_true rfl, rfl⟩ rfl ?_
            refine me_iinc (p' := 103) k192_100 rfl rfl rfl (v := nI (4)) (by decide) rfl ?_
            refine me_goto k192_103 ?_
            refine me_iload (p' := 57) k192_55 rfl rfl ?_
            refine me_iload_n (p' := 58) k192_57 rfl rfl ?_
            refine me_ic_ge (p' := 61) k192_58 rfl (fun _ => ?_) (fun h => absurd (by decide) h)
            refine me_iload_n (p' := 107) k192_106 rfl rfl ?_
            refine me_if_eq (p' := 110) k192_107 rfl (fun _ => ?_) (fun h => absurd (by decide) h)
            refine me_iinc (p' := 124) k192_121 rfl rfl rfl (v := nI (3)) (by decide) rfl ?_
            refine me_goto k192_124 ?_
            exact hN (fun z => c5 (z.2.2 3 (by decide))) _ _ _
        · skip
          rw [cI_eq (a := B (t.2.1 + 2)) (b := 110) (by omega) (by omega)] at c4
          refine me_iconst (p' := 99) k192_98 rfl (v := nI 0) (by decide) ?_
          refine me_istore_n (p' := 100) k192_99 rfl ⟨Nat.le_of_ble_eq_true rfl, rfl⟩ rfl ?_
          refine me_iinc (p' := 103) k192_100 rfl rfl rfl (v := nI (3)) (by decide) rfl ?_
          refine me_goto k192_103 ?_
          refine me_iload (p' := 57) k192_55 rfl rfl ?_
          refine me_iload_n (p' := 58) k192_57 rfl rfl ?_
          refine me_ic_ge (p' := 61) k192_58 rfl (fun h => absurd h (by decide)) (fun _ => ?_)
          refine me_iload_n (p' := 62) k192_61 rfl rfl ?_
          refine me_if_eq (p' := 65) k192_62 rfl (fun _ => ?_) (fun h => absurd (by decide) h)
          refine me_iload_n (p' := 107) k192_106 rfl rfl ?_
          refine me_if_eq (p' := 110) k192_107 rfl (fun _ => ?_) (fun h => absurd (by decide) h)
          refine me_iinc (p' := 124) k192_121 rfl rfl rfl (v := nI (3)) (by decide) rfl ?_
          refine me_goto k192_124 ?_
          exact hN (fun z => c4 (z.2.2 2 (by decide))) _ _ _
      · skip
        rw [cI_eq (a := B (t.2.1 + 1)) (b := 105) (by omega) (by omega)] at c3
        refine me_iconst (p' := 99) k192_98 rfl (v := nI 0) (by decide) ?_
        refine me_istore_n (p' := 100) k192_99 rfl ⟨Nat.le_of_ble_eq_true rfl, rfl⟩ rfl ?_
        refine me_iinc (p' := 103) k192_100 rfl rfl rfl (v := nI (2)) (by decide) rfl ?_
        refine me_goto k192_103 ?_
        refine me_iload (p' := 57) k192_55 rfl rfl ?_
        refine me_iload_n (p' := 58) k192_57 rfl rfl ?_
        refine me_ic_ge (p' := 61) k192_58 rfl (fun h => absurd h (by decide)) (fun _ => ?_)
        refine me_iload_n (p' := 62) k192_61 rfl rfl ?_
        refine me_if_eq (p' := 65) k192_62 rfl (fun _ => ?_) (fun h => absurd (by decide) h)
        refine me_iload_n (p' := 107) k192_106 rfl rfl ?_
        refine me_if_eq (p' := 110) k192_107 rfl (fun _ => ?_) (fun h => absurd (by decide) h)
        refine me_iinc (p' := 124) k192_121 rfl rfl rfl (v := nI (3)) (by decide) rfl ?_
        refine me_goto k192_124 ?_
        exact hN (fun z => c3 (z.2.2 1 (by decide))) _ _ _
    · skip
      rw [cI_eq (a := B (t.2.1 + 0)) (b := 102) (by omega) (by omega)] at c2
      refine me_iconst (p' := 99) k192_98 rfl (v := nI 0) (by decide) ?_
      refine me_istore_n (p' := 100) k192_99 rfl ⟨Nat.le_of_ble_eq_true rfl, rfl⟩ rfl ?_
      refine me_iinc (p' := 103) k192_100 rfl rfl rfl (v := nI (1)) (by decide) rfl ?_
      refine me_goto k192_103 ?_
      refine me_iload (p' := 57) k192_55 rfl rfl ?_
      refine me_iload_n (p' := 58) k192_57 rfl rfl ?_
      refine me_ic_ge (p' := 61) k192_58 rfl (fun h => absurd h (by decide)) (fun _ => ?_)
      refine me_iload_n (p' := 62) k192_61 rfl rfl ?_
      refine me_if_eq (p' := 65) k192_62 rfl (fun _ => ?_) (fun h => absurd (by decide) h)
      refine me_iload_n (p' := 107) k192_106 rfl rfl ?_
      refine me_if_eq (p' := 110) k192_107 rfl (fun _ => ?_) (fun h => absurd (by decide) h)
      refine me_iinc (p' := 124) k192_121 rfl rfl rfl (v := nI (3)) (by decide) rfl ?_
      refine me_goto k192_124 ?_
      exact hN (fun z => c2 (z.2.2 0 (by decide))) _ _ _
  · skip
    rw [cI_eq (a := 4) (b := t.2.2 - t.2.1) (by omega) (by omega)] at c1
    refine me_iconst (p' := 51) k192_50 rfl (v := nI 0) (by decide) ?_
    refine me_istore_n (p' := 52) k192_51 rfl ⟨Nat.le_of_ble_eq_true rfl, rfl⟩ rfl ?_
    refine me_iconst (p' := 53) k192_52 rfl (v := nI 0) (by decide) ?_
    refine me_istore (p' := 55) k192_53 rfl ⟨Nat.le_of_ble_eq_true rfl, rfl⟩ rfl ?_
    refine me_iload (p' := 57) k192_55 rfl rfl ?_
    refine me_iload_n (p' := 58) k192_57 rfl rfl ?_
    refine me_ic_ge (p' := 61) k192_58 rfl (fun h => absurd h (by decide)) (fun _ => ?_)
    refine me_iload_n (p' := 62) k192_61 rfl rfl ?_
    refine me_if_eq (p' := 65) k192_62 rfl (fun _ => ?_) (fun h => absurd (by decide) h)
    refine me_iload_n (p' := 107) k192_106 rfl rfl ?_
    refine me_if_eq (p' := 110) k192_107 rfl (fun _ => ?_) (fun h => absurd (by decide) h)
    refine me_iinc (p' := 124) k192_121 rfl rfl rfl (v := nI (3)) (by decide) rfl ?_
    refine me_goto k192_124 ?_
    exact hN (fun z => c1 (by have := z.2.1; simp [mj_txt] at this; omega)) _ _ _
def tIsK2 (B : Nat → Nat) (t : Nat × Nat × Nat) (key : Nat) : Prop := key < 3 ∧ tIs B t (mj_txt.getD key []) ∧ ∀ k : Nat, k < key → ¬ tIs B t (mj_txt.getD k [])
theorem ct_takesKey {d L : Nat} {xs : Nat → Int32} {I : Nat → Nat → Int32} {Q : Option Value → mj_H → Prop} {B : Nat → Nat} {tl : Nat} {t : Nat × Nat × Nat} (hT : mTp I B tl) (hk : mTk I B t) (hw : tWf B tl t) (hky : mKy I) (hN : (∀ k : Nat, k < 3 → ¬ tIs B t (mj_txt.getD k [])) → Q (some (.int (nI 0))) (mg_h L xs I)) (hY : ∀ key, tIsK2 B t key → ∀ K, mGf (mg_u I 127 13 (nI key)) K → mTk K B (tgo B tl t) → Q (some (.int (nI 1))) (mg_h L xs K)) : mj_Cl (d + 2) 192 [.ref 127] (mg_h L xs I) Q := by
  have htl := hT.2.1
  have hw1 := hw.1
  have hw2 := hw.2.1
  have hw3 := hw.2.2.2.1
  have hw4 := hw.2.2.2.2.1
  have hw9 := hw.2.2.2.2.2.2.2.2
  refine cl_start mx_192 (ls := [.ref 127, mj_no, mj_no, mj_no, mj_no]) rfl ?_
  refine me_aload_n (p' := 1) k192_0 rfl rfl ?_
  refine me_gfi (p' := 4) k192_1 rfl (by decide) rfl rfl ?_
  rw [hk.2.2.1]
  refine me_iconst (p' := 5) k192_4 rfl (v := nI 1) (by decide) ?_
  refine me_ic_eq (p' := 8) k192_5 rfl (fun c1 => ?_) (fun c1 => ?_)
  · skip
    rw [cI_eq (a := t.1) (b := 1) (by omega) (by omega)] at c1
    refine me_iconst (p' := 11) k192_10 rfl (v := nI 0) (by decide) ?_
    refine me_istore_n (p' := 12) k192_11 rfl ⟨Nat.le_of_ble_eq_true rfl, rfl⟩ rfl ?_
    have ht1 : t.1 = 1 := by omega
    refine lp_key0 hT hk hw hky ht1 (fun e0 u2 u3 u4 => ?_) (fun z u2 u3 u4 => ?_) _ _ _
    rotate_left
    · skip
      have hkk : tIsK2 B t 0 := ⟨by decide, z, fun k hk => by omega⟩
      refine me_aload_n (p' := 111) k192_110 rfl rfl ?_
      refine me_iload_n (p' := 112) k192_111 rfl rfl ?_
      refine me_pfi (p' := 115) k192_112 rfl (by decide) rfl rfl rfl rfl ?_
      refine me_aload_n (p' := 116) k192_115 rfl rfl ?_
      refine me_cv (p' := 119) k192_116 rfl rfl (by decide) rfl (by decide) (by decide) dp_189 rfl rfl (cl_le mx_189 rfl) (by decide) (cl_sum rfl) (ct_go (B := B) (tl := tl) (a := t.2.2) (w := t.1 = 1 ∨ t.1 = 2) ⟨(mg_une (by decide)).trans hT.1, hT.2.1, fun k hk => ⟨(mg_un1 (by decide)).trans (hT.2.2 k hk).1, (hT.2.2 k hk).2⟩⟩ hw.2.1 ((mg_une (by decide)).trans hk.1) ((hk.2.2.2.2.2 (Or.inl ht1)).fr (mg_une (by decide))) (fun K hK1 hK2 => ?_))
      refine me_iconst (p' := 120) k192_119 rfl (v := nI 1) (by decide) ?_
      refine me_reti k192_120 rt_192 (by decide) ?_
      exact hY 0 hkk K hK1 hK2
    refine lp_key1 hT hk hw hky ht1 (fun e1 u2 u3 u4 => ?_) (fun z u2 u3 u4 => ?_) _ _ _
    rotate_left
    · skip
      have hkk : tIsK2 B t 1 := ⟨by decide, z, fun k hk => (show k = 0 by omega) ▸ e0⟩
      refine me_aload_n (p' := 111) k192_110 rfl rfl ?_
      refine me_iload_n (p' := 112) k192_111 rfl rfl ?_
      refine me_pfi (p' := 115) k192_112 rfl (by decide) rfl rfl rfl rfl ?_
      refine me_aload_n (p' := 116) k192_115 rfl rfl ?_
      refine me_cv (p' := 119) k192_116 rfl rfl (by decide) rfl (by decide) (by decide) dp_189 rfl rfl (cl_le mx_189 rfl) (by decide) (cl_sum rfl) (ct_go (B := B) (tl := tl) (a := t.2.2) (w := t.1 = 1 ∨ t.1 = 2) ⟨(mg_une (by decide)).trans hT.1, hT.2.1, fun k hk => ⟨(mg_un1 (by decide)).trans (hT.2.2 k hk).1, (hT.2.2 k hk).2⟩⟩ hw.2.1 ((mg_une (by decide)).trans hk.1) ((hk.2.2.2.2.2 (Or.inl ht1)).fr (mg_une (by decide))) (fun K hK1 hK2 => ?_))
      refine me_iconst (p' := 120) k192_119 rfl (v := nI 1) (by decide) ?_
      refine me_reti k192_120 rt_192 (by decide) ?_
      exact hY 1 hkk K hK1 hK2
    refine lp_key2 hT hk hw hky ht1 (fun e2 u2 u3 u4 => ?_) (fun z u2 u3 u4 => ?_) _ _ _
    rotate_left
    · skip
      have hkk : tIsK2 B t 2 := ⟨by decide, z, fun k hk => (show k = 0 ∨ k = 1 by omega).elim (fun y => y ▸ e0) (fun y => y ▸ e1)⟩
      refine me_aload_n (p' := 111) k192_110 rfl rfl ?_
      refine me_iload_n (p' := 112) k192_111 rfl rfl ?_
      refine me_pfi (p' := 115) k192_112 rfl (by decide) rfl rfl rfl rfl ?_
      refine me_aload_n (p' := 116) k192_115 rfl rfl ?_
      refine me_cv (p' := 119) k192_116 rfl rfl (by decide) rfl (by decide) (by decide) dp_189 rfl rfl (cl_le mx_189 rfl) (by decide) (cl_sum rfl) (ct_go (B := B) (tl := tl) (a := t.2.2) (w := t.1 = 1 ∨ t.1 = 2) ⟨(mg_une (by decide)).trans hT.1, hT.2.1, fun k hk => ⟨(mg_un1 (by decide)).trans (hT.2.2 k hk).1, (hT.2.2 k hk).2⟩⟩ hw.2.1 ((mg_une (by decide)).trans hk.1) ((hk.2.2.2.2.2 (Or.inl ht1)).fr (mg_une (by decide))) (fun K hK1 hK2 => ?_))
      refine me_iconst (p' := 120) k192_119 rfl (v := nI 1) (by decide) ?_
      refine me_reti k192_120 rt_192 (by decide) ?_
      exact hY 2 hkk K hK1 hK2
    refine me_iload_n (p' := 13) k192_12 rfl rfl ?_
    refine me_iconst (p' := 14) k192_13 rfl (v := nI 3) (by decide) ?_
    refine me_ic_ge (p' := 17) k192_14 rfl (fun _ => ?_) (fun h => absurd (by decide) h)
    refine me_iconst (p' := 128) k192_127 rfl (v := nI 0) (by decide) ?_
    refine me_reti k192_128 rt_192 (by decide) ?_
    refine hN (fun k hk => ?_)
    rcases (show k = 0 ∨ k = 1 ∨ k = 2 by omega) with rfl | rfl | rfl
    · exact e0
    · exact e1
    · exact e2
  · skip
    rw [cI_eq (a := t.1) (b := 1) (by omega) (by omega)] at c1
    refine me_iconst (p' := 9) k192_8 rfl (v := nI 0) (by decide) ?_
    refine me_reti k192_9 rt_192 (by decide) ?_
    exact hN (fun k hk z => c1 z.1)
