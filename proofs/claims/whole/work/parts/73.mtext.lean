/-! ===== the model: text ===== -/
theorem ct_takesE {d L : Nat} {xs : Nat → Int32} {I : Nat → Nat → Int32} {Q : Option Value → mj_H → Prop} {B : Nat → Nat} {tl key : Nat} {t : Nat × Nat × Nat} {r : Nat × Option (List Nat)} (hT : mTp I B tl) (hk : mTk I B t) (hw : tWf B tl t) (hl : 0 < t.2.1) (hkey : I 127 13 = nI key) (hk3 : key < 3) (hend : mEnd B tl key (t, [], [], [false], 0, true) r) (hF : ∀ K p, mZf I K → r = (p, none) → K 127 9 = nI p → Q (some (.int (nI 0))) (mg_h L xs K)) (hOK : ∀ K p o, r = (p, some o) → mZf I K → (∃ S, mPs K S o) → K 127 18 = nI (tNa o) → Q (some (.int (nI 1))) (mg_h L xs K)) : mj_Cl (d + 3) 193 [.ref 127] (mg_h L xs I) Q := by
  refine cl_start mx_193 (ls := [.ref 127, mj_no, mj_no, mj_no, mj_no]) rfl ?_
  refine me_iconst (p' := 1) k193_0 rfl (v := nI 0) (by decide) ?_
  refine me_istore_n (p' := 2) k193_1 rfl ⟨Nat.le_of_ble_eq_true rfl, rfl⟩ rfl ?_
  refine me_iconst (p' := 3) k193_2 rfl (v := nI 0) (by decide) ?_
  refine me_istore_n (p' := 4) k193_3 rfl ⟨Nat.le_of_ble_eq_true rfl, rfl⟩ rfl ?_
  refine me_iconst (p' := 5) k193_4 rfl (v := nI 1) (by decide) ?_
  refine me_istore_n (p' := 6) k193_5 rfl ⟨Nat.le_of_ble_eq_true rfl, rfl⟩ rfl ?_
  refine me_aload_n (p' := 7) k193_6 rfl rfl ?_
  refine me_iconst (p' := 8) k193_7 rfl (v := nI 0) (by decide) ?_
  refine me_pfi (p' := 11) k193_8 rfl (by decide) rfl rfl rfl rfl ?_
  refine me_aload_n (p' := 12) k193_11 rfl rfl ?_
  refine me_iconst (p' := 13) k193_12 rfl (v := nI 0) (by decide) ?_
  refine me_pfi (p' := 16) k193_13 rfl (by decide) rfl rfl rfl rfl ?_
  refine me_aload_n (p' := 17) k193_16 rfl rfl ?_
  refine me_iconst (p' := 18) k193_17 rfl (v := nI 0) (by decide) ?_
  refine me_pfi (p' := 21) k193_18 rfl (by decide) rfl rfl rfl rfl ?_
  refine me_aload_n (p' := 22) k193_21 rfl rfl ?_
  refine me_gfr (p' := 25) k193_22 rfl (by decide) rfl (b := 137) rfl ?_
  refine me_iconst (p' := 26) k193_25 rfl (v := nI 0) (by decide) ?_
  refine me_iconst (p' := 27) k193_26 rfl (v := nI 0) (by decide) ?_
  refine me_zast (p' := 28) k193_27 rfl (by decide) rfl (j := 0) rfl (by omega) (by decide) rfl rfl ?_
  obtain ⟨f, hf⟩ := hend
  refine lp_takesE (I := I) hT hkey hk3 hF hOK f t [] [] false [] 0 true (mg_u (mg_u (mg_u (mg_u I 127 17 (nI 0)) 127 18 (nI 0)) 127 20 (nI 0)) 137 0 (nI 0 &&& 1)) 0 hf ((((mZf.u (by simp)).tr (mZf.u (by simp))).tr (mZf.u (by simp))).tr (mZf.u (by simp))) ⟨?_, ?_, ?_, ?_, ?_, fun z => (hk.2.2.2.2.2 z).fr ?_⟩ ⟨?_, fun j hj => absurd hj (by simp), ?_, fun j hj => absurd hj (by simp)⟩ ?_ ?_ hw (fun x hx => absurd hx (by simp)) hl (by decide) rfl rfl (by decide) _
  · rw [mg_un1 (by decide), mg_une (by decide), mg_une (by decide), mg_une (by decide)]; exact hk.1
  · rw [mg_un1 (by decide), mg_une (by decide), mg_une (by decide), mg_une (by decide)]; exact hk.2.1
  · rw [mg_un1 (by decide), mg_une (by decide), mg_une (by decide), mg_une (by decide)]; exact hk.2.2.1
  · rw [mg_un1 (by decide), mg_une (by decide), mg_une (by decide), mg_une (by decide)]; exact hk.2.2.2.1
  · rw [mg_un1 (by decide), mg_une (by decide), mg_une (by decide), mg_une (by decide)]; exact hk.2.2.2.2.1
  · rw [mg_un1 (by decide), mg_une (by decide), mg_une (by decide), mg_une (by decide)]
  · rw [mg_un1 (by decide), mg_ueq]; rfl
  · rw [mg_un1 (by decide), mg_une (by decide), mg_une (by decide), mg_ueq]; rfl
  · rw [mg_un1 (by decide), mg_une (by decide), mg_ueq]; rfl
  · intro j hj
    obtain rfl : j = 0 := by simp at hj; exact hj
    rw [mg_ueq]
    rfl
/-- text was called -/
def mXf (S : List Nat) (I J : Nat → Nat → Int32) : Prop := mFr S I J ∧ ∀ k : Nat, k ≠ 7 → k ≠ 8 → k ≠ 9 → k ≠ 10 → k ≠ 11 → k ≠ 12 → k ≠ 13 → k ≠ 17 → k ≠ 18 → k ≠ 20 → J 127 k = I 127 k
theorem mXf.g {I J : Nat → Nat → Int32} (h : mGf I J) : mXf [127, 135, 136, 137] I J := ⟨h.1.sub (by decide), fun k _ a b c d e _ _ _ _ => h.2 k a b c d e⟩
theorem mXf.z {I J : Nat → Nat → Int32} (h : mZf I J) : mXf [127, 135, 136, 137] I J := ⟨h.1, fun k _ a b c d e _ f g i => h.2 k a b c d e f g i⟩
theorem mXf.tr {S : List Nat} {I J K : Nat → Nat → Int32} (h : mXf S I J) (h2 : mXf S J K) : mXf S I K := ⟨h.1.tr h2.1, fun k a b c d e f g i j l => (h2.2 k a b c d e f g i j l).trans (h.2 k a b c d e f g i j l)⟩
theorem mXf.u {S : List Nat} {I : Nat → Nat → Int32} {k : Nat} {v : Int32} (h7 : 127 ∈ S) (hk : k = 7 ∨ k = 8 ∨ k = 12 ∨ k = 13) : mXf S I (mg_u I 127 k v) := ⟨mFr.up h7, fun q _ _ _ _ _ _ _ _ _ _ => mg_une (by omega)⟩
theorem mTp.xf {I J : Nat → Nat → Int32} {B : Nat → Nat} {tl : Nat} (h : mTp I B tl) (hf : mXf [127, 135, 136, 137] I J) (h7 : J 127 7 = I 127 7) : mTp J B tl := ⟨h7.trans h.1, h.2.1, fun k hk => ⟨(hf.1 132 k (by decide)).trans (h.2.2 k hk).1, (h.2.2 k hk).2⟩⟩
theorem tIs_key {B : Nat → Nat} {tl k k' : Nat} (h : tIsK2 B (tK0 B tl) k) (h' : tIsK B tl k') : k = k' := by
  rcases Nat.lt_trichotomy k k' with z | z | z
  · exact absurd h.2.1 (h'.2.2 k z)
  · exact z
  · exact absurd h'.2.1 (h.2.2 k' z)
theorem lp_Mtext {d L : Nat} {xs : Nat → Int32} {J : Nat → Nat → Int32} {Q : Option Value → mj_H → Prop} {nt : Nat} {o : List Nat} (hnt14 : nt < 14) (ho : o.length ≤ 96) (h17 : J 127 17 = nI o.length) (hcode : ∀ j, j < o.length → J 135 j = sp_mc (o.getD j 0)) (hnt : J 128 4 = nI nt) (hQ : Q (some (.int (nI nt))) (mg_h L xs (mg_u (mw J 128 (fun q => if 137 + 96 * nt ≤ q ∧ q < 137 + 96 * nt + o.length then sp_mc (o.getD (q - (137 + 96 * nt)) 0) else J 128 q)) 128 4 (nI (nt + 1))))) : ∀ k : Nat, k ≤ o.length → ∀ u1 : Value, mj_Ev (d + 4) 188 115 [.ref 127, u1, .int (nI nt), .int (nI k)] [] (mg_h L xs (mw J 128 (fun q => if 137 + 96 * nt ≤ q ∧ q < 137 + 96 * nt + k then sp_mc (o.getD (q - (137 + 96 * nt)) 0) else J 128 q))) Q := by
  refine loop_ind (n := o.length) (fun k hk ih => ?_)
  intro u1
  refine me_iload_n (p' := 116) k188_115 rfl rfl ?_
  refine me_aload_n (p' := 117) k188_116 rfl rfl ?_
  refine me_gfi (p' := 120) k188_117 rfl (by decide) rfl rfl ?_
  rw [mw_ne (by decide), h17]
  refine me_ic_ge (p' := 123) k188_120 rfl (fun c1 => ?_) (fun c1 => ?_)
  · skip
    rw [cI_le (a := o.length) (b := k) (by omega) (by omega)] at c1
    refine me_aload_n (p' := 151) k188_150 rfl rfl ?_
    refine me_gfr (p' := 154) k188_151 rfl (by decide) rfl (b := 128) rfl ?_
    refine me_iconst (p' := 155) k188_154 rfl (v := nI 4) (by decide) ?_
    refine me_dup2 (p' := 156) k188_155 rfl rfl ?_
    refine me_iald (p' := 157) k188_156 rfl (by decide) rfl (j := 4) rfl (by omega) (by decide) rfl ?_
    rw [mw_eq, if_neg (by omega), hnt]
    refine me_iconst (p' := 158) k188_157 rfl (v := nI 1) (by decide) ?_
    refine me_iadd (p' := 159) k188_158 rfl (v := nI (nt + 1)) (mI_add _ _) ?_
    refine me_iast (p' := 160) k188_159 rfl (by decide) rfl (j := 4) rfl (by omega) (by decide) rfl ?_
    refine me_iload_n (p' := 161) k188_160 rfl rfl ?_
    refine me_reti k188_161 rt_188 rfl ?_
    obtain rfl : k = o.length := by omega
    exact hQ
  · skip
    rw [cI_le (a := o.length) (b := k) (by omega) (by omega)] at c1
    refine me_aload_n (p' := 124) k188_123 rfl rfl ?_
    refine me_gfr (p' := 127) k188_124 rfl (by decide) rfl (b := 128) rfl ?_
    refine me_sipush (p' := 130) k188_127 rfl (v := nI 137) (by decide) ?_
    refine me_bipush (p' := 132) k188_130 rfl (v := nI 96) (by decide) ?_
    refine me_iload_n (p' := 133) k188_132 rfl rfl ?_
    refine me_imul (p' := 134) k188_133 rfl (v := nI (96 * nt)) (mI_mul _ _) ?_
    refine me_iadd (p' := 135) k188_134 rfl (v := nI (137 + (96 * nt))) (mI_add _ _) ?_
    refine me_iload_n (p' := 136) k188_135 rfl rfl ?_
    refine me_iadd (p' := 137) k188_136 rfl (v := nI ((137 + (96 * nt)) + k)) (mI_add _ _) ?_
    refine me_aload_n (p' := 138) k188_137 rfl rfl ?_
    refine me_gfr (p' := 141) k188_138 rfl (by decide) rfl (b := 135) rfl ?_
    refine me_iload_n (p' := 142) k188_141 rfl rfl ?_
    refine me_iald (p' := 143) k188_142 rfl (by decide) rfl (j := k) rfl (by omega) (by decide) rfl ?_
    rw [mw_ne (by decide), hcode k (by omega)]
    refine me_iast (p' := 144) k188_143 rfl (by decide) rfl (j := (137 + (96 * nt)) + k) rfl (by omega) (by decide) rfl ?_
    refine me_iinc (p' := 147) k188_144 rfl rfl rfl (v := nI (k + 1)) (mI_inc (by decide)) rfl ?_
    refine me_goto k188_147 ?_
    rw [mw_u, show up (fun q => if 137 + 96 * nt ≤ q ∧ q < 137 + 96 * nt + k then sp_mc (o.getD (q - (137 + 96 * nt)) 0) else J 128 q) (137 + 96 * nt + k) (sp_mc (o.getD k 0)) = (fun q => if 137 + 96 * nt ≤ q ∧ q < 137 + 96 * nt + (k + 1) then sp_mc (o.getD (q - (137 + 96 * nt)) 0) else J 128 q) from by
      funext q
      unfold up
      dsimp only
      by_cases e : q = 137 + 96 * nt + k
      · subst e; rw [if_pos rfl, if_pos (by omega), show 137 + 96 * nt + k - (137 + 96 * nt) = k by omega]
      · rw [if_neg e]
        by_cases e2 : 137 + 96 * nt ≤ q ∧ q < 137 + 96 * nt + k
        · rw [if_pos e2, if_pos (by omega)]
        · rw [if_neg e2, if_neg (by omega)]]
    exact ih (by omega) _
theorem ct_Mtext {d L : Nat} {xs : Nat → Int32} {I : Nat → Nat → Int32} {Q : Option Value → mj_H → Prop} {B : Nat → Nat} {tl nt : Nat} {r0 : Nat × Option (Nat × List Nat)} (hT : mTp I B tl) (hky : mKy I) (hnt : I 128 4 = nI nt) (hnt14 : nt ≤ 14) (hout : tOut B tl r0) (h96 : ∀ p key o, r0 = (p, some (key, o)) → o.length ≤ 96) (hF : ∀ p, r0 = (p, none) → ∀ K, mXf [127, 135, 136, 137] I K → K 127 7 = nI 0 → Q (some (.int ((-100) - nI p))) (mg_h L xs K)) (hFull : nt = 14 → ∀ p key o, r0 = (p, some (key, o)) → ∀ K, mXf [127, 135, 136, 137] I K → K 127 7 = nI 0 → Q (some (.int (-1000000003))) (mg_h L xs K)) (hOK : nt < 14 → ∀ p key o, r0 = (p, some (key, o)) → ∀ K, mXf [127, 128, 135, 136, 137] I K → K 127 7 = nI 0 → (∀ k, K 128 k = if k = 4 then nI (nt + 1) else if 137 + 96 * nt ≤ k ∧ k < 137 + 96 * nt + o.length then sp_mc (o.getD (k - (137 + 96 * nt)) 0) else if k = 109 + 2 * nt then nI (1000 * key + o.length) else if k = 109 + 2 * nt + 1 then nI (tNa o) else I 128 k) → Q (some (.int (nI nt))) (mg_h L xs K)) : mj_Cl (d + 4) 188 [.ref 127] (mg_h L xs I) Q := by
  have htl := hT.2.1
  refine cl_start mx_188 (ls := [.ref 127, mj_no, mj_no, mj_no]) rfl ?_
  refine me_aload_n (p' := 1) k188_0 rfl rfl ?_
  refine me_iconst (p' := 2) k188_1 rfl (v := nI 0) (by decide) ?_
  refine me_pfi (p' := 5) k188_2 rfl (by decide) rfl rfl rfl rfl ?_
  refine me_aload_n (p' := 6) k188_5 rfl rfl ?_
  refine me_iconst (p' := 7) k188_6 rfl (v := (-1)) (by decide) ?_
  refine me_pfi (p' := 10) k188_7 rfl (by decide) rfl rfl rfl rfl ?_
  refine me_aload_n (p' := 11) k188_10 rfl rfl ?_
  refine me_cv (p' := 14) k188_11 rfl rfl (by decide) rfl (by decide) (by decide) dp_189 rfl rfl (cl_le mx_189 rfl) (by decide) (cl_sum rfl) (ct_go (B := B) (tl := tl) (a := 0) (w := False) ⟨(mg_une (by decide)).trans ((mg_une (by decide)).trans hT.1), hT.2.1, fun k hk => ⟨(mg_un1 (by decide)).trans ((mg_un1 (by decide)).trans (hT.2.2 k hk).1), (hT.2.2 k hk).2⟩⟩ (Nat.zero_le _) ((mg_une (by decide)).trans mg_ueq) ⟨fun z => z.elim, fun _ q _ hq z => nI_m1 (show q < 2 ^ 31 by omega) (by rw [← z, mg_ueq])⟩ (fun K1 hK1 hK1t => ?_))
  have hx1 : mXf [127, 135, 136, 137] I K1 := ((mXf.u (by decide) (by decide)).tr (mXf.u (by decide) (by decide))).tr (mXf.g hK1)
  have h71 : K1 127 7 = I 127 7 := (hK1.2 7 (by decide) (by decide) (by decide) (by decide) (by decide)).trans ((mg_une (by decide)).trans (mg_une (by decide)))
  have hw1 : tWf B tl (tK0 B tl) := (tk_wf (Nat.zero_le _)).1
  have hky1 : mKy K1 := ⟨fun j hj => (hx1.1 133 j (by decide)).trans (hky.1 j hj), fun j hj => (hx1.1 134 j (by decide)).trans (hky.2 j hj)⟩
  refine me_aload_n (p' := 15) k188_14 rfl rfl ?_
  refine me_cv (p' := 18) k188_15 rfl rfl (by decide) rfl (by decide) (by decide) dp_192 rfl rfl (cl_le mx_192 rfl) (by decide) (cl_sum rfl) (ct_takesKey (hT.xf hx1 h71) hK1t hw1 hky1 (fun hno => ?_) (fun key hkk K2 hK2 hK2t => ?_))
  · skip
    have hr : r0 = ((tK0 B tl).2.1, none) := by
      rcases hout with ⟨_, z⟩ | ⟨k, hk, _⟩
      · exact z
      · exact absurd hk.2.1 (hno k hk.1)
    refine me_if_eq (p' := 21) k188_18 rfl (fun _ => ?_) (fun h => absurd (by decide) h)
    refine me_iconst (p' := 33) k188_32 rfl (v := nI 0) (by decide) ?_
    refine me_istore_n (p' := 34) k188_33 rfl ⟨Nat.le_of_ble_eq_true rfl, rfl⟩ rfl ?_
    refine me_aload_n (p' := 35) k188_34 rfl rfl ?_
    refine me_iconst (p' := 36) k188_35 rfl (v := nI 0) (by decide) ?_
    refine me_pfi (p' := 39) k188_36 rfl (by decide) rfl rfl rfl rfl ?_
    refine me_iload_n (p' := 40) k188_39 rfl rfl ?_
    refine me_if_ne (p' := 43) k188_40 rfl (fun _ => ?_) (fun h => absurd (by decide) h)
    refine me_bipush (p' := 45) k188_43 rfl (v := (-100)) (by decide) ?_
    refine me_aload_n (p' := 46) k188_45 rfl rfl ?_
    refine me_gfi (p' := 49) k188_46 rfl (by decide) rfl rfl ?_
    rw [mg_une (by decide), hK1t.2.1]
    refine me_isub (p' := 50) k188_49 rfl rfl ?_
    refine me_reti k188_50 rt_188 rfl ?_
    exact hF _ hr _ (hx1.tr (mXf.u (by decide) (by decide))) mg_ueq
  · skip
    have hx2 : mXf [127, 135, 136, 137] I K2 := hx1.tr ((mXf.u (by decide) (by decide)).tr (mXf.g hK2))
    have h72 : K2 127 7 = I 127 7 := (hK2.2 7 (by decide) (by decide) (by decide) (by decide) (by decide)).trans ((mg_une (by decide)).trans h71)
    have hk13 : K2 127 13 = nI key := (hK2.2 13 (by decide) (by decide) (by decide) (by decide) (by decide)).trans mg_ueq
    have hgw := tgo_wf (B := B) (tl := tl) hw1
    have hpos : 0 < (tgo B tl (tK0 B tl)).2.1 := by
      have h1 := hgw.2
      have h3 : (tK0 B tl).1 = 1 := hkk.2.1.1
      have h2 := hw1.2.2.2.1 (by omega)
      omega
    obtain ⟨p, ro, hr0, hend⟩ : ∃ p ro, r0 = (p, match ro with | some o => some (key, o) | none => none) ∧ mEnd B tl key (tgo B tl (tK0 B tl), [], [], [false], 0, true) (p, ro) := by
      rcases hout with ⟨hno, _⟩ | ⟨k, hk, ⟨p, h1, h2⟩ | ⟨p, o, h1, h2⟩⟩
      · exact absurd hkk.2.1 (hno key hkk.1)
      · obtain rfl := tIs_key hkk hk
        exact ⟨p, none, h1, h2⟩
      · obtain rfl := tIs_key hkk hk
        exact ⟨p, some o, h1, h2⟩
    refine me_if_eq (p' := 21) k188_18 rfl (fun h => absurd h (by decide)) (fun _ => ?_)
    refine me_aload_n (p' := 22) k188_21 rfl rfl ?_
    refine me_cv (p' := 25) k188_22 rfl rfl (by decide) rfl (by decide) (by decide) dp_193 rfl rfl (cl_le mx_193 rfl) (by decide) (cl_sum rfl) (ct_takesE (hT.xf hx2 h72) hK2t hgw.1 hpos hk13 hkk.1 hend (fun K3 q hK3 hrq h9 => ?_) (fun K3 q o hrq hK3 hpo hna => ?_))
    · skip
      have hx3 := hx2.tr (mXf.z hK3)
      cases hrq
      have hr : r0 = (p, none) := hr0
      refine me_if_eq (p' := 28) k188_25 rfl (fun _ => ?_) (fun h => absurd (by decide) h)
      refine me_iconst (p' := 33) k188_32 rfl (v := nI 0) (by decide) ?_
      refine me_istore_n (p' := 34) k188_33 rfl ⟨Nat.le_of_ble_eq_true rfl, rfl⟩ rfl ?_
      refine me_aload_n (p' := 35) k188_34 rfl rfl ?_
      refine me_iconst (p' := 36) k188_35 rfl (v := nI 0) (by decide) ?_
      refine me_pfi (p' := 39) k188_36 rfl (by decide) rfl rfl rfl rfl ?_
      refine me_iload_n (p' := 40) k188_39 rfl rfl ?_
      refine me_if_ne (p' := 43) k188_40 rfl (fun _ => ?_) (fun h => absurd (by decide) h)
      refine me_bipush (p' := 45) k188_43 rfl (v := (-100)) (by decide) ?_
      refine me_aload_n (p' := 46) k188_45 rfl rfl ?_
      refine me_gfi (p' := 49) k188_46 rfl (by decide) rfl rfl ?_
      rw [mg_une (by decide), h9]
      refine me_isub (p' := 50) k188_49 rfl rfl ?_
      refine me_reti k188_50 rt_188 rfl ?_
      exact hF _ hr _ (hx3.tr (mXf.u (by decide) (by decide))) mg_ueq
    · skip
      have hx3 := hx2.tr (mXf.z hK3)
      cases hrq
      have hr : r0 = (p, some (key, o)) := hr0
      have ho96 := h96 _ _ _ hr
      obtain ⟨S9, hps⟩ := hpo
      have hk133 : K3 127 13 = nI key := (hK3.2 13 (by decide) (by decide) (by decide) (by decide) (by decide) (by decide) (by decide) (by decide)).trans hk13
      have e128 : ∀ k, K3 128 k = I 128 k := fun k => hx3.1 128 k (by decide)
      refine me_if_eq (p' := 28) k188_25 rfl (fun h => absurd h (by decide)) (fun _ => ?_)
      refine me_iconst (p' := 29) k188_28 rfl (v := nI 1) (by decide) ?_
      refine me_goto k188_29 ?_
      refine me_istore_n (p' := 34) k188_33 rfl ⟨Nat.le_of_ble_eq_true rfl, rfl⟩ rfl ?_
      refine me_aload_n (p' := 35) k188_34 rfl rfl ?_
      refine me_iconst (p' := 36) k188_35 rfl (v := nI 0) (by decide) ?_
      refine me_pfi (p' := 39) k188_36 rfl (by decide) rfl rfl rfl rfl ?_
      refine me_iload_n (p' := 40) k188_39 rfl rfl ?_
      refine me_if_ne (p' := 43) k188_40 rfl (fun h => absurd h (by decide)) (fun _ => ?_)
      refine me_aload_n (p' := 52) k188_51 rfl rfl ?_
      refine me_gfr (p' := 55) k188_52 rfl (by decide) rfl (b := 128) rfl ?_
      refine me_iconst (p' := 56) k188_55 rfl (v := nI 4) (by decide) ?_
      refine me_iald (p' := 57) k188_56 rfl (by decide) rfl (j := 4) rfl (by omega) (by decide) rfl ?_
      rw [(mg_un1 (by decide)).trans ((e128 4).trans hnt)]
      refine me_bipush (p' := 59) k188_57 rfl (v := nI 14) (by decide) ?_
      refine me_ic_ne (p' := 62) k188_59 rfl (fun c1 => ?_) (fun c1 => ?_)
      · skip
        rw [cI_eq (a := nt) (b := 14) (by omega) (by omega)] at c1
        refine me_ldc (p' := 64) k188_62 rfl (v := (-1000000003)) (by decide) ?_
        refine me_reti k188_64 rt_188 rfl ?_
        exact hFull (by omega) _ _ _ hr _ (hx3.tr (mXf.u (by decide) (by decide))) mg_ueq
      · skip
        rw [cI_eq (a := nt) (b := 14) (by omega) (by omega)] at c1
        refine me_aload_n (p' := 66) k188_65 rfl rfl ?_
        refine me_gfr (p' := 69) k188_66 rfl (by decide) rfl (b := 128) rfl ?_
        refine me_iconst (p' := 70) k188_69 rfl (v := nI 4) (by decide) ?_
        refine me_iald (p' := 71) k188_70 rfl (by decide) rfl (j := 4) rfl (by omega) (by decide) rfl ?_
        rw [(mg_un1 (by decide)).trans ((e128 4).trans hnt)]
        refine me_istore_n (p' := 72) k188_71 rfl ⟨Nat.le_of_ble_eq_true rfl, rfl⟩ rfl ?_
        refine me_aload_n (p' := 73) k188_72 rfl rfl ?_
        refine me_gfr (p' := 76) k188_73 rfl (by decide) rfl (b := 128) rfl ?_
        refine me_bipush (p' := 78) k188_76 rfl (v := nI 109) (by decide) ?_
        refine me_iconst (p' := 79) k188_78 rfl (v := nI 2) (by decide) ?_
        refine me_iload_n (p' := 80) k188_79 rfl rfl ?_
        refine me_imul (p' := 81) k188_80 rfl (v := nI (2 * nt)) (mI_mul _ _) ?_
        refine me_iadd (p' := 82) k188_81 rfl (v := nI (109 + (2 * nt))) (mI_add _ _) ?_
        refine me_sipush (p' := 85) k188_82 rfl (v := nI 1000) (by decide) ?_
        refine me_aload_n (p' := 86) k188_85 rfl rfl ?_
        refine me_gfi (p' := 89) k188_86 rfl (by decide) rfl rfl ?_
        rw [mg_une (by decide), hk133]
        refine me_imul (p' := 90) k188_89 rfl (v := nI (1000 * key)) (mI_mul _ _) ?_
        refine me_aload_n (p' := 91) k188_90 rfl rfl ?_
        refine me_gfi (p' := 94) k188_91 rfl (by decide) rfl rfl ?_
        rw [mg_une (by decide), hps.2.2.1]
        refine me_iadd (p' := 95) k188_94 rfl (v := nI ((1000 * key) + o.length)) (mI_add _ _) ?_
        refine me_iast (p' := 96) k188_95 rfl (by decide) rfl (j := 109 + (2 * nt)) rfl (by omega) (by decide) rfl ?_
        refine me_aload_n (p' := 97) k188_96 rfl rfl ?_
        refine me_gfr (p' := 100) k188_97 rfl (by decide) rfl (b := 128) rfl ?_
        refine me_bipush (p' := 102) k188_100 rfl (v := nI 109) (by decide) ?_
        refine me_iconst (p' := 103) k188_102 rfl (v := nI 2) (by decide) ?_
        refine me_iload_n (p' := 104) k188_103 rfl rfl ?_
        refine me_imul (p' := 105) k188_104 rfl (v := nI (2 * nt)) (mI_mul _ _) ?_
        refine me_iadd (p' := 106) k188_105 rfl (v := nI (109 + (2 * nt))) (mI_add _ _) ?_
        refine me_iconst (p' := 107) k188_106 rfl (v := nI 1) (by decide) ?_
        refine me_iadd (p' := 108) k188_107 rfl (v := nI ((109 + (2 * nt)) + 1)) (mI_add _ _) ?_
        refine me_aload_n (p' := 109) k188_108 rfl rfl ?_
        refine me_gfi (p' := 112) k188_109 rfl (by decide) rfl rfl ?_
        rw [mg_un1 (by decide), mg_une (by decide), hna]
        refine me_iast (p' := 113) k188_112 rfl (by decide) rfl (j := (109 + (2 * nt)) + 1) rfl (by omega) (by decide) rfl ?_
        refine me_iconst (p' := 114) k188_113 rfl (v := nI 0) (by decide) ?_
        refine me_istore_n (p' := 115) k188_114 rfl ⟨Nat.le_of_ble_eq_true rfl, rfl⟩ rfl ?_
        have hE := lp_Mtext (d := d) (L := L) (xs := xs) (Q := Q) (J := (mg_u (mg_u (mg_u K3 127 7 (nI 0)) 128 (109 + 2 * nt) (nI (1000 * key + o.length))) 128 (109 + 2 * nt + 1) (nI (tNa o)))) (nt := nt) (o := o) (by omega) ho96 (by rw [mg_un1 (by decide), mg_un1 (by decide), mg_une (by decide)]; exact hps.2.2.1) (fun j hj => by rw [mg_un1 (by decide), mg_un1 (by decide), mg_un1 (by decide)]; exact hps.2.2.2 j hj) (by rw [mg_une (by omega), mg_une (by omega), mg_un1 (by decide), e128]; exact hnt) ?_ 0 (Nat.zero_le _)
        · rw [mw_c0] at hE
          exact hE _
        · refine hOK (by omega) _ _ _ hr _ ?_ ?_ (fun k => ?_)
          · exact ⟨(((((hx3.tr (mXf.u (by decide) (by decide))).1.sub (by decide)).tr (mFr.up (by decide))).tr (mFr.up (by decide))).tr (mFr.w (by decide))).tr (mFr.up (by decide)), fun k a b c d e f g i j l => by rw [mg_un1 (by decide), mw_ne (by decide), mg_un1 (by decide), mg_un1 (by decide)]; exact (hx3.tr (mXf.u (by decide) (by decide))).2 k a b c d e f g i j l⟩
          · rw [mg_un1 (by decide), mw_ne (by decide), mg_un1 (by decide), mg_un1 (by decide), mg_ueq]
          · by_cases e4 : k = 4
            · rw [if_pos e4, e4, mg_ueq]
            · rw [if_neg e4, mg_une (fun z => e4 z.2), mw_eq]
              by_cases e5 : 137 + 96 * nt ≤ k ∧ k < 137 + 96 * nt + o.length
              · rw [if_pos e5, if_pos e5]
              · rw [if_neg e5, if_neg e5]
                by_cases e6 : k = 109 + 2 * nt + 1
                · rw [if_neg (by omega), if_pos e6, e6, mg_ueq]
                · rw [mg_une (fun z => e6 z.2)]
                  by_cases e7 : k = 109 + 2 * nt
                  · rw [if_pos e7, e7, mg_ueq]
                  · rw [if_neg e7, if_neg e6, mg_une (fun z => e7 z.2), mg_un1 (by decide)]
                    exact e128 k
