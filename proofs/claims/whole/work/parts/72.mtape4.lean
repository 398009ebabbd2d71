/-! ===== the model: takesE ===== -/
def tB (b : Bool) : Int32 := cond b (nI 1) (nI 0)
theorem mc_s {B : Nat → Nat} {tl key f : Nat} {c c' : mCf} (h : mst B tl key c = .inl c') : mc B tl key (f + 1) c = mc B tl key f c' := by
  show (match mst B tl key c with | .inl c' => mc B tl key f c' | .inr r => some r) = _
  rw [h]
theorem mc_e {B : Nat → Nat} {tl key f : Nat} {c : mCf} {r r' : Nat × Option (List Nat)} (h : mst B tl key c = .inr r) (h2 : mc B tl key (f + 1) c = some r') : r' = r := by
  have : mc B tl key (f + 1) c = some r := by
    show (match mst B tl key c with | .inl c' => mc B tl key f c' | .inr r => some r) = _
    rw [h]
  rw [this] at h2
  exact (Option.some.inj h2).symm
theorem mPs.push {I : Nat → Nat → Int32} {x : Nat} {S o : List Nat} {v : Int32} (h : mPs I S o) (hv : v = -(nI x)) : mPs (mg_u (mg_u I 136 S.length v) 127 20 (nI (S.length + 1))) (x :: S) o := by
  refine ⟨by rw [mg_ueq, List.length_cons], ?_, by rw [mg_une (by decide), mg_un1 (by decide)]; exact h.2.2.1, fun j hj => ?_⟩
  · rw [mg_un (by decide), hv]
    have := h.2.1.push (v := -(nI x))
    rw [List.length_map] at this
    exact this
  · rw [mg_un1 (by decide), mg_un1 (by decide)]
    exact h.2.2.2 j hj
theorem mPs.un {I : Nat → Nat → Int32} {i k : Nat} {v : Int32} {S o : List Nat} (h : mPs I S o) (hi : i ≠ 127 ∧ i ≠ 135 ∧ i ≠ 136) : mPs (mg_u I i k v) S o := by
  refine ⟨by rw [mg_un1 (Ne.symm hi.1)]; exact h.1, by rw [mg_un (Ne.symm hi.2.2)]; exact h.2.1, by rw [mg_un1 (Ne.symm hi.1)]; exact h.2.2.1, fun j hj => by rw [mg_un1 (Ne.symm hi.2.1)]; exact h.2.2.2 j hj⟩
theorem mPs.pop0 {I : Nat → Nat → Int32} {x : Nat} {S o : List Nat} (h : mPs I (x :: S) o) : mPs (mg_u I 127 20 (nI S.length)) S o := by
  refine ⟨mg_ueq, ?_, by rw [mg_une (by decide)]; exact h.2.2.1, fun j hj => by rw [mg_un1 (by decide)]; exact h.2.2.2 j hj⟩
  rw [mg_un (by decide)]
  exact h.2.1.tl
theorem lp_takesE {d L : Nat} {xs : Nat → Int32} {I : Nat → Nat → Int32} {Q : Option Value → mj_H → Prop} {B : Nat → Nat} {tl key : Nat} (hT : mTp I B tl) (hkey0 : I 127 13 = nI key) (hk3 : key < 3) {r : Nat × Option (List Nat)} (hF : ∀ K p, mZf I K → r = (p, none) → K 127 9 = nI p → Q (some (.int (nI 0))) (mg_h L xs K)) (hOK : ∀ K p o', r = (p, some o') → mZf I K → (∃ S', mPs K S' o') → K 127 18 = nI (tNa o') → Q (some (.int (nI 1))) (mg_h L xs K)) :
    ∀ (f : Nat) (t : Nat × Nat × Nat) (S o : List Nat) (b : Bool) (l : List Bool) (nn : Nat) (wa : Bool) (J : Nat → Nat → Int32) (pn : Nat), mc B tl key f (t, S, o, b :: l, nn, wa) = some r → mZf I J → mTk J B t → mPs J S o → J 127 18 = nI (tNa o) → mStk (J 137) ((b :: l).map tB) → tWf B tl t → (∀ x ∈ S, 1 ≤ x ∧ x ≤ 11) → o.length + S.length < t.2.1 → S.count 11 ≤ 8 → l.length = S.count 11 → pn = S.count 11 → nn ≤ 96 → (u4 : Value) → mj_Ev (d + 3) 193 28 [.ref 127, .int (nI pn), .int (nI nn), .int (nI (cond wa 1 0)), u4] [] (mg_h L xs J) Q
  | 0, _, _, _, _, _, _, _, _, _, h => by cases h
  | f + 1, t, S, o, b, l, nn, wa, J, pn, h => by
    intro hz hk hp hna hts hw hS hl hc8 hpl hpn hnn u4
    have ih := lp_takesE (d := d) (L := L) (xs := xs) hT hkey0 hk3 hF hOK f
    have htl := hT.2.1
    have hTJ := hT.zf hz
    have hkey : J 127 13 = nI key := (hz.2 13 (by decide) (by decide) (by decide) (by decide) (by decide) (by decide) (by decide) (by decide)).trans hkey0
    have hw1 := hw.1
    have hw2 := hw.2.1
    have hw3 := hw.2.2.2.1
    have hw4 := hw.2.2.2.2.1
    have hw9 := hw.2.2.2.2.2.2.2.2
    cases wa with
    | true =>
      show mj_Ev _ _ _ [.ref 127, .int (nI pn), .int (nI nn), .int (nI 1), u4] _ _ _
      refine me_iload_n (p' := 29) k193_28 rfl rfl ?_
      refine me_if_ne (p' := 32) k193_29 rfl (fun h => absurd h (by decide)) (fun _ => ?_)
      refine me_iload_n (p' := 40) k193_39 rfl rfl ?_
      refine me_if_eq (p' := 43) k193_40 rfl (fun h => absurd h (by decide)) (fun _ => ?_)
      refine me_aload_n (p' := 44) k193_43 rfl rfl ?_
      refine me_gfi (p' := 47) k193_44 rfl (by decide) rfl rfl ?_
      rw [hk.2.2.1]
      refine me_iconst (p' := 48) k193_47 rfl (v := nI 3) (by decide) ?_
      refine me_ic_ne (p' := 51) k193_48 rfl (fun c1 => ?_) (fun c1 => ?_)
      · skip
        rw [cI_eq (a := t.1) (b := 3) (by omega) (by omega)] at c1
        refine me_aload_n (p' := 52) k193_51 rfl rfl ?_
        refine me_gfi (p' := 55) k193_52 rfl (by decide) rfl rfl ?_
        rw [hk.2.2.2.1 (Or.inr (by omega))]
        have hB9 := (hTJ.2.2 t.2.1 (by have := hw3 (by omega); omega)).2
        refine me_bipush (p' := 57) k193_55 rfl (v := nI 33) (by decide) ?_
        refine me_ic_ne (p' := 60) k193_57 rfl (fun c2 => ?_) (fun c2 => ?_)
        · skip
          rw [cI_eq (a := B t.2.1) (b := 33) (by omega) (by omega)] at c2
          refine me_iload_n (p' := 61) k193_60 rfl rfl ?_
          refine me_bipush (p' := 63) k193_61 rfl (v := nI 8) (by decide) ?_
          refine me_ic_ge (p' := 66) k193_63 rfl (fun c3 => ?_) (fun c3 => ?_)
          · skip
            rw [cI_le (a := 8) (b := nn) (by omega) (by omega)] at c3
            refine me_aload_n (p' := 98) k193_97 rfl rfl ?_
            refine me_gfi (p' := 101) k193_98 rfl (by decide) rfl rfl ?_
            rw [hk.2.2.1]
            refine me_iconst (p' := 102) k193_101 rfl (v := nI 3) (by decide) ?_
            refine me_ic_ne (p' := 105) k193_102 rfl (fun c4 => ?_) (fun c4 => ?_)
            · skip
              rw [cI_eq (a := t.1) (b := 3) (by omega) (by omega)] at c4
              refine me_aload_n (p' := 106) k193_105 rfl rfl ?_
              refine me_gfi (p' := 109) k193_106 rfl (by decide) rfl rfl ?_
              rw [hk.2.2.2.1 (Or.inr (by omega))]
              have hB9 := (hTJ.2.2 t.2.1 (by have := hw3 (by omega); omega)).2
              refine me_bipush (p' := 111) k193_109 rfl (v := nI 40) (by decide) ?_
              refine me_ic_ne (p' := 114) k193_111 rfl (fun c5 => ?_) (fun c5 => ?_)
              · skip
                rw [cI_eq (a := B t.2.1) (b := 40) (by omega) (by omega)] at c5
                refine me_iload_n (p' := 115) k193_114 rfl rfl ?_
                refine me_bipush (p' := 117) k193_115 rfl (v := nI 8) (by decide) ?_
                refine me_ic_ge (p' := 120) k193_117 rfl (fun c6 => ?_) (fun c6 => ?_)
                · skip
                  rw [cI_le (a := 8) (b := pn) (by omega) (by omega)] at c6
                  refine me_aload_n (p' := 159) k193_158 rfl rfl ?_
                  refine me_cv (p' := 162) k193_159 rfl rfl (by decide) rfl (by decide) (by decide) dp_194 rfl rfl (cl_le mx_194 rfl) (by decide) (cl_sum rfl) (ct_takesPart hTJ hk hw hp hna hkey hk3 hS hl (fun a ha K501 hz1 hk2 hp2 hna2 h137 => ?_) (fun ha => ?_))
                  · skip
                    have hn3 : ¬ (t.1 = 3 ∧ B t.2.1 = 33 ∧ nn < 8) := fun z => by omega
                    have hn4 : ¬ (t.1 = 3 ∧ B t.2.1 = 40 ∧ S.count 11 < 8) := fun z => by omega
                    have hst : mst B tl key (t, S, o, b :: l, nn, true) = .inl (tgo B tl t, (mcs 6 S (o ++ [a])).1, (mcs 6 S (o ++ [a])).2, b :: l, (mcs 6 S (o ++ [a])).1.count 10, false) := by
                      show (if t.1 = 3 ∧ B t.2.1 = 33 ∧ nn < 8 then _ else if t.1 = 3 ∧ B t.2.1 = 40 ∧ S.count 11 < 8 then _ else match tAt B key t with | some a => _ | none => _) = _
                      rw [if_neg hn3, if_neg hn4, ha]
                    have ht1 : t.1 ≠ 0 := fun z => by unfold tAt tNm at ha; rw [if_neg (by omega), if_neg (by omega)] at ha; cases ha
                    have hgw := tgo_wf (B := B) (tl := tl) hw
                    have hlen := mcs_len (r := 6) S (o ++ [a])
                    rw [List.length_append, List.length_singleton] at hlen
                    have hlen2 : (mcs 6 S (o ++ [a])).1.length ≤ 96 ∧ (mcs 6 S (o ++ [a])).2.length + (mcs 6 S (o ++ [a])).1.length < (tgo B tl t).2.1 := by
                      have := hgw.2
                      have := hw3 ht1
                      have := hgw.1.1
                      exact ⟨by omega, by omega⟩
                    refine me_if_eq (p' := 165) k193_162 rfl (fun h => absurd h (by decide)) (fun _ => ?_)
                    refine me_iconst (p' := 166) k193_165 rfl (v := nI 0) (by decide) ?_
                    refine me_istore_n (p' := 167) k193_166 rfl ⟨Nat.le_of_ble_eq_true rfl, rfl⟩ rfl ?_
                    refine me_goto k193_167 ?_
                    refine me_aload_n (p' := 173) k193_172 rfl rfl ?_
                    refine me_cv (p' := 176) k193_173 rfl rfl (by decide) rfl (by decide) (by decide) dp_198 rfl rfl (cl_le mx_198 rfl) (by decide) (cl_sum rfl) (ct_notsOpen hp2 (mcs_in (r := 6) S (o ++ [a]) hS) (hlen2.1) ?_)
                    refine me_istore_n (p' := 177) k193_176 rfl ⟨Nat.le_of_ble_eq_true rfl, rfl⟩ rfl ?_
                    refine me_goto k193_177 ?_
                    rw [mc_s hst] at h
                    refine ih (tgo B tl t) (mcs 6 S (o ++ [a])).1 (mcs 6 S (o ++ [a])).2 b l _ false K501 pn h (hz.tr hz1) hk2 hp2 (by rw [tNa_mcs]; exact hna2) (by rw [show K501 137 = J 137 from funext h137]; exact hts) hgw.1 (mcs_in S _ hS) hlen2.2 (by rw [mcs_11]; exact hc8) (by rw [mcs_11]; exact hpl) (by rw [mcs_11]; exact hpn) (Nat.le_trans List.count_le_length hlen2.1) _
                  · skip
                    have hn3 : ¬ (t.1 = 3 ∧ B t.2.1 = 33 ∧ nn < 8) := fun z => by omega
                    have hn4 : ¬ (t.1 = 3 ∧ B t.2.1 = 40 ∧ S.count 11 < 8) := fun z => by omega
                    have hst : mst B tl key (t, S, o, b :: l, nn, true) = .inr (t.2.1, none) := by
                      show (if t.1 = 3 ∧ B t.2.1 = 33 ∧ nn < 8 then _ else if t.1 = 3 ∧ B t.2.1 = 40 ∧ S.count 11 < 8 then _ else match tAt B key t with | some a => _ | none => _) = _
                      rw [if_neg hn3, if_neg hn4, ha]
                    refine me_if_eq (p' := 165) k193_162 rfl (fun _ => ?_) (fun h => absurd (by decide) h)
                    refine me_iconst (p' := 171) k193_170 rfl (v := nI 0) (by decide) ?_
                    refine me_reti k193_171 rt_193 (by decide) ?_
                    have hr := mc_e hst h
                    exact hF J t.2.1 hz hr hk.2.1
                · skip
                  rw [cI_le (a := 8) (b := pn) (by omega) (by omega)] at c6
                  refine me_aload_n (p' := 121) k193_120 rfl rfl ?_
                  refine me_gfr (p' := 124) k193_121 rfl (by decide) rfl (b := 136) rfl ?_
                  refine me_aload_n (p' := 125) k193_124 rfl rfl ?_
                  refine me_gfi (p' := 128) k193_125 rfl (by decide) rfl rfl ?_
                  rw [hp.1]
                  refine me_bipush (p' := 130) k193_128 rfl (v := (-11)) (by decide) ?_
                  refine me_iast (p' := 131) k193_130 rfl (by decide) rfl (j := S.length) rfl (by omega) (by decide) rfl ?_
                  refine me_aload_n (p' := 132) k193_131 rfl rfl ?_
                  refine me_dup (p' := 133) k193_132 rfl rfl ?_
                  refine me_gfi (p' := 136) k193_133 rfl (by decide) rfl rfl ?_
                  rw [(mg_un1 (by decide)).trans hp.1]
                  refine me_iconst (p' := 137) k193_136 rfl (v := nI 1) (by decide) ?_
                  refine me_iadd (p' := 138) k193_137 rfl (v := nI (S.length + 1)) (mI_add _ _) ?_
                  refine me_pfi (p' := 141) k193_138 rfl (by decide) rfl rfl rfl rfl ?_
                  refine me_iinc (p' := 144) k193_141 rfl rfl rfl (v := nI (pn + 1)) (mI_inc (by decide)) rfl ?_
                  refine me_aload_n (p' := 145) k193_144 rfl rfl ?_
                  refine me_gfr (p' := 148) k193_145 rfl (by decide) rfl (b := 137) rfl ?_
                  refine me_iload_n (p' := 149) k193_148 rfl rfl ?_
                  refine me_iconst (p' := 150) k193_149 rfl (v := nI 0) (by decide) ?_
                  refine me_zast (p' := 151) k193_150 rfl (by decide) rfl (j := pn + 1) rfl (by omega) (by decide) rfl rfl ?_
                  refine me_aload_n (p' := 152) k193_151 rfl rfl ?_
                  refine me_cv (p' := 155) k193_152 rfl rfl (by decide) rfl (by decide) (by decide) dp_189 rfl rfl (cl_le mx_189 rfl) (by decide) (cl_sum rfl) (ct_go (B := B) (tl := tl) (a := t.2.2) (w := t.1 = 1 ∨ t.1 = 2) (hTJ.zf ((((mZf.u (by simp)).tr (mZf.u (by simp))).tr (mZf.u (by simp))))) hw.2.1 ((mg_un1 (by decide)).trans ((mg_une (by decide)).trans ((mg_un1 (by decide)).trans hk.1))) ((hk.2.2.2.2.2 (by omega)).fr ((mg_un1 (by decide)).trans ((mg_une (by decide)).trans (mg_un1 (by decide))))) (fun K502 hK502 hT502 => ?_))
                  have hgw := tgo_wf (B := B) (tl := tl) hw
                  have hp2 : mPs K502 (11 :: S) o := ((hp.push ng_c.2.2.2.2.2.2).un (by decide)).gf hK502
                  have hna2 : K502 127 18 = nI (tNa o) := (hK502.2 18 (by decide) (by decide) (by decide) (by decide) (by decide)).trans ((mg_un1 (by decide)).trans ((mg_une (by decide)).trans ((mg_un1 (by decide)).trans hna)))
                  have hts2 : mStk (K502 137) ((false :: b :: l).map tB) := by
                    rw [show K502 137 = mg_u J 137 (pn + 1) (nI 0 &&& 1) 137 from funext fun k => (hK502.1 137 k (by decide)).trans (by unfold mg_u; split <;> rfl)]
                    have := hts.push (i := 137) (v := tB false)
                    rw [List.length_map, List.length_cons, hpl, ← hpn] at this
                    exact this
                  have hst : mst B tl key (t, S, o, b :: l, nn, true) = .inl (tgo B tl t, 11 :: S, o, false :: b :: l, (11 :: S).count 10, true) := by
                    show (if t.1 = 3 ∧ B t.2.1 = 33 ∧ nn < 8 then _ else if t.1 = 3 ∧ B t.2.1 = 40 ∧ S.count 11 < 8 then _ else _) = _
                    rw [if_neg (fun z => by omega), if_pos ⟨by omega, by omega, by omega⟩]
                  refine me_goto k193_155 ?_
                  refine me_aload_n (p' := 173) k193_172 rfl rfl ?_
                  refine me_cv (p' := 176) k193_173 rfl rfl (by decide) rfl (by decide) (by decide) dp_198 rfl rfl (cl_le mx_198 rfl) (by decide) (cl_sum rfl) (ct_notsOpen hp2 (hS_c hS (by decide)) (by rw [List.length_cons]; have := hgw.1.1; have := hgw.2; have := hw3 (by omega); omega) ?_)
                  refine me_istore_n (p' := 177) k193_176 rfl ⟨Nat.le_of_ble_eq_true rfl, rfl⟩ rfl ?_
                  refine me_goto k193_177 ?_
                  rw [mc_s hst] at h
                  refine ih (tgo B tl t) (11 :: S) o false (b :: l) _ true K502 (pn + 1) h ((hz.tr (((mZf.u (by simp)).tr (mZf.u (by simp))).tr (mZf.u (by simp)))).tr (mZf.g hK502)) hT502 hp2 hna2 hts2 hgw.1 (hS_c hS (by decide)) (by rw [List.length_cons]; have := hgw.2; have := hw3 (by omega); omega) (by rw [List.count_cons_self]; omega) (by rw [List.length_cons, hpl, List.count_cons_self]) (by rw [List.count_cons_self, hpn]) (Nat.le_trans List.count_le_length (by rw [List.length_cons]; have := hgw.1.1; have := hgw.2; have := hw3 (by omega); omega)) _
              · skip
                rw [cI_eq (a := B t.2.1) (b := 40) (by omega) (by omega)] at c5
                refine me_aload_n (p' := 159) k193_158 rfl rfl ?_
                refine me_cv (p' := 162) k193_159 rfl rfl (by decide) rfl (by decide) (by decide) dp_194 rfl rfl (cl_le mx_194 rfl) (by decide) (cl_sum rfl) (ct_takesPart hTJ hk hw hp hna hkey hk3 hS hl (fun a ha K503 hz1 hk2 hp2 hna2 h137 => ?_) (fun ha => ?_))
                · skip
                  have hn3 : ¬ (t.1 = 3 ∧ B t.2.1 = 33 ∧ nn < 8) := fun z => by omega
                  have hn4 : ¬ (t.1 = 3 ∧ B t.2.1 = 40 ∧ S.count 11 < 8) := fun z => by omega
                  have hst : mst B tl key (t, S, o, b :: l, nn, true) = .inl (tgo B tl t, (mcs 6 S (o ++ [a])).1, (mcs 6 S (o ++ [a])).2, b :: l, (mcs 6 S (o ++ [a])).1.count 10, false) := by
                    show (if t.1 = 3 ∧ B t.2.1 = 33 ∧ nn < 8 then _ else if t.1 = 3 ∧ B t.2.1 = 40 ∧ S.count 11 < 8 then _ else match tAt B key t with | some a => _ | none => _) = _
                    rw [if_neg hn3, if_neg hn4, ha]
                  have ht1 : t.1 ≠ 0 := fun z => by unfold tAt tNm at ha; rw [if_neg (by omega), if_neg (by omega)] at ha; cases ha
                  have hgw := tgo_wf (B := B) (tl := tl) hw
                  have hlen := mcs_len (r := 6) S (o ++ [a])
                  rw [List.length_append, List.length_singleton] at hlen
                  have hlen2 : (mcs 6 S (o ++ [a])).1.length ≤ 96 ∧ (mcs 6 S (o ++ [a])).2.length + (mcs 6 S (o ++ [a])).1.length < (tgo B tl t).2.1 := by
                    have := hgw.2
                    have := hw3 ht1
                    have := hgw.1.1
                    exact ⟨by omega, by omega⟩
                  refine me_if_eq (p' := 165) k193_162 rfl (fun h => absurd h (by decide)) (fun _ => ?_)
                  refine me_iconst (p' := 166) k193_165 rfl (v := nI 0) (by decide) ?_
                  refine me_istore_n (p' := 167) k193_166 rfl ⟨Nat.le_of_ble_eq_true rfl, rfl⟩ rfl ?_
                  refine me_goto k193_167 ?_
                  refine me_aload_n (p' := 173) k193_172 rfl rfl ?_
                  refine me_cv (p' := 176) k193_173 rfl rfl (by decide) rfl (by decide) (by decide) dp_198 rfl rfl (cl_le mx_198 rfl) (by decide) (cl_sum rfl) (ct_notsOpen hp2 (mcs_in (r := 6) S (o ++ [a]) hS) (hlen2.1) ?_)
                  refine me_istore_n (p' := 177) k193_176 rfl ⟨Nat.le_of_ble_eq_true rfl, rfl⟩ rfl ?_
                  refine me_goto k193_177 ?_
                  rw [mc_s hst] at h
                  refine ih (tgo B tl t) (mcs 6 S (o ++ [a])).1 (mcs 6 S (o ++ [a])).2 b l _ false K503 pn h (hz.tr hz1) hk2 hp2 (by rw [tNa_mcs]; exact hna2) (by rw [show K503 137 = J 137 from funext h137]; exact hts) hgw.1 (mcs_in S _ hS) hlen2.2 (by rw [mcs_11]; exact hc8) (by rw [mcs_11]; exact hpl) (by rw [mcs_11]; exact hpn) (Nat.le_trans List.count_le_length hlen2.1) _
                · skip
                  have hn3 : ¬ (t.1 = 3 ∧ B t.2.1 = 33 ∧ nn < 8) := fun z => by omega
                  have hn4 : ¬ (t.1 = 3 ∧ B t.2.1 = 40 ∧ S.count 11 < 8) := fun z => by omega
                  have hst : mst B tl key (t, S, o, b :: l, nn, true) = .inr (t.2.1, none) := by
                    show (if t.1 = 3 ∧ B t.2.1 = 33 ∧ nn < 8 then _ else if t.1 = 3 ∧ B t.2.1 = 40 ∧ S.count 11 < 8 then _ else match tAt B key t with | some a => _ | none => _) = _
                    rw [if_neg hn3, if_neg hn4, ha]
                  refine me_if_eq (p' := 165) k193_162 rfl (fun _ => ?_) (fun h => absurd (by decide) h)
                  refine me_iconst (p' := 171) k193_170 rfl (v := nI 0) (by decide) ?_
                  refine me_reti k193_171 rt_193 (by decide) ?_
                  have hr := mc_e hst h
                  exact hF J t.2.1 hz hr hk.2.1
            · skip
              rw [cI_eq (a := t.1) (b := 3) (by omega) (by omega)] at c4
              refine me_aload_n (p' := 159) k193_158 rfl rfl ?_
              refine me_cv (p' := 162) k193_159 rfl rfl (by decide) rfl (by decide) (by decide) dp_194 rfl rfl (cl_le mx_194 rfl) (by decide) (cl_sum rfl) (ct_takesPart hTJ hk hw hp hna hkey hk3 hS hl (fun a ha K504 hz1 hk2 hp2 hna2 h137 => ?_) (fun ha => ?_))
              · skip
                have hn3 : ¬ (t.1 = 3 ∧ B t.2.1 = 33 ∧ nn < 8) := fun z => by omega
                have hn4 : ¬ (t.1 = 3 ∧ B t.2.1 = 40 ∧ S.count 11 < 8) := fun z => by omega
                have hst : mst B tl key (t, S, o, b :: l, nn, true) = .inl (tgo B tl t, (mcs 6 S (o ++ [a])).1, (mcs 6 S (o ++ [a])).2, b :: l, (mcs 6 S (o ++ [a])).1.count 10, false) := by
                  show (if t.1 = 3 ∧ B t.2.1 = 33 ∧ nn < 8 then _ else if t.1 = 3 ∧ B t.2.1 = 40 ∧ S.count 11 < 8 then _ else match tAt B key t with | some a => _ | none => _) = _
                  rw [if_neg hn3, if_neg hn4, ha]
                have ht1 : t.1 ≠ 0 := fun z => by unfold tAt tNm at ha; rw [if_neg (by omega), if_neg (by omega)] at ha; cases ha
                have hgw := tgo_wf (B := B) (tl := tl) hw
                have hlen := mcs_len (r := 6) S (o ++ [a])
                rw [List.length_append, List.length_singleton] at hlen
                have hlen2 : (mcs 6 S (o ++ [a])).1.length ≤ 96 ∧ (mcs 6 S (o ++ [a])).2.length + (mcs 6 S (o ++ [a])).1.length < (tgo B tl t).2.1 := by
                  have := hgw.2
                  have := hw3 ht1
                  have := hgw.1.1
                  exact ⟨by omega, by omega⟩
                refine me_if_eq (p' := 165) k193_162 rfl (fun h => absurd h (by decide)) (fun _ => ?_)
                refine me_iconst (p' := 166) k193_165 rfl (v := nI 0) (by decide) ?_
                refine me_istore_n (p' := 167) k193_166 rfl ⟨Nat.le_of_ble_eq_true rfl, rfl⟩ rfl ?_
                refine me_goto k193_167 ?_
                refine me_aload_n (p' := 173) k193_172 rfl rfl ?_
                refine me_cv (p' := 176) k193_173 rfl rfl (by decide) rfl (by decide) (by decide) dp_198 rfl rfl (cl_le mx_198 rfl) (by decide) (cl_sum rfl) (ct_notsOpen hp2 (mcs_in (r := 6) S (o ++ [a]) hS) (hlen2.1) ?_)
                refine me_istore_n (p' := 177) k193_176 rfl ⟨Nat.le_of_ble_eq_true rfl, rfl⟩ rfl ?_
                refine me_goto k193_177 ?_
                rw [mc_s hst] at h
                refine ih (tgo B tl t) (mcs 6 S (o ++ [a])).1 (mcs 6 S (o ++ [a])).2 b l _ false K504 pn h (hz.tr hz1) hk2 hp2 (by rw [tNa_mcs]; exact hna2) (by rw [show K504 137 = J 137 from funext h137]; exact hts) hgw.1 (mcs_in S _ hS) hlen2.2 (by rw [mcs_11]; exact hc8) (by rw [mcs_11]; exact hpl) (by rw [mcs_11]; exact hpn) (Nat.le_trans List.count_le_length hlen2.1) _
              · skip
                have hn3 : ¬ (t.1 = 3 ∧ B t.2.1 = 33 ∧ nn < 8) := fun z => by omega
                have hn4 : ¬ (t.1 = 3 ∧ B t.2.1 = 40 ∧ S.count 11 < 8) := fun z => by omega
                have hst : mst B tl key (t, S, o, b :: l, nn, true) = .inr (t.2.1, none) := by
                  show (if t.1 = 3 ∧ B t.2.1 = 33 ∧ nn < 8 then _ else if t.1 = 3 ∧ B t.2.1 = 40 ∧ S.count 11 < 8 then _ else match tAt B key t with | some a => _ | none => _) = _
                  rw [if_neg hn3, if_neg hn4, ha]
                refine me_if_eq (p' := 165) k193_162 rfl (fun _ => ?_) (fun h => absurd (by decide) h)
                refine me_iconst (p' := 171) k193_170 rfl (v := nI 0) (by decide) ?_
                refine me_reti k193_171 rt_193 (by decide) ?_
                have hr := mc_e hst h
                exact hF J t.2.1 hz hr hk.2.1
          · skip
            rw [cI_le (a := 8) (b := nn) (by omega) (by omega)] at c3
            refine me_aload_n (p' := 67) k193_66 rfl rfl ?_
            refine me_gfr (p' := 70) k193_67 rfl (by decide) rfl (b := 136) rfl ?_
            refine me_aload_n (p' := 71) k193_70 rfl rfl ?_
            refine me_gfi (p' := 74) k193_71 rfl (by decide) rfl rfl ?_
            rw [hp.1]
            refine me_bipush (p' := 76) k193_74 rfl (v := (-10)) (by decide) ?_
            refine me_iast (p' := 77) k193_76 rfl (by decide) rfl (j := S.length) rfl (by omega) (by decide) rfl ?_
            refine me_aload_n (p' := 78) k193_77 rfl rfl ?_
            refine me_dup (p' := 79) k193_78 rfl rfl ?_
            refine me_gfi (p' := 82) k193_79 rfl (by decide) rfl rfl ?_
            rw [(mg_un1 (by decide)).trans hp.1]
            refine me_iconst (p' := 83) k193_82 rfl (v := nI 1) (by decide) ?_
            refine me_iadd (p' := 84) k193_83 rfl (v := nI (S.length + 1)) (mI_add _ _) ?_
            refine me_pfi (p' := 87) k193_84 rfl (by decide) rfl rfl rfl rfl ?_
            refine me_iinc (p' := 90) k193_87 rfl rfl rfl (v := nI (nn + 1)) (mI_inc (by decide)) rfl ?_
            refine me_aload_n (p' := 91) k193_90 rfl rfl ?_
            refine me_cv (p' := 94) k193_91 rfl rfl (by decide) rfl (by decide) (by decide) dp_189 rfl rfl (cl_le mx_189 rfl) (by decide) (cl_sum rfl) (ct_go (B := B) (tl := tl) (a := t.2.2) (w := t.1 = 1 ∨ t.1 = 2) (hTJ.zf (((mZf.u (by simp)).tr (mZf.u (by simp))))) hw.2.1 ((mg_une (by decide)).trans ((mg_un1 (by decide)).trans hk.1)) ((hk.2.2.2.2.2 (by omega)).fr ((mg_une (by decide)).trans (mg_un1 (by decide)))) (fun K505 hK505 hT505 => ?_))
            have hgw := tgo_wf (B := B) (tl := tl) hw
            have hp2 : mPs K505 (10 :: S) o := (hp.push ng_c.2.2.2.2.2.1).gf hK505
            have hna2 : K505 127 18 = nI (tNa o) := (hK505.2 18 (by decide) (by decide) (by decide) (by decide) (by decide)).trans ((mg_une (by decide)).trans ((mg_un1 (by decide)).trans hna))
            have hts2 : mStk (K505 137) ((b :: l).map tB) := by rw [show K505 137 = J 137 from funext fun k => (hK505.1 137 k (by decide)).trans ((mg_un1 (by decide)).trans (mg_un1 (by decide)))]; exact hts
            have hst : mst B tl key (t, S, o, b :: l, nn, true) = .inl (tgo B tl t, 10 :: S, o, b :: l, (10 :: S).count 10, true) := by
              show (if t.1 = 3 ∧ B t.2.1 = 33 ∧ nn < 8 then _ else _) = _
              rw [if_pos ⟨by omega, by omega, by omega⟩]
            refine me_goto k193_94 ?_
            refine me_aload_n (p' := 173) k193_172 rfl rfl ?_
            refine me_cv (p' := 176) k193_173 rfl rfl (by decide) rfl (by decide) (by decide) dp_198 rfl rfl (cl_le mx_198 rfl) (by decide) (cl_sum rfl) (ct_notsOpen hp2 (hS_c hS (by decide)) (by rw [List.length_cons]; have := hgw.1.1; have := hgw.2; have := hw3 (by omega); omega) ?_)
            refine me_istore_n (p' := 177) k193_176 rfl ⟨Nat.le_of_ble_eq_true rfl, rfl⟩ rfl ?_
            refine me_goto k193_177 ?_
            rw [mc_s hst] at h
            refine ih (tgo B tl t) (10 :: S) o b l _ true K505 pn h ((hz.tr ((mZf.u (by simp)).tr (mZf.u (by simp)))).tr (mZf.g hK505)) hT505 hp2 hna2 hts2 hgw.1 (hS_c hS (by decide)) (by rw [List.length_cons]; have := hgw.2; have := hw3 (by omega); omega) (by rw [List.count_cons_of_ne (by decide)]; exact hc8) (by rw [List.count_cons_of_ne (by decide)]; exact hpl) (by rw [List.count_cons_of_ne (by decide)]; exact hpn) (Nat.le_trans List.count_le_length (by rw [List.length_cons]; have := hgw.1.1; have := hgw.2; have := hw3 (by omega); omega)) _
        · skip
          rw [cI_eq (a := B t.2.1) (b := 33) (by omega) (by omega)] at c2
          refine me_aload_n (p' := 98) k193_97 rfl rfl ?_
          refine me_gfi (p' := 101) k193_98 rfl (by decide) rfl rfl ?_
          rw [hk.2.2.1]
          refine me_iconst (p' := 102) k193_101 rfl (v := nI 3) (by decide) ?_
          refine me_ic_ne (p' := 105) k193_102 rfl (fun c7 => ?_) (fun c7 => ?_)
          · skip
            rw [cI_eq (a := t.1) (b := 3) (by omega) (by omega)] at c7
            refine me_aload_n (p' := 106) k193_105 rfl rfl ?_
            refine me_gfi (p' := 109) k193_106 rfl (by decide) rfl rfl ?_
            rw [hk.2.2.2.1 (Or.inr (by omega))]
            have hB9 := (hTJ.2.2 t.2.1 (by have := hw3 (by omega); omega)).2
            refine me_bipush (p' := 111) k193_109 rfl (v := nI 40) (by decide) ?_
            refine me_ic_ne (p' := 114) k193_111 rfl (fun c8 => ?_) (fun c8 => ?_)
            · skip
              rw [cI_eq (a := B t.2.1) (b := 40) (by omega) (by omega)] at c8
              refine me_iload_n (p' := 115) k193_114 rfl rfl ?_
              refine me_bipush (p' := 117) k193_115 rfl (v := nI 8) (by decide) ?_
              refine me_ic_ge (p' := 120) k193_117 rfl (fun c9 => ?_) (fun c9 => ?_)
              · skip
                rw [cI_le (a := 8) (b := pn) (by omega) (by omega)] at c9
                refine me_aload_n (p' := 159) k193_158 rfl rfl ?_
                refine me_cv (p' := 162) k193_159 rfl rfl (by decide) rfl (by decide) (by decide) dp_194 rfl rfl (cl_le mx_194 rfl) (by decide) (cl_sum rfl) (ct_takesPart hTJ hk hw hp hna hkey hk3 hS hl (fun a ha K506 hz1 hk2 hp2 hna2 h137 => ?_) (fun ha => ?_))
                · skip
                  have hn3 : ¬ (t.1 = 3 ∧ B t.2.1 = 33 ∧ nn < 8) := fun z => by omega
                  have hn4 : ¬ (t.1 = 3 ∧ B t.2.1 = 40 ∧ S.count 11 < 8) := fun z => by omega
                  have hst : mst B tl key (t, S, o, b :: l, nn, true) = .inl (tgo B tl t, (mcs 6 S (o ++ [a])).1, (mcs 6 S (o ++ [a])).2, b :: l, (mcs 6 S (o ++ [a])).1.count 10, false) := by
                    show (if t.1 = 3 ∧ B t.2.1 = 33 ∧ nn < 8 then _ else if t.1 = 3 ∧ B t.2.1 = 40 ∧ S.count 11 < 8 then _ else match tAt B key t with | some a => _ | none => _) = _
                    rw [if_neg hn3, if_neg hn4, ha]
                  have ht1 : t.1 ≠ 0 := fun z => by unfold tAt tNm at ha; rw [if_neg (by omega), if_neg (by omega)] at ha; cases ha
                  have hgw := tgo_wf (B := B) (tl := tl) hw
                  have hlen := mcs_len (r := 6) S (o ++ [a])
                  rw [List.length_append, List.length_singleton] at hlen
                  have hlen2 : (mcs 6 S (o ++ [a])).1.length ≤ 96 ∧ (mcs 6 S (o ++ [a])).2.length + (mcs 6 S (o ++ [a])).1.length < (tgo B tl t).2.1 := by
                    have := hgw.2
                    have := hw3 ht1
                    have := hgw.1.1
                    exact ⟨by omega, by omega⟩
                  refine me_if_eq (p' := 165) k193_162 rfl (fun h => absurd h (by decide)) (fun _ => ?_)
                  refine me_iconst (p' := 166) k193_165 rfl (v := nI 0) (by decide) ?_
                  refine me_istore_n (p' := 167) k193_166 rfl ⟨Nat.le_of_ble_eq_true rfl, rfl⟩ rfl ?_
                  refine me_goto k193_167 ?_
                  refine me_aload_n (p' := 173) k193_172 rfl rfl ?_
                  refine me_cv (p' := 176) k193_173 rfl rfl (by decide) rfl (by decide) (by decide) dp_198 rfl rfl (cl_le mx_198 rfl) (by decide) (cl_sum rfl) (ct_notsOpen hp2 (mcs_in (r := 6) S (o ++ [a]) hS) (hlen2.1) ?_)
                  refine me_istore_n (p' := 177) k193_176 rfl ⟨Nat.le_of_ble_eq_true rfl, rfl⟩ rfl ?_
                  refine me_goto k193_177 ?_
                  rw [mc_s hst] at h
                  refine ih (tgo B tl t) (mcs 6 S (o ++ [a])).1 (mcs 6 S (o ++ [a])).2 b l _ false K506 pn h (hz.tr hz1) hk2 hp2 (by rw [tNa_mcs]; exact hna2) (by rw [show K506 137 = J 137 from funext h137]; exact hts) hgw.1 (mcs_in S _ hS) hlen2.2 (by rw [mcs_11]; exact hc8) (by rw [mcs_11]; exact hpl) (by rw [mcs_11]; exact hpn) (Nat.le_trans List.count_le_length hlen2.1) _
                · skip
                  have hn3 : ¬ (t.1 = 3 ∧ B t.2.1 = 33 ∧ nn < 8) := fun z => by omega
                  have hn4 : ¬ (t.1 = 3 ∧ B t.2.1 = 40 ∧ S.count 11 < 8) := fun z => by omega
                  have hst : mst B tl key (t, S, o, b :: l, nn, true) = .inr (t.2.1, none) := by
                    show (if t.1 = 3 ∧ B t.2.1 = 33 ∧ nn < 8 then _ else if t.1 = 3 ∧ B t.2.1 = 40 ∧ S.count 11 < 8 then _ else match tAt B key t with | some a => _ | none => _) = _
                    rw [if_neg hn3, if_neg hn4, ha]
                  refine me_if_eq (p' := 165) k193_162 rfl (fun _ => ?_) (fun h => absurd (by decide) h)
                  refine me_iconst (p' := 171) k193_170 rfl (v := nI 0) (by decide) ?_
                  refine me_reti k193_171 rt_193 (by decide) ?_
                  have hr := mc_e hst h
                  exact hF J t.2.1 hz hr hk.2.1
              · skip
                rw [cI_le (a := 8) (b := pn) (by omega) (by omega)] at c9
                refine me_aload_n (p' := 121) k193_120 rfl rfl ?_
                refine me_gfr (p' := 124) k193_121 rfl (by decide) rfl (b := 136) rfl ?_
                refine me_aload_n (p' := 125) k193_124 rfl rfl ?_
                refine me_gfi (p' := 128) k193_125 rfl (by decide) rfl rfl ?_
                rw [hp.1]
                refine me_bipush (p' := 130) k193_128 rfl (v := (-11)) (by decide) ?_
                refine me_iast (p' := 131) k193_130 rfl (by decide) rfl (j := S.length) rfl (by omega) (by decide) rfl ?_
                refine me_aload_n (p' := 132) k193_131 rfl rfl ?_
                refine me_dup (p' := 133) k193_132 rfl rfl ?_
                refine me_gfi (p' := 136) k193_133 rfl (by decide) rfl rfl ?_
                rw [(mg_un1 (by decide)).trans hp.1]
                refine me_iconst (p' := 137) k193_136 rfl (v := nI 1) (by decide) ?_
                refine me_iadd (p' := 138) k193_137 rfl (v := nI (S.length + 1)) (mI_add _ _) ?_
                refine me_pfi (p' := 141) k193_138 rfl (by decide) rfl rfl rfl rfl ?_
                refine me_iinc (p' := 144) k193_141 rfl rfl rfl (v := nI (pn + 1)) (mI_inc (by decide)) rfl ?_
                refine me_aload_n (p' := 145) k193_144 rfl rfl ?_
                refine me_gfr (p' := 148) k193_145 rfl (by decide) rfl (b := 137) rfl ?_
                refine me_iload_n (p' := 149) k193_148 rfl rfl ?_
                refine me_iconst (p' := 150) k193_149 rfl (v := nI 0) (by decide) ?_
                refine me_zast (p' := 151) k193_150 rfl (by decide) rfl (j := pn + 1) rfl (by omega) (by decide) rfl rfl ?_
                refine me_aload_n (p' := 152) k193_151 rfl rfl ?_
                refine me_cv (p' := 155) k193_152 rfl rfl (by decide) rfl (by decide) (by decide) dp_189 rfl rfl (cl_le mx_189 rfl) (by decide) (cl_sum rfl) (ct_go (B := B) (tl := tl) (a := t.2.2) (w := t.1 = 1 ∨ t.1 = 2) (hTJ.zf ((((mZf.u (by simp)).tr (mZf.u (by simp))).tr (mZf.u (by simp))))) hw.2.1 ((mg_un1 (by decide)).trans ((mg_une (by decide)).trans ((mg_un1 (by decide)).trans hk.1))) ((hk.2.2.2.2.2 (by omega)).fr ((mg_un1 (by decide)).trans ((mg_une (by decide)).trans (mg_un1 (by decide))))) (fun K507 hK507 hT507 => ?_))
                have hgw := tgo_wf (B := B) (tl := tl) hw
                have hp2 : mPs K507 (11 :: S) o := ((hp.push ng_c.2.2.2.2.2.2).un (by decide)).gf hK507
                have hna2 : K507 127 18 = nI (tNa o) := (hK507.2 18 (by decide) (by decide) (by decide) (by decide) (by decide)).trans ((mg_un1 (by decide)).trans ((mg_une (by decide)).trans ((mg_un1 (by decide)).trans hna)))
                have hts2 : mStk (K507 137) ((false :: b :: l).map tB) := by
                  rw [show K507 137 = mg_u J 137 (pn + 1) (nI 0 &&& 1) 137 from funext fun k => (hK507.1 137 k (by decide)).trans (by unfold mg_u; split <;> rfl)]
                  have := hts.push (i := 137) (v := tB false)
                  rw [List.length_map, List.length_cons, hpl, ← hpn] at this
                  exact this
                have hst : mst B tl key (t, S, o, b :: l, nn, true) = .inl (tgo B tl t, 11 :: S, o, false :: b :: l, (11 :: S).count 10, true) := by
                  show (if t.1 = 3 ∧ B t.2.1 = 33 ∧ nn < 8 then _ else if t.1 = 3 ∧ B t.2.1 = 40 ∧ S.count 11 < 8 then _ else _) = _
                  rw [if_neg (fun z => by omega), if_pos ⟨by omega, by omega, by omega⟩]
                refine me_goto k193_155 ?_
                refine me_aload_n (p' := 173) k193_172 rfl rfl ?_
                refine me_cv (p' := 176) k193_173 rfl rfl (by decide) rfl (by decide) (by decide) dp_198 rfl rfl (cl_le mx_198 rfl) (by decide) (cl_sum rfl) (ct_notsOpen hp2 (hS_c hS (by decide)) (by rw [List.length_cons]; have := hgw.1.1; have := hgw.2; have := hw3 (by omega); omega) ?_)
                refine me_istore_n (p' := 177) k193_176 rfl ⟨Nat.le_of_ble_eq_true rfl, rfl⟩ rfl ?_
                refine me_goto k193_177 ?_
                rw [mc_s hst] at h
                refine ih (tgo B tl t) (11 :: S) o false (b :: l) _ true K507 (pn + 1) h ((hz.tr (((mZf.u (by simp)).tr (mZf.u (by simp))).tr (mZf.u (by simp)))).tr (mZf.g hK507)) hT507 hp2 hna2 hts2 hgw.1 (hS_c hS (by decide)) (by rw [List.length_cons]; have := hgw.2; have := hw3 (by omega); omega) (by rw [List.count_cons_self]; omega) (by rw [List.length_cons, hpl, List.count_cons_self]) (by rw [List.count_cons_self, hpn]) (Nat.le_trans List.count_le_length (by rw [List.length_cons]; have := hgw.1.1; have := hgw.2; have := hw3 (by omega); omega)) _
            · skip
              rw [cI_eq (a := B t.2.1) (b := 40) (by omega) (by omega)] at c8
              refine me_aload_n (p' := 159) k193_158 rfl rfl ?_
              refine me_cv (p' := 162) k193_159 rfl rfl (by decide) rfl (by decide) (by decide) dp_194 rfl rfl (cl_le mx_194 rfl) (by decide) (cl_sum rfl) (ct_takesPart hTJ hk hw hp hna hkey hk3 hS hl (fun a ha K508 hz1 hk2 hp2 hna2 h137 => ?_) (fun ha => ?_))
              · skip
                have hn3 : ¬ (t.1 = 3 ∧ B t.2.1 = 33 ∧ nn < 8) := fun z => by omega
                have hn4 : ¬ (t.1 = 3 ∧ B t.2.1 = 40 ∧ S.count 11 < 8) := fun z => by omega
                have hst : mst B tl key (t, S, o, b :: l, nn, true) = .inl (tgo B tl t, (mcs 6 S (o ++ [a])).1, (mcs 6 S (o ++ [a])).2, b :: l, (mcs 6 S (o ++ [a])).1.count 10, false) := by
                  show (if t.1 = 3 ∧ B t.2.1 = 33 ∧ nn < 8 then _ else if t.1 = 3 ∧ B t.2.1 = 40 ∧ S.count 11 < 8 then _ else match tAt B key t with | some a => _ | none => _) = _
                  rw [if_neg hn3, if_neg hn4, ha]
                have ht1 : t.1 ≠ 0 := fun z => by unfold tAt tNm at ha; rw [if_neg (by omega), if_neg (by omega)] at ha; cases ha
                have hgw := tgo_wf (B := B) (tl := tl) hw
                have hlen := mcs_len (r := 6) S (o ++ [a])
                rw [List.length_append, List.length_singleton] at hlen
                have hlen2 : (mcs 6 S (o ++ [a])).1.length ≤ 96 ∧ (mcs 6 S (o ++ [a])).2.length + (mcs 6 S (o ++ [a])).1.length < (tgo B tl t).2.1 := by
                  have := hgw.2
                  have := hw3 ht1
                  have := hgw.1.1
                  exact ⟨by omega, by omega⟩
                refine me_if_eq (p' := 165) k193_162 rfl (fun h => absurd h (by decide)) (fun _ => ?_)
                refine me_iconst (p' := 166) k193_165 rfl (v := nI 0) (by decide) ?_
                refine me_istore_n (p' := 167) k193_166 rfl ⟨Nat.le_of_ble_eq_true rfl, rfl⟩ rfl ?_
                refine me_goto k193_167 ?_
                refine me_aload_n (p' := 173) k193_172 rfl rfl ?_
                refine me_cv (p' := 176) k193_173 rfl rfl (by decide) rfl (by decide) (by decide) dp_198 rfl rfl (cl_le mx_198 rfl) (by decide) (cl_sum rfl) (ct_notsOpen hp2 (mcs_in (r := 6) S (o ++ [a]) hS) (hlen2.1) ?_)
                refine me_istore_n (p' := 177) k193_176 rfl ⟨Nat.le_of_ble_eq_true rfl, rfl⟩ rfl ?_
                refine me_goto k193_177 ?_
                rw [mc_s hst] at h
                refine ih (tgo B tl t) (mcs 6 S (o ++ [a])).1 (mcs 6 S (o ++ [a])).2 b l _ false K508 pn h (hz.tr hz1) hk2 hp2 (by rw [tNa_mcs]; exact hna2) (by rw [show K508 137 = J 137 from funext h137]; exact hts) hgw.1 (mcs_in S _ hS) hlen2.2 (by rw [mcs_11]; exact hc8) (by rw [mcs_11]; exact hpl) (by rw [mcs_11]; exact hpn) (Nat.le_trans List.count_le_length hlen2.1) _
              · skip
                have hn3 : ¬ (t.1 = 3 ∧ B t.2.1 = 33 ∧ nn < 8) := fun z => by omega
                have hn4 : ¬ (t.1 = 3 ∧ B t.2.1 = 40 ∧ S.count 11 < 8) := fun z => by omega
                have hst : mst B tl key (t, S, o, b :: l, nn, true) = .inr (t.2.1, none) := by
                  show (if t.1 = 3 ∧ B t.2.1 = 33 ∧ nn < 8 then _ else if t.1 = 3 ∧ B t.2.1 = 40 ∧ S.count 11 < 8 then _ else match tAt B key t with | some a => _ | none => _) = _
                  rw [if_neg hn3, if_neg hn4, ha]
                refine me_if_eq (p' := 165) k193_162 rfl (fun _ => ?_) (fun h => absurd (by decide) h)
                refine me_iconst (p' := 171) k193_170 rfl (v := nI 0) (by decide) ?_
                refine me_reti k193_171 rt_193 (by decide) ?_
                have hr := mc_e hst h
                exact hF J t.2.1 hz hr hk.2.1
          · skip
            rw [cI_eq (a := t.1) (b := 3) (by omega) (by omega)] at c7
            refine me_aload_n (p' := 159) k193_158 rfl rfl ?_
            refine me_cv (p' := 162) k193_159 rfl rfl (by decide) rfl (by decide) (by decide) dp_194 rfl rfl (cl_le mx_194 rfl) (by decide) (cl_sum rfl) (ct_takesPart hTJ hk hw hp hna hkey hk3 hS hl (fun a ha K509 hz1 hk2 hp2 hna2 h137 => ?_) (fun ha => ?_))
            · skip
              have hn3 : ¬ (t.1 = 3 ∧ B t.2.1 = 33 ∧ nn < 8) := fun z => by omega
              have hn4 : ¬ (t.1 = 3 ∧ B t.2.1 = 40 ∧ S.count 11 < 8) := fun z => by omega
              have hst : mst B tl key (t, S, o, b :: l, nn, true) = .inl (tgo B tl t, (mcs 6 S (o ++ [a])).1, (mcs 6 S (o ++ [a])).2, b :: l, (mcs 6 S (o ++ [a])).1.count 10, false) := by
                show (if t.1 = 3 ∧ B t.2.1 = 33 ∧ nn < 8 then _ else if t.1 = 3 ∧ B t.2.1 = 40 ∧ S.count 11 < 8 then _ else match tAt B key t with | some a => _ | none => _) = _
                rw [if_neg hn3, if_neg hn4, ha]
              have ht1 : t.1 ≠ 0 := fun z => by unfold tAt tNm at ha; rw [if_neg (by omega), if_neg (by omega)] at ha; cases ha
              have hgw := tgo_wf (B := B) (tl := tl) hw
              have hlen := mcs_len (r := 6) S (o ++ [a])
              rw [List.length_append, List.length_singleton] at hlen
              have hlen2 : (mcs 6 S (o ++ [a])).1.length ≤ 96 ∧ (mcs 6 S (o ++ [a])).2.length + (mcs 6 S (o ++ [a])).1.length < (tgo B tl t).2.1 := by
                have := hgw.2
                have := hw3 ht1
                have := hgw.1.1
                exact ⟨by omega, by omega⟩
              refine me_if_eq (p' := 165) k193_162 rfl (fun h => absurd h (by decide)) (fun _ => ?_)
              refine me_iconst (p' := 166) k193_165 rfl (v := nI 0) (by decide) ?_
              refine me_istore_n (p' := 167) k193_166 rfl ⟨Nat.le_of_ble_eq_true rfl, rfl⟩ rfl ?_
              refine me_goto k193_167 ?_
              refine me_aload_n (p' := 173) k193_172 rfl rfl ?_
              refine me_cv (p' := 176) k193_173 rfl rfl (by decide) rfl (by decide) (by decide) dp_198 rfl rfl (cl_le mx_198 rfl) (by decide) (cl_sum rfl) (ct_notsOpen hp2 (mcs_in (r := 6) S (o ++ [a]) hS) (hlen2.1) ?_)
              refine me_istore_n (p' := 177) k193_176 rfl ⟨Nat.le_of_ble_eq_true rfl, rfl⟩ rfl ?_
              refine me_goto k193_177 ?_
              rw [mc_s hst] at h
              refine ih (tgo B tl t) (mcs 6 S (o ++ [a])).1 (mcs 6 S (o ++ [a])).2 b l _ false K509 pn h (hz.tr hz1) hk2 hp2 (by rw [tNa_mcs]; exact hna2) (by rw [show K509 137 = J 137 from funext h137]; exact hts) hgw.1 (mcs_in S _ hS) hlen2.2 (by rw [mcs_11]; exact hc8) (by rw [mcs_11]; exact hpl) (by rw [mcs_11]; exact hpn) (Nat.le_trans List.count_le_length hlen2.1) _
            · skip
              have hn3 : ¬ (t.1 = 3 ∧ B t.2.1 = 33 ∧ nn < 8) := fun z => by omega
              have hn4 : ¬ (t.1 = 3 ∧ B t.2.1 = 40 ∧ S.count 11 < 8) := fun z => by omega
              have hst : mst B tl key (t, S, o, b :: l, nn, true) = .inr (t.2.1, none) := by
                show (if t.1 = 3 ∧ B t.2.1 = 33 ∧ nn < 8 then _ else if t.1 = 3 ∧ B t.2.1 = 40 ∧ S.count 11 < 8 then _ else match tAt B key t with | some a => _ | none => _) = _
                rw [if_neg hn3, if_neg hn4, ha]
              refine me_if_eq (p' := 165) k193_162 rfl (fun _ => ?_) (fun h => absurd (by decide) h)
              refine me_iconst (p' := 171) k193_170 rfl (v := nI 0) (by decide) ?_
              refine me_reti k193_171 rt_193 (by decide) ?_
              have hr := mc_e hst h
              exact hF J t.2.1 hz hr hk.2.1
      · skip
        rw [cI_eq (a := t.1) (b := 3) (by omega) (by omega)] at c1
        refine me_aload_n (p' := 98) k193_97 rfl rfl ?_
        refine me_gfi (p' := 101) k193_98 rfl (by decide) rfl rfl ?_
        rw [hk.2.2.1]
        refine me_iconst (p' := 102) k193_101 rfl (v := nI 3) (by decide) ?_
        refine me_ic_ne (p' := 105) k193_102 rfl (fun c10 => ?_) (fun c10 => ?_)
        · skip
          rw [cI_eq (a := t.1) (b := 3) (by omega) (by omega)] at c10
          refine me_aload_n (p' := 106) k193_105 rfl rfl ?_
          refine me_gfi (p' := 109) k193_106 rfl (by decide) rfl rfl ?_
          rw [hk.2.2.2.1 (Or.inr (by omega))]
          have hB9 := (hTJ.2.2 t.2.1 (by have := hw3 (by omega); omega)).2
          refine me_bipush (p' := 111) k193_109 rfl (v := nI 40) (by decide) ?_
          refine me_ic_ne (p' := 114) k193_111 rfl (fun c11 => ?_) (fun c11 => ?_)
          · skip
            rw [cI_eq (a := B t.2.1) (b := 40) (by omega) (by omega)] at c11
            refine me_iload_n (p' := 115) k193_114 rfl rfl ?_
            refine me_bipush (p' := 117) k193_115 rfl (v := nI 8) (by decide) ?_
            refine me_ic_ge (p' := 120) k193_117 rfl (fun c12 => ?_) (fun c12 => ?_)
            · skip
              rw [cI_le (a := 8) (b := pn) (by omega) (by omega)] at c12
              refine me_aload_n (p' := 159) k193_158 rfl rfl ?_
              refine me_cv (p' := 162) k193_159 rfl rfl (by decide) rfl (by decide) (by decide) dp_194 rfl rfl (cl_le mx_194 rfl) (by decide) (cl_sum rfl) (ct_takesPart hTJ hk hw hp hna hkey hk3 hS hl (fun a ha K510 hz1 hk2 hp2 hna2 h137 => ?_) (fun ha => ?_))
              · skip
                have hn3 : ¬ (t.1 = 3 ∧ B t.2.1 = 33 ∧ nn < 8) := fun z => by omega
                have hn4 : ¬ (t.1 = 3 ∧ B t.2.1 = 40 ∧ S.count 11 < 8) := fun z => by omega
                have hst : mst B tl key (t, S, o, b :: l, nn, true) = .inl (tgo B tl t, (mcs 6 S (o ++ [a])).1, (mcs 6 S (o ++ [a])).2, b :: l, (mcs 6 S (o ++ [a])).1.count 10, false) := by
                  show (if t.1 = 3 ∧ B t.2.1 = 33 ∧ nn < 8 then _ else if t.1 = 3 ∧ B t.2.1 = 40 ∧ S.count 11 < 8 then _ else match tAt B key t with | some a => _ | none => _) = _
                  rw [if_neg hn3, if_neg hn4, ha]
                have ht1 : t.1 ≠ 0 := fun z => by unfold tAt tNm at ha; rw [if_neg (by omega), if_neg (by omega)] at ha; cases ha
                have hgw := tgo_wf (B := B) (tl := tl) hw
                have hlen := mcs_len (r := 6) S (o ++ [a])
                rw [List.length_append, List.length_singleton] at hlen
                have hlen2 : (mcs 6 S (o ++ [a])).1.length ≤ 96 ∧ (mcs 6 S (o ++ [a])).2.length + (mcs 6 S (o ++ [a])).1.length < (tgo B tl t).2.1 := by
                  have := hgw.2
                  have := hw3 ht1
                  have := hgw.1.1
                  exact ⟨by omega, by omega⟩
                refine me_if_eq (p' := 165) k193_162 rfl (fun h => absurd h (by decide)) (fun _ => ?_)
                refine me_iconst (p' := 166) k193_165 rfl (v := nI 0) (by decide) ?_
                refine me_istore_n (p' := 167) k193_166 rfl ⟨Nat.le_of_ble_eq_true rfl, rfl⟩ rfl ?_
                refine me_goto k193_167 ?_
                refine me_aload_n (p' := 173) k193_172 rfl rfl ?_
                refine me_cv (p' := 176) k193_173 rfl rfl (by decide) rfl (by decide) (by decide) dp_198 rfl rfl (cl_le mx_198 rfl) (by decide) (cl_sum rfl) (ct_notsOpen hp2 (mcs_in (r := 6) S (o ++ [a]) hS) (hlen2.1) ?_)
                refine me_istore_n (p' := 177) k193_176 rfl ⟨Nat.le_of_ble_eq_true rfl, rfl⟩ rfl ?_
                refine me_goto k193_177 ?_
                rw [mc_s hst] at h
                refine ih (tgo B tl t) (mcs 6 S (o ++ [a])).1 (mcs 6 S (o ++ [a])).2 b l _ false K510 pn h (hz.tr hz1) hk2 hp2 (by rw [tNa_mcs]; exact hna2) (by rw [show K510 137 = J 137 from funext h137]; exact hts) hgw.1 (mcs_in S _ hS) hlen2.2 (by rw [mcs_11]; exact hc8) (by rw [mcs_11]; exact hpl) (by rw [mcs_11]; exact hpn) (Nat.le_trans List.count_le_length hlen2.1) _
              · skip
                have hn3 : ¬ (t.1 = 3 ∧ B t.2.1 = 33 ∧ nn < 8) := fun z => by omega
                have hn4 : ¬ (t.1 = 3 ∧ B t.2.1 = 40 ∧ S.count 11 < 8) := fun z => by omega
                have hst : mst B tl key (t, S, o, b :: l, nn, true) = .inr (t.2.1, none) := by
                  show (if t.1 = 3 ∧ B t.2.1 = 33 ∧ nn < 8 then _ else if t.1 = 3 ∧ B t.2.1 = 40 ∧ S.count 11 < 8 then _ else match tAt B key t with | some a => _ | none => _) = _
                  rw [if_neg hn3, if_neg hn4, ha]
                refine me_if_eq (p' := 165) k193_162 rfl (fun _ => ?_) (fun h => absurd (by decide) h)
                refine me_iconst (p' := 171) k193_170 rfl (v := nI 0) (by decide) ?_
                refine me_reti k193_171 rt_193 (by decide) ?_
                have hr := mc_e hst h
                exact hF J t.2.1 hz hr hk.2.1
            · skip
              rw [cI_le (a := 8) (b := pn) (by omega) (by omega)] at c12
              refine me_aload_n (p' := 121) k193_120 rfl rfl ?_
              refine me_gfr (p' := 124) k193_121 rfl (by decide) rfl (b := 136) rfl ?_
              refine me_aload_n (p' := 125) k193_124 rfl rfl ?_
              refine me_gfi (p' := 128) k193_125 rfl (by decide) rfl rfl ?_
              rw [hp.1]
              refine me_bipush (p' := 130) k193_128 rfl (v := (-11)) (by decide) ?_
              refine me_iast (p' := 131) k193_130 rfl (by decide) rfl (j := S.length) rfl (by omega) (by decide) rfl ?_
              refine me_aload_n (p' := 132) k193_131 rfl rfl ?_
              refine me_dup (p' := 133) k193_132 rfl rfl ?_
              refine me_gfi (p' := 136) k193_133 rfl (by decide) rfl rfl ?_
              rw [(mg_un1 (by decide)).trans hp.1]
              refine me_iconst (p' := 137) k193_136 rfl (v := nI 1) (by decide) ?_
              refine me_iadd (p' := 138) k193_137 rfl (v := nI (S.length + 1)) (mI_add _ _) ?_
              refine me_pfi (p' := 141) k193_138 rfl (by decide) rfl rfl rfl rfl ?_
              refine me_iinc (p' := 144) k193_141 rfl rfl rfl (v := nI (pn + 1)) (mI_inc (by decide)) rfl ?_
              refine me_aload_n (p' := 145) k193_144 rfl rfl ?_
              refine me_gfr (p' := 148) k193_145 rfl (by decide) rfl (b := 137) rfl ?_
              refine me_iload_n (p' := 149) k193_148 rfl rfl ?_
              refine me_iconst (p' := 150) k193_149 rfl (v := nI 0) (by decide) ?_
              refine me_zast (p' := 151) k193_150 rfl (by decide) rfl (j := pn + 1) rfl (by omega) (by decide) rfl rfl ?_
              refine me_aload_n (p' := 152) k193_151 rfl rfl ?_
              refine me_cv (p' := 155) k193_152 rfl rfl (by decide) rfl (by decide) (by decide) dp_189 rfl rfl (cl_le mx_189 rfl) (by decide) (cl_sum rfl) (ct_go (B := B) (tl := tl) (a := t.2.2) (w := t.1 = 1 ∨ t.1 = 2) (hTJ.zf ((((mZf.u (by simp)).tr (mZf.u (by simp))).tr (mZf.u (by simp))))) hw.2.1 ((mg_un1 (by decide)).trans ((mg_une (by decide)).trans ((mg_un1 (by decide)).trans hk.1))) ((hk.2.2.2.2.2 (by omega)).fr ((mg_un1 (by decide)).trans ((mg_une (by decide)).trans (mg_un1 (by decide))))) (fun K511 hK511 hT511 => ?_))
              have hgw := tgo_wf (B := B) (tl := tl) hw
              have hp2 : mPs K511 (11 :: S) o := ((hp.push ng_c.2.2.2.2.2.2).un (by decide)).gf hK511
              have hna2 : K511 127 18 = nI (tNa o) := (hK511.2 18 (by decide) (by decide) (by decide) (by decide) (by decide)).trans ((mg_un1 (by decide)).trans ((mg_une (by decide)).trans ((mg_un1 (by decide)).trans hna)))
              have hts2 : mStk (K511 137) ((false :: b :: l).map tB) := by
                rw [show K511 137 = mg_u J 137 (pn + 1) (nI 0 &&& 1) 137 from funext fun k => (hK511.1 137 k (by decide)).trans (by unfold mg_u; split <;> rfl)]
                have := hts.push (i := 137) (v := tB false)
                rw [List.length_map, List.length_cons, hpl, ← hpn] at this
                exact this
              have hst : mst B tl key (t, S, o, b :: l, nn, true) = .inl (tgo B tl t, 11 :: S, o, false :: b :: l, (11 :: S).count 10, true) := by
                show (if t.1 = 3 ∧ B t.2.1 = 33 ∧ nn < 8 then _ else if t.1 = 3 ∧ B t.2.1 = 40 ∧ S.count 11 < 8 then _ else _) = _
                rw [if_neg (fun z => by omega), if_pos ⟨by omega, by omega, by omega⟩]
              refine me_goto k193_155 ?_
              refine me_aload_n (p' := 173) k193_172 rfl rfl ?_
              refine me_cv (p' := 176) k193_173 rfl rfl (by decide) rfl (by decide) (by decide) dp_198 rfl rfl (cl_le mx_198 rfl) (by decide) (cl_sum rfl) (ct_notsOpen hp2 (hS_c hS (by decide)) (by rw [List.length_cons]; have := hgw.1.1; have := hgw.2; have := hw3 (by omega); omega) ?_)
              refine me_istore_n (p' := 177) k193_176 rfl ⟨Nat.le_of_ble_eq_true rfl, rfl⟩ rfl ?_
              refine me_goto k193_177 ?_
              rw [mc_s hst] at h
              refine ih (tgo B tl t) (11 :: S) o false (b :: l) _ true K511 (pn + 1) h ((hz.tr (((mZf.u (by simp)).tr (mZf.u (by simp))).tr (mZf.u (by simp)))).tr (mZf.g hK511)) hT511 hp2 hna2 hts2 hgw.1 (hS_c hS (by decide)) (by rw [List.length_cons]; have := hgw.2; have := hw3 (by omega); omega) (by rw [List.count_cons_self]; omega) (by rw [List.length_cons, hpl, List.count_cons_self]) (by rw [List.count_cons_self, hpn]) (Nat.le_trans List.count_le_length (by rw [List.length_cons]; have := hgw.1.1; have := hgw.2; have := hw3 (by omega); omega)) _
          · skip
            rw [cI_eq (a := B t.2.1) (b := 40) (by omega) (by omega)] at c11
            refine me_aload_n (p' := 159) k193_158 rfl rfl ?_
            refine me_cv (p' := 162) k193_159 rfl rfl (by decide) rfl (by decide) (by decide) dp_194 rfl rfl (cl_le mx_194 rfl) (by decide) (cl_sum rfl) (ct_takesPart hTJ hk hw hp hna hkey hk3 hS hl (fun a ha K512 hz1 hk2 hp2 hna2 h137 => ?_) (fun ha => ?_))
            · skip
              have hn3 : ¬ (t.1 = 3 ∧ B t.2.1 = 33 ∧ nn < 8) := fun z => by omega
              have hn4 : ¬ (t.1 = 3 ∧ B t.2.1 = 40 ∧ S.count 11 < 8) := fun z => by omega
              have hst : mst B tl key (t, S, o, b :: l, nn, true) = .inl (tgo B tl t, (mcs 6 S (o ++ [a])).1, (mcs 6 S (o ++ [a])).2, b :: l, (mcs 6 S (o ++ [a])).1.count 10, false) := by
                show (if t.1 = 3 ∧ B t.2.1 = 33 ∧ nn < 8 then _ else if t.1 = 3 ∧ B t.2.1 = 40 ∧ S.count 11 < 8 then _ else match tAt B key t with | some a => _ | none => _) = _
                rw [if_neg hn3, if_neg hn4, ha]
              have ht1 : t.1 ≠ 0 := fun z => by unfold tAt tNm at ha; rw [if_neg (by omega), if_neg (by omega)] at ha; cases ha
              have hgw := tgo_wf (B := B) (tl := tl) hw
              have hlen := mcs_len (r := 6) S (o ++ [a])
              rw [List.length_append, List.length_singleton] at hlen
              have hlen2 : (mcs 6 S (o ++ [a])).1.length ≤ 96 ∧ (mcs 6 S (o ++ [a])).2.length + (mcs 6 S (o ++ [a])).1.length < (tgo B tl t).2.1 := by
                have := hgw.2
                have := hw3 ht1
                have := hgw.1.1
                exact ⟨by omega, by omega⟩
              refine me_if_eq (p' := 165) k193_162 rfl (fun h => absurd h (by decide)) (fun _ => ?_)
              refine me_iconst (p' := 166) k193_165 rfl (v := nI 0) (by decide) ?_
              refine me_istore_n (p' := 167) k193_166 rfl ⟨Nat.le_of_ble_eq_true rfl, rfl⟩ rfl ?_
              refine me_goto k193_167 ?_
              refine me_aload_n (p' := 173) k193_172 rfl rfl ?_
              refine me_cv (p' := 176) k193_173 rfl rfl (by decide) rfl (by decide) (by decide) dp_198 rfl rfl (cl_le mx_198 rfl) (by decide) (cl_sum rfl) (ct_notsOpen hp2 (mcs_in (r := 6) S (o ++ [a]) hS) (hlen2.1) ?_)
              refine me_istore_n (p' := 177) k193_176 rfl ⟨Nat.le_of_ble_eq_true rfl, rfl⟩ rfl ?_
              refine me_goto k193_177 ?_
              rw [mc_s hst] at h
              refine ih (tgo B tl t) (mcs 6 S (o ++ [a])).1 (mcs 6 S (o ++ [a])).2 b l _ false K512 pn h (hz.tr hz1) hk2 hp2 (by rw [tNa_mcs]; exact hna2) (by rw [show K512 137 = J 137 from funext h137]; exact hts) hgw.1 (mcs_in S _ hS) hlen2.2 (by rw [mcs_11]; exact hc8) (by rw [mcs_11]; exact hpl) (by rw [mcs_11]; exact hpn) (Nat.le_trans List.count_le_length hlen2.1) _
            · skip
              have hn3 : ¬ (t.1 = 3 ∧ B t.2.1 = 33 ∧ nn < 8) := fun z => by omega
              have hn4 : ¬ (t.1 = 3 ∧ B t.2.1 = 40 ∧ S.count 11 < 8) := fun z => by omega
              have hst : mst B tl key (t, S, o, b :: l, nn, true) = .inr (t.2.1, none) := by
                show (if t.1 = 3 ∧ B t.2.1 = 33 ∧ nn < 8 then _ else if t.1 = 3 ∧ B t.2.1 = 40 ∧ S.count 11 < 8 then _ else match tAt B key t with | some a => _ | none => _) = _
                rw [if_neg hn3, if_neg hn4, ha]
              refine me_if_eq (p' := 165) k193_162 rfl (fun _ => ?_) (fun h => absurd (by decide) h)
              refine me_iconst (p' := 171) k193_170 rfl (v := nI 0) (by decide) ?_
              refine me_reti k193_171 rt_193 (by decide) ?_
              have hr := mc_e hst h
              exact hF J t.2.1 hz hr hk.2.1
        · skip
          rw [cI_eq (a := t.1) (b := 3) (by omega) (by omega)] at c10
          refine me_aload_n (p' := 159) k193_158 rfl rfl ?_
          refine me_cv (p' := 162) k193_159 rfl rfl (by decide) rfl (by decide) (by decide) dp_194 rfl rfl (cl_le mx_194 rfl) (by decide) (cl_sum rfl) (ct_takesPart hTJ hk hw hp hna hkey hk3 hS hl (fun a ha K513 hz1 hk2 hp2 hna2 h137 => ?_) (fun ha => ?_))
          · skip
            have hn3 : ¬ (t.1 = 3 ∧ B t.2.1 = 33 ∧ nn < 8) := fun z => by omega
            have hn4 : ¬ (t.1 = 3 ∧ B t.2.1 = 40 ∧ S.count 11 < 8) := fun z => by omega
            have hst : mst B tl key (t, S, o, b :: l, nn, true) = .inl (tgo B tl t, (mcs 6 S (o ++ [a])).1, (mcs 6 S (o ++ [a])).2, b :: l, (mcs 6 S (o ++ [a])).1.count 10, false) := by
              show (if t.1 = 3 ∧ B t.2.1 = 33 ∧ nn < 8 then _ else if t.1 = 3 ∧ B t.2.1 = 40 ∧ S.count 11 < 8 then _ else match tAt B key t with | some a => _ | none => _) = _
              rw [if_neg hn3, if_neg hn4, ha]
            have ht1 : t.1 ≠ 0 := fun z => by unfold tAt tNm at ha; rw [if_neg (by omega), if_neg (by omega)] at ha; cases ha
            have hgw := tgo_wf (B := B) (tl := tl) hw
            have hlen := mcs_len (r := 6) S (o ++ [a])
            rw [List.length_append, List.length_singleton] at hlen
            have hlen2 : (mcs 6 S (o ++ [a])).1.length ≤ 96 ∧ (mcs 6 S (o ++ [a])).2.length + (mcs 6 S (o ++ [a])).1.length < (tgo B tl t).2.1 := by
              have := hgw.2
              have := hw3 ht1
              have := hgw.1.1
              exact ⟨by omega, by omega⟩
            refine me_if_eq (p' := 165) k193_162 rfl (fun h => absurd h (by decide)) (fun _ => ?_)
            refine me_iconst (p' := 166) k193_165 rfl (v := nI 0) (by decide) ?_
            refine me_istore_n (p' := 167) k193_166 rfl ⟨Nat.le_of_ble_eq_true rfl, rfl⟩ rfl ?_
            refine me_goto k193_167 ?_
            refine me_aload_n (p' := 173) k193_172 rfl rfl ?_
            refine me_cv (p' := 176) k193_173 rfl rfl (by decide) rfl (by decide) (by decide) dp_198 rfl rfl (cl_le mx_198 rfl) (by decide) (cl_sum rfl) (ct_notsOpen hp2 (mcs_in (r := 6) S (o ++ [a]) hS) (hlen2.1) ?_)
            refine me_istore_n (p' := 177) k193_176 rfl ⟨Nat.le_of_ble_eq_true rfl, rfl⟩ rfl ?_
            refine me_goto k193_177 ?_
            rw [mc_s hst] at h
            refine ih (tgo B tl t) (mcs 6 S (o ++ [a])).1 (mcs 6 S (o ++ [a])).2 b l _ false K513 pn h (hz.tr hz1) hk2 hp2 (by rw [tNa_mcs]; exact hna2) (by rw [show K513 137 = J 137 from funext h137]; exact hts) hgw.1 (mcs_in S _ hS) hlen2.2 (by rw [mcs_11]; exact hc8) (by rw [mcs_11]; exact hpl) (by rw [mcs_11]; exact hpn) (Nat.le_trans List.count_le_length hlen2.1) _
          · skip
            have hn3 : ¬ (t.1 = 3 ∧ B t.2.1 = 33 ∧ nn < 8) := fun z => by omega
            have hn4 : ¬ (t.1 = 3 ∧ B t.2.1 = 40 ∧ S.count 11 < 8) := fun z => by omega
            have hst : mst B tl key (t, S, o, b :: l, nn, true) = .inr (t.2.1, none) := by
              show (if t.1 = 3 ∧ B t.2.1 = 33 ∧ nn < 8 then _ else if t.1 = 3 ∧ B t.2.1 = 40 ∧ S.count 11 < 8 then _ else match tAt B key t with | some a => _ | none => _) = _
              rw [if_neg hn3, if_neg hn4, ha]
            refine me_if_eq (p' := 165) k193_162 rfl (fun _ => ?_) (fun h => absurd (by decide) h)
            refine me_iconst (p' := 171) k193_170 rfl (v := nI 0) (by decide) ?_
            refine me_reti k193_171 rt_193 (by decide) ?_
            have hr := mc_e hst h
            exact hF J t.2.1 hz hr hk.2.1
    | false =>
      show mj_Ev _ _ _ [.ref 127, .int (nI pn), .int (nI nn), .int (nI 0), u4] _ _ _
      refine me_iload_n (p' := 29) k193_28 rfl rfl ?_
      refine me_if_ne (p' := 32) k193_29 rfl (fun _ => ?_) (fun h => absurd (by decide) h)
      refine me_aload_n (p' := 33) k193_32 rfl rfl ?_
      refine me_gfi (p' := 36) k193_33 rfl (by decide) rfl rfl ?_
      rw [hk.2.2.1]
      refine me_if_eq (p' := 39) k193_36 rfl (fun c1 => ?_) (fun c1 => ?_)
      · skip
        rw [cI_eq0 (a := t.1) (by omega)] at c1
        refine me_aload_n (p' := 346) k193_345 rfl rfl ?_
        refine me_iconst (p' := 347) k193_346 rfl (v := nI 0) (by decide) ?_
        refine me_cv (p' := 350) k193_347 rfl rfl (by decide) rfl (by decide) (by decide) dp_196 rfl rfl (cl_le mx_196 rfl) (by decide) (cl_sum rfl) (ct_settle (by decide) hp hS (by omega) (fun K1 hK1 hp1 => ?_))
        have hst : mst B tl key (t, S, o, b :: l, nn, false) = .inr (t.2.1, if S.count 11 = 0 then some (mcs 0 S o).2 else none) := by
          show (if t.1 = 0 then _ else _) = _
          rw [if_pos (by omega)]
        refine me_iload_n (p' := 351) k193_350 rfl rfl ?_
        refine me_if_ne (p' := 354) k193_351 rfl (fun c2 => ?_) (fun c2 => ?_)
        · skip
          rw [cI_eq0 (a := pn) (by omega)] at c2
          refine me_iconst (p' := 355) k193_354 rfl (v := nI 1) (by decide) ?_
          refine me_goto k193_355 ?_
          refine me_reti k193_359 rt_193 (by decide) ?_
          rw [if_pos (by omega)] at hst
          have hr := mc_e hst h
          exact hOK _ _ _ hr (hz.tr (mZf.s hK1)) ⟨_, hp1⟩ ((hK1.2 18 (by decide) (by decide)).trans (by rw [tNa_mcs]; exact hna))
        · skip
          rw [cI_eq0 (a := pn) (by omega)] at c2
          refine me_iconst (p' := 359) k193_358 rfl (v := nI 0) (by decide) ?_
          refine me_reti k193_359 rt_193 (by decide) ?_
          rw [if_neg (by omega)] at hst
          have hr := mc_e hst h
          exact hF _ t.2.1 (hz.tr (mZf.s hK1)) hr ((hK1.2 9 (by decide) (by decide)).trans hk.2.1)
      · skip
        rw [cI_eq0 (a := t.1) (by omega)] at c1
        refine me_iload_n (p' := 40) k193_39 rfl rfl ?_
        refine me_if_eq (p' := 43) k193_40 rfl (fun _ => ?_) (fun h => absurd (by decide) h)
        refine me_aload_n (p' := 181) k193_180 rfl rfl ?_
        refine me_gfi (p' := 184) k193_181 rfl (by decide) rfl rfl ?_
        rw [hk.2.2.1]
        refine me_iconst (p' := 185) k193_184 rfl (v := nI 3) (by decide) ?_
        refine me_ic_ne (p' := 188) k193_185 rfl (fun c3 => ?_) (fun c3 => ?_)
        · skip
          rw [cI_eq (a := t.1) (b := 3) (by omega) (by omega)] at c3
          refine me_aload_n (p' := 189) k193_188 rfl rfl ?_
          refine me_gfi (p' := 192) k193_189 rfl (by decide) rfl rfl ?_
          rw [hk.2.2.2.1 (Or.inr (by omega))]
          have hB9 := (hTJ.2.2 t.2.1 (by have := hw3 (by omega); omega)).2
          refine me_bipush (p' := 194) k193_192 rfl (v := nI 41) (by decide) ?_
          refine me_ic_ne (p' := 197) k193_194 rfl (fun c4 => ?_) (fun c4 => ?_)
          · skip
            rw [cI_eq (a := B t.2.1) (b := 41) (by omega) (by omega)] at c4
            refine me_iload_n (p' := 198) k193_197 rfl rfl ?_
            refine me_if_le (p' := 201) k193_198 rfl (fun c5 => ?_) (fun c5 => ?_)
            · skip
              rw [cI_le0 (a := pn) (by omega)] at c5
              cases b
              · skip
                refine me_aload_n (p' := 238) k193_237 rfl rfl ?_
                refine me_cv (p' := 241) k193_238 rfl rfl (by decide) rfl (by decide) (by decide) dp_199 rfl rfl (cl_le mx_199 rfl) (by decide) (cl_sum rfl) (ct_signHere hTJ hk hw ?_)
                have hq9 := tS_r B t
                refine me_istore (p' := 243) k193_241 rfl ⟨Nat.le_of_ble_eq_true rfl, rfl⟩ rfl ?_
                refine me_iload (p' := 245) k193_243 rfl rfl ?_
                rcases Nat.eq_zero_or_pos (tS B t) with hq0 | hq0
                · skip
                  refine me_if_eq (p' := 248) k193_245 rfl (fun c6 => ?_) (fun c6 => ?_)
                  · skip
                    refine me_iconst (p' := 267) k193_266 rfl (v := nI 0) (by decide) ?_
                    refine me_reti k193_267 rt_193 (by decide) ?_
                    have hst : mst B tl key (t, S, o, false :: l, nn, false) = .inr (t.2.1, none) := by
                      show (if t.1 = 0 then _ else if t.1 = 3 ∧ B t.2.1 = 41 ∧ 0 < S.count 11 then _ else if tS B t = 0 ∨ (tRk (tS B t) = 3 ∧ false = true) then _ else _) = _
                      rw [if_neg (by omega), if_neg (fun z => by omega), if_pos (Or.inl hq0)]
                    have hr := mc_e hst h
                    exact hF J t.2.1 hz hr hk.2.1
                  · skip
                    exact absurd ((sg_neg _ (by omega)).2.mpr hq0) c6
                · skip
                  refine me_if_eq (p' := 248) k193_245 rfl (fun c7 => ?_) (fun c7 => ?_)
                  · skip
                    exact absurd ((sg_neg _ (by omega)).2.mp c7) (by omega)
                  · skip
                    refine me_iload (p' := 250) k193_248 rfl rfl ?_
                    refine me_cs (p' := 253) k193_250 rfl rfl rfl rfl rfl (cl_le mx_197 rfl) (by decide) (cl_sum rfl) (ct_rank (x := tS B t) (by omega) ?_)
                    have hr5 := (tRk_r (tS B t) (by omega)).2
                    refine me_iconst (p' := 254) k193_253 rfl (v := nI 3) (by decide) ?_
                    refine me_ic_ne (p' := 257) k193_254 rfl (fun c8 => ?_) (fun c8 => ?_)
                    · skip
                      rw [cI_eq (a := tRk (tS B t)) (b := 3) (by omega) (by omega)] at c8
                      refine me_aload_n (p' := 258) k193_257 rfl rfl ?_
                      refine me_gfr (p' := 261) k193_258 rfl (by decide) rfl (b := 137) rfl ?_
                      refine me_iload_n (p' := 262) k193_261 rfl rfl ?_
                      refine me_zald (p' := 263) k193_262 rfl (by decide) rfl (j := pn) rfl (by omega) (by decide) rfl ?_
                      rw [show J 137 pn = nI 0 from by have := hts.top; rw [List.length_map, hpl, ← hpn] at this; exact this]
                      refine me_if_eq (p' := 266) k193_263 rfl (fun _ => ?_) (fun h => absurd (by decide) h)
                      refine me_aload_n (p' := 269) k193_268 rfl rfl ?_
                      refine me_gfr (p' := 272) k193_269 rfl (by decide) rfl (b := 137) rfl ?_
                      refine me_iload_n (p' := 273) k193_272 rfl rfl ?_
                      refine me_iload (p' := 275) k193_273 rfl rfl ?_
                      refine me_cs (p' := 278) k193_275 rfl rfl rfl rfl rfl (cl_le mx_197 rfl) (by decide) (cl_sum rfl) (ct_rank (x := tS B t) (by omega) ?_)
                      have hr5 := (tRk_r (tS B t) (by omega)).2
                      refine me_iconst (p' := 279) k193_278 rfl (v := nI 3) (by decide) ?_
                      refine me_ic_eq (p' := 282) k193_279 rfl (fun c9 => ?_) (fun c9 => ?_)
                      · skip
                        rw [cI_eq (a := tRk (tS B t)) (b := 3) (by omega) (by omega)] at c9
                        refine me_iconst (p' := 301) k193_300 rfl (v := nI 1) (by decide) ?_
                        refine me_goto k193_301 ?_
                        refine me_zast (p' := 306) k193_305 rfl (by decide) rfl (j := pn) rfl (by omega) (by decide) rfl rfl ?_
                        refine me_aload_n (p' := 307) k193_306 rfl rfl ?_
                        refine me_iload (p' := 309) k193_307 rfl rfl ?_
                        refine me_cs (p' := 312) k193_309 rfl rfl rfl rfl rfl (cl_le mx_197 rfl) (by decide) (cl_sum rfl) (ct_rank (x := tS B t) (by omega) ?_)
                        have hr5 := (tRk_r (tS B t) (by omega)).2
                        refine me_cv (p' := 315) k193_312 rfl rfl (by decide) rfl (by decide) (by decide) dp_196 rfl rfl (cl_le mx_196 rfl) (by decide) (cl_sum rfl) (ct_settle (S := S) (o := o) (by omega) (hp.un (by decide)) hS (by omega) (fun K1 hK1 hp1 => ?_))
                        have ht3 := tS_3 (show tS B t ≠ 0 by omega)
                        have hln := mcs_len (r := tRk (tS B t)) S o
                        have hgw := tgo_wf (B := B) (tl := tl) hw
                        refine me_aload_n (p' := 316) k193_315 rfl rfl ?_
                        refine me_gfr (p' := 319) k193_316 rfl (by decide) rfl (b := 136) rfl ?_
                        refine me_aload_n (p' := 320) k193_319 rfl rfl ?_
                        refine me_gfi (p' := 323) k193_320 rfl (by decide) rfl rfl ?_
                        rw [hp1.1]
                        refine me_iload (p' := 325) k193_323 rfl rfl ?_
                        refine me_iast (p' := 326) k193_325 rfl (by decide) rfl (j := (mcs (tRk (tS B t)) S o).1.length) rfl (by omega) (by decide) rfl ?_
                        refine me_aload_n (p' := 327) k193_326 rfl rfl ?_
                        refine me_dup (p' := 328) k193_327 rfl rfl ?_
                        refine me_gfi (p' := 331) k193_328 rfl (by decide) rfl rfl ?_
                        rw [mg_un1 (by decide), hp1.1]
                        refine me_iconst (p' := 332) k193_331 rfl (v := nI 1) (by decide) ?_
                        refine me_iadd (p' := 333) k193_332 rfl (v := nI (((mcs (tRk (tS B t)) S o).1.length) + 1)) (mI_add _ _) ?_
                        refine me_pfi (p' := 336) k193_333 rfl (by decide) rfl rfl rfl rfl ?_
                        refine me_iconst (p' := 337) k193_336 rfl (v := nI 1) (by decide) ?_
                        refine me_istore_n (p' := 338) k193_337 rfl ⟨Nat.le_of_ble_eq_true rfl, rfl⟩ rfl ?_
                        refine me_aload_n (p' := 339) k193_338 rfl rfl ?_
                        refine me_cv (p' := 342) k193_339 rfl rfl (by decide) rfl (by decide) (by decide) dp_189 rfl rfl (cl_le mx_189 rfl) (by decide) (cl_sum rfl) (ct_go (B := B) (tl := tl) (a := t.2.2) (w := t.1 = 1 ∨ t.1 = 2) (hTJ.zf ((((mZf.u (i := 137) (by simp)).tr (mZf.s hK1)).tr ((mZf.u (by simp)).tr (mZf.u (by simp)))))) hw.2.1 ((mg_une (by decide)).trans ((mg_un1 (by decide)).trans ((hK1.2 8 (by decide) (by decide)).trans ((mg_un1 (by decide)).trans hk.1)))) ((hk.2.2.2.2.2 (by omega)).fr ((mg_une (by decide)).trans ((mg_un1 (by decide)).trans ((hK1.2 12 (by decide) (by decide)).trans (mg_un1 (by decide)))))) (fun K514 hK514 hT514 => ?_))
                        have hp5 : mPs K514 (tS B t :: (mcs (tRk (tS B t)) S o).1) (mcs (tRk (tS B t)) S o).2 := (hp1.push rfl).gf hK514
                        have hna5 : K514 127 18 = nI (tNa (mcs (tRk (tS B t)) S o).2) := by
                          rw [tNa_mcs]
                          exact (hK514.2 18 (by decide) (by decide) (by decide) (by decide) (by decide)).trans ((mg_une (by decide)).trans ((mg_un1 (by decide)).trans ((hK1.2 18 (by decide) (by decide)).trans ((mg_un1 (by decide)).trans hna))))
                        have hts5 : mStk (K514 137) ((true :: l).map tB) := by
                          rw [show K514 137 = mg_u J 137 pn (tB true) 137 from funext fun k => (hK514.1 137 k (by decide)).trans ((mg_un1 (by decide)).trans ((mg_un1 (by decide)).trans (hK1.1 137 k (by decide))))]
                          have := (mStk.tl hts).push (i := 137) (v := tB true)
                          rw [List.length_map, hpl, ← hpn] at this
                          exact this
                        have hbn : (decide (tRk (tS B t) = 3) || (decide (3 < tRk (tS B t)) && false)) = true := by
                          rw [decide_eq_true (by omega)]
                          rfl
                        have hst : mst B tl key (t, S, o, false :: l, nn, false) = .inl (tgo B tl t, tS B t :: (mcs (tRk (tS B t)) S o).1, (mcs (tRk (tS B t)) S o).2, true :: l, nn, true) := by
                          show (if t.1 = 0 then _ else if t.1 = 3 ∧ B t.2.1 = 41 ∧ 0 < S.count 11 then _ else if tS B t = 0 ∨ (tRk (tS B t) = 3 ∧ false = true) then _ else Sum.inl (tgo B tl t, tS B t :: (mcs (tRk (tS B t)) S o).1, (mcs (tRk (tS B t)) S o).2, (decide (tRk (tS B t) = 3) || (decide (3 < tRk (tS B t)) && false)) :: l, nn, true)) = _
                          rw [if_neg (by omega), if_neg (fun z => by omega), if_neg (fun z => z.elim (fun y => by omega) (fun y => absurd y.2 (by decide))), hbn]
                        refine me_goto k193_342 ?_
                        rw [mc_s hst] at h
                        refine ih (tgo B tl t) (tS B t :: (mcs (tRk (tS B t)) S o).1) (mcs (tRk (tS B t)) S o).2 _ l nn true K514 pn h ((hz.tr (((mZf.u (i := 137) (by simp)).tr (mZf.s hK1)).tr ((mZf.u (by simp)).tr (mZf.u (by simp))))).tr (mZf.g hK514)) hT514 hp5 hna5 hts5 hgw.1 (hS_c (mcs_in S _ hS) (by omega)) (by rw [List.length_cons]; have := hgw.2; have := hw3 (by omega); omega) (by rw [List.count_cons_of_ne (by omega), mcs_11]; exact hc8) (by rw [List.count_cons_of_ne (by omega), mcs_11]; exact hpl) (by rw [List.count_cons_of_ne (by omega), mcs_11]; exact hpn) hnn _
                      · skip
                        rw [cI_eq (a := tRk (tS B t)) (b := 3) (by omega) (by omega)] at c9
                        refine me_iload (p' := 284) k193_282 rfl rfl ?_
                        refine me_cs (p' := 287) k193_284 rfl rfl rfl rfl rfl (cl_le mx_197 rfl) (by decide) (cl_sum rfl) (ct_rank (x := tS B t) (by omega) ?_)
                        have hr5 := (tRk_r (tS B t) (by omega)).2
                        refine me_iconst (p' := 288) k193_287 rfl (v := nI 3) (by decide) ?_
                        refine me_ic_le (p' := 291) k193_288 rfl (fun c10 => ?_) (fun c10 => ?_)
                        · skip
                          rw [cI_le (a := tRk (tS B t)) (b := 3) (by omega) (by omega)] at c10
                          refine me_iconst (p' := 305) k193_304 rfl (v := nI 0) (by decide) ?_
                          refine me_zast (p' := 306) k193_305 rfl (by decide) rfl (j := pn) rfl (by omega) (by decide) rfl rfl ?_
                          refine me_aload_n (p' := 307) k193_306 rfl rfl ?_
                          refine me_iload (p' := 309) k193_307 rfl rfl ?_
                          refine me_cs (p' := 312) k193_309 rfl rfl rfl rfl rfl (cl_le mx_197 rfl) (by decide) (cl_sum rfl) (ct_rank (x := tS B t) (by omega) ?_)
                          have hr5 := (tRk_r (tS B t) (by omega)).2
                          refine me_cv (p' := 315) k193_312 rfl rfl (by decide) rfl (by decide) (by decide) dp_196 rfl rfl (cl_le mx_196 rfl) (by decide) (cl_sum rfl) (ct_settle (S := S) (o := o) (by omega) (hp.un (by decide)) hS (by omega) (fun K1 hK1 hp1 => ?_))
                          have ht3 := tS_3 (show tS B t ≠ 0 by omega)
                          have hln := mcs_len (r := tRk (tS B t)) S o
                          have hgw := tgo_wf (B := B) (tl := tl) hw
                          refine me_aload_n (p' := 316) k193_315 rfl rfl ?_
                          refine me_gfr (p' := 319) k193_316 rfl (by decide) rfl (b := 136) rfl ?_
                          refine me_aload_n (p' := 320) k193_319 rfl rfl ?_
                          refine me_gfi (p' := 323) k193_320 rfl (by decide) rfl rfl ?_
                          rw [hp1.1]
                          refine me_iload (p' := 325) k193_323 rfl rfl ?_
                          refine me_iast (p' := 326) k193_325 rfl (by decide) rfl (j := (mcs (tRk (tS B t)) S o).1.length) rfl (by omega) (by decide) rfl ?_
                          refine me_aload_n (p' := 327) k193_326 rfl rfl ?_
                          refine me_dup (p' := 328) k193_327 rfl rfl ?_
                          refine me_gfi (p' := 331) k193_328 rfl (by decide) rfl rfl ?_
                          rw [mg_un1 (by decide), hp1.1]
                          refine me_iconst (p' := 332) k193_331 rfl (v := nI 1) (by decide) ?_
                          refine me_iadd (p' := 333) k193_332 rfl (v := nI (((mcs (tRk (tS B t)) S o).1.length) + 1)) (mI_add _ _) ?_
                          refine me_pfi (p' := 336) k193_333 rfl (by decide) rfl rfl rfl rfl ?_
                          refine me_iconst (p' := 337) k193_336 rfl (v := nI 1) (by decide) ?_
                          refine me_istore_n (p' := 338) k193_337 rfl ⟨Nat.le_of_ble_eq_true rfl, rfl⟩ rfl ?_
                          refine me_aload_n (p' := 339) k193_338 rfl rfl ?_
                          refine me_cv (p' := 342) k193_339 rfl rfl (by decide) rfl (by decide) (by decide) dp_189 rfl rfl (cl_le mx_189 rfl) (by decide) (cl_sum rfl) (ct_go (B := B) (tl := tl) (a := t.2.2) (w := t.1 = 1 ∨ t.1 = 2) (hTJ.zf ((((mZf.u (i := 137) (by simp)).tr (mZf.s hK1)).tr ((mZf.u (by simp)).tr (mZf.u (by simp)))))) hw.2.1 ((mg_une (by decide)).trans ((mg_un1 (by decide)).trans ((hK1.2 8 (by decide) (by decide)).trans ((mg_un1 (by decide)).trans hk.1)))) ((hk.2.2.2.2.2 (by omega)).fr ((mg_une (by decide)).trans ((mg_un1 (by decide)).trans ((hK1.2 12 (by decide) (by decide)).trans (mg_un1 (by decide)))))) (fun K515 hK515 hT515 => ?_))
                          have hp5 : mPs K515 (tS B t :: (mcs (tRk (tS B t)) S o).1) (mcs (tRk (tS B t)) S o).2 := (hp1.push rfl).gf hK515
                          have hna5 : K515 127 18 = nI (tNa (mcs (tRk (tS B t)) S o).2) := by
                            rw [tNa_mcs]
                            exact (hK515.2 18 (by decide) (by decide) (by decide) (by decide) (by decide)).trans ((mg_une (by decide)).trans ((mg_un1 (by decide)).trans ((hK1.2 18 (by decide) (by decide)).trans ((mg_un1 (by decide)).trans hna))))
                          have hts5 : mStk (K515 137) ((false :: l).map tB) := by
                            rw [show K515 137 = mg_u J 137 pn (tB false) 137 from funext fun k => (hK515.1 137 k (by decide)).trans ((mg_un1 (by decide)).trans ((mg_un1 (by decide)).trans (hK1.1 137 k (by decide))))]
                            have := (mStk.tl hts).push (i := 137) (v := tB false)
                            rw [List.length_map, hpl, ← hpn] at this
                            exact this
                          have hbn : (decide (tRk (tS B t) = 3) || (decide (3 < tRk (tS B t)) && false)) = false := by
                            rw [decide_eq_false (by omega), Bool.and_false]
                            rfl
                          have hst : mst B tl key (t, S, o, false :: l, nn, false) = .inl (tgo B tl t, tS B t :: (mcs (tRk (tS B t)) S o).1, (mcs (tRk (tS B t)) S o).2, false :: l, nn, true) := by
                            show (if t.1 = 0 then _ else if t.1 = 3 ∧ B t.2.1 = 41 ∧ 0 < S.count 11 then _ else if tS B t = 0 ∨ (tRk (tS B t) = 3 ∧ false = true) then _ else Sum.inl (tgo B tl t, tS B t :: (mcs (tRk (tS B t)) S o).1, (mcs (tRk (tS B t)) S o).2, (decide (tRk (tS B t) = 3) || (decide (3 < tRk (tS B t)) && false)) :: l, nn, true)) = _
                            rw [if_neg (by omega), if_neg (fun z => by omega), if_neg (fun z => z.elim (fun y => by omega) (fun y => absurd y.2 (by decide))), hbn]
                          refine me_goto k193_342 ?_
                          rw [mc_s hst] at h
                          refine ih (tgo B tl t) (tS B t :: (mcs (tRk (tS B t)) S o).1) (mcs (tRk (tS B t)) S o).2 _ l nn true K515 pn h ((hz.tr (((mZf.u (i := 137) (by simp)).tr (mZf.s hK1)).tr ((mZf.u (by simp)).tr (mZf.u (by simp))))).tr (mZf.g hK515)) hT515 hp5 hna5 hts5 hgw.1 (hS_c (mcs_in S _ hS) (by omega)) (by rw [List.length_cons]; have := hgw.2; have := hw3 (by omega); omega) (by rw [List.count_cons_of_ne (by omega), mcs_11]; exact hc8) (by rw [List.count_cons_of_ne (by omega), mcs_11]; exact hpl) (by rw [List.count_cons_of_ne (by omega), mcs_11]; exact hpn) hnn _
                        · skip
                          rw [cI_le (a := tRk (tS B t)) (b := 3) (by omega) (by omega)] at c10
                          refine me_aload_n (p' := 292) k193_291 rfl rfl ?_
                          refine me_gfr (p' := 295) k193_292 rfl (by decide) rfl (b := 137) rfl ?_
                          refine me_iload_n (p' := 296) k193_295 rfl rfl ?_
                          refine me_zald (p' := 297) k193_296 rfl (by decide) rfl (j := pn) rfl (by omega) (by decide) rfl ?_
                          rw [show J 137 pn = nI 0 from by have := hts.top; rw [List.length_map, hpl, ← hpn] at this; exact this]
                          refine me_if_eq (p' := 300) k193_297 rfl (fun _ => ?_) (fun h => absurd (by decide) h)
                          refine me_iconst (p' := 305) k193_304 rfl (v := nI 0) (by decide) ?_
                          refine me_zast (p' := 306) k193_305 rfl (by decide) rfl (j := pn) rfl (by omega) (by decide) rfl rfl ?_
                          refine me_aload_n (p' := 307) k193_306 rfl rfl ?_
                          refine me_iload (p' := 309) k193_307 rfl rfl ?_
                          refine me_cs (p' := 312) k193_309 rfl rfl rfl rfl rfl (cl_le mx_197 rfl) (by decide) (cl_sum rfl) (ct_rank (x := tS B t) (by omega) ?_)
                          have hr5 := (tRk_r (tS B t) (by omega)).2
                          refine me_cv (p' := 315) k193_312 rfl rfl (by decide) rfl (by decide) (by decide) dp_196 rfl rfl (cl_le mx_196 rfl) (by decide) (cl_sum rfl) (ct_settle (S := S) (o := o) (by omega) (hp.un (by decide)) hS (by omega) (fun K1 hK1 hp1 => ?_))
                          have ht3 := tS_3 (show tS B t ≠ 0 by omega)
                          have hln := mcs_len (r := tRk (tS B t)) S o
                          have hgw := tgo_wf (B := B) (tl := tl) hw
                          refine me_aload_n (p' := 316) k193_315 rfl rfl ?_
                          refine me_gfr (p' := 319) k193_316 rfl (by decide) rfl (b := 136) rfl ?_
                          refine me_aload_n (p' := 320) k193_319 rfl rfl ?_
                          refine me_gfi (p' := 323) k193_320 rfl (by decide) rfl rfl ?_
                          rw [hp1.1]
                          refine me_iload (p' := 325) k193_323 rfl rfl ?_
                          refine me_iast (p' := 326) k193_325 rfl (by decide) rfl (j := (mcs (tRk (tS B t)) S o).1.length) rfl (by omega) (by decide) rfl ?_
                          refine me_aload_n (p' := 327) k193_326 rfl rfl ?_
                          refine me_dup (p' := 328) k193_327 rfl rfl ?_
                          refine me_gfi (p' := 331) k193_328 rfl (by decide) rfl rfl ?_
                          rw [mg_un1 (by decide), hp1.1]
                          refine me_iconst (p' := 332) k193_331 rfl (v := nI 1) (by decide) ?_
                          refine me_iadd (p' := 333) k193_332 rfl (v := nI (((mcs (tRk (tS B t)) S o).1.length) + 1)) (mI_add _ _) ?_
                          refine me_pfi (p' := 336) k193_333 rfl (by decide) rfl rfl rfl rfl ?_
                          refine me_iconst (p' := 337) k193_336 rfl (v := nI 1) (by decide) ?_
                          refine me_istore_n (p' := 338) k193_337 rfl ⟨Nat.le_of_ble_eq_true rfl, rfl⟩ rfl ?_
                          refine me_aload_n (p' := 339) k193_338 rfl rfl ?_
                          refine me_cv (p' := 342) k193_339 rfl rfl (by decide) rfl (by decide) (by decide) dp_189 rfl rfl (cl_le mx_189 rfl) (by decide) (cl_sum rfl) (ct_go (B := B) (tl := tl) (a := t.2.2) (w := t.1 = 1 ∨ t.1 = 2) (hTJ.zf ((((mZf.u (i := 137) (by simp)).tr (mZf.s hK1)).tr ((mZf.u (by simp)).tr (mZf.u (by simp)))))) hw.2.1 ((mg_une (by decide)).trans ((mg_un1 (by decide)).trans ((hK1.2 8 (by decide) (by decide)).trans ((mg_un1 (by decide)).trans hk.1)))) ((hk.2.2.2.2.2 (by omega)).fr ((mg_une (by decide)).trans ((mg_un1 (by decide)).trans ((hK1.2 12 (by decide) (by decide)).trans (mg_un1 (by decide)))))) (fun K516 hK516 hT516 => ?_))
                          have hp5 : mPs K516 (tS B t :: (mcs (tRk (tS B t)) S o).1) (mcs (tRk (tS B t)) S o).2 := (hp1.push rfl).gf hK516
                          have hna5 : K516 127 18 = nI (tNa (mcs (tRk (tS B t)) S o).2) := by
                            rw [tNa_mcs]
                            exact (hK516.2 18 (by decide) (by decide) (by decide) (by decide) (by decide)).trans ((mg_une (by decide)).trans ((mg_un1 (by decide)).trans ((hK1.2 18 (by decide) (by decide)).trans ((mg_un1 (by decide)).trans hna))))
                          have hts5 : mStk (K516 137) ((false :: l).map tB) := by
                            rw [show K516 137 = mg_u J 137 pn (tB false) 137 from funext fun k => (hK516.1 137 k (by decide)).trans ((mg_un1 (by decide)).trans ((mg_un1 (by decide)).trans (hK1.1 137 k (by decide))))]
                            have := (mStk.tl hts).push (i := 137) (v := tB false)
                            rw [List.length_map, hpl, ← hpn] at this
                            exact this
                          have hbn : (decide (tRk (tS B t) = 3) || (decide (3 < tRk (tS B t)) && false)) = false := by
                            rw [decide_eq_false (by omega), Bool.and_false]
                            rfl
                          have hst : mst B tl key (t, S, o, false :: l, nn, false) = .inl (tgo B tl t, tS B t :: (mcs (tRk (tS B t)) S o).1, (mcs (tRk (tS B t)) S o).2, false :: l, nn, true) := by
                            show (if t.1 = 0 then _ else if t.1 = 3 ∧ B t.2.1 = 41 ∧ 0 < S.count 11 then _ else if tS B t = 0 ∨ (tRk (tS B t) = 3 ∧ false = true) then _ else Sum.inl (tgo B tl t, tS B t :: (mcs (tRk (tS B t)) S o).1, (mcs (tRk (tS B t)) S o).2, (decide (tRk (tS B t) = 3) || (decide (3 < tRk (tS B t)) && false)) :: l, nn, true)) = _
                            rw [if_neg (by omega), if_neg (fun z => by omega), if_neg (fun z => z.elim (fun y => by omega) (fun y => absurd y.2 (by decide))), hbn]
                          refine me_goto k193_342 ?_
                          rw [mc_s hst] at h
                          refine ih (tgo B tl t) (tS B t :: (mcs (tRk (tS B t)) S o).1) (mcs (tRk (tS B t)) S o).2 _ l nn true K516 pn h ((hz.tr (((mZf.u (i := 137) (by simp)).tr (mZf.s hK1)).tr ((mZf.u (by simp)).tr (mZf.u (by simp))))).tr (mZf.g hK516)) hT516 hp5 hna5 hts5 hgw.1 (hS_c (mcs_in S _ hS) (by omega)) (by rw [List.length_cons]; have := hgw.2; have := hw3 (by omega); omega) (by rw [List.count_cons_of_ne (by omega), mcs_11]; exact hc8) (by rw [List.count_cons_of_ne (by omega), mcs_11]; exact hpl) (by rw [List.count_cons_of_ne (by omega), mcs_11]; exact hpn) hnn _
                    · skip
                      rw [cI_eq (a := tRk (tS B t)) (b := 3) (by omega) (by omega)] at c8
                      refine me_aload_n (p' := 269) k193_268 rfl rfl ?_
                      refine me_gfr (p' := 272) k193_269 rfl (by decide) rfl (b := 137) rfl ?_
                      refine me_iload_n (p' := 273) k193_272 rfl rfl ?_
                      refine me_iload (p' := 275) k193_273 rfl rfl ?_
                      refine me_cs (p' := 278) k193_275 rfl rfl rfl rfl rfl (cl_le mx_197 rfl) (by decide) (cl_sum rfl) (ct_rank (x := tS B t) (by omega) ?_)
                      have hr5 := (tRk_r (tS B t) (by omega)).2
                      refine me_iconst (p' := 279) k193_278 rfl (v := nI 3) (by decide) ?_
                      refine me_ic_eq (p' := 282) k193_279 rfl (fun c11 => ?_) (fun c11 => ?_)
                      · skip
                        rw [cI_eq (a := tRk (tS B t)) (b := 3) (by omega) (by omega)] at c11
                        refine me_iconst (p' := 301) k193_300 rfl (v := nI 1) (by decide) ?_
                        refine me_goto k193_301 ?_
                        refine me_zast (p' := 306) k193_305 rfl (by decide) rfl (j := pn) rfl (by omega) (by decide) rfl rfl ?_
                        refine me_aload_n (p' := 307) k193_306 rfl rfl ?_
                        refine me_iload (p' := 309) k193_307 rfl rfl ?_
                        refine me_cs (p' := 312) k193_309 rfl rfl rfl rfl rfl (cl_le mx_197 rfl) (by decide) (cl_sum rfl) (ct_rank (x := tS B t) (by omega) ?_)
                        have hr5 := (tRk_r (tS B t) (by omega)).2
                        refine me_cv (p' := 315) k193_312 rfl rfl (by decide) rfl (by decide) (by decide) dp_196 rfl rfl (cl_le mx_196 rfl) (by decide) (cl_sum rfl) (ct_settle (S := S) (o := o) (by omega) (hp.un (by decide)) hS (by omega) (fun K1 hK1 hp1 => ?_))
                        have ht3 := tS_3 (show tS B t ≠ 0 by omega)
                        have hln := mcs_len (r := tRk (tS B t)) S o
                        have hgw := tgo_wf (B := B) (tl := tl) hw
                        refine me_aload_n (p' := 316) k193_315 rfl rfl ?_
                        refine me_gfr (p' := 319) k193_316 rfl (by decide) rfl (b := 136) rfl ?_
                        refine me_aload_n (p' := 320) k193_319 rfl rfl ?_
                        refine me_gfi (p' := 323) k193_320 rfl (by decide) rfl rfl ?_
                        rw [hp1.1]
                        refine me_iload (p' := 325) k193_323 rfl rfl ?_
                        refine me_iast (p' := 326) k193_325 rfl (by decide) rfl (j := (mcs (tRk (tS B t)) S o).1.length) rfl (by omega) (by decide) rfl ?_
                        refine me_aload_n (p' := 327) k193_326 rfl rfl ?_
                        refine me_dup (p' := 328) k193_327 rfl rfl ?_
                        refine me_gfi (p' := 331) k193_328 rfl (by decide) rfl rfl ?_
                        rw [mg_un1 (by decide), hp1.1]
                        refine me_iconst (p' := 332) k193_331 rfl (v := nI 1) (by decide) ?_
                        refine me_iadd (p' := 333) k193_332 rfl (v := nI (((mcs (tRk (tS B t)) S o).1.length) + 1)) (mI_add _ _) ?_
                        refine me_pfi (p' := 336) k193_333 rfl (by decide) rfl rfl rfl rfl ?_
                        refine me_iconst (p' := 337) k193_336 rfl (v := nI 1) (by decide) ?_
                        refine me_istore_n (p' := 338) k193_337 rfl ⟨Nat.le_of_ble_eq_true rfl, rfl⟩ rfl ?_
                        refine me_aload_n (p' := 339) k193_338 rfl rfl ?_
                        refine me_cv (p' := 342) k193_339 rfl rfl (by decide) rfl (by decide) (by decide) dp_189 rfl rfl (cl_le mx_189 rfl) (by decide) (cl_sum rfl) (ct_go (B := B) (tl := tl) (a := t.2.2) (w := t.1 = 1 ∨ t.1 = 2) (hTJ.zf ((((mZf.u (i := 137) (by simp)).tr (mZf.s hK1)).tr ((mZf.u (by simp)).tr (mZf.u (by simp)))))) hw.2.1 ((mg_une (by decide)).trans ((mg_un1 (by decide)).trans ((hK1.2 8 (by decide) (by decide)).trans ((mg_un1 (by decide)).trans hk.1)))) ((hk.2.2.2.2.2 (by omega)).fr ((mg_une (by decide)).trans ((mg_un1 (by decide)).trans ((hK1.2 12 (by decide) (by decide)).trans (mg_un1 (by decide)))))) (fun K517 hK517 hT517 => ?_))
                        have hp5 : mPs K517 (tS B t :: (mcs (tRk (tS B t)) S o).1) (mcs (tRk (tS B t)) S o).2 := (hp1.push rfl).gf hK517
                        have hna5 : K517 127 18 = nI (tNa (mcs (tRk (tS B t)) S o).2) := by
                          rw [tNa_mcs]
                          exact (hK517.2 18 (by decide) (by decide) (by decide) (by decide) (by decide)).trans ((mg_une (by decide)).trans ((mg_un1 (by decide)).trans ((hK1.2 18 (by decide) (by decide)).trans ((mg_un1 (by decide)).trans hna))))
                        have hts5 : mStk (K517 137) ((true :: l).map tB) := by
                          rw [show K517 137 = mg_u J 137 pn (tB true) 137 from funext fun k => (hK517.1 137 k (by decide)).trans ((mg_un1 (by decide)).trans ((mg_un1 (by decide)).trans (hK1.1 137 k (by decide))))]
                          have := (mStk.tl hts).push (i := 137) (v := tB true)
                          rw [List.length_map, hpl, ← hpn] at this
                          exact this
                        have hbn : (decide (tRk (tS B t) = 3) || (decide (3 < tRk (tS B t)) && false)) = true := by
                          rw [decide_eq_true (by omega)]
                          rfl
                        have hst : mst B tl key (t, S, o, false :: l, nn, false) = .inl (tgo B tl t, tS B t :: (mcs (tRk (tS B t)) S o).1, (mcs (tRk (tS B t)) S o).2, true :: l, nn, true) := by
                          show (if t.1 = 0 then _ else if t.1 = 3 ∧ B t.2.1 = 41 ∧ 0 < S.count 11 then _ else if tS B t = 0 ∨ (tRk (tS B t) = 3 ∧ false = true) then _ else Sum.inl (tgo B tl t, tS B t :: (mcs (tRk (tS B t)) S o).1, (mcs (tRk (tS B t)) S o).2, (decide (tRk (tS B t) = 3) || (decide (3 < tRk (tS B t)) && false)) :: l, nn, true)) = _
                          rw [if_neg (by omega), if_neg (fun z => by omega), if_neg (fun z => z.elim (fun y => by omega) (fun y => absurd y.2 (by decide))), hbn]
                        refine me_goto k193_342 ?_
                        rw [mc_s hst] at h
                        refine ih (tgo B tl t) (tS B t :: (mcs (tRk (tS B t)) S o).1) (mcs (tRk (tS B t)) S o).2 _ l nn true K517 pn h ((hz.tr (((mZf.u (i := 137) (by simp)).tr (mZf.s hK1)).tr ((mZf.u (by simp)).tr (mZf.u (by simp))))).tr (mZf.g hK517)) hT517 hp5 hna5 hts5 hgw.1 (hS_c (mcs_in S _ hS) (by omega)) (by rw [List.length_cons]; have := hgw.2; have := hw3 (by omega); omega) (by rw [List.count_cons_of_ne (by omega), mcs_11]; exact hc8) (by rw [List.count_cons_of_ne (by omega), mcs_11]; exact hpl) (by rw [List.count_cons_of_ne (by omega), mcs_11]; exact hpn) hnn _
                      · skip
                        rw [cI_eq (a := tRk (tS B t)) (b := 3) (by omega) (by omega)] at c11
                        refine me_iload (p' := 284) k193_282 rfl rfl ?_
                        refine me_cs (p' := 287) k193_284 rfl rfl rfl rfl rfl (cl_le mx_197 rfl) (by decide) (cl_sum rfl) (ct_rank (x := tS B t) (by omega) ?_)
                        have hr5 := (tRk_r (tS B t) (by omega)).2
                        refine me_iconst (p' := 288) k193_287 rfl (v := nI 3) (by decide) ?_
                        refine me_ic_le (p' := 291) k193_288 rfl (fun c12 => ?_) (fun c12 => ?_)
                        · skip
                          rw [cI_le (a := tRk (tS B t)) (b := 3) (by omega) (by omega)] at c12
                          refine me_iconst (p' := 305) k193_304 rfl (v := nI 0) (by decide) ?_
                          refine me_zast (p' := 306) k193_305 rfl (by decide) rfl (j := pn) rfl (by omega) (by decide) rfl rfl ?_
                          refine me_aload_n (p' := 307) k193_306 rfl rfl ?_
                          refine me_iload (p' := 309) k193_307 rfl rfl ?_
                          refine me_cs (p' := 312) k193_309 rfl rfl rfl rfl rfl (cl_le mx_197 rfl) (by decide) (cl_sum rfl) (ct_rank (x := tS B t) (by omega) ?_)
                          have hr5 := (tRk_r (tS B t) (by omega)).2
                          refine me_cv (p' := 315) k193_312 rfl rfl (by decide) rfl (by decide) (by decide) dp_196 rfl rfl (cl_le mx_196 rfl) (by decide) (cl_sum rfl) (ct_settle (S := S) (o := o) (by omega) (hp.un (by decide)) hS (by omega) (fun K1 hK1 hp1 => ?_))
                          have ht3 := tS_3 (show tS B t ≠ 0 by omega)
                          have hln := mcs_len (r := tRk (tS B t)) S o
                          have hgw := tgo_wf (B := B) (tl := tl) hw
                          refine me_aload_n (p' := 316) k193_315 rfl rfl ?_
                          refine me_gfr (p' := 319) k193_316 rfl (by decide) rfl (b := 136) rfl ?_
                          refine me_aload_n (p' := 320) k193_319 rfl rfl ?_
                          refine me_gfi (p' := 323) k193_320 rfl (by decide) rfl rfl ?_
                          rw [hp1.1]
                          refine me_iload (p' := 325) k193_323 rfl rfl ?_
                          refine me_iast (p' := 326) k193_325 rfl (by decide) rfl (j := (mcs (tRk (tS B t)) S o).1.length) rfl (by omega) (by decide) rfl ?_
                          refine me_aload_n (p' := 327) k193_326 rfl rfl ?_
                          refine me_dup (p' := 328) k193_327 rfl rfl ?_
                          refine me_gfi (p' := 331) k193_328 rfl (by decide) rfl rfl ?_
                          rw [mg_un1 (by decide), hp1.1]
                          refine me_iconst (p' := 332) k193_331 rfl (v := nI 1) (by decide) ?_
                          refine me_iadd (p' := 333) k193_332 rfl (v := nI (((mcs (tRk (tS B t)) S o).1.length) + 1)) (mI_add _ _) ?_
                          refine me_pfi (p' := 336) k193_333 rfl (by decide) rfl rfl rfl rfl ?_
                          refine me_iconst (p' := 337) k193_336 rfl (v := nI 1) (by decide) ?_
                          refine me_istore_n (p' := 338) k193_337 rfl ⟨Nat.le_of_ble_eq_true rfl, rfl⟩ rfl ?_
                          refine me_aload_n (p' := 339) k193_338 rfl rfl ?_
                          refine me_cv (p' := 342) k193_339 rfl rfl (by decide) rfl (by decide) (by decide) dp_189 rfl rfl (cl_le mx_189 rfl) (by decide) (cl_sum rfl) (ct_go (B := B) (tl := tl) (a := t.2.2) (w := t.1 = 1 ∨ t.1 = 2) (hTJ.zf ((((mZf.u (i := 137) (by simp)).tr (mZf.s hK1)).tr ((mZf.u (by simp)).tr (mZf.u (by simp)))))) hw.2.1 ((mg_une (by decide)).trans ((mg_un1 (by decide)).trans ((hK1.2 8 (by decide) (by decide)).trans ((mg_un1 (by decide)).trans hk.1)))) ((hk.2.2.2.2.2 (by omega)).fr ((mg_une (by decide)).trans ((mg_un1 (by decide)).trans ((hK1.2 12 (by decide) (by decide)).trans (mg_un1 (by decide)))))) (fun K518 hK518 hT518 => ?_))
                          have hp5 : mPs K518 (tS B t :: (mcs (tRk (tS B t)) S o).1) (mcs (tRk (tS B t)) S o).2 := (hp1.push rfl).gf hK518
                          have hna5 : K518 127 18 = nI (tNa (mcs (tRk (tS B t)) S o).2) := by
                            rw [tNa_mcs]
                            exact (hK518.2 18 (by decide) (by decide) (by decide) (by decide) (by decide)).trans ((mg_une (by decide)).trans ((mg_un1 (by decide)).trans ((hK1.2 18 (by decide) (by decide)).trans ((mg_un1 (by decide)).trans hna))))
                          have hts5 : mStk (K518 137) ((false :: l).map tB) := by
                            rw [show K518 137 = mg_u J 137 pn (tB false) 137 from funext fun k => (hK518.1 137 k (by decide)).trans ((mg_un1 (by decide)).trans ((mg_un1 (by decide)).trans (hK1.1 137 k (by decide))))]
                            have := (mStk.tl hts).push (i := 137) (v := tB false)
                            rw [List.length_map, hpl, ← hpn] at this
                            exact this
                          have hbn : (decide (tRk (tS B t) = 3) || (decide (3 < tRk (tS B t)) && false)) = false := by
                            rw [decide_eq_false (by omega), Bool.and_false]
                            rfl
                          have hst : mst B tl key (t, S, o, false :: l, nn, false) = .inl (tgo B tl t, tS B t :: (mcs (tRk (tS B t)) S o).1, (mcs (tRk (tS B t)) S o).2, false :: l, nn, true) := by
                            show (if t.1 = 0 then _ else if t.1 = 3 ∧ B t.2.1 = 41 ∧ 0 < S.count 11 then _ else if tS B t = 0 ∨ (tRk (tS B t) = 3 ∧ false = true) then _ else Sum.inl (tgo B tl t, tS B t :: (mcs (tRk (tS B t)) S o).1, (mcs (tRk (tS B t)) S o).2, (decide (tRk (tS B t) = 3) || (decide (3 < tRk (tS B t)) && false)) :: l, nn, true)) = _
                            rw [if_neg (by omega), if_neg (fun z => by omega), if_neg (fun z => z.elim (fun y => by omega) (fun y => absurd y.2 (by decide))), hbn]
                          refine me_goto k193_342 ?_
                          rw [mc_s hst] at h
                          refine ih (tgo B tl t) (tS B t :: (mcs (tRk (tS B t)) S o).1) (mcs (tRk (tS B t)) S o).2 _ l nn true K518 pn h ((hz.tr (((mZf.u (i := 137) (by simp)).tr (mZf.s hK1)).tr ((mZf.u (by simp)).tr (mZf.u (by simp))))).tr (mZf.g hK518)) hT518 hp5 hna5 hts5 hgw.1 (hS_c (mcs_in S _ hS) (by omega)) (by rw [List.length_cons]; have := hgw.2; have := hw3 (by omega); omega) (by rw [List.count_cons_of_ne (by omega), mcs_11]; exact hc8) (by rw [List.count_cons_of_ne (by omega), mcs_11]; exact hpl) (by rw [List.count_cons_of_ne (by omega), mcs_11]; exact hpn) hnn _
                        · skip
                          rw [cI_le (a := tRk (tS B t)) (b := 3) (by omega) (by omega)] at c12
                          refine me_aload_n (p' := 292) k193_291 rfl rfl ?_
                          refine me_gfr (p' := 295) k193_292 rfl (by decide) rfl (b := 137) rfl ?_
                          refine me_iload_n (p' := 296) k193_295 rfl rfl ?_
                          refine me_zald (p' := 297) k193_296 rfl (by decide) rfl (j := pn) rfl (by omega) (by decide) rfl ?_
                          rw [show J 137 pn = nI 0 from by have := hts.top; rw [List.length_map, hpl, ← hpn] at this; exact this]
                          refine me_if_eq (p' := 300) k193_297 rfl (fun _ => ?_) (fun h => absurd (by decide) h)
                          refine me_iconst (p' := 305) k193_304 rfl (v := nI 0) (by decide) ?_
                          refine me_zast (p' := 306) k193_305 rfl (by decide) rfl (j := pn) rfl (by omega) (by decide) rfl rfl ?_
                          refine me_aload_n (p' := 307) k193_306 rfl rfl ?_
                          refine me_iload (p' := 309) k193_307 rfl rfl ?_
                          refine me_cs (p' := 312) k193_309 rfl rfl rfl rfl rfl (cl_le mx_197 rfl) (by decide) (cl_sum rfl) (ct_rank (x := tS B t) (by omega) ?_)
                          have hr5 := (tRk_r (tS B t) (by omega)).2
                          refine me_cv (p' := 315) k193_312 rfl rfl (by decide) rfl (by decide) (by decide) dp_196 rfl rfl (cl_le mx_196 rfl) (by decide) (cl_sum rfl) (ct_settle (S := S) (o := o) (by omega) (hp.un (by decide)) hS (by omega) (fun K1 hK1 hp1 => ?_))
                          have ht3 := tS_3 (show tS B t ≠ 0 by omega)
                          have hln := mcs_len (r := tRk (tS B t)) S o
                          have hgw := tgo_wf (B := B) (tl := tl) hw
                          refine me_aload_n (p' := 316) k193_315 rfl rfl ?_
                          refine me_gfr (p' := 319) k193_316 rfl (by decide) rfl (b := 136) rfl ?_
                          refine me_aload_n (p' := 320) k193_319 rfl rfl ?_
                          refine me_gfi (p' := 323) k193_320 rfl (by decide) rfl rfl ?_
                          rw [hp1.1]
                          refine me_iload (p' := 325) k193_323 rfl rfl ?_
                          refine me_iast (p' := 326) k193_325 rfl (by decide) rfl (j := (mcs (tRk (tS B t)) S o).1.length) rfl (by omega) (by decide) rfl ?_
                          refine me_aload_n (p' := 327) k193_326 rfl rfl ?_
                          refine me_dup (p' := 328) k193_327 rfl rfl ?_
                          refine me_gfi (p' := 331) k193_328 rfl (by decide) rfl rfl ?_
                          rw [mg_un1 (by decide), hp1.1]
                          refine me_iconst (p' := 332) k193_331 rfl (v := nI 1) (by decide) ?_
                          refine me_iadd (p' := 333) k193_332 rfl (v := nI (((mcs (tRk (tS B t)) S o).1.length) + 1)) (mI_add _ _) ?_
                          refine me_pfi (p' := 336) k193_333 rfl (by decide) rfl rfl rfl rfl ?_
                          refine me_iconst (p' := 337) k193_336 rfl (v := nI 1) (by decide) ?_
                          refine me_istore_n (p' := 338) k193_337 rfl ⟨Nat.le_of_ble_eq_true rfl, rfl⟩ rfl ?_
                          refine me_aload_n (p' := 339) k193_338 rfl rfl ?_
                          refine me_cv (p' := 342) k193_339 rfl rfl (by decide) rfl (by decide) (by decide) dp_189 rfl rfl (cl_le mx_189 rfl) (by decide) (cl_sum rfl) (ct_go (B := B) (tl := tl) (a := t.2.2) (w := t.1 = 1 ∨ t.1 = 2) (hTJ.zf ((((mZf.u (i := 137) (by simp)).tr (mZf.s hK1)).tr ((mZf.u (by simp)).tr (mZf.u (by simp)))))) hw.2.1 ((mg_une (by decide)).trans ((mg_un1 (by decide)).trans ((hK1.2 8 (by decide) (by decide)).trans ((mg_un1 (by decide)).trans hk.1)))) ((hk.2.2.2.2.2 (by omega)).fr ((mg_une (by decide)).trans ((mg_un1 (by decide)).trans ((hK1.2 12 (by decide) (by decide)).trans (mg_un1 (by decide)))))) (fun K519 hK519 hT519 => ?_))
                          have hp5 : mPs K519 (tS B t :: (mcs (tRk (tS B t)) S o).1) (mcs (tRk (tS B t)) S o).2 := (hp1.push rfl).gf hK519
                          have hna5 : K519 127 18 = nI (tNa (mcs (tRk (tS B t)) S o).2) := by
                            rw [tNa_mcs]
                            exact (hK519.2 18 (by decide) (by decide) (by decide) (by decide) (by decide)).trans ((mg_une (by decide)).trans ((mg_un1 (by decide)).trans ((hK1.2 18 (by decide) (by decide)).trans ((mg_un1 (by decide)).trans hna))))
                          have hts5 : mStk (K519 137) ((false :: l).map tB) := by
                            rw [show K519 137 = mg_u J 137 pn (tB false) 137 from funext fun k => (hK519.1 137 k (by decide)).trans ((mg_un1 (by decide)).trans ((mg_un1 (by decide)).trans (hK1.1 137 k (by decide))))]
                            have := (mStk.tl hts).push (i := 137) (v := tB false)
                            rw [List.length_map, hpl, ← hpn] at this
                            exact this
                          have hbn : (decide (tRk (tS B t) = 3) || (decide (3 < tRk (tS B t)) && false)) = false := by
                            rw [decide_eq_false (by omega), Bool.and_false]
                            rfl
                          have hst : mst B tl key (t, S, o, false :: l, nn, false) = .inl (tgo B tl t, tS B t :: (mcs (tRk (tS B t)) S o).1, (mcs (tRk (tS B t)) S o).2, false :: l, nn, true) := by
                            show (if t.1 = 0 then _ else if t.1 = 3 ∧ B t.2.1 = 41 ∧ 0 < S.count 11 then _ else if tS B t = 0 ∨ (tRk (tS B t) = 3 ∧ false = true) then _ else Sum.inl (tgo B tl t, tS B t :: (mcs (tRk (tS B t)) S o).1, (mcs (tRk (tS B t)) S o).2, (decide (tRk (tS B t) = 3) || (decide (3 < tRk (tS B t)) && false)) :: l, nn, true)) = _
                            rw [if_neg (by omega), if_neg (fun z => by omega), if_neg (fun z => z.elim (fun y => by omega) (fun y => absurd y.2 (by decide))), hbn]
                          refine me_goto k193_342 ?_
                          rw [mc_s hst] at h
                          refine ih (tgo B tl t) (tS B t :: (mcs (tRk (tS B t)) S o).1) (mcs (tRk (tS B t)) S o).2 _ l nn true K519 pn h ((hz.tr (((mZf.u (i := 137) (by simp)).tr (mZf.s hK1)).tr ((mZf.u (by simp)).tr (mZf.u (by simp))))).tr (mZf.g hK519)) hT519 hp5 hna5 hts5 hgw.1 (hS_c (mcs_in S _ hS) (by omega)) (by rw [List.length_cons]; have := hgw.2; have := hw3 (by omega); omega) (by rw [List.count_cons_of_ne (by omega), mcs_11]; exact hc8) (by rw [List.count_cons_of_ne (by omega), mcs_11]; exact hpl) (by rw [List.count_cons_of_ne (by omega), mcs_11]; exact hpn) hnn _
              · skip
                refine me_aload_n (p' := 238) k193_237 rfl rfl ?_
                refine me_cv (p' := 241) k193_238 rfl rfl (by decide) rfl (by decide) (by decide) dp_199 rfl rfl (cl_le mx_199 rfl) (by decide) (cl_sum rfl) (ct_signHere hTJ hk hw ?_)
                have hq9 := tS_r B t
                refine me_istore (p' := 243) k193_241 rfl ⟨Nat.le_of_ble_eq_true rfl, rfl⟩ rfl ?_
                refine me_iload (p' := 245) k193_243 rfl rfl ?_
                rcases Nat.eq_zero_or_pos (tS B t) with hq0 | hq0
                · skip
                  refine me_if_eq (p' := 248) k193_245 rfl (fun c13 => ?_) (fun c13 => ?_)
                  · skip
                    refine me_iconst (p' := 267) k193_266 rfl (v := nI 0) (by decide) ?_
                    refine me_reti k193_267 rt_193 (by decide) ?_
                    have hst : mst B tl key (t, S, o, true :: l, nn, false) = .inr (t.2.1, none) := by
                      show (if t.1 = 0 then _ else if t.1 = 3 ∧ B t.2.1 = 41 ∧ 0 < S.count 11 then _ else if tS B t = 0 ∨ (tRk (tS B t) = 3 ∧ true = true) then _ else _) = _
                      rw [if_neg (by omega), if_neg (fun z => by omega), if_pos (Or.inl hq0)]
                    have hr := mc_e hst h
                    exact hF J t.2.1 hz hr hk.2.1
                  · skip
                    exact absurd ((sg_neg _ (by omega)).2.mpr hq0) c13
                · skip
                  refine me_if_eq (p' := 248) k193_245 rfl (fun c14 => ?_) (fun c14 => ?_)
                  · skip
                    exact absurd ((sg_neg _ (by omega)).2.mp c14) (by omega)
                  · skip
                    refine me_iload (p' := 250) k193_248 rfl rfl ?_
                    refine me_cs (p' := 253) k193_250 rfl rfl rfl rfl rfl (cl_le mx_197 rfl) (by decide) (cl_sum rfl) (ct_rank (x := tS B t) (by omega) ?_)
                    have hr5 := (tRk_r (tS B t) (by omega)).2
                    refine me_iconst (p' := 254) k193_253 rfl (v := nI 3) (by decide) ?_
                    refine me_ic_ne (p' := 257) k193_254 rfl (fun c15 => ?_) (fun c15 => ?_)
                    · skip
                      rw [cI_eq (a := tRk (tS B t)) (b := 3) (by omega) (by omega)] at c15
                      refine me_aload_n (p' := 258) k193_257 rfl rfl ?_
                      refine me_gfr (p' := 261) k193_258 rfl (by decide) rfl (b := 137) rfl ?_
                      refine me_iload_n (p' := 262) k193_261 rfl rfl ?_
                      refine me_zald (p' := 263) k193_262 rfl (by decide) rfl (j := pn) rfl (by omega) (by decide) rfl ?_
                      rw [show J 137 pn = nI 1 from by have := hts.top; rw [List.length_map, hpl, ← hpn] at this; exact this]
                      refine me_if_eq (p' := 266) k193_263 rfl (fun h => absurd h (by decide)) (fun _ => ?_)
                      refine me_iconst (p' := 267) k193_266 rfl (v := nI 0) (by decide) ?_
                      refine me_reti k193_267 rt_193 (by decide) ?_
                      have hst : mst B tl key (t, S, o, true :: l, nn, false) = .inr (t.2.1, none) := by
                        show (if t.1 = 0 then _ else if t.1 = 3 ∧ B t.2.1 = 41 ∧ 0 < S.count 11 then _ else if tS B t = 0 ∨ (tRk (tS B t) = 3 ∧ true = true) then _ else _) = _
                        rw [if_neg (by omega), if_neg (fun z => by omega), if_pos (Or.inr ⟨by omega, rfl⟩)]
                      have hr := mc_e hst h
                      exact hF J t.2.1 hz hr hk.2.1
                    · skip
                      rw [cI_eq (a := tRk (tS B t)) (b := 3) (by omega) (by omega)] at c15
                      refine me_aload_n (p' := 269) k193_268 rfl rfl ?_
                      refine me_gfr (p' := 272) k193_269 rfl (by decide) rfl (b := 137) rfl ?_
                      refine me_iload_n (p' := 273) k193_272 rfl rfl ?_
                      refine me_iload (p' := 275) k193_273 rfl rfl ?_
                      refine me_cs (p' := 278) k193_275 rfl rfl rfl rfl rfl (cl_le mx_197 rfl) (by decide) (cl_sum rfl) (ct_rank (x := tS B t) (by omega) ?_)
                      have hr5 := (tRk_r (tS B t) (by omega)).2
                      refine me_iconst (p' := 279) k193_278 rfl (v := nI 3) (by decide) ?_
                      refine me_ic_eq (p' := 282) k193_279 rfl (fun c16 => ?_) (fun c16 => ?_)
                      · skip
                        rw [cI_eq (a := tRk (tS B t)) (b := 3) (by omega) (by omega)] at c16
                        refine me_iconst (p' := 301) k193_300 rfl (v := nI 1) (by decide) ?_
                        refine me_goto k193_301 ?_
                        refine me_zast (p' := 306) k193_305 rfl (by decide) rfl (j := pn) rfl (by omega) (by decide) rfl rfl ?_
                        refine me_aload_n (p' := 307) k193_306 rfl rfl ?_
                        refine me_iload (p' := 309) k193_307 rfl rfl ?_
                        refine me_cs (p' := 312) k193_309 rfl rfl rfl rfl rfl (cl_le mx_197 rfl) (by decide) (cl_sum rfl) (ct_rank (x := tS B t) (by omega) ?_)
                        have hr5 := (tRk_r (tS B t) (by omega)).2
                        refine me_cv (p' := 315) k193_312 rfl rfl (by decide) rfl (by decide) (by decide) dp_196 rfl rfl (cl_le mx_196 rfl) (by decide) (cl_sum rfl) (ct_settle (S := S) (o := o) (by omega) (hp.un (by decide)) hS (by omega) (fun K1 hK1 hp1 => ?_))
                        have ht3 := tS_3 (show tS B t ≠ 0 by omega)
                        have hln := mcs_len (r := tRk (tS B t)) S o
                        have hgw := tgo_wf (B := B) (tl := tl) hw
                        refine me_aload_n (p' := 316) k193_315 rfl rfl ?_
                        refine me_gfr (p' := 319) k193_316 rfl (by decide) rfl (b := 136) rfl ?_
                        refine me_aload_n (p' := 320) k193_319 rfl rfl ?_
                        refine me_gfi (p' := 323) k193_320 rfl (by decide) rfl rfl ?_
                        rw [hp1.1]
                        refine me_iload (p' := 325) k193_323 rfl rfl ?_
                        refine me_iast (p' := 326) k193_325 rfl (by decide) rfl (j := (mcs (tRk (tS B t)) S o).1.length) rfl (by omega) (by decide) rfl ?_
                        refine me_aload_n (p' := 327) k193_326 rfl rfl ?_
                        refine me_dup (p' := 328) k193_327 rfl rfl ?_
                        refine me_gfi (p' := 331) k193_328 rfl (by decide) rfl rfl ?_
                        rw [mg_un1 (by decide), hp1.1]
                        refine me_iconst (p' := 332) k193_331 rfl (v := nI 1) (by decide) ?_
                        refine me_iadd (p' := 333) k193_332 rfl (v := nI (((mcs (tRk (tS B t)) S o).1.length) + 1)) (mI_add _ _) ?_
                        refine me_pfi (p' := 336) k193_333 rfl (by decide) rfl rfl rfl rfl ?_
                        refine me_iconst (p' := 337) k193_336 rfl (v := nI 1) (by decide) ?_
                        refine me_istore_n (p' := 338) k193_337 rfl ⟨Nat.le_of_ble_eq_true rfl, rfl⟩ rfl ?_
                        refine me_aload_n (p' := 339) k193_338 rfl rfl ?_
                        refine me_cv (p' := 342) k193_339 rfl rfl (by decide) rfl (by decide) (by decide) dp_189 rfl rfl (cl_le mx_189 rfl) (by decide) (cl_sum rfl) (ct_go (B := B) (tl := tl) (a := t.2.2) (w := t.1 = 1 ∨ t.1 = 2) (hTJ.zf ((((mZf.u (i := 137) (by simp)).tr (mZf.s hK1)).tr ((mZf.u (by simp)).tr (mZf.u (by simp)))))) hw.2.1 ((mg_une (by decide)).trans ((mg_un1 (by decide)).trans ((hK1.2 8 (by decide) (by decide)).trans ((mg_un1 (by decide)).trans hk.1)))) ((hk.2.2.2.2.2 (by omega)).fr ((mg_une (by decide)).trans ((mg_un1 (by decide)).trans ((hK1.2 12 (by decide) (by decide)).trans (mg_un1 (by decide)))))) (fun K520 hK520 hT520 => ?_))
                        have hp5 : mPs K520 (tS B t :: (mcs (tRk (tS B t)) S o).1) (mcs (tRk (tS B t)) S o).2 := (hp1.push rfl).gf hK520
                        have hna5 : K520 127 18 = nI (tNa (mcs (tRk (tS B t)) S o).2) := by
                          rw [tNa_mcs]
                          exact (hK520.2 18 (by decide) (by decide) (by decide) (by decide) (by decide)).trans ((mg_une (by decide)).trans ((mg_un1 (by decide)).trans ((hK1.2 18 (by decide) (by decide)).trans ((mg_un1 (by decide)).trans hna))))
                        have hts5 : mStk (K520 137) ((true :: l).map tB) := by
                          rw [show K520 137 = mg_u J 137 pn (tB true) 137 from funext fun k => (hK520.1 137 k (by decide)).trans ((mg_un1 (by decide)).trans ((mg_un1 (by decide)).trans (hK1.1 137 k (by decide))))]
                          have := (mStk.tl hts).push (i := 137) (v := tB true)
                          rw [List.length_map, hpl, ← hpn] at this
                          exact this
                        have hbn : (decide (tRk (tS B t) = 3) || (decide (3 < tRk (tS B t)) && true)) = true := by
                          by_cases z : tRk (tS B t) = 3
                          · rw [decide_eq_true z]
                            rfl
                          · rw [decide_eq_false z, decide_eq_true (by omega)]
                            rfl
                        have hst : mst B tl key (t, S, o, true :: l, nn, false) = .inl (tgo B tl t, tS B t :: (mcs (tRk (tS B t)) S o).1, (mcs (tRk (tS B t)) S o).2, true :: l, nn, true) := by
                          show (if t.1 = 0 then _ else if t.1 = 3 ∧ B t.2.1 = 41 ∧ 0 < S.count 11 then _ else if tS B t = 0 ∨ (tRk (tS B t) = 3 ∧ true = true) then _ else Sum.inl (tgo B tl t, tS B t :: (mcs (tRk (tS B t)) S o).1, (mcs (tRk (tS B t)) S o).2, (decide (tRk (tS B t) = 3) || (decide (3 < tRk (tS B t)) && true)) :: l, nn, true)) = _
                          rw [if_neg (by omega), if_neg (fun z => by omega), if_neg (fun z => z.elim (fun y => by omega) (fun y => by omega)), hbn]
                        refine me_goto k193_342 ?_
                        rw [mc_s hst] at h
                        refine ih (tgo B tl t) (tS B t :: (mcs (tRk (tS B t)) S o).1) (mcs (tRk (tS B t)) S o).2 _ l nn true K520 pn h ((hz.tr (((mZf.u (i := 137) (by simp)).tr (mZf.s hK1)).tr ((mZf.u (by simp)).tr (mZf.u (by simp))))).tr (mZf.g hK520)) hT520 hp5 hna5 hts5 hgw.1 (hS_c (mcs_in S _ hS) (by omega)) (by rw [List.length_cons]; have := hgw.2; have := hw3 (by omega); omega) (by rw [List.count_cons_of_ne (by omega), mcs_11]; exact hc8) (by rw [List.count_cons_of_ne (by omega), mcs_11]; exact hpl) (by rw [List.count_cons_of_ne (by omega), mcs_11]; exact hpn) hnn _
                      · skip
                        rw [cI_eq (a := tRk (tS B t)) (b := 3) (by omega) (by omega)] at c16
                        refine me_iload (p' := 284) k193_282 rfl rfl ?_
                        refine me_cs (p' := 287) k193_284 rfl rfl rfl rfl rfl (cl_le mx_197 rfl) (by decide) (cl_sum rfl) (ct_rank (x := tS B t) (by omega) ?_)
                        have hr5 := (tRk_r (tS B t) (by omega)).2
                        refine me_iconst (p' := 288) k193_287 rfl (v := nI 3) (by decide) ?_
                        refine me_ic_le (p' := 291) k193_288 rfl (fun c17 => ?_) (fun c17 => ?_)
                        · skip
                          rw [cI_le (a := tRk (tS B t)) (b := 3) (by omega) (by omega)] at c17
                          refine me_iconst (p' := 305) k193_304 rfl (v := nI 0) (by decide) ?_
                          refine me_zast (p' := 306) k193_305 rfl (by decide) rfl (j := pn) rfl (by omega) (by decide) rfl rfl ?_
                          refine me_aload_n (p' := 307) k193_306 rfl rfl ?_
                          refine me_iload (p' := 309) k193_307 rfl rfl ?_
                          refine me_cs (p' := 312) k193_309 rfl rfl rfl rfl rfl (cl_le mx_197 rfl) (by decide) (cl_sum rfl) (ct_rank (x := tS B t) (by omega) ?_)
                          have hr5 := (tRk_r (tS B t) (by omega)).2
                          refine me_cv (p' := 315) k193_312 rfl rfl (by decide) rfl (by decide) (by decide) dp_196 rfl rfl (cl_le mx_196 rfl) (by decide) (cl_sum rfl) (ct_settle (S := S) (o := o) (by omega) (hp.un (by decide)) hS (by omega) (fun K1 hK1 hp1 => ?_))
                          have ht3 := tS_3 (show tS B t ≠ 0 by omega)
                          have hln := mcs_len (r := tRk (tS B t)) S o
                          have hgw := tgo_wf (B := B) (tl := tl) hw
                          refine me_aload_n (p' := 316) k193_315 rfl rfl ?_
                          refine me_gfr (p' := 319) k193_316 rfl (by decide) rfl (b := 136) rfl ?_
                          refine me_aload_n (p' := 320) k193_319 rfl rfl ?_
                          refine me_gfi (p' := 323) k193_320 rfl (by decide) rfl rfl ?_
                          rw [hp1.1]
                          refine me_iload (p' := 325) k193_323 rfl rfl ?_
                          refine me_iast (p' := 326) k193_325 rfl (by decide) rfl (j := (mcs (tRk (tS B t)) S o).1.length) rfl (by omega) (by decide) rfl ?_
                          refine me_aload_n (p' := 327) k193_326 rfl rfl ?_
                          refine me_dup (p' := 328) k193_327 rfl rfl ?_
                          refine me_gfi (p' := 331) k193_328 rfl (by decide) rfl rfl ?_
                          rw [mg_un1 (by decide), hp1.1]
                          refine me_iconst (p' := 332) k193_331 rfl (v := nI 1) (by decide) ?_
                          refine me_iadd (p' := 333) k193_332 rfl (v := nI (((mcs (tRk (tS B t)) S o).1.length) + 1)) (mI_add _ _) ?_
                          refine me_pfi (p' := 336) k193_333 rfl (by decide) rfl rfl rfl rfl ?_
                          refine me_iconst (p' := 337) k193_336 rfl (v := nI 1) (by decide) ?_
                          refine me_istore_n (p' := 338) k193_337 rfl ⟨Nat.le_of_ble_eq_true rfl, rfl⟩ rfl ?_
                          refine me_aload_n (p' := 339) k193_338 rfl rfl ?_
                          refine me_cv (p' := 342) k193_339 rfl rfl (by decide) rfl (by decide) (by decide) dp_189 rfl rfl (cl_le mx_189 rfl) (by decide) (cl_sum rfl) (ct_go (B := B) (tl := tl) (a := t.2.2) (w := t.1 = 1 ∨ t.1 = 2) (hTJ.zf ((((mZf.u (i := 137) (by simp)).tr (mZf.s hK1)).tr ((mZf.u (by simp)).tr (mZf.u (by simp)))))) hw.2.1 ((mg_une (by decide)).trans ((mg_un1 (by decide)).trans ((hK1.2 8 (by decide) (by decide)).trans ((mg_un1 (by decide)).trans hk.1)))) ((hk.2.2.2.2.2 (by omega)).fr ((mg_une (by decide)).trans ((mg_un1 (by decide)).trans ((hK1.2 12 (by decide) (by decide)).trans (mg_un1 (by decide)))))) (fun K521 hK521 hT521 => ?_))
                          have hp5 : mPs K521 (tS B t :: (mcs (tRk (tS B t)) S o).1) (mcs (tRk (tS B t)) S o).2 := (hp1.push rfl).gf hK521
                          have hna5 : K521 127 18 = nI (tNa (mcs (tRk (tS B t)) S o).2) := by
                            rw [tNa_mcs]
                            exact (hK521.2 18 (by decide) (by decide) (by decide) (by decide) (by decide)).trans ((mg_une (by decide)).trans ((mg_un1 (by decide)).trans ((hK1.2 18 (by decide) (by decide)).trans ((mg_un1 (by decide)).trans hna))))
                          have hts5 : mStk (K521 137) ((false :: l).map tB) := by
                            rw [show K521 137 = mg_u J 137 pn (tB false) 137 from funext fun k => (hK521.1 137 k (by decide)).trans ((mg_un1 (by decide)).trans ((mg_un1 (by decide)).trans (hK1.1 137 k (by decide))))]
                            have := (mStk.tl hts).push (i := 137) (v := tB false)
                            rw [List.length_map, hpl, ← hpn] at this
                            exact this
                          have hbn : (decide (tRk (tS B t) = 3) || (decide (3 < tRk (tS B t)) && true)) = false := by
                            rw [decide_eq_false (by omega), decide_eq_false (by omega)]
                            rfl
                          have hst : mst B tl key (t, S, o, true :: l, nn, false) = .inl (tgo B tl t, tS B t :: (mcs (tRk (tS B t)) S o).1, (mcs (tRk (tS B t)) S o).2, false :: l, nn, true) := by
                            show (if t.1 = 0 then _ else if t.1 = 3 ∧ B t.2.1 = 41 ∧ 0 < S.count 11 then _ else if tS B t = 0 ∨ (tRk (tS B t) = 3 ∧ true = true) then _ else Sum.inl (tgo B tl t, tS B t :: (mcs (tRk (tS B t)) S o).1, (mcs (tRk (tS B t)) S o).2, (decide (tRk (tS B t) = 3) || (decide (3 < tRk (tS B t)) && true)) :: l, nn, true)) = _
                            rw [if_neg (by omega), if_neg (fun z => by omega), if_neg (fun z => z.elim (fun y => by omega) (fun y => by omega)), hbn]
                          refine me_goto k193_342 ?_
                          rw [mc_s hst] at h
                          refine ih (tgo B tl t) (tS B t :: (mcs (tRk (tS B t)) S o).1) (mcs (tRk (tS B t)) S o).2 _ l nn true K521 pn h ((hz.tr (((mZf.u (i := 137) (by simp)).tr (mZf.s hK1)).tr ((mZf.u (by simp)).tr (mZf.u (by simp))))).tr (mZf.g hK521)) hT521 hp5 hna5 hts5 hgw.1 (hS_c (mcs_in S _ hS) (by omega)) (by rw [List.length_cons]; have := hgw.2; have := hw3 (by omega); omega) (by rw [List.count_cons_of_ne (by omega), mcs_11]; exact hc8) (by rw [List.count_cons_of_ne (by omega), mcs_11]; exact hpl) (by rw [List.count_cons_of_ne (by omega), mcs_11]; exact hpn) hnn _
                        · skip
                          rw [cI_le (a := tRk (tS B t)) (b := 3) (by omega) (by omega)] at c17
                          refine me_aload_n (p' := 292) k193_291 rfl rfl ?_
                          refine me_gfr (p' := 295) k193_292 rfl (by decide) rfl (b := 137) rfl ?_
                          refine me_iload_n (p' := 296) k193_295 rfl rfl ?_
                          refine me_zald (p' := 297) k193_296 rfl (by decide) rfl (j := pn) rfl (by omega) (by decide) rfl ?_
                          rw [show J 137 pn = nI 1 from by have := hts.top; rw [List.length_map, hpl, ← hpn] at this; exact this]
                          refine me_if_eq (p' := 300) k193_297 rfl (fun h => absurd h (by decide)) (fun _ => ?_)
                          refine me_iconst (p' := 301) k193_300 rfl (v := nI 1) (by decide) ?_
                          refine me_goto k193_301 ?_
                          refine me_zast (p' := 306) k193_305 rfl (by decide) rfl (j := pn) rfl (by omega) (by decide) rfl rfl ?_
                          refine me_aload_n (p' := 307) k193_306 rfl rfl ?_
                          refine me_iload (p' := 309) k193_307 rfl rfl ?_
                          refine me_cs (p' := 312) k193_309 rfl rfl rfl rfl rfl (cl_le mx_197 rfl) (by decide) (cl_sum rfl) (ct_rank (x := tS B t) (by omega) ?_)
                          have hr5 := (tRk_r (tS B t) (by omega)).2
                          refine me_cv (p' := 315) k193_312 rfl rfl (by decide) rfl (by decide) (by decide) dp_196 rfl rfl (cl_le mx_196 rfl) (by decide) (cl_sum rfl) (ct_settle (S := S) (o := o) (by omega) (hp.un (by decide)) hS (by omega) (fun K1 hK1 hp1 => ?_))
                          have ht3 := tS_3 (show tS B t ≠ 0 by omega)
                          have hln := mcs_len (r := tRk (tS B t)) S o
                          have hgw := tgo_wf (B := B) (tl := tl) hw
                          refine me_aload_n (p' := 316) k193_315 rfl rfl ?_
                          refine me_gfr (p' := 319) k193_316 rfl (by decide) rfl (b := 136) rfl ?_
                          refine me_aload_n (p' := 320) k193_319 rfl rfl ?_
                          refine me_gfi (p' := 323) k193_320 rfl (by decide) rfl rfl ?_
                          rw [hp1.1]
                          refine me_iload (p' := 325) k193_323 rfl rfl ?_
                          refine me_iast (p' := 326) k193_325 rfl (by decide) rfl (j := (mcs (tRk (tS B t)) S o).1.length) rfl (by omega) (by decide) rfl ?_
                          refine me_aload_n (p' := 327) k193_326 rfl rfl ?_
                          refine me_dup (p' := 328) k193_327 rfl rfl ?_
                          refine me_gfi (p' := 331) k193_328 rfl (by decide) rfl rfl ?_
                          rw [mg_un1 (by decide), hp1.1]
                          refine me_iconst (p' := 332) k193_331 rfl (v := nI 1) (by decide) ?_
                          refine me_iadd (p' := 333) k193_332 rfl (v := nI (((mcs (tRk (tS B t)) S o).1.length) + 1)) (mI_add _ _) ?_
                          refine me_pfi (p' := 336) k193_333 rfl (by decide) rfl rfl rfl rfl ?_
                          refine me_iconst (p' := 337) k193_336 rfl (v := nI 1) (by decide) ?_
                          refine me_istore_n (p' := 338) k193_337 rfl ⟨Nat.le_of_ble_eq_true rfl, rfl⟩ rfl ?_
                          refine me_aload_n (p' := 339) k193_338 rfl rfl ?_
                          refine me_cv (p' := 342) k193_339 rfl rfl (by decide) rfl (by decide) (by decide) dp_189 rfl rfl (cl_le mx_189 rfl) (by decide) (cl_sum rfl) (ct_go (B := B) (tl := tl) (a := t.2.2) (w := t.1 = 1 ∨ t.1 = 2) (hTJ.zf ((((mZf.u (i := 137) (by simp)).tr (mZf.s hK1)).tr ((mZf.u (by simp)).tr (mZf.u (by simp)))))) hw.2.1 ((mg_une (by decide)).trans ((mg_un1 (by decide)).trans ((hK1.2 8 (by decide) (by decide)).trans ((mg_un1 (by decide)).trans hk.1)))) ((hk.2.2.2.2.2 (by omega)).fr ((mg_une (by decide)).trans ((mg_un1 (by decide)).trans ((hK1.2 12 (by decide) (by decide)).trans (mg_un1 (by decide)))))) (fun K522 hK522 hT522 => ?_))
                          have hp5 : mPs K522 (tS B t :: (mcs (tRk (tS B t)) S o).1) (mcs (tRk (tS B t)) S o).2 := (hp1.push rfl).gf hK522
                          have hna5 : K522 127 18 = nI (tNa (mcs (tRk (tS B t)) S o).2) := by
                            rw [tNa_mcs]
                            exact (hK522.2 18 (by decide) (by decide) (by decide) (by decide) (by decide)).trans ((mg_une (by decide)).trans ((mg_un1 (by decide)).trans ((hK1.2 18 (by decide) (by decide)).trans ((mg_un1 (by decide)).trans hna))))
                          have hts5 : mStk (K522 137) ((true :: l).map tB) := by
                            rw [show K522 137 = mg_u J 137 pn (tB true) 137 from funext fun k => (hK522.1 137 k (by decide)).trans ((mg_un1 (by decide)).trans ((mg_un1 (by decide)).trans (hK1.1 137 k (by decide))))]
                            have := (mStk.tl hts).push (i := 137) (v := tB true)
                            rw [List.length_map, hpl, ← hpn] at this
                            exact this
                          have hbn : (decide (tRk (tS B t) = 3) || (decide (3 < tRk (tS B t)) && true)) = true := by
                            by_cases z : tRk (tS B t) = 3
                            · rw [decide_eq_true z]
                              rfl
                            · rw [decide_eq_false z, decide_eq_true (by omega)]
                              rfl
                          have hst : mst B tl key (t, S, o, true :: l, nn, false) = .inl (tgo B tl t, tS B t :: (mcs (tRk (tS B t)) S o).1, (mcs (tRk (tS B t)) S o).2, true :: l, nn, true) := by
                            show (if t.1 = 0 then _ else if t.1 = 3 ∧ B t.2.1 = 41 ∧ 0 < S.count 11 then _ else if tS B t = 0 ∨ (tRk (tS B t) = 3 ∧ true = true) then _ else Sum.inl (tgo B tl t, tS B t :: (mcs (tRk (tS B t)) S o).1, (mcs (tRk (tS B t)) S o).2, (decide (tRk (tS B t) = 3) || (decide (3 < tRk (tS B t)) && true)) :: l, nn, true)) = _
                            rw [if_neg (by omega), if_neg (fun z => by omega), if_neg (fun z => z.elim (fun y => by omega) (fun y => by omega)), hbn]
                          refine me_goto k193_342 ?_
                          rw [mc_s hst] at h
                          refine ih (tgo B tl t) (tS B t :: (mcs (tRk (tS B t)) S o).1) (mcs (tRk (tS B t)) S o).2 _ l nn true K522 pn h ((hz.tr (((mZf.u (i := 137) (by simp)).tr (mZf.s hK1)).tr ((mZf.u (by simp)).tr (mZf.u (by simp))))).tr (mZf.g hK522)) hT522 hp5 hna5 hts5 hgw.1 (hS_c (mcs_in S _ hS) (by omega)) (by rw [List.length_cons]; have := hgw.2; have := hw3 (by omega); omega) (by rw [List.count_cons_of_ne (by omega), mcs_11]; exact hc8) (by rw [List.count_cons_of_ne (by omega), mcs_11]; exact hpl) (by rw [List.count_cons_of_ne (by omega), mcs_11]; exact hpn) hnn _
            · skip
              rw [cI_le0 (a := pn) (by omega)] at c5
              refine me_aload_n (p' := 202) k193_201 rfl rfl ?_
              refine me_iconst (p' := 203) k193_202 rfl (v := nI 0) (by decide) ?_
              refine me_cv (p' := 206) k193_203 rfl rfl (by decide) rfl (by decide) (by decide) dp_196 rfl rfl (cl_le mx_196 rfl) (by decide) (cl_sum rfl) (ct_settle (by decide) hp hS (by omega) (fun K1 hK1 hp1 => ?_))
              obtain ⟨S2, hS2⟩ := mcs_0 S o (by omega)
              have hln := mcs_len (r := 0) S o
              have hc2 := mcs_11 (r := 0) S o
              rw [hS2, List.count_cons_self] at hc2
              rw [hS2, List.length_cons] at hln
              rw [hS2] at hp1
              have hSS := mcs_in (r := 0) S o hS
              rw [hS2] at hSS
              have hSS2 : ∀ x ∈ S2, 1 ≤ x ∧ x ≤ 11 := fun x hx => hSS x (by simp [hx])
              refine me_aload_n (p' := 207) k193_206 rfl rfl ?_
              refine me_dup (p' := 208) k193_207 rfl rfl ?_
              refine me_gfi (p' := 211) k193_208 rfl (by decide) rfl rfl ?_
              rw [hp1.1, List.length_cons]
              refine me_iconst (p' := 212) k193_211 rfl (v := nI 1) (by decide) ?_
              refine me_isub (p' := 213) k193_212 rfl rfl ?_
              rw [mI_sub (by omega), Nat.add_sub_cancel]
              refine me_pfi (p' := 216) k193_213 rfl (by decide) rfl rfl rfl rfl ?_
              refine me_iinc (p' := 219) k193_216 rfl rfl rfl rfl rfl ?_
              rw [mI_dec, mI_sub (by omega)]
              refine me_aload_n (p' := 220) k193_219 rfl rfl ?_
              refine me_bipush (p' := 222) k193_220 rfl (v := nI 6) (by decide) ?_
              refine me_cv (p' := 225) k193_222 rfl rfl (by decide) rfl (by decide) (by decide) dp_196 rfl rfl (cl_le mx_196 rfl) (by decide) (cl_sum rfl) (ct_settle (S := S2) (o := (mcs 0 S o).2) (by decide) hp1.pop0 hSS2 (by omega) (fun K2 hK2 hp2 => ?_))
              have hln2 := mcs_len (r := 6) S2 (mcs 0 S o).2
              have hz2 : mZf J K2 := ((mZf.s hK1).tr (mZf.u (by simp))).tr (mZf.s hK2)
              have hgw := tgo_wf (B := B) (tl := tl) hw
              refine me_aload_n (p' := 226) k193_225 rfl rfl ?_
              refine me_cv (p' := 229) k193_226 rfl rfl (by decide) rfl (by decide) (by decide) dp_198 rfl rfl (cl_le mx_198 rfl) (by decide) (cl_sum rfl) (ct_notsOpen hp2 (mcs_in (r := 6) S2 _ hSS2) (by omega) ?_)
              refine me_istore_n (p' := 230) k193_229 rfl ⟨Nat.le_of_ble_eq_true rfl, rfl⟩ rfl ?_
              refine me_aload_n (p' := 231) k193_230 rfl rfl ?_
              refine me_cv (p' := 234) k193_231 rfl rfl (by decide) rfl (by decide) (by decide) dp_189 rfl rfl (cl_le mx_189 rfl) (by decide) (cl_sum rfl) (ct_go (B := B) (tl := tl) (a := t.2.2) (w := t.1 = 1 ∨ t.1 = 2) (hTJ.zf (hz2)) hw.2.1 (((hK2.2 8 (by decide) (by decide)).trans ((mg_une (by decide)).trans (hK1.2 8 (by decide) (by decide)))).trans hk.1) ((hk.2.2.2.2.2 (by omega)).fr ((hK2.2 12 (by decide) (by decide)).trans ((mg_une (by decide)).trans (hK1.2 12 (by decide) (by decide))))) (fun K523 hK523 hT523 => ?_))
              have hp4 := hp2.gf hK523
              have hna4 : K523 127 18 = nI (tNa (mcs 6 S2 (mcs 0 S o).2).2) := by
                rw [tNa_mcs, tNa_mcs]
                exact (hK523.2 18 (by decide) (by decide) (by decide) (by decide) (by decide)).trans ((hK2.2 18 (by decide) (by decide)).trans ((mg_une (by decide)).trans ((hK1.2 18 (by decide) (by decide)).trans hna)))
              obtain ⟨b2, l2, rfl⟩ : ∃ b2 l2, l = b2 :: l2 := by
                cases l with
                | nil => rw [List.length_nil] at hpl; omega
                | cons b2 l2 => exact ⟨b2, l2, rfl⟩
              have hts4 : mStk (K523 137) ((b2 :: l2).map tB) := by
                rw [show K523 137 = J 137 from funext fun k => (hK523.1 137 k (by decide)).trans ((hK2.1 137 k (by decide)).trans ((mg_un1 (by decide)).trans (hK1.1 137 k (by decide))))]
                exact mStk.tl hts
              have hst : mst B tl key (t, S, o, b :: b2 :: l2, nn, false) = .inl (tgo B tl t, (mcs 6 S2 (mcs 0 S o).2).1, (mcs 6 S2 (mcs 0 S o).2).2, b2 :: l2, (mcs 6 S2 (mcs 0 S o).2).1.count 10, false) := by
                show (if t.1 = 0 then _ else if t.1 = 3 ∧ B t.2.1 = 41 ∧ 0 < S.count 11 then _ else _) = _
                rw [if_neg (by omega), if_pos ⟨by omega, by omega, by omega⟩, hS2]
                rfl
              refine me_goto k193_234 ?_
              rw [mc_s hst] at h
              refine ih (tgo B tl t) (mcs 6 S2 (mcs 0 S o).2).1 (mcs 6 S2 (mcs 0 S o).2).2 b2 l2 _ false K523 (pn - 1) h ((hz.tr hz2).tr (mZf.g hK523)) hT523 hp4 hna4 hts4 hgw.1 (mcs_in S2 _ hSS2) (by have := hgw.2; have := hw3 (by omega); omega) (by rw [mcs_11]; omega) (by rw [List.length_cons] at hpl; rw [mcs_11]; omega) (by rw [mcs_11]; omega) (Nat.le_trans List.count_le_length (by have := hgw.1.1; have := hgw.2; have := hw3 (by omega); omega)) _
          · skip
            rw [cI_eq (a := B t.2.1) (b := 41) (by omega) (by omega)] at c4
            cases b
            · skip
              refine me_aload_n (p' := 238) k193_237 rfl rfl ?_
              refine me_cv (p' := 241) k193_238 rfl rfl (by decide) rfl (by decide) (by decide) dp_199 rfl rfl (cl_le mx_199 rfl) (by decide) (cl_sum rfl) (ct_signHere hTJ hk hw ?_)
              have hq9 := tS_r B t
              refine me_istore (p' := 243) k193_241 rfl ⟨Nat.le_of_ble_eq_true rfl, rfl⟩ rfl ?_
              refine me_iload (p' := 245) k193_243 rfl rfl ?_
              rcases Nat.eq_zero_or_pos (tS B t) with hq0 | hq0
              · skip
                refine me_if_eq (p' := 248) k193_245 rfl (fun c18 => ?_) (fun c18 => ?_)
                · skip
                  refine me_iconst (p' := 267) k193_266 rfl (v := nI 0) (by decide) ?_
                  refine me_reti k193_267 rt_193 (by decide) ?_
                  have hst : mst B tl key (t, S, o, false :: l, nn, false) = .inr (t.2.1, none) := by
                    show (if t.1 = 0 then _ else if t.1 = 3 ∧ B t.2.1 = 41 ∧ 0 < S.count 11 then _ else if tS B t = 0 ∨ (tRk (tS B t) = 3 ∧ false = true) then _ else _) = _
                    rw [if_neg (by omega), if_neg (fun z => by omega), if_pos (Or.inl hq0)]
                  have hr := mc_e hst h
                  exact hF J t.2.1 hz hr hk.2.1
                · skip
                  exact absurd ((sg_neg _ (by omega)).2.mpr hq0) c18
              · skip
                refine me_if_eq (p' := 248) k193_245 rfl (fun c19 => ?_) (fun c19 => ?_)
                · skip
                  exact absurd ((sg_neg _ (by omega)).2.mp c19) (by omega)
                · skip
                  refine me_iload (p' := 250) k193_248 rfl rfl ?_
                  refine me_cs (p' := 253) k193_250 rfl rfl rfl rfl rfl (cl_le mx_197 rfl) (by decide) (cl_sum rfl) (ct_rank (x := tS B t) (by omega) ?_)
                  have hr5 := (tRk_r (tS B t) (by omega)).2
                  refine me_iconst (p' := 254) k193_253 rfl (v := nI 3) (by decide) ?_
                  refine me_ic_ne (p' := 257) k193_254 rfl (fun c20 => ?_) (fun c20 => ?_)
                  · skip
                    rw [cI_eq (a := tRk (tS B t)) (b := 3) (by omega) (by omega)] at c20
                    refine me_aload_n (p' := 258) k193_257 rfl rfl ?_
                    refine me_gfr (p' := 261) k193_258 rfl (by decide) rfl (b := 137) rfl ?_
                    refine me_iload_n (p' := 262) k193_261 rfl rfl ?_
                    refine me_zald (p' := 263) k193_262 rfl (by decide) rfl (j := pn) rfl (by omega) (by decide) rfl ?_
                    rw [show J 137 pn = nI 0 from by have := hts.top; rw [List.length_map, hpl, ← hpn] at this; exact this]
                    refine me_if_eq (p' := 266) k193_263 rfl (fun _ => ?_) (fun h => absurd (by decide) h)
                    refine me_aload_n (p' := 269) k193_268 rfl rfl ?_
                    refine me_gfr (p' := 272) k193_269 rfl (by decide) rfl (b := 137) rfl ?_
                    refine me_iload_n (p' := 273) k193_272 rfl rfl ?_
                    refine me_iload (p' := 275) k193_273 rfl rfl ?_
                    refine me_cs (p' := 278) k193_275 rfl rfl rfl rfl rfl (cl_le mx_197 rfl) (by decide) (cl_sum rfl) (ct_rank (x := tS B t) (by omega) ?_)
                    have hr5 := (tRk_r (tS B t) (by omega)).2
                    refine me_iconst (p' := 279) k193_278 rfl (v := nI 3) (by decide) ?_
                    refine me_ic_eq (p' := 282) k193_279 rfl (fun c21 => ?_) (fun c21 => ?_)
                    · skip
                      rw [cI_eq (a := tRk (tS B t)) (b := 3) (by omega) (by omega)] at c21
                      refine me_iconst (p' := 301) k193_300 rfl (v := nI 1) (by decide) ?_
                      refine me_goto k193_301 ?_
                      refine me_zast (p' := 306) k193_305 rfl (by decide) rfl (j := pn) rfl (by omega) (by decide) rfl rfl ?_
                      refine me_aload_n (p' := 307) k193_306 rfl rfl ?_
                      refine me_iload (p' := 309) k193_307 rfl rfl ?_
                      refine me_cs (p' := 312) k193_309 rfl rfl rfl rfl rfl (cl_le mx_197 rfl) (by decide) (cl_sum rfl) (ct_rank (x := tS B t) (by omega) ?_)
                      have hr5 := (tRk_r (tS B t) (by omega)).2
                      refine me_cv (p' := 315) k193_312 rfl rfl (by decide) rfl (by decide) (by decide) dp_196 rfl rfl (cl_le mx_196 rfl) (by decide) (cl_sum rfl) (ct_settle (S := S) (o := o) (by omega) (hp.un (by decide)) hS (by omega) (fun K1 hK1 hp1 => ?_))
                      have ht3 := tS_3 (show tS B t ≠ 0 by omega)
                      have hln := mcs_len (r := tRk (tS B t)) S o
                      have hgw := tgo_wf (B := B) (tl := tl) hw
                      refine me_aload_n (p' := 316) k193_315 rfl rfl ?_
                      refine me_gfr (p' := 319) k193_316 rfl (by decide) rfl (b := 136) rfl ?_
                      refine me_aload_n (p' := 320) k193_319 rfl rfl ?_
                      refine me_gfi (p' := 323) k193_320 rfl (by decide) rfl rfl ?_
                      rw [hp1.1]
                      refine me_iload (p' := 325) k193_323 rfl rfl ?_
                      refine me_iast (p' := 326) k193_325 rfl (by decide) rfl (j := (mcs (tRk (tS B t)) S o).1.length) rfl (by omega) (by decide) rfl ?_
                      refine me_aload_n (p' := 327) k193_326 rfl rfl ?_
                      refine me_dup (p' := 328) k193_327 rfl rfl ?_
                      refine me_gfi (p' := 331) k193_328 rfl (by decide) rfl rfl ?_
                      rw [mg_un1 (by decide), hp1.1]
                      refine me_iconst (p' := 332) k193_331 rfl (v := nI 1) (by decide) ?_
                      refine me_iadd (p' := 333) k193_332 rfl (v := nI (((mcs (tRk (tS B t)) S o).1.length) + 1)) (mI_add _ _) ?_
                      refine me_pfi (p' := 336) k193_333 rfl (by decide) rfl rfl rfl rfl ?_
                      refine me_iconst (p' := 337) k193_336 rfl (v := nI 1) (by decide) ?_
                      refine me_istore_n (p' := 338) k193_337 rfl ⟨Nat.le_of_ble_eq_true rfl, rfl⟩ rfl ?_
                      refine me_aload_n (p' := 339) k193_338 rfl rfl ?_
                      refine me_cv (p' := 342) k193_339 rfl rfl (by decide) rfl (by decide) (by decide) dp_189 rfl rfl (cl_le mx_189 rfl) (by decide) (cl_sum rfl) (ct_go (B := B) (tl := tl) (a := t.2.2) (w := t.1 = 1 ∨ t.1 = 2) (hTJ.zf ((((mZf.u (i := 137) (by simp)).tr (mZf.s hK1)).tr ((mZf.u (by simp)).tr (mZf.u (by simp)))))) hw.2.1 ((mg_une (by decide)).trans ((mg_un1 (by decide)).trans ((hK1.2 8 (by decide) (by decide)).trans ((mg_un1 (by decide)).trans hk.1)))) ((hk.2.2.2.2.2 (by omega)).fr ((mg_une (by decide)).trans ((mg_un1 (by decide)).trans ((hK1.2 12 (by decide) (by decide)).trans (mg_un1 (by decide)))))) (fun K524 hK524 hT524 => ?_))
                      have hp5 : mPs K524 (tS B t :: (mcs (tRk (tS B t)) S o).1) (mcs (tRk (tS B t)) S o).2 := (hp1.push rfl).gf hK524
                      have hna5 : K524 127 18 = nI (tNa (mcs (tRk (tS B t)) S o).2) := by
                        rw [tNa_mcs]
                        exact (hK524.2 18 (by decide) (by decide) (by decide) (by decide) (by decide)).trans ((mg_une (by decide)).trans ((mg_un1 (by decide)).trans ((hK1.2 18 (by decide) (by decide)).trans ((mg_un1 (by decide)).trans hna))))
                      have hts5 : mStk (K524 137) ((true :: l).map tB) := by
                        rw [show K524 137 = mg_u J 137 pn (tB true) 137 from funext fun k => (hK524.1 137 k (by decide)).trans ((mg_un1 (by decide)).trans ((mg_un1 (by decide)).trans (hK1.1 137 k (by decide))))]
                        have := (mStk.tl hts).push (i := 137) (v := tB true)
                        rw [List.length_map, hpl, ← hpn] at this
                        exact this
                      have hbn : (decide (tRk (tS B t) = 3) || (decide (3 < tRk (tS B t)) && false)) = true := by
                        rw [decide_eq_true (by omega)]
                        rfl
                      have hst : mst B tl key (t, S, o, false :: l, nn, false) = .inl (tgo B tl t, tS B t :: (mcs (tRk (tS B t)) S o).1, (mcs (tRk (tS B t)) S o).2, true :: l, nn, true) := by
                        show (if t.1 = 0 then _ else if t.1 = 3 ∧ B t.2.1 = 41 ∧ 0 < S.count 11 then _ else if tS B t = 0 ∨ (tRk (tS B t) = 3 ∧ false = true) then _ else Sum.inl (tgo B tl t, tS B t :: (mcs (tRk (tS B t)) S o).1, (mcs (tRk (tS B t)) S o).2, (decide (tRk (tS B t) = 3) || (decide (3 < tRk (tS B t)) && false)) :: l, nn, true)) = _
                        rw [if_neg (by omega), if_neg (fun z => by omega), if_neg (fun z => z.elim (fun y => by omega) (fun y => absurd y.2 (by decide))), hbn]
                      refine me_goto k193_342 ?_
                      rw [mc_s hst] at h
                      refine ih (tgo B tl t) (tS B t :: (mcs (tRk (tS B t)) S o).1) (mcs (tRk (tS B t)) S o).2 _ l nn true K524 pn h ((hz.tr (((mZf.u (i := 137) (by simp)).tr (mZf.s hK1)).tr ((mZf.u (by simp)).tr (mZf.u (by simp))))).tr (mZf.g hK524)) hT524 hp5 hna5 hts5 hgw.1 (hS_c (mcs_in S _ hS) (by omega)) (by rw [List.length_cons]; have := hgw.2; have := hw3 (by omega); omega) (by rw [List.count_cons_of_ne (by omega), mcs_11]; exact hc8) (by rw [List.count_cons_of_ne (by omega), mcs_11]; exact hpl) (by rw [List.count_cons_of_ne (by omega), mcs_11]; exact hpn) hnn _
                    · skip
                      rw [cI_eq (a := tRk (tS B t)) (b := 3) (by omega) (by omega)] at c21
                      refine me_iload (p' := 284) k193_282 rfl rfl ?_
                      refine me_cs (p' := 287) k193_284 rfl rfl rfl rfl rfl (cl_le mx_197 rfl) (by decide) (cl_sum rfl) (ct_rank (x := tS B t) (by omega) ?_)
                      have hr5 := (tRk_r (tS B t) (by omega)).2
                      refine me_iconst (p' := 288) k193_287 rfl (v := nI 3) (by decide) ?_
                      refine me_ic_le (p' := 291) k193_288 rfl (fun c22 => ?_) (fun c22 => ?_)
                      · skip
                        rw [cI_le (a := tRk (tS B t)) (b := 3) (by omega) (by omega)] at c22
                        refine me_iconst (p' := 305) k193_304 rfl (v := nI 0) (by decide) ?_
                        refine me_zast (p' := 306) k193_305 rfl (by decide) rfl (j := pn) rfl (by omega) (by decide) rfl rfl ?_
                        refine me_aload_n (p' := 307) k193_306 rfl rfl ?_
                        refine me_iload (p' := 309) k193_307 rfl rfl ?_
                        refine me_cs (p' := 312) k193_309 rfl rfl rfl rfl rfl (cl_le mx_197 rfl) (by decide) (cl_sum rfl) (ct_rank (x := tS B t) (by omega) ?_)
                        have hr5 := (tRk_r (tS B t) (by omega)).2
                        refine me_cv (p' := 315) k193_312 rfl rfl (by decide) rfl (by decide) (by decide) dp_196 rfl rfl (cl_le mx_196 rfl) (by decide) (cl_sum rfl) (ct_settle (S := S) (o := o) (by omega) (hp.un (by decide)) hS (by omega) (fun K1 hK1 hp1 => ?_))
                        have ht3 := tS_3 (show tS B t ≠ 0 by omega)
                        have hln := mcs_len (r := tRk (tS B t)) S o
                        have hgw := tgo_wf (B := B) (tl := tl) hw
                        refine me_aload_n (p' := 316) k193_315 rfl rfl ?_
                        refine me_gfr (p' := 319) k193_316 rfl (by decide) rfl (b := 136) rfl ?_
                        refine me_aload_n (p' := 320) k193_319 rfl rfl ?_
                        refine me_gfi (p' := 323) k193_320 rfl (by decide) rfl rfl ?_
                        rw [hp1.1]
                        refine me_iload (p' := 325) k193_323 rfl rfl ?_
                        refine me_iast (p' := 326) k193_325 rfl (by decide) rfl (j := (mcs (tRk (tS B t)) S o).1.length) rfl (by omega) (by decide) rfl ?_
                        refine me_aload_n (p' := 327) k193_326 rfl rfl ?_
                        refine me_dup (p' := 328) k193_327 rfl rfl ?_
                        refine me_gfi (p' := 331) k193_328 rfl (by decide) rfl rfl ?_
                        rw [mg_un1 (by decide), hp1.1]
                        refine me_iconst (p' := 332) k193_331 rfl (v := nI 1) (by decide) ?_
                        refine me_iadd (p' := 333) k193_332 rfl (v := nI (((mcs (tRk (tS B t)) S o).1.length) + 1)) (mI_add _ _) ?_
                        refine me_pfi (p' := 336) k193_333 rfl (by decide) rfl rfl rfl rfl ?_
                        refine me_iconst (p' := 337) k193_336 rfl (v := nI 1) (by decide) ?_
                        refine me_istore_n (p' := 338) k193_337 rfl ⟨Nat.le_of_ble_eq_true rfl, rfl⟩ rfl ?_
                        refine me_aload_n (p' := 339) k193_338 rfl rfl ?_
                        refine me_cv (p' := 342) k193_339 rfl rfl (by decide) rfl (by decide) (by decide) dp_189 rfl rfl (cl_le mx_189 rfl) (by decide) (cl_sum rfl) (ct_go (B := B) (tl := tl) (a := t.2.2) (w := t.1 = 1 ∨ t.1 = 2) (hTJ.zf ((((mZf.u (i := 137) (by simp)).tr (mZf.s hK1)).tr ((mZf.u (by simp)).tr (mZf.u (by simp)))))) hw.2.1 ((mg_une (by decide)).trans ((mg_un1 (by decide)).trans ((hK1.2 8 (by decide) (by decide)).trans ((mg_un1 (by decide)).trans hk.1)))) ((hk.2.2.2.2.2 (by omega)).fr ((mg_une (by decide)).trans ((mg_un1 (by decide)).trans ((hK1.2 12 (by decide) (by decide)).trans (mg_un1 (by decide)))))) (fun K525 hK525 hT525 => ?_))
                        have hp5 : mPs K525 (tS B t :: (mcs (tRk (tS B t)) S o).1) (mcs (tRk (tS B t)) S o).2 := (hp1.push rfl).gf hK525
                        have hna5 : K525 127 18 = nI (tNa (mcs (tRk (tS B t)) S o).2) := by
                          rw [tNa_mcs]
                          exact (hK525.2 18 (by decide) (by decide) (by decide) (by decide) (by decide)).trans ((mg_une (by decide)).trans ((mg_un1 (by decide)).trans ((hK1.2 18 (by decide) (by decide)).trans ((mg_un1 (by decide)).trans hna))))
                        have hts5 : mStk (K525 137) ((false :: l).map tB) := by
                          rw [show K525 137 = mg_u J 137 pn (tB false) 137 from funext fun k => (hK525.1 137 k (by decide)).trans ((mg_un1 (by decide)).trans ((mg_un1 (by decide)).trans (hK1.1 137 k (by decide))))]
                          have := (mStk.tl hts).push (i := 137) (v := tB false)
                          rw [List.length_map, hpl, ← hpn] at this
                          exact this
                        have hbn : (decide (tRk (tS B t) = 3) || (decide (3 < tRk (tS B t)) && false)) = false := by
                          rw [decide_eq_false (by omega), Bool.and_false]
                          rfl
                        have hst : mst B tl key (t, S, o, false :: l, nn, false) = .inl (tgo B tl t, tS B t :: (mcs (tRk (tS B t)) S o).1, (mcs (tRk (tS B t)) S o).2, false :: l, nn, true) := by
                          show (if t.1 = 0 then _ else if t.1 = 3 ∧ B t.2.1 = 41 ∧ 0 < S.count 11 then _ else if tS B t = 0 ∨ (tRk (tS B t) = 3 ∧ false = true) then _ else Sum.inl (tgo B tl t, tS B t :: (mcs (tRk (tS B t)) S o).1, (mcs (tRk (tS B t)) S o).2, (decide (tRk (tS B t) = 3) || (decide (3 < tRk (tS B t)) && false)) :: l, nn, true)) = _
                          rw [if_neg (by omega), if_neg (fun z => by omega), if_neg (fun z => z.elim (fun y => by omega) (fun y => absurd y.2 (by decide))), hbn]
                        refine me_goto k193_342 ?_
                        rw [mc_s hst] at h
                        refine ih (tgo B tl t) (tS B t :: (mcs (tRk (tS B t)) S o).1) (mcs (tRk (tS B t)) S o).2 _ l nn true K525 pn h ((hz.tr (((mZf.u (i := 137) (by simp)).tr (mZf.s hK1)).tr ((mZf.u (by simp)).tr (mZf.u (by simp))))).tr (mZf.g hK525)) hT525 hp5 hna5 hts5 hgw.1 (hS_c (mcs_in S _ hS) (by omega)) (by rw [List.length_cons]; have := hgw.2; have := hw3 (by omega); omega) (by rw [List.count_cons_of_ne (by omega), mcs_11]; exact hc8) (by rw [List.count_cons_of_ne (by omega), mcs_11]; exact hpl) (by rw [List.count_cons_of_ne (by omega), mcs_11]; exact hpn) hnn _
                      · skip
                        rw [cI_le (a := tRk (tS B t)) (b := 3) (by omega) (by omega)] at c22
                        refine me_aload_n (p' := 292) k193_291 rfl rfl ?_
                        refine me_gfr (p' := 295) k193_292 rfl (by decide) rfl (b := 137) rfl ?_
                        refine me_iload_n (p' := 296) k193_295 rfl rfl ?_
                        refine me_zald (p' := 297) k193_296 rfl (by decide) rfl (j := pn) rfl (by omega) (by decide) rfl ?_
                        rw [show J 137 pn = nI 0 from by have := hts.top; rw [List.length_map, hpl, ← hpn] at this; exact this]
                        refine me_if_eq (p' := 300) k193_297 rfl (fun _ => ?_) (fun h => absurd (by decide) h)
                        refine me_iconst (p' := 305) k193_304 rfl (v := nI 0) (by decide) ?_
                        refine me_zast (p' := 306) k193_305 rfl (by decide) rfl (j := pn) rfl (by omega) (by decide) rfl rfl ?_
                        refine me_aload_n (p' := 307) k193_306 rfl rfl ?_
                        refine me_iload (p' := 309) k193_307 rfl rfl ?_
                        refine me_cs (p' := 312) k193_309 rfl rfl rfl rfl rfl (cl_le mx_197 rfl) (by decide) (cl_sum rfl) (ct_rank (x := tS B t) (by omega) ?_)
                        have hr5 := (tRk_r (tS B t) (by omega)).2
                        refine me_cv (p' := 315) k193_312 rfl rfl (by decide) rfl (by decide) (by decide) dp_196 rfl rfl (cl_le mx_196 rfl) (by decide) (cl_sum rfl) (ct_settle (S := S) (o := o) (by omega) (hp.un (by decide)) hS (by omega) (fun K1 hK1 hp1 => ?_))
                        have ht3 := tS_3 (show tS B t ≠ 0 by omega)
                        have hln := mcs_len (r := tRk (tS B t)) S o
                        have hgw := tgo_wf (B := B) (tl := tl) hw
                        refine me_aload_n (p' := 316) k193_315 rfl rfl ?_
                        refine me_gfr (p' := 319) k193_316 rfl (by decide) rfl (b := 136) rfl ?_
                        refine me_aload_n (p' := 320) k193_319 rfl rfl ?_
                        refine me_gfi (p' := 323) k193_320 rfl (by decide) rfl rfl ?_
                        rw [hp1.1]
                        refine me_iload (p' := 325) k193_323 rfl rfl ?_
                        refine me_iast (p' := 326) k193_325 rfl (by decide) rfl (j := (mcs (tRk (tS B t)) S o).1.length) rfl (by omega) (by decide) rfl ?_
                        refine me_aload_n (p' := 327) k193_326 rfl rfl ?_
                        refine me_dup (p' := 328) k193_327 rfl rfl ?_
                        refine me_gfi (p' := 331) k193_328 rfl (by decide) rfl rfl ?_
                        rw [mg_un1 (by decide), hp1.1]
                        refine me_iconst (p' := 332) k193_331 rfl (v := nI 1) (by decide) ?_
                        refine me_iadd (p' := 333) k193_332 rfl (v := nI (((mcs (tRk (tS B t)) S o).1.length) + 1)) (mI_add _ _) ?_
                        refine me_pfi (p' := 336) k193_333 rfl (by decide) rfl rfl rfl rfl ?_
                        refine me_iconst (p' := 337) k193_336 rfl (v := nI 1) (by decide) ?_
                        refine me_istore_n (p' := 338) k193_337 rfl ⟨Nat.le_of_ble_eq_true rfl, rfl⟩ rfl ?_
                        refine me_aload_n (p' := 339) k193_338 rfl rfl ?_
                        refine me_cv (p' := 342) k193_339 rfl rfl (by decide) rfl (by decide) (by decide) dp_189 rfl rfl (cl_le mx_189 rfl) (by decide) (cl_sum rfl) (ct_go (B := B) (tl := tl) (a := t.2.2) (w := t.1 = 1 ∨ t.1 = 2) (hTJ.zf ((((mZf.u (i := 137) (by simp)).tr (mZf.s hK1)).tr ((mZf.u (by simp)).tr (mZf.u (by simp)))))) hw.2.1 ((mg_une (by decide)).trans ((mg_un1 (by decide)).trans ((hK1.2 8 (by decide) (by decide)).trans ((mg_un1 (by decide)).trans hk.1)))) ((hk.2.2.2.2.2 (by omega)).fr ((mg_une (by decide)).trans ((mg_un1 (by decide)).trans ((hK1.2 12 (by decide) (by decide)).trans (mg_un1 (by decide)))))) (fun K526 hK526 hT526 => ?_))
                        have hp5 : mPs K526 (tS B t :: (mcs (tRk (tS B t)) S o).1) (mcs (tRk (tS B t)) S o).2 := (hp1.push rfl).gf hK526
                        have hna5 : K526 127 18 = nI (tNa (mcs (tRk (tS B t)) S o).2) := by
                          rw [tNa_mcs]
                          exact (hK526.2 18 (by decide) (by decide) (by decide) (by decide) (by decide)).trans ((mg_une (by decide)).trans ((mg_un1 (by decide)).trans ((hK1.2 18 (by decide) (by decide)).trans ((mg_un1 (by decide)).trans hna))))
                        have hts5 : mStk (K526 137) ((false :: l).map tB) := by
                          rw [show K526 137 = mg_u J 137 pn (tB false) 137 from funext fun k => (hK526.1 137 k (by decide)).trans ((mg_un1 (by decide)).trans ((mg_un1 (by decide)).trans (hK1.1 137 k (by decide))))]
                          have := (mStk.tl hts).push (i := 137) (v := tB false)
                          rw [List.length_map, hpl, ← hpn] at this
                          exact this
                        have hbn : (decide (tRk (tS B t) = 3) || (decide (3 < tRk (tS B t)) && false)) = false := by
                          rw [decide_eq_false (by omega), Bool.and_false]
                          rfl
                        have hst : mst B tl key (t, S, o, false :: l, nn, false) = .inl (tgo B tl t, tS B t :: (mcs (tRk (tS B t)) S o).1, (mcs (tRk (tS B t)) S o).2, false :: l, nn, true) := by
                          show (if t.1 = 0 then _ else if t.1 = 3 ∧ B t.2.1 = 41 ∧ 0 < S.count 11 then _ else if tS B t = 0 ∨ (tRk (tS B t) = 3 ∧ false = true) then _ else Sum.inl (tgo B tl t, tS B t :: (mcs (tRk (tS B t)) S o).1, (mcs (tRk (tS B t)) S o).2, (decide (tRk (tS B t) = 3) || (decide (3 < tRk (tS B t)) && false)) :: l, nn, true)) = _
                          rw [if_neg (by omega), if_neg (fun z => by omega), if_neg (fun z => z.elim (fun y => by omega) (fun y => absurd y.2 (by decide))), hbn]
                        refine me_goto k193_342 ?_
                        rw [mc_s hst] at h
                        refine ih (tgo B tl t) (tS B t :: (mcs (tRk (tS B t)) S o).1) (mcs (tRk (tS B t)) S o).2 _ l nn true K526 pn h ((hz.tr (((mZf.u (i := 137) (by simp)).tr (mZf.s hK1)).tr ((mZf.u (by simp)).tr (mZf.u (by simp))))).tr (mZf.g hK526)) hT526 hp5 hna5 hts5 hgw.1 (hS_c (mcs_in S _ hS) (by omega)) (by rw [List.length_cons]; have := hgw.2; have := hw3 (by omega); omega) (by rw [List.count_cons_of_ne (by omega), mcs_11]; exact hc8) (by rw [List.count_cons_of_ne (by omega), mcs_11]; exact hpl) (by rw [List.count_cons_of_ne (by omega), mcs_11]; exact hpn) hnn _
                  · skip
                    rw [cI_eq (a := tRk (tS B t)) (b := 3) (by omega) (by omega)] at c20
                    refine me_aload_n (p' := 269) k193_268 rfl rfl ?_
                    refine me_gfr (p' := 272) k193_269 rfl (by decide) rfl (b := 137) rfl ?_
                    refine me_iload_n (p' := 273) k193_272 rfl rfl ?_
                    refine me_iload (p' := 275) k193_273 rfl rfl ?_
                    refine me_cs (p' := 278) k193_275 rfl rfl rfl rfl rfl (cl_le mx_197 rfl) (by decide) (cl_sum rfl) (ct_rank (x := tS B t) (by omega) ?_)
                    have hr5 := (tRk_r (tS B t) (by omega)).2
                    refine me_iconst (p' := 279) k193_278 rfl (v := nI 3) (by decide) ?_
                    refine me_ic_eq (p' := 282) k193_279 rfl (fun c23 => ?_) (fun c23 => ?_)
                    · skip
                      rw [cI_eq (a := tRk (tS B t)) (b := 3) (by omega) (by omega)] at c23
                      refine me_iconst (p' := 301) k193_300 rfl (v := nI 1) (by decide) ?_
                      refine me_goto k193_301 ?_
                      refine me_zast (p' := 306) k193_305 rfl (by decide) rfl (j := pn) rfl (by omega) (by decide) rfl rfl ?_
                      refine me_aload_n (p' := 307) k193_306 rfl rfl ?_
                      refine me_iload (p' := 309) k193_307 rfl rfl ?_
                      refine me_cs (p' := 312) k193_309 rfl rfl rfl rfl rfl (cl_le mx_197 rfl) (by decide) (cl_sum rfl) (ct_rank (x := tS B t) (by omega) ?_)
                      have hr5 := (tRk_r (tS B t) (by omega)).2
                      refine me_cv (p' := 315) k193_312 rfl rfl (by decide) rfl (by decide) (by decide) dp_196 rfl rfl (cl_le mx_196 rfl) (by decide) (cl_sum rfl) (ct_settle (S := S) (o := o) (by omega) (hp.un (by decide)) hS (by omega) (fun K1 hK1 hp1 => ?_))
                      have ht3 := tS_3 (show tS B t ≠ 0 by omega)
                      have hln := mcs_len (r := tRk (tS B t)) S o
                      have hgw := tgo_wf (B := B) (tl := tl) hw
                      refine me_aload_n (p' := 316) k193_315 rfl rfl ?_
                      refine me_gfr (p' := 319) k193_316 rfl (by decide) rfl (b := 136) rfl ?_
                      refine me_aload_n (p' := 320) k193_319 rfl rfl ?_
                      refine me_gfi (p' := 323) k193_320 rfl (by decide) rfl rfl ?_
                      rw [hp1.1]
                      refine me_iload (p' := 325) k193_323 rfl rfl ?_
                      refine me_iast (p' := 326) k193_325 rfl (by decide) rfl (j := (mcs (tRk (tS B t)) S o).1.length) rfl (by omega) (by decide) rfl ?_
                      refine me_aload_n (p' := 327) k193_326 rfl rfl ?_
                      refine me_dup (p' := 328) k193_327 rfl rfl ?_
                      refine me_gfi (p' := 331) k193_328 rfl (by decide) rfl rfl ?_
                      rw [mg_un1 (by decide), hp1.1]
                      refine me_iconst (p' := 332) k193_331 rfl (v := nI 1) (by decide) ?_
                      refine me_iadd (p' := 333) k193_332 rfl (v := nI (((mcs (tRk (tS B t)) S o).1.length) + 1)) (mI_add _ _) ?_
                      refine me_pfi (p' := 336) k193_333 rfl (by decide) rfl rfl rfl rfl ?_
                      refine me_iconst (p' := 337) k193_336 rfl (v := nI 1) (by decide) ?_
                      refine me_istore_n (p' := 338) k193_337 rfl ⟨Nat.le_of_ble_eq_true rfl, rfl⟩ rfl ?_
                      refine me_aload_n (p' := 339) k193_338 rfl rfl ?_
                      refine me_cv (p' := 342) k193_339 rfl rfl (by decide) rfl (by decide) (by decide) dp_189 rfl rfl (cl_le mx_189 rfl) (by decide) (cl_sum rfl) (ct_go (B := B) (tl := tl) (a := t.2.2) (w := t.1 = 1 ∨ t.1 = 2) (hTJ.zf ((((mZf.u (i := 137) (by simp)).tr (mZf.s hK1)).tr ((mZf.u (by simp)).tr (mZf.u (by simp)))))) hw.2.1 ((mg_une (by decide)).trans ((mg_un1 (by decide)).trans ((hK1.2 8 (by decide) (by decide)).trans ((mg_un1 (by decide)).trans hk.1)))) ((hk.2.2.2.2.2 (by omega)).fr ((mg_une (by decide)).trans ((mg_un1 (by decide)).trans ((hK1.2 12 (by decide) (by decide)).trans (mg_un1 (by decide)))))) (fun K527 hK527 hT527 => ?_))
                      have hp5 : mPs K527 (tS B t :: (mcs (tRk (tS B t)) S o).1) (mcs (tRk (tS B t)) S o).2 := (hp1.push rfl).gf hK527
                      have hna5 : K527 127 18 = nI (tNa (mcs (tRk (tS B t)) S o).2) := by
                        rw [tNa_mcs]
                        exact (hK527.2 18 (by decide) (by decide) (by decide) (by decide) (by decide)).trans ((mg_une (by decide)).trans ((mg_un1 (by decide)).trans ((hK1.2 18 (by decide) (by decide)).trans ((mg_un1 (by decide)).trans hna))))
                      have hts5 : mStk (K527 137) ((true :: l).map tB) := by
                        rw [show K527 137 = mg_u J 137 pn (tB true) 137 from funext fun k => (hK527.1 137 k (by decide)).trans ((mg_un1 (by decide)).trans ((mg_un1 (by decide)).trans (hK1.1 137 k (by decide))))]
                        have := (mStk.tl hts).push (i := 137) (v := tB true)
                        rw [List.length_map, hpl, ← hpn] at this
                        exact this
                      have hbn : (decide (tRk (tS B t) = 3) || (decide (3 < tRk (tS B t)) && false)) = true := by
                        rw [decide_eq_true (by omega)]
                        rfl
                      have hst : mst B tl key (t, S, o, false :: l, nn, false) = .inl (tgo B tl t, tS B t :: (mcs (tRk (tS B t)) S o).1, (mcs (tRk (tS B t)) S o).2, true :: l, nn, true) := by
                        show (if t.1 = 0 then _ else if t.1 = 3 ∧ B t.2.1 = 41 ∧ 0 < S.count 11 then _ else if tS B t = 0 ∨ (tRk (tS B t) = 3 ∧ false = true) then _ else Sum.inl (tgo B tl t, tS B t :: (mcs (tRk (tS B t)) S o).1, (mcs (tRk (tS B t)) S o).2, (decide (tRk (tS B t) = 3) || (decide (3 < tRk (tS B t)) && false)) :: l, nn, true)) = _
                        rw [if_neg (by omega), if_neg (fun z => by omega), if_neg (fun z => z.elim (fun y => by omega) (fun y => absurd y.2 (by decide))), hbn]
                      refine me_goto k193_342 ?_
                      rw [mc_s hst] at h
                      refine ih (tgo B tl t) (tS B t :: (mcs (tRk (tS B t)) S o).1) (mcs (tRk (tS B t)) S o).2 _ l nn true K527 pn h ((hz.tr (((mZf.u (i := 137) (by simp)).tr (mZf.s hK1)).tr ((mZf.u (by simp)).tr (mZf.u (by simp))))).tr (mZf.g hK527)) hT527 hp5 hna5 hts5 hgw.1 (hS_c (mcs_in S _ hS) (by omega)) (by rw [List.length_cons]; have := hgw.2; have := hw3 (by omega); omega) (by rw [List.count_cons_of_ne (by omega), mcs_11]; exact hc8) (by rw [List.count_cons_of_ne (by omega), mcs_11]; exact hpl) (by rw [List.count_cons_of_ne (by omega), mcs_11]; exact hpn) hnn _
                    · skip
                      rw [cI_eq (a := tRk (tS B t)) (b := 3) (by omega) (by omega)] at c23
                      refine me_iload (p' := 284) k193_282 rfl rfl ?_
                      refine me_cs (p' := 287) k193_284 rfl rfl rfl rfl rfl (cl_le mx_197 rfl) (by decide) (cl_sum rfl) (ct_rank (x := tS B t) (by omega) ?_)
                      have hr5 := (tRk_r (tS B t) (by omega)).2
                      refine me_iconst (p' := 288) k193_287 rfl (v := nI 3) (by decide) ?_
                      refine me_ic_le (p' := 291) k193_288 rfl (fun c24 => ?_) (fun c24 => ?_)
                      · skip
                        rw [cI_le (a := tRk (tS B t)) (b := 3) (by omega) (by omega)] at c24
                        refine me_iconst (p' := 305) k193_304 rfl (v := nI 0) (by decide) ?_
                        refine me_zast (p' := 306) k193_305 rfl (by decide) rfl (j := pn) rfl (by omega) (by decide) rfl rfl ?_
                        refine me_aload_n (p' := 307) k193_306 rfl rfl ?_
                        refine me_iload (p' := 309) k193_307 rfl rfl ?_
                        refine me_cs (p' := 312) k193_309 rfl rfl rfl rfl rfl (cl_le mx_197 rfl) (by decide) (cl_sum rfl) (ct_rank (x := tS B t) (by omega) ?_)
                        have hr5 := (tRk_r (tS B t) (by omega)).2
                        refine me_cv (p' := 315) k193_312 rfl rfl (by decide) rfl (by decide) (by decide) dp_196 rfl rfl (cl_le mx_196 rfl) (by decide) (cl_sum rfl) (ct_settle (S := S) (o := o) (by omega) (hp.un (by decide)) hS (by omega) (fun K1 hK1 hp1 => ?_))
                        have ht3 := tS_3 (show tS B t ≠ 0 by omega)
                        have hln := mcs_len (r := tRk (tS B t)) S o
                        have hgw := tgo_wf (B := B) (tl := tl) hw
                        refine me_aload_n (p' := 316) k193_315 rfl rfl ?_
                        refine me_gfr (p' := 319) k193_316 rfl (by decide) rfl (b := 136) rfl ?_
                        refine me_aload_n (p' := 320) k193_319 rfl rfl ?_
                        refine me_gfi (p' := 323) k193_320 rfl (by decide) rfl rfl ?_
                        rw [hp1.1]
                        refine me_iload (p' := 325) k193_323 rfl rfl ?_
                        refine me_iast (p' := 326) k193_325 rfl (by decide) rfl (j := (mcs (tRk (tS B t)) S o).1.length) rfl (by omega) (by decide) rfl ?_
                        refine me_aload_n (p' := 327) k193_326 rfl rfl ?_
                        refine me_dup (p' := 328) k193_327 rfl rfl ?_
                        refine me_gfi (p' := 331) k193_328 rfl (by decide) rfl rfl ?_
                        rw [mg_un1 (by decide), hp1.1]
                        refine me_iconst (p' := 332) k193_331 rfl (v := nI 1) (by decide) ?_
                        refine me_iadd (p' := 333) k193_332 rfl (v := nI (((mcs (tRk (tS B t)) S o).1.length) + 1)) (mI_add _ _) ?_
                        refine me_pfi (p' := 336) k193_333 rfl (by decide) rfl rfl rfl rfl ?_
                        refine me_iconst (p' := 337) k193_336 rfl (v := nI 1) (by decide) ?_
                        refine me_istore_n (p' := 338) k193_337 rfl ⟨Nat.le_of_ble_eq_true rfl, rfl⟩ rfl ?_
                        refine me_aload_n (p' := 339) k193_338 rfl rfl ?_
                        refine me_cv (p' := 342) k193_339 rfl rfl (by decide) rfl (by decide) (by decide) dp_189 rfl rfl (cl_le mx_189 rfl) (by decide) (cl_sum rfl) (ct_go (B := B) (tl := tl) (a := t.2.2) (w := t.1 = 1 ∨ t.1 = 2) (hTJ.zf ((((mZf.u (i := 137) (by simp)).tr (mZf.s hK1)).tr ((mZf.u (by simp)).tr (mZf.u (by simp)))))) hw.2.1 ((mg_une (by decide)).trans ((mg_un1 (by decide)).trans ((hK1.2 8 (by decide) (by decide)).trans ((mg_un1 (by decide)).trans hk.1)))) ((hk.2.2.2.2.2 (by omega)).fr ((mg_une (by decide)).trans ((mg_un1 (by decide)).trans ((hK1.2 12 (by decide) (by decide)).trans (mg_un1 (by decide)))))) (fun K528 hK528 hT528 => ?_))
                        have hp5 : mPs K528 (tS B t :: (mcs (tRk (tS B t)) S o).1) (mcs (tRk (tS B t)) S o).2 := (hp1.push rfl).gf hK528
                        have hna5 : K528 127 18 = nI (tNa (mcs (tRk (tS B t)) S o).2) := by
                          rw [tNa_mcs]
                          exact (hK528.2 18 (by decide) (by decide) (by decide) (by decide) (by decide)).trans ((mg_une (by decide)).trans ((mg_un1 (by decide)).trans ((hK1.2 18 (by decide) (by decide)).trans ((mg_un1 (by decide)).trans hna))))
                        have hts5 : mStk (K528 137) ((false :: l).map tB) := by
                          rw [show K528 137 = mg_u J 137 pn (tB false) 137 from funext fun k => (hK528.1 137 k (by decide)).trans ((mg_un1 (by decide)).trans ((mg_un1 (by decide)).trans (hK1.1 137 k (by decide))))]
                          have := (mStk.tl hts).push (i := 137) (v := tB false)
                          rw [List.length_map, hpl, ← hpn] at this
                          exact this
                        have hbn : (decide (tRk (tS B t) = 3) || (decide (3 < tRk (tS B t)) && false)) = false := by
                          rw [decide_eq_false (by omega), Bool.and_false]
                          rfl
                        have hst : mst B tl key (t, S, o, false :: l, nn, false) = .inl (tgo B tl t, tS B t :: (mcs (tRk (tS B t)) S o).1, (mcs (tRk (tS B t)) S o).2, false :: l, nn, true) := by
                          show (if t.1 = 0 then _ else if t.1 = 3 ∧ B t.2.1 = 41 ∧ 0 < S.count 11 then _ else if tS B t = 0 ∨ (tRk (tS B t) = 3 ∧ false = true) then _ else Sum.inl (tgo B tl t, tS B t :: (mcs (tRk (tS B t)) S o).1, (mcs (tRk (tS B t)) S o).2, (decide (tRk (tS B t) = 3) || (decide (3 < tRk (tS B t)) && false)) :: l, nn, true)) = _
                          rw [if_neg (by omega), if_neg (fun z => by omega), if_neg (fun z => z.elim (fun y => by omega) (fun y => absurd y.2 (by decide))), hbn]
                        refine me_goto k193_342 ?_
                        rw [mc_s hst] at h
                        refine ih (tgo B tl t) (tS B t :: (mcs (tRk (tS B t)) S o).1) (mcs (tRk (tS B t)) S o).2 _ l nn true K528 pn h ((hz.tr (((mZf.u (i := 137) (by simp)).tr (mZf.s hK1)).tr ((mZf.u (by simp)).tr (mZf.u (by simp))))).tr (mZf.g hK528)) hT528 hp5 hna5 hts5 hgw.1 (hS_c (mcs_in S _ hS) (by omega)) (by rw [List.length_cons]; have := hgw.2; have := hw3 (by omega); omega) (by rw [List.count_cons_of_ne (by omega), mcs_11]; exact hc8) (by rw [List.count_cons_of_ne (by omega), mcs_11]; exact hpl) (by rw [List.count_cons_of_ne (by omega), mcs_11]; exact hpn) hnn _
                      · skip
                        rw [cI_le (a := tRk (tS B t)) (b := 3) (by omega) (by omega)] at c24
                        refine me_aload_n (p' := 292) k193_291 rfl rfl ?_
                        refine me_gfr (p' := 295) k193_292 rfl (by decide) rfl (b := 137) rfl ?_
                        refine me_iload_n (p' := 296) k193_295 rfl rfl ?_
                        refine me_zald (p' := 297) k193_296 rfl (by decide) rfl (j := pn) rfl (by omega) (by decide) rfl ?_
                        rw [show J 137 pn = nI 0 from by have := hts.top; rw [List.length_map, hpl, ← hpn] at this; exact this]
                        refine me_if_eq (p' := 300) k193_297 rfl (fun _ => ?_) (fun h => absurd (by decide) h)
                        refine me_iconst (p' := 305) k193_304 rfl (v := nI 0) (by decide) ?_
                        refine me_zast (p' := 306) k193_305 rfl (by decide) rfl (j := pn) rfl (by omega) (by decide) rfl rfl ?_
                        refine me_aload_n (p' := 307) k193_306 rfl rfl ?_
                        refine me_iload (p' := 309) k193_307 rfl rfl ?_
                        refine me_cs (p' := 312) k193_309 rfl rfl rfl rfl rfl (cl_le mx_197 rfl) (by decide) (cl_sum rfl) (ct_rank (x := tS B t) (by omega) ?_)
                        have hr5 := (tRk_r (tS B t) (by omega)).2
                        refine me_cv (p' := 315) k193_312 rfl rfl (by decide) rfl (by decide) (by decide) dp_196 rfl rfl (cl_le mx_196 rfl) (by decide) (cl_sum rfl) (ct_settle (S := S) (o := o) (by omega) (hp.un (by decide)) hS (by omega) (fun K1 hK1 hp1 => ?_))
                        have ht3 := tS_3 (show tS B t ≠ 0 by omega)
                        have hln := mcs_len (r := tRk (tS B t)) S o
                        have hgw := tgo_wf (B := B) (tl := tl) hw
                        refine me_aload_n (p' := 316) k193_315 rfl rfl ?_
                        refine me_gfr (p' := 319) k193_316 rfl (by decide) rfl (b := 136) rfl ?_
                        refine me_aload_n (p' := 320) k193_319 rfl rfl ?_
                        refine me_gfi (p' := 323) k193_320 rfl (by decide) rfl rfl ?_
                        rw [hp1.1]
                        refine me_iload (p' := 325) k193_323 rfl rfl ?_
                        refine me_iast (p' := 326) k193_325 rfl (by decide) rfl (j := (mcs (tRk (tS B t)) S o).1.length) rfl (by omega) (by decide) rfl ?_
                        refine me_aload_n (p' := 327) k193_326 rfl rfl ?_
                        refine me_dup (p' := 328) k193_327 rfl rfl ?_
                        refine me_gfi (p' := 331) k193_328 rfl (by decide) rfl rfl ?_
                        rw [mg_un1 (by decide), hp1.1]
                        refine me_iconst (p' := 332) k193_331 rfl (v := nI 1) (by decide) ?_
                        refine me_iadd (p' := 333) k193_332 rfl (v := nI (((mcs (tRk (tS B t)) S o).1.length) + 1)) (mI_add _ _) ?_
                        refine me_pfi (p' := 336) k193_333 rfl (by decide) rfl rfl rfl rfl ?_
                        refine me_iconst (p' := 337) k193_336 rfl (v := nI 1) (by decide) ?_
                        refine me_istore_n (p' := 338) k193_337 rfl ⟨Nat.le_of_ble_eq_true rfl, rfl⟩ rfl ?_
                        refine me_aload_n (p' := 339) k193_338 rfl rfl ?_
                        refine me_cv (p' := 342) k193_339 rfl rfl (by decide) rfl (by decide) (by decide) dp_189 rfl rfl (cl_le mx_189 rfl) (by decide) (cl_sum rfl) (ct_go (B := B) (tl := tl) (a := t.2.2) (w := t.1 = 1 ∨ t.1 = 2) (hTJ.zf ((((mZf.u (i := 137) (by simp)).tr (mZf.s hK1)).tr ((mZf.u (by simp)).tr (mZf.u (by simp)))))) hw.2.1 ((mg_une (by decide)).trans ((mg_un1 (by decide)).trans ((hK1.2 8 (by decide) (by decide)).trans ((mg_un1 (by decide)).trans hk.1)))) ((hk.2.2.2.2.2 (by omega)).fr ((mg_une (by decide)).trans ((mg_un1 (by decide)).trans ((hK1.2 12 (by decide) (by decide)).trans (mg_un1 (by decide)))))) (fun K529 hK529 hT529 => ?_))
                        have hp5 : mPs K529 (tS B t :: (mcs (tRk (tS B t)) S o).1) (mcs (tRk (tS B t)) S o).2 := (hp1.push rfl).gf hK529
                        have hna5 : K529 127 18 = nI (tNa (mcs (tRk (tS B t)) S o).2) := by
                          rw [tNa_mcs]
                          exact (hK529.2 18 (by decide) (by decide) (by decide) (by decide) (by decide)).trans ((mg_une (by decide)).trans ((mg_un1 (by decide)).trans ((hK1.2 18 (by decide) (by decide)).trans ((mg_un1 (by decide)).trans hna))))
                        have hts5 : mStk (K529 137) ((false :: l).map tB) := by
                          rw [show K529 137 = mg_u J 137 pn (tB false) 137 from funext fun k => (hK529.1 137 k (by decide)).trans ((mg_un1 (by decide)).trans ((mg_un1 (by decide)).trans (hK1.1 137 k (by decide))))]
                          have := (mStk.tl hts).push (i := 137) (v := tB false)
                          rw [List.length_map, hpl, ← hpn] at this
                          exact this
                        have hbn : (decide (tRk (tS B t) = 3) || (decide (3 < tRk (tS B t)) && false)) = false := by
                          rw [decide_eq_false (by omega), Bool.and_false]
                          rfl
                        have hst : mst B tl key (t, S, o, false :: l, nn, false) = .inl (tgo B tl t, tS B t :: (mcs (tRk (tS B t)) S o).1, (mcs (tRk (tS B t)) S o).2, false :: l, nn, true) := by
                          show (if t.1 = 0 then _ else if t.1 = 3 ∧ B t.2.1 = 41 ∧ 0 < S.count 11 then _ else if tS B t = 0 ∨ (tRk (tS B t) = 3 ∧ false = true) then _ else Sum.inl (tgo B tl t, tS B t :: (mcs (tRk (tS B t)) S o).1, (mcs (tRk (tS B t)) S o).2, (decide (tRk (tS B t) = 3) || (decide (3 < tRk (tS B t)) && false)) :: l, nn, true)) = _
                          rw [if_neg (by omega), if_neg (fun z => by omega), if_neg (fun z => z.elim (fun y => by omega) (fun y => absurd y.2 (by decide))), hbn]
                        refine me_goto k193_342 ?_
                        rw [mc_s hst] at h
                        refine ih (tgo B tl t) (tS B t :: (mcs (tRk (tS B t)) S o).1) (mcs (tRk (tS B t)) S o).2 _ l nn true K529 pn h ((hz.tr (((mZf.u (i := 137) (by simp)).tr (mZf.s hK1)).tr ((mZf.u (by simp)).tr (mZf.u (by simp))))).tr (mZf.g hK529)) hT529 hp5 hna5 hts5 hgw.1 (hS_c (mcs_in S _ hS) (by omega)) (by rw [List.length_cons]; have := hgw.2; have := hw3 (by omega); omega) (by rw [List.count_cons_of_ne (by omega), mcs_11]; exact hc8) (by rw [List.count_cons_of_ne (by omega), mcs_11]; exact hpl) (by rw [List.count_cons_of_ne (by omega), mcs_11]; exact hpn) hnn _
            · skip
              refine me_aload_n (p' := 238) k193_237 rfl rfl ?_
              refine me_cv (p' := 241) k193_238 rfl rfl (by decide) rfl (by decide) (by decide) dp_199 rfl rfl (cl_le mx_199 rfl) (by decide) (cl_sum rfl) (ct_signHere hTJ hk hw ?_)
              have hq9 := tS_r B t
              refine me_istore (p' := 243) k193_241 rfl ⟨Nat.le_of_ble_eq_true rfl, rfl⟩ rfl ?_
              refine me_iload (p' := 245) k193_243 rfl rfl ?_
              rcases Nat.eq_zero_or_pos (tS B t) with hq0 | hq0
              · skip
                refine me_if_eq (p' := 248) k193_245 rfl (fun c25 => ?_) (fun c25 => ?_)
                · skip
                  refine me_iconst (p' := 267) k193_266 rfl (v := nI 0) (by decide) ?_
                  refine me_reti k193_267 rt_193 (by decide) ?_
                  have hst : mst B tl key (t, S, o, true :: l, nn, false) = .inr (t.2.1, none) := by
                    show (if t.1 = 0 then _ else if t.1 = 3 ∧ B t.2.1 = 41 ∧ 0 < S.count 11 then _ else if tS B t = 0 ∨ (tRk (tS B t) = 3 ∧ true = true) then _ else _) = _
                    rw [if_neg (by omega), if_neg (fun z => by omega), if_pos (Or.inl hq0)]
                  have hr := mc_e hst h
                  exact hF J t.2.1 hz hr hk.2.1
                · skip
                  exact absurd ((sg_neg _ (by omega)).2.mpr hq0) c25
              · skip
                refine me_if_eq (p' := 248) k193_245 rfl (fun c26 => ?_) (fun c26 => ?_)
                · skip
                  exact absurd ((sg_neg _ (by omega)).2.mp c26) (by omega)
                · skip
                  refine me_iload (p' := 250) k193_248 rfl rfl ?_
                  refine me_cs (p' := 253) k193_250 rfl rfl rfl rfl rfl (cl_le mx_197 rfl) (by decide) (cl_sum rfl) (ct_rank (x := tS B t) (by omega) ?_)
                  have hr5 := (tRk_r (tS B t) (by omega)).2
                  refine me_iconst (p' := 254) k193_253 rfl (v := nI 3) (by decide) ?_
                  refine me_ic_ne (p' := 257) k193_254 rfl (fun c27 => ?_) (fun c27 => ?_)
                  · skip
                    rw [cI_eq (a := tRk (tS B t)) (b := 3) (by omega) (by omega)] at c27
                    refine me_aload_n (p' := 258) k193_257 rfl rfl ?_
                    refine me_gfr (p' := 261) k193_258 rfl (by decide) rfl (b := 137) rfl ?_
                    refine me_iload_n (p' := 262) k193_261 rfl rfl ?_
                    refine me_zald (p' := 263) k193_262 rfl (by decide) rfl (j := pn) rfl (by omega) (by decide) rfl ?_
                    rw [show J 137 pn = nI 1 from by have := hts.top; rw [List.length_map, hpl, ← hpn] at this; exact this]
                    refine me_if_eq (p' := 266) k193_263 rfl (fun h => absurd h (by decide)) (fun _ => ?_)
                    refine me_iconst (p' := 267) k193_266 rfl (v := nI 0) (by decide) ?_
                    refine me_reti k193_267 rt_193 (by decide) ?_
                    have hst : mst B tl key (t, S, o, true :: l, nn, false) = .inr (t.2.1, none) := by
                      show (if t.1 = 0 then _ else if t.1 = 3 ∧ B t.2.1 = 41 ∧ 0 < S.count 11 then _ else if tS B t = 0 ∨ (tRk (tS B t) = 3 ∧ true = true) then _ else _) = _
                      rw [if_neg (by omega), if_neg (fun z => by omega), if_pos (Or.inr ⟨by omega, rfl⟩)]
                    have hr := mc_e hst h
                    exact hF J t.2.1 hz hr hk.2.1
                  · skip
                    rw [cI_eq (a := tRk (tS B t)) (b := 3) (by omega) (by omega)] at c27
                    refine me_aload_n (p' := 269) k193_268 rfl rfl ?_
                    refine me_gfr (p' := 272) k193_269 rfl (by decide) rfl (b := 137) rfl ?_
                    refine me_iload_n (p' := 273) k193_272 rfl rfl ?_
                    refine me_iload (p' := 275) k193_273 rfl rfl ?_
                    refine me_cs (p' := 278) k193_275 rfl rfl rfl rfl rfl (cl_le mx_197 rfl) (by decide) (cl_sum rfl) (ct_rank (x := tS B t) (by omega) ?_)
                    have hr5 := (tRk_r (tS B t) (by omega)).2
                    refine me_iconst (p' := 279) k193_278 rfl (v := nI 3) (by decide) ?_
                    refine me_ic_eq (p' := 282) k193_279 rfl (fun c28 => ?_) (fun c28 => ?_)
                    · skip
                      rw [cI_eq (a := tRk (tS B t)) (b := 3) (by omega) (by omega)] at c28
                      refine me_iconst (p' := 301) k193_300 rfl (v := nI 1) (by decide) ?_
                      refine me_goto k193_301 ?_
                      refine me_zast (p' := 306) k193_305 rfl (by decide) rfl (j := pn) rfl (by omega) (by decide) rfl rfl ?_
                      refine me_aload_n (p' := 307) k193_306 rfl rfl ?_
                      refine me_iload (p' := 309) k193_307 rfl rfl ?_
                      refine me_cs (p' := 312) k193_309 rfl rfl rfl rfl rfl (cl_le mx_197 rfl) (by decide) (cl_sum rfl) (ct_rank (x := tS B t) (by omega) ?_)
                      have hr5 := (tRk_r (tS B t) (by omega)).2
                      refine me_cv (p' := 315) k193_312 rfl rfl (by decide) rfl (by decide) (by decide) dp_196 rfl rfl (cl_le mx_196 rfl) (by decide) (cl_sum rfl) (ct_settle (S := S) (o := o) (by omega) (hp.un (by decide)) hS (by omega) (fun K1 hK1 hp1 => ?_))
                      have ht3 := tS_3 (show tS B t ≠ 0 by omega)
                      have hln := mcs_len (r := tRk (tS B t)) S o
                      have hgw := tgo_wf (B := B) (tl := tl) hw
                      refine me_aload_n (p' := 316) k193_315 rfl rfl ?_
                      refine me_gfr (p' := 319) k193_316 rfl (by decide) rfl (b := 136) rfl ?_
                      refine me_aload_n (p' := 320) k193_319 rfl rfl ?_
                      refine me_gfi (p' := 323) k193_320 rfl (by decide) rfl rfl ?_
                      rw [hp1.1]
                      refine me_iload (p' := 325) k193_323 rfl rfl ?_
                      refine me_iast (p' := 326) k193_325 rfl (by decide) rfl (j := (mcs (tRk (tS B t)) S o).1.length) rfl (by omega) (by decide) rfl ?_
                      refine me_aload_n (p' := 327) k193_326 rfl rfl ?_
                      refine me_dup (p' := 328) k193_327 rfl rfl ?_
                      refine me_gfi (p' := 331) k193_328 rfl (by decide) rfl rfl ?_
                      rw [mg_un1 (by decide), hp1.1]
                      refine me_iconst (p' := 332) k193_331 rfl (v := nI 1) (by decide) ?_
                      refine me_iadd (p' := 333) k193_332 rfl (v := nI (((mcs (tRk (tS B t)) S o).1.length) + 1)) (mI_add _ _) ?_
                      refine me_pfi (p' := 336) k193_333 rfl (by decide) rfl rfl rfl rfl ?_
                      refine me_iconst (p' := 337) k193_336 rfl (v := nI 1) (by decide) ?_
                      refine me_istore_n (p' := 338) k193_337 rfl ⟨Nat.le_of_ble_eq_true rfl, rfl⟩ rfl ?_
                      refine me_aload_n (p' := 339) k193_338 rfl rfl ?_
                      refine me_cv (p' := 342) k193_339 rfl rfl (by decide) rfl (by decide) (by decide) dp_189 rfl rfl (cl_le mx_189 rfl) (by decide) (cl_sum rfl) (ct_go (B := B) (tl := tl) (a := t.2.2) (w := t.1 = 1 ∨ t.1 = 2) (hTJ.zf ((((mZf.u (i := 137) (by simp)).tr (mZf.s hK1)).tr ((mZf.u (by simp)).tr (mZf.u (by simp)))))) hw.2.1 ((mg_une (by decide)).trans ((mg_un1 (by decide)).trans ((hK1.2 8 (by decide) (by decide)).trans ((mg_un1 (by decide)).trans hk.1)))) ((hk.2.2.2.2.2 (by omega)).fr ((mg_une (by decide)).trans ((mg_un1 (by decide)).trans ((hK1.2 12 (by decide) (by decide)).trans (mg_un1 (by decide)))))) (fun K530 hK530 hT530 => ?_))
                      have hp5 : mPs K530 (tS B t :: (mcs (tRk (tS B t)) S o).1) (mcs (tRk (tS B t)) S o).2 := (hp1.push rfl).gf hK530
                      have hna5 : K530 127 18 = nI (tNa (mcs (tRk (tS B t)) S o).2) := by
                        rw [tNa_mcs]
                        exact (hK530.2 18 (by decide) (by decide) (by decide) (by decide) (by decide)).trans ((mg_une (by decide)).trans ((mg_un1 (by decide)).trans ((hK1.2 18 (by decide) (by decide)).trans ((mg_un1 (by decide)).trans hna))))
                      have hts5 : mStk (K530 137) ((true :: l).map tB) := by
                        rw [show K530 137 = mg_u J 137 pn (tB true) 137 from funext fun k => (hK530.1 137 k (by decide)).trans ((mg_un1 (by decide)).trans ((mg_un1 (by decide)).trans (hK1.1 137 k (by decide))))]
                        have := (mStk.tl hts).push (i := 137) (v := tB true)
                        rw [List.length_map, hpl, ← hpn] at this
                        exact this
                      have hbn : (decide (tRk (tS B t) = 3) || (decide (3 < tRk (tS B t)) && true)) = true := by
                        by_cases z : tRk (tS B t) = 3
                        · rw [decide_eq_true z]
                          rfl
                        · rw [decide_eq_false z, decide_eq_true (by omega)]
                          rfl
                      have hst : mst B tl key (t, S, o, true :: l, nn, false) = .inl (tgo B tl t, tS B t :: (mcs (tRk (tS B t)) S o).1, (mcs (tRk (tS B t)) S o).2, true :: l, nn, true) := by
                        show (if t.1 = 0 then _ else if t.1 = 3 ∧ B t.2.1 = 41 ∧ 0 < S.count 11 then _ else if tS B t = 0 ∨ (tRk (tS B t) = 3 ∧ true = true) then _ else Sum.inl (tgo B tl t, tS B t :: (mcs (tRk (tS B t)) S o).1, (mcs (tRk (tS B t)) S o).2, (decide (tRk (tS B t) = 3) || (decide (3 < tRk (tS B t)) && true)) :: l, nn, true)) = _
                        rw [if_neg (by omega), if_neg (fun z => by omega), if_neg (fun z => z.elim (fun y => by omega) (fun y => by omega)), hbn]
                      refine me_goto k193_342 ?_
                      rw [mc_s hst] at h
                      refine ih (tgo B tl t) (tS B t :: (mcs (tRk (tS B t)) S o).1) (mcs (tRk (tS B t)) S o).2 _ l nn true K530 pn h ((hz.tr (((mZf.u (i := 137) (by simp)).tr (mZf.s hK1)).tr ((mZf.u (by simp)).tr (mZf.u (by simp))))).tr (mZf.g hK530)) hT530 hp5 hna5 hts5 hgw.1 (hS_c (mcs_in S _ hS) (by omega)) (by rw [List.length_cons]; have := hgw.2; have := hw3 (by omega); omega) (by rw [List.count_cons_of_ne (by omega), mcs_11]; exact hc8) (by rw [List.count_cons_of_ne (by omega), mcs_11]; exact hpl) (by rw [List.count_cons_of_ne (by omega), mcs_11]; exact hpn) hnn _
                    · skip
                      rw [cI_eq (a := tRk (tS B t)) (b := 3) (by omega) (by omega)] at c28
                      refine me_iload (p' := 284) k193_282 rfl rfl ?_
                      refine me_cs (p' := 287) k193_284 rfl rfl rfl rfl rfl (cl_le mx_197 rfl) (by decide) (cl_sum rfl) (ct_rank (x := tS B t) (by omega) ?_)
                      have hr5 := (tRk_r (tS B t) (by omega)).2
                      refine me_iconst (p' := 288) k193_287 rfl (v := nI 3) (by decide) ?_
                      refine me_ic_le (p' := 291) k193_288 rfl (fun c29 => ?_) (fun c29 => ?_)
                      · skip
                        rw [cI_le (a := tRk (tS B t)) (b := 3) (by omega) (by omega)] at c29
                        refine me_iconst (p' := 305) k193_304 rfl (v := nI 0) (by decide) ?_
                        refine me_zast (p' := 306) k193_305 rfl (by decide) rfl (j := pn) rfl (by omega) (by decide) rfl rfl ?_
                        refine me_aload_n (p' := 307) k193_306 rfl rfl ?_
                        refine me_iload (p' := 309) k193_307 rfl rfl ?_
                        refine me_cs (p' := 312) k193_309 rfl rfl rfl rfl rfl (cl_le mx_197 rfl) (by decide) (cl_sum rfl) (ct_rank (x := tS B t) (by omega) ?_)
                        have hr5 := (tRk_r (tS B t) (by omega)).2
                        refine me_cv (p' := 315) k193_312 rfl rfl (by decide) rfl (by decide) (by decide) dp_196 rfl rfl (cl_le mx_196 rfl) (by decide) (cl_sum rfl) (ct_settle (S := S) (o := o) (by omega) (hp.un (by decide)) hS (by omega) (fun K1 hK1 hp1 => ?_))
                        have ht3 := tS_3 (show tS B t ≠ 0 by omega)
                        have hln := mcs_len (r := tRk (tS B t)) S o
                        have hgw := tgo_wf (B := B) (tl := tl) hw
                        refine me_aload_n (p' := 316) k193_315 rfl rfl ?_
                        refine me_gfr (p' := 319) k193_316 rfl (by decide) rfl (b := 136) rfl ?_
                        refine me_aload_n (p' := 320) k193_319 rfl rfl ?_
                        refine me_gfi (p' := 323) k193_320 rfl (by decide) rfl rfl ?_
                        rw [hp1.1]
                        refine me_iload (p' := 325) k193_323 rfl rfl ?_
                        refine me_iast (p' := 326) k193_325 rfl (by decide) rfl (j := (mcs (tRk (tS B t)) S o).1.length) rfl (by omega) (by decide) rfl ?_
                        refine me_aload_n (p' := 327) k193_326 rfl rfl ?_
                        refine me_dup (p' := 328) k193_327 rfl rfl ?_
                        refine me_gfi (p' := 331) k193_328 rfl (by decide) rfl rfl ?_
                        rw [mg_un1 (by decide), hp1.1]
                        refine me_iconst (p' := 332) k193_331 rfl (v := nI 1) (by decide) ?_
                        refine me_iadd (p' := 333) k193_332 rfl (v := nI (((mcs (tRk (tS B t)) S o).1.length) + 1)) (mI_add _ _) ?_
                        refine me_pfi (p' := 336) k193_333 rfl (by decide) rfl rfl rfl rfl ?_
                        refine me_iconst (p' := 337) k193_336 rfl (v := nI 1) (by decide) ?_
                        refine me_istore_n (p' := 338) k193_337 rfl ⟨Nat.le_of_ble_eq_true rfl, rfl⟩ rfl ?_
                        refine me_aload_n (p' := 339) k193_338 rfl rfl ?_
                        refine me_cv (p' := 342) k193_339 rfl rfl (by decide) rfl (by decide) (by decide) dp_189 rfl rfl (cl_le mx_189 rfl) (by decide) (cl_sum rfl) (ct_go (B := B) (tl := tl) (a := t.2.2) (w := t.1 = 1 ∨ t.1 = 2) (hTJ.zf ((((mZf.u (i := 137) (by simp)).tr (mZf.s hK1)).tr ((mZf.u (by simp)).tr (mZf.u (by simp)))))) hw.2.1 ((mg_une (by decide)).trans ((mg_un1 (by decide)).trans ((hK1.2 8 (by decide) (by decide)).trans ((mg_un1 (by decide)).trans hk.1)))) ((hk.2.2.2.2.2 (by omega)).fr ((mg_une (by decide)).trans ((mg_un1 (by decide)).trans ((hK1.2 12 (by decide) (by decide)).trans (mg_un1 (by decide)))))) (fun K531 hK531 hT531 => ?_))
                        have hp5 : mPs K531 (tS B t :: (mcs (tRk (tS B t)) S o).1) (mcs (tRk (tS B t)) S o).2 := (hp1.push rfl).gf hK531
                        have hna5 : K531 127 18 = nI (tNa (mcs (tRk (tS B t)) S o).2) := by
                          rw [tNa_mcs]
                          exact (hK531.2 18 (by decide) (by decide) (by decide) (by decide) (by decide)).trans ((mg_une (by decide)).trans ((mg_un1 (by decide)).trans ((hK1.2 18 (by decide) (by decide)).trans ((mg_un1 (by decide)).trans hna))))
                        have hts5 : mStk (K531 137) ((false :: l).map tB) := by
                          rw [show K531 137 = mg_u J 137 pn (tB false) 137 from funext fun k => (hK531.1 137 k (by decide)).trans ((mg_un1 (by decide)).trans ((mg_un1 (by decide)).trans (hK1.1 137 k (by decide))))]
                          have := (mStk.tl hts).push (i := 137) (v := tB false)
                          rw [List.length_map, hpl, ← hpn] at this
                          exact this
                        have hbn : (decide (tRk (tS B t) = 3) || (decide (3 < tRk (tS B t)) && true)) = false := by
                          rw [decide_eq_false (by omega), decide_eq_false (by omega)]
                          rfl
                        have hst : mst B tl key (t, S, o, true :: l, nn, false) = .inl (tgo B tl t, tS B t :: (mcs (tRk (tS B t)) S o).1, (mcs (tRk (tS B t)) S o).2, false :: l, nn, true) := by
                          show (if t.1 = 0 then _ else if t.1 = 3 ∧ B t.2.1 = 41 ∧ 0 < S.count 11 then _ else if tS B t = 0 ∨ (tRk (tS B t) = 3 ∧ true = true) then _ else Sum.inl (tgo B tl t, tS B t :: (mcs (tRk (tS B t)) S o).1, (mcs (tRk (tS B t)) S o).2, (decide (tRk (tS B t) = 3) || (decide (3 < tRk (tS B t)) && true)) :: l, nn, true)) = _
                          rw [if_neg (by omega), if_neg (fun z => by omega), if_neg (fun z => z.elim (fun y => by omega) (fun y => by omega)), hbn]
                        refine me_goto k193_342 ?_
                        rw [mc_s hst] at h
                        refine ih (tgo B tl t) (tS B t :: (mcs (tRk (tS B t)) S o).1) (mcs (tRk (tS B t)) S o).2 _ l nn true K531 pn h ((hz.tr (((mZf.u (i := 137) (by simp)).tr (mZf.s hK1)).tr ((mZf.u (by simp)).tr (mZf.u (by simp))))).tr (mZf.g hK531)) hT531 hp5 hna5 hts5 hgw.1 (hS_c (mcs_in S _ hS) (by omega)) (by rw [List.length_cons]; have := hgw.2; have := hw3 (by omega); omega) (by rw [List.count_cons_of_ne (by omega), mcs_11]; exact hc8) (by rw [List.count_cons_of_ne (by omega), mcs_11]; exact hpl) (by rw [List.count_cons_of_ne (by omega), mcs_11]; exact hpn) hnn _
                      · skip
                        rw [cI_le (a := tRk (tS B t)) (b := 3) (by omega) (by omega)] at c29
                        refine me_aload_n (p' := 292) k193_291 rfl rfl ?_
                        refine me_gfr (p' := 295) k193_292 rfl (by decide) rfl (b := 137) rfl ?_
                        refine me_iload_n (p' := 296) k193_295 rfl rfl ?_
                        refine me_zald (p' := 297) k193_296 rfl (by decide) rfl (j := pn) rfl (by omega) (by decide) rfl ?_
                        rw [show J 137 pn = nI 1 from by have := hts.top; rw [List.length_map, hpl, ← hpn] at this; exact this]
                        refine me_if_eq (p' := 300) k193_297 rfl (fun h => absurd h (by decide)) (fun _ => ?_)
                        refine me_iconst (p' := 301) k193_300 rfl (v := nI 1) (by decide) ?_
                        refine me_goto k193_301 ?_
                        refine me_zast (p' := 306) k193_305 rfl (by decide) rfl (j := pn) rfl (by omega) (by decide) rfl rfl ?_
                        refine me_aload_n (p' := 307) k193_306 rfl rfl ?_
                        refine me_iload (p' := 309) k193_307 rfl rfl ?_
                        refine me_cs (p' := 312) k193_309 rfl rfl rfl rfl rfl (cl_le mx_197 rfl) (by decide) (cl_sum rfl) (ct_rank (x := tS B t) (by omega) ?_)
                        have hr5 := (tRk_r (tS B t) (by omega)).2
                        refine me_cv (p' := 315) k193_312 rfl rfl (by decide) rfl (by decide) (by decide) dp_196 rfl rfl (cl_le mx_196 rfl) (by decide) (cl_sum rfl) (ct_settle (S := S) (o := o) (by omega) (hp.un (by decide)) hS (by omega) (fun K1 hK1 hp1 => ?_))
                        have ht3 := tS_3 (show tS B t ≠ 0 by omega)
                        have hln := mcs_len (r := tRk (tS B t)) S o
                        have hgw := tgo_wf (B := B) (tl := tl) hw
                        refine me_aload_n (p' := 316) k193_315 rfl rfl ?_
                        refine me_gfr (p' := 319) k193_316 rfl (by decide) rfl (b := 136) rfl ?_
                        refine me_aload_n (p' := 320) k193_319 rfl rfl ?_
                        refine me_gfi (p' := 323) k193_320 rfl (by decide) rfl rfl ?_
                        rw [hp1.1]
                        refine me_iload (p' := 325) k193_323 rfl rfl ?_
                        refine me_iast (p' := 326) k193_325 rfl (by decide) rfl (j := (mcs (tRk (tS B t)) S o).1.length) rfl (by omega) (by decide) rfl ?_
                        refine me_aload_n (p' := 327) k193_326 rfl rfl ?_
                        refine me_dup (p' := 328) k193_327 rfl rfl ?_
                        refine me_gfi (p' := 331) k193_328 rfl (by decide) rfl rfl ?_
                        rw [mg_un1 (by decide), hp1.1]
                        refine me_iconst (p' := 332) k193_331 rfl (v := nI 1) (by decide) ?_
                        refine me_iadd (p' := 333) k193_332 rfl (v := nI (((mcs (tRk (tS B t)) S o).1.length) + 1)) (mI_add _ _) ?_
                        refine me_pfi (p' := 336) k193_333 rfl (by decide) rfl rfl rfl rfl ?_
                        refine me_iconst (p' := 337) k193_336 rfl (v := nI 1) (by decide) ?_
                        refine me_istore_n (p' := 338) k193_337 rfl ⟨Nat.le_of_ble_eq_true rfl, rfl⟩ rfl ?_
                        refine me_aload_n (p' := 339) k193_338 rfl rfl ?_
                        refine me_cv (p' := 342) k193_339 rfl rfl (by decide) rfl (by decide) (by decide) dp_189 rfl rfl (cl_le mx_189 rfl) (by decide) (cl_sum rfl) (ct_go (B := B) (tl := tl) (a := t.2.2) (w := t.1 = 1 ∨ t.1 = 2) (hTJ.zf ((((mZf.u (i := 137) (by simp)).tr (mZf.s hK1)).tr ((mZf.u (by simp)).tr (mZf.u (by simp)))))) hw.2.1 ((mg_une (by decide)).trans ((mg_un1 (by decide)).trans ((hK1.2 8 (by decide) (by decide)).trans ((mg_un1 (by decide)).trans hk.1)))) ((hk.2.2.2.2.2 (by omega)).fr ((mg_une (by decide)).trans ((mg_un1 (by decide)).trans ((hK1.2 12 (by decide) (by decide)).trans (mg_un1 (by decide)))))) (fun K532 hK532 hT532 => ?_))
                        have hp5 : mPs K532 (tS B t :: (mcs (tRk (tS B t)) S o).1) (mcs (tRk (tS B t)) S o).2 := (hp1.push rfl).gf hK532
                        have hna5 : K532 127 18 = nI (tNa (mcs (tRk (tS B t)) S o).2) := by
                          rw [tNa_mcs]
                          exact (hK532.2 18 (by decide) (by decide) (by decide) (by decide) (by decide)).trans ((mg_une (by decide)).trans ((mg_un1 (by decide)).trans ((hK1.2 18 (by decide) (by decide)).trans ((mg_un1 (by decide)).trans hna))))
                        have hts5 : mStk (K532 137) ((true :: l).map tB) := by
                          rw [show K532 137 = mg_u J 137 pn (tB true) 137 from funext fun k => (hK532.1 137 k (by decide)).trans ((mg_un1 (by decide)).trans ((mg_un1 (by decide)).trans (hK1.1 137 k (by decide))))]
                          have := (mStk.tl hts).push (i := 137) (v := tB true)
                          rw [List.length_map, hpl, ← hpn] at this
                          exact this
                        have hbn : (decide (tRk (tS B t) = 3) || (decide (3 < tRk (tS B t)) && true)) = true := by
                          by_cases z : tRk (tS B t) = 3
                          · rw [decide_eq_true z]
                            rfl
                          · rw [decide_eq_false z, decide_eq_true (by omega)]
                            rfl
                        have hst : mst B tl key (t, S, o, true :: l, nn, false) = .inl (tgo B tl t, tS B t :: (mcs (tRk (tS B t)) S o).1, (mcs (tRk (tS B t)) S o).2, true :: l, nn, true) := by
                          show (if t.1 = 0 then _ else if t.1 = 3 ∧ B t.2.1 = 41 ∧ 0 < S.count 11 then _ else if tS B t = 0 ∨ (tRk (tS B t) = 3 ∧ true = true) then _ else Sum.inl (tgo B tl t, tS B t :: (mcs (tRk (tS B t)) S o).1, (mcs (tRk (tS B t)) S o).2, (decide (tRk (tS B t) = 3) || (decide (3 < tRk (tS B t)) && true)) :: l, nn, true)) = _
                          rw [if_neg (by omega), if_neg (fun z => by omega), if_neg (fun z => z.elim (fun y => by omega) (fun y => by omega)), hbn]
                        refine me_goto k193_342 ?_
                        rw [mc_s hst] at h
                        refine ih (tgo B tl t) (tS B t :: (mcs (tRk (tS B t)) S o).1) (mcs (tRk (tS B t)) S o).2 _ l nn true K532 pn h ((hz.tr (((mZf.u (i := 137) (by simp)).tr (mZf.s hK1)).tr ((mZf.u (by simp)).tr (mZf.u (by simp))))).tr (mZf.g hK532)) hT532 hp5 hna5 hts5 hgw.1 (hS_c (mcs_in S _ hS) (by omega)) (by rw [List.length_cons]; have := hgw.2; have := hw3 (by omega); omega) (by rw [List.count_cons_of_ne (by omega), mcs_11]; exact hc8) (by rw [List.count_cons_of_ne (by omega), mcs_11]; exact hpl) (by rw [List.count_cons_of_ne (by omega), mcs_11]; exact hpn) hnn _
        · skip
          rw [cI_eq (a := t.1) (b := 3) (by omega) (by omega)] at c3
          cases b
          · skip
            refine me_aload_n (p' := 238) k193_237 rfl rfl ?_
            refine me_cv (p' := 241) k193_238 rfl rfl (by decide) rfl (by decide) (by decide) dp_199 rfl rfl (cl_le mx_199 rfl) (by decide) (cl_sum rfl) (ct_signHere hTJ hk hw ?_)
            have hq9 := tS_r B t
            refine me_istore (p' := 243) k193_241 rfl ⟨Nat.le_of_ble_eq_true rfl, rfl⟩ rfl ?_
            refine me_iload (p' := 245) k193_243 rfl rfl ?_
            rcases Nat.eq_zero_or_pos (tS B t) with hq0 | hq0
            · skip
              refine me_if_eq (p' := 248) k193_245 rfl (fun c30 => ?_) (fun c30 => ?_)
              · skip
                refine me_iconst (p' := 267) k193_266 rfl (v := nI 0) (by decide) ?_
                refine me_reti k193_267 rt_193 (by decide) ?_
                have hst : mst B tl key (t, S, o, false :: l, nn, false) = .inr (t.2.1, none) := by
                  show (if t.1 = 0 then _ else if t.1 = 3 ∧ B t.2.1 = 41 ∧ 0 < S.count 11 then _ else if tS B t = 0 ∨ (tRk (tS B t) = 3 ∧ false = true) then _ else _) = _
                  rw [if_neg (by omega), if_neg (fun z => by omega), if_pos (Or.inl hq0)]
                have hr := mc_e hst h
                exact hF J t.2.1 hz hr hk.2.1
              · skip
                exact absurd ((sg_neg _ (by omega)).2.mpr hq0) c30
            · skip
              refine me_if_eq (p' := 248) k193_245 rfl (fun c31 => ?_) (fun c31 => ?_)
              · skip
                exact absurd ((sg_neg _ (by omega)).2.mp c31) (by omega)
              · skip
                refine me_iload (p' := 250) k193_248 rfl rfl ?_
                refine me_cs (p' := 253) k193_250 rfl rfl rfl rfl rfl (cl_le mx_197 rfl) (by decide) (cl_sum rfl) (ct_rank (x := tS B t) (by omega) ?_)
                have hr5 := (tRk_r (tS B t) (by omega)).2
                refine me_iconst (p' := 254) k193_253 rfl (v := nI 3) (by decide) ?_
                refine me_ic_ne (p' := 257) k193_254 rfl (fun c32 => ?_) (fun c32 => ?_)
                · skip
                  rw [cI_eq (a := tRk (tS B t)) (b := 3) (by omega) (by omega)] at c32
                  refine me_aload_n (p' := 258) k193_257 rfl rfl ?_
                  refine me_gfr (p' := 261) k193_258 rfl (by decide) rfl (b := 137) rfl ?_
                  refine me_iload_n (p' := 262) k193_261 rfl rfl ?_
                  refine me_zald (p' := 263) k193_262 rfl (by decide) rfl (j := pn) rfl (by omega) (by decide) rfl ?_
                  rw [show J 137 pn = nI 0 from by have := hts.top; rw [List.length_map, hpl, ← hpn] at this; exact this]
                  refine me_if_eq (p' := 266) k193_263 rfl (fun _ => ?_) (fun h => absurd (by decide) h)
                  refine me_aload_n (p' := 269) k193_268 rfl rfl ?_
                  refine me_gfr (p' := 272) k193_269 rfl (by decide) rfl (b := 137) rfl ?_
                  refine me_iload_n (p' := 273) k193_272 rfl rfl ?_
                  refine me_iload (p' := 275) k193_273 rfl rfl ?_
                  refine me_cs (p' := 278) k193_275 rfl rfl rfl rfl rfl (cl_le mx_197 rfl) (by decide) (cl_sum rfl) (ct_rank (x := tS B t) (by omega) ?_)
                  have hr5 := (tRk_r (tS B t) (by omega)).2
                  refine me_iconst (p' := 279) k193_278 rfl (v := nI 3) (by decide) ?_
                  refine me_ic_eq (p' := 282) k193_279 rfl (fun c33 => ?_) (fun c33 => ?_)
                  · skip
                    rw [cI_eq (a := tRk (tS B t)) (b := 3) (by omega) (by omega)] at c33
                    refine me_iconst (p' := 301) k193_300 rfl (v := nI 1) (by decide) ?_
                    refine me_goto k193_301 ?_
                    refine me_zast (p' := 306) k193_305 rfl (by decide) rfl (j := pn) rfl (by omega) (by decide) rfl rfl ?_
                    refine me_aload_n (p' := 307) k193_306 rfl rfl ?_
                    refine me_iload (p' := 309) k193_307 rfl rfl ?_
                    refine me_cs (p' := 312) k193_309 rfl rfl rfl rfl rfl (cl_le mx_197 rfl) (by decide) (cl_sum rfl) (ct_rank (x := tS B t) (by omega) ?_)
                    have hr5 := (tRk_r (tS B t) (by omega)).2
                    refine me_cv (p' := 315) k193_312 rfl rfl (by decide) rfl (by decide) (by decide) dp_196 rfl rfl (cl_le mx_196 rfl) (by decide) (cl_sum rfl) (ct_settle (S := S) (o := o) (by omega) (hp.un (by decide)) hS (by omega) (fun K1 hK1 hp1 => ?_))
                    have ht3 := tS_3 (show tS B t ≠ 0 by omega)
                    have hln := mcs_len (r := tRk (tS B t)) S o
                    have hgw := tgo_wf (B := B) (tl := tl) hw
                    refine me_aload_n (p' := 316) k193_315 rfl rfl ?_
                    refine me_gfr (p' := 319) k193_316 rfl (by decide) rfl (b := 136) rfl ?_
                    refine me_aload_n (p' := 320) k193_319 rfl rfl ?_
                    refine me_gfi (p' := 323) k193_320 rfl (by decide) rfl rfl ?_
                    rw [hp1.1]
                    refine me_iload (p' := 325) k193_323 rfl rfl ?_
                    refine me_iast (p' := 326) k193_325 rfl (by decide) rfl (j := (mcs (tRk (tS B t)) S o).1.length) rfl (by omega) (by decide) rfl ?_
                    refine me_aload_n (p' := 327) k193_326 rfl rfl ?_
                    refine me_dup (p' := 328) k193_327 rfl rfl ?_
                    refine me_gfi (p' := 331) k193_328 rfl (by decide) rfl rfl ?_
                    rw [mg_un1 (by decide), hp1.1]
                    refine me_iconst (p' := 332) k193_331 rfl (v := nI 1) (by decide) ?_
                    refine me_iadd (p' := 333) k193_332 rfl (v := nI (((mcs (tRk (tS B t)) S o).1.length) + 1)) (mI_add _ _) ?_
                    refine me_pfi (p' := 336) k193_333 rfl (by decide) rfl rfl rfl rfl ?_
                    refine me_iconst (p' := 337) k193_336 rfl (v := nI 1) (by decide) ?_
                    refine me_istore_n (p' := 338) k193_337 rfl ⟨Nat.le_of_ble_eq_true rfl, rfl⟩ rfl ?_
                    refine me_aload_n (p' := 339) k193_338 rfl rfl ?_
                    refine me_cv (p' := 342) k193_339 rfl rfl (by decide) rfl (by decide) (by decide) dp_189 rfl rfl (cl_le mx_189 rfl) (by decide) (cl_sum rfl) (ct_go (B := B) (tl := tl) (a := t.2.2) (w := t.1 = 1 ∨ t.1 = 2) (hTJ.zf ((((mZf.u (i := 137) (by simp)).tr (mZf.s hK1)).tr ((mZf.u (by simp)).tr (mZf.u (by simp)))))) hw.2.1 ((mg_une (by decide)).trans ((mg_un1 (by decide)).trans ((hK1.2 8 (by decide) (by decide)).trans ((mg_un1 (by decide)).trans hk.1)))) ((hk.2.2.2.2.2 (by omega)).fr ((mg_une (by decide)).trans ((mg_un1 (by decide)).trans ((hK1.2 12 (by decide) (by decide)).trans (mg_un1 (by decide)))))) (fun K533 hK533 hT533 => ?_))
                    have hp5 : mPs K533 (tS B t :: (mcs (tRk (tS B t)) S o).1) (mcs (tRk (tS B t)) S o).2 := (hp1.push rfl).gf hK533
                    have hna5 : K533 127 18 = nI (tNa (mcs (tRk (tS B t)) S o).2) := by
                      rw [tNa_mcs]
                      exact (hK533.2 18 (by decide) (by decide) (by decide) (by decide) (by decide)).trans ((mg_une (by decide)).trans ((mg_un1 (by decide)).trans ((hK1.2 18 (by decide) (by decide)).trans ((mg_un1 (by decide)).trans hna))))
                    have hts5 : mStk (K533 137) ((true :: l).map tB) := by
                      rw [show K533 137 = mg_u J 137 pn (tB true) 137 from funext fun k => (hK533.1 137 k (by decide)).trans ((mg_un1 (by decide)).trans ((mg_un1 (by decide)).trans (hK1.1 137 k (by decide))))]
                      have := (mStk.tl hts).push (i := 137) (v := tB true)
                      rw [List.length_map, hpl, ← hpn] at this
                      exact this
                    have hbn : (decide (tRk (tS B t) = 3) || (decide (3 < tRk (tS B t)) && false)) = true := by
                      rw [decide_eq_true (by omega)]
                      rfl
                    have hst : mst B tl key (t, S, o, false :: l, nn, false) = .inl (tgo B tl t, tS B t :: (mcs (tRk (tS B t)) S o).1, (mcs (tRk (tS B t)) S o).2, true :: l, nn, true) := by
                      show (if t.1 = 0 then _ else if t.1 = 3 ∧ B t.2.1 = 41 ∧ 0 < S.count 11 then _ else if tS B t = 0 ∨ (tRk (tS B t) = 3 ∧ false = true) then _ else Sum.inl (tgo B tl t, tS B t :: (mcs (tRk (tS B t)) S o).1, (mcs (tRk (tS B t)) S o).2, (decide (tRk (tS B t) = 3) || (decide (3 < tRk (tS B t)) && false)) :: l, nn, true)) = _
                      rw [if_neg (by omega), if_neg (fun z => by omega), if_neg (fun z => z.elim (fun y => by omega) (fun y => absurd y.2 (by decide))), hbn]
                    refine me_goto k193_342 ?_
                    rw [mc_s hst] at h
                    refine ih (tgo B tl t) (tS B t :: (mcs (tRk (tS B t)) S o).1) (mcs (tRk (tS B t)) S o).2 _ l nn true K533 pn h ((hz.tr (((mZf.u (i := 137) (by simp)).tr (mZf.s hK1)).tr ((mZf.u (by simp)).tr (mZf.u (by simp))))).tr (mZf.g hK533)) hT533 hp5 hna5 hts5 hgw.1 (hS_c (mcs_in S _ hS) (by omega)) (by rw [List.length_cons]; have := hgw.2; have := hw3 (by omega); omega) (by rw [List.count_cons_of_ne (by omega), mcs_11]; exact hc8) (by rw [List.count_cons_of_ne (by omega), mcs_11]; exact hpl) (by rw [List.count_cons_of_ne (by omega), mcs_11]; exact hpn) hnn _
                  · skip
                    rw [cI_eq (a := tRk (tS B t)) (b := 3) (by omega) (by omega)] at c33
                    refine me_iload (p' := 284) k193_282 rfl rfl ?_
                    refine me_cs (p' := 287) k193_284 rfl rfl rfl rfl rfl (cl_le mx_197 rfl) (by decide) (cl_sum rfl) (ct_rank (x := tS B t) (by omega) ?_)
                    have hr5 := (tRk_r (tS B t) (by omega)).2
                    refine me_iconst (p' := 288) k193_287 rfl (v := nI 3) (by decide) ?_
                    refine me_ic_le (p' := 291) k193_288 rfl (fun c34 => ?_) (fun c34 => ?_)
                    · skip
                      rw [cI_le (a := tRk (tS B t)) (b := 3) (by omega) (by omega)] at c34
                      refine me_iconst (p' := 305) k193_304 rfl (v := nI 0) (by decide) ?_
                      refine me_zast (p' := 306) k193_305 rfl (by decide) rfl (j := pn) rfl (by omega) (by decide) rfl rfl ?_
                      refine me_aload_n (p' := 307) k193_306 rfl rfl ?_
                      refine me_iload (p' := 309) k193_307 rfl rfl ?_
                      refine me_cs (p' := 312) k193_309 rfl rfl rfl rfl rfl (cl_le mx_197 rfl) (by decide) (cl_sum rfl) (ct_rank (x := tS B t) (by omega) ?_)
                      have hr5 := (tRk_r (tS B t) (by omega)).2
                      refine me_cv (p' := 315) k193_312 rfl rfl (by decide) rfl (by decide) (by decide) dp_196 rfl rfl (cl_le mx_196 rfl) (by decide) (cl_sum rfl) (ct_settle (S := S) (o := o) (by omega) (hp.un (by decide)) hS (by omega) (fun K1 hK1 hp1 => ?_))
                      have ht3 := tS_3 (show tS B t ≠ 0 by omega)
                      have hln := mcs_len (r := tRk (tS B t)) S o
                      have hgw := tgo_wf (B := B) (tl := tl) hw
                      refine me_aload_n (p' := 316) k193_315 rfl rfl ?_
                      refine me_gfr (p' := 319) k193_316 rfl (by decide) rfl (b := 136) rfl ?_
                      refine me_aload_n (p' := 320) k193_319 rfl rfl ?_
                      refine me_gfi (p' := 323) k193_320 rfl (by decide) rfl rfl ?_
                      rw [hp1.1]
                      refine me_iload (p' := 325) k193_323 rfl rfl ?_
                      refine me_iast (p' := 326) k193_325 rfl (by decide) rfl (j := (mcs (tRk (tS B t)) S o).1.length) rfl (by omega) (by decide) rfl ?_
                      refine me_aload_n (p' := 327) k193_326 rfl rfl ?_
                      refine me_dup (p' := 328) k193_327 rfl rfl ?_
                      refine me_gfi (p' := 331) k193_328 rfl (by decide) rfl rfl ?_
                      rw [mg_un1 (by decide), hp1.1]
                      refine me_iconst (p' := 332) k193_331 rfl (v := nI 1) (by decide) ?_
                      refine me_iadd (p' := 333) k193_332 rfl (v := nI (((mcs (tRk (tS B t)) S o).1.length) + 1)) (mI_add _ _) ?_
                      refine me_pfi (p' := 336) k193_333 rfl (by decide) rfl rfl rfl rfl ?_
                      refine me_iconst (p' := 337) k193_336 rfl (v := nI 1) (by decide) ?_
                      refine me_istore_n (p' := 338) k193_337 rfl ⟨Nat.le_of_ble_eq_true rfl, rfl⟩ rfl ?_
                      refine me_aload_n (p' := 339) k193_338 rfl rfl ?_
                      refine me_cv (p' := 342) k193_339 rfl rfl (by decide) rfl (by decide) (by decide) dp_189 rfl rfl (cl_le mx_189 rfl) (by decide) (cl_sum rfl) (ct_go (B := B) (tl := tl) (a := t.2.2) (w := t.1 = 1 ∨ t.1 = 2) (hTJ.zf ((((mZf.u (i := 137) (by simp)).tr (mZf.s hK1)).tr ((mZf.u (by simp)).tr (mZf.u (by simp)))))) hw.2.1 ((mg_une (by decide)).trans ((mg_un1 (by decide)).trans ((hK1.2 8 (by decide) (by decide)).trans ((mg_un1 (by decide)).trans hk.1)))) ((hk.2.2.2.2.2 (by omega)).fr ((mg_une (by decide)).trans ((mg_un1 (by decide)).trans ((hK1.2 12 (by decide) (by decide)).trans (mg_un1 (by decide)))))) (fun K534 hK534 hT534 => ?_))
                      have hp5 : mPs K534 (tS B t :: (mcs (tRk (tS B t)) S o).1) (mcs (tRk (tS B t)) S o).2 := (hp1.push rfl).gf hK534
                      have hna5 : K534 127 18 = nI (tNa (mcs (tRk (tS B t)) S o).2) := by
                        rw [tNa_mcs]
                        exact (hK534.2 18 (by decide) (by decide) (by decide) (by decide) (by decide)).trans ((mg_une (by decide)).trans ((mg_un1 (by decide)).trans ((hK1.2 18 (by decide) (by decide)).trans ((mg_un1 (by decide)).trans hna))))
                      have hts5 : mStk (K534 137) ((false :: l).map tB) := by
                        rw [show K534 137 = mg_u J 137 pn (tB false) 137 from funext fun k => (hK534.1 137 k (by decide)).trans ((mg_un1 (by decide)).trans ((mg_un1 (by decide)).trans (hK1.1 137 k (by decide))))]
                        have := (mStk.tl hts).push (i := 137) (v := tB false)
                        rw [List.length_map, hpl, ← hpn] at this
                        exact this
                      have hbn : (decide (tRk (tS B t) = 3) || (decide (3 < tRk (tS B t)) && false)) = false := by
                        rw [decide_eq_false (by omega), Bool.and_false]
                        rfl
                      have hst : mst B tl key (t, S, o, false :: l, nn, false) = .inl (tgo B tl t, tS B t :: (mcs (tRk (tS B t)) S o).1, (mcs (tRk (tS B t)) S o).2, false :: l, nn, true) := by
                        show (if t.1 = 0 then _ else if t.1 = 3 ∧ B t.2.1 = 41 ∧ 0 < S.count 11 then _ else if tS B t = 0 ∨ (tRk (tS B t) = 3 ∧ false = true) then _ else Sum.inl (tgo B tl t, tS B t :: (mcs (tRk (tS B t)) S o).1, (mcs (tRk (tS B t)) S o).2, (decide (tRk (tS B t) = 3) || (decide (3 < tRk (tS B t)) && false)) :: l, nn, true)) = _
                        rw [if_neg (by omega), if_neg (fun z => by omega), if_neg (fun z => z.elim (fun y => by omega) (fun y => absurd y.2 (by decide))), hbn]
                      refine me_goto k193_342 ?_
                      rw [mc_s hst] at h
                      refine ih (tgo B tl t) (tS B t :: (mcs (tRk (tS B t)) S o).1) (mcs (tRk (tS B t)) S o).2 _ l nn true K534 pn h ((hz.tr (((mZf.u (i := 137) (by simp)).tr (mZf.s hK1)).tr ((mZf.u (by simp)).tr (mZf.u (by simp))))).tr (mZf.g hK534)) hT534 hp5 hna5 hts5 hgw.1 (hS_c (mcs_in S _ hS) (by omega)) (by rw [List.length_cons]; have := hgw.2; have := hw3 (by omega); omega) (by rw [List.count_cons_of_ne (by omega), mcs_11]; exact hc8) (by rw [List.count_cons_of_ne (by omega), mcs_11]; exact hpl) (by rw [List.count_cons_of_ne (by omega), mcs_11]; exact hpn) hnn _
                    · skip
                      rw [cI_le (a := tRk (tS B t)) (b := 3) (by omega) (by omega)] at c34
                      refine me_aload_n (p' := 292) k193_291 rfl rfl ?_
                      refine me_gfr (p' := 295) k193_292 rfl (by decide) rfl (b := 137) rfl ?_
                      refine me_iload_n (p' := 296) k193_295 rfl rfl ?_
                      refine me_zald (p' := 297) k193_296 rfl (by decide) rfl (j := pn) rfl (by omega) (by decide) rfl ?_
                      rw [show J 137 pn = nI 0 from by have := hts.top; rw [List.length_map, hpl, ← hpn] at this; exact this]
                      refine me_if_eq (p' := 300) k193_297 rfl (fun _ => ?_) (fun h => absurd (by decide) h)
                      refine me_iconst (p' := 305) k193_304 rfl (v := nI 0) (by decide) ?_
                      refine me_zast (p' := 306) k193_305 rfl (by decide) rfl (j := pn) rfl (by omega) (by decide) rfl rfl ?_
                      refine me_aload_n (p' := 307) k193_306 rfl rfl ?_
                      refine me_iload (p' := 309) k193_307 rfl rfl ?_
                      refine me_cs (p' := 312) k193_309 rfl rfl rfl rfl rfl (cl_le mx_197 rfl) (by decide) (cl_sum rfl) (ct_rank (x := tS B t) (by omega) ?_)
                      have hr5 := (tRk_r (tS B t) (by omega)).2
                      refine me_cv (p' := 315) k193_312 rfl rfl (by decide) rfl (by decide) (by decide) dp_196 rfl rfl (cl_le mx_196 rfl) (by decide) (cl_sum rfl) (ct_settle (S := S) (o := o) (by omega) (hp.un (by decide)) hS (by omega) (fun K1 hK1 hp1 => ?_))
                      have ht3 := tS_3 (show tS B t ≠ 0 by omega)
                      have hln := mcs_len (r := tRk (tS B t)) S o
                      have hgw := tgo_wf (B := B) (tl := tl) hw
                      refine me_aload_n (p' := 316) k193_315 rfl rfl ?_
                      refine me_gfr (p' := 319) k193_316 rfl (by decide) rfl (b := 136) rfl ?_
                      refine me_aload_n (p' := 320) k193_319 rfl rfl ?_
                      refine me_gfi (p' := 323) k193_320 rfl (by decide) rfl rfl ?_
                      rw [hp1.1]
                      refine me_iload (p' := 325) k193_323 rfl rfl ?_
                      refine me_iast (p' := 326) k193_325 rfl (by decide) rfl (j := (mcs (tRk (tS B t)) S o).1.length) rfl (by omega) (by decide) rfl ?_
                      refine me_aload_n (p' := 327) k193_326 rfl rfl ?_
                      refine me_dup (p' := 328) k193_327 rfl rfl ?_
                      refine me_gfi (p' := 331) k193_328 rfl (by decide) rfl rfl ?_
                      rw [mg_un1 (by decide), hp1.1]
                      refine me_iconst (p' := 332) k193_331 rfl (v := nI 1) (by decide) ?_
                      refine me_iadd (p' := 333) k193_332 rfl (v := nI (((mcs (tRk (tS B t)) S o).1.length) + 1)) (mI_add _ _) ?_
                      refine me_pfi (p' := 336) k193_333 rfl (by decide) rfl rfl rfl rfl ?_
                      refine me_iconst (p' := 337) k193_336 rfl (v := nI 1) (by decide) ?_
                      refine me_istore_n (p' := 338) k193_337 rfl ⟨Nat.le_of_ble_eq_true rfl, rfl⟩ rfl ?_
                      refine me_aload_n (p' := 339) k193_338 rfl rfl ?_
                      refine me_cv (p' := 342) k193_339 rfl rfl (by decide) rfl (by decide) (by decide) dp_189 rfl rfl (cl_le mx_189 rfl) (by decide) (cl_sum rfl) (ct_go (B := B) (tl := tl) (a := t.2.2) (w := t.1 = 1 ∨ t.1 = 2) (hTJ.zf ((((mZf.u (i := 137) (by simp)).tr (mZf.s hK1)).tr ((mZf.u (by simp)).tr (mZf.u (by simp)))))) hw.2.1 ((mg_une (by decide)).trans ((mg_un1 (by decide)).trans ((hK1.2 8 (by decide) (by decide)).trans ((mg_un1 (by decide)).trans hk.1)))) ((hk.2.2.2.2.2 (by omega)).fr ((mg_une (by decide)).trans ((mg_un1 (by decide)).trans ((hK1.2 12 (by decide) (by decide)).trans (mg_un1 (by decide)))))) (fun K535 hK535 hT535 => ?_))
                      have hp5 : mPs K535 (tS B t :: (mcs (tRk (tS B t)) S o).1) (mcs (tRk (tS B t)) S o).2 := (hp1.push rfl).gf hK535
                      have hna5 : K535 127 18 = nI (tNa (mcs (tRk (tS B t)) S o).2) := by
                        rw [tNa_mcs]
                        exact (hK535.2 18 (by decide) (by decide) (by decide) (by decide) (by decide)).trans ((mg_une (by decide)).trans ((mg_un1 (by decide)).trans ((hK1.2 18 (by decide) (by decide)).trans ((mg_un1 (by decide)).trans hna))))
                      have hts5 : mStk (K535 137) ((false :: l).map tB) := by
                        rw [show K535 137 = mg_u J 137 pn (tB false) 137 from funext fun k => (hK535.1 137 k (by decide)).trans ((mg_un1 (by decide)).trans ((mg_un1 (by decide)).trans (hK1.1 137 k (by decide))))]
                        have := (mStk.tl hts).push (i := 137) (v := tB false)
                        rw [List.length_map, hpl, ← hpn] at this
                        exact this
                      have hbn : (decide (tRk (tS B t) = 3) || (decide (3 < tRk (tS B t)) && false)) = false := by
                        rw [decide_eq_false (by omega), Bool.and_false]
                        rfl
                      have hst : mst B tl key (t, S, o, false :: l, nn, false) = .inl (tgo B tl t, tS B t :: (mcs (tRk (tS B t)) S o).1, (mcs (tRk (tS B t)) S o).2, false :: l, nn, true) := by
                        show (if t.1 = 0 then _ else if t.1 = 3 ∧ B t.2.1 = 41 ∧ 0 < S.count 11 then _ else if tS B t = 0 ∨ (tRk (tS B t) = 3 ∧ false = true) then _ else Sum.inl (tgo B tl t, tS B t :: (mcs (tRk (tS B t)) S o).1, (mcs (tRk (tS B t)) S o).2, (decide (tRk (tS B t) = 3) || (decide (3 < tRk (tS B t)) && false)) :: l, nn, true)) = _
                        rw [if_neg (by omega), if_neg (fun z => by omega), if_neg (fun z => z.elim (fun y => by omega) (fun y => absurd y.2 (by decide))), hbn]
                      refine me_goto k193_342 ?_
                      rw [mc_s hst] at h
                      refine ih (tgo B tl t) (tS B t :: (mcs (tRk (tS B t)) S o).1) (mcs (tRk (tS B t)) S o).2 _ l nn true K535 pn h ((hz.tr (((mZf.u (i := 137) (by simp)).tr (mZf.s hK1)).tr ((mZf.u (by simp)).tr (mZf.u (by simp))))).tr (mZf.g hK535)) hT535 hp5 hna5 hts5 hgw.1 (hS_c (mcs_in S _ hS) (by omega)) (by rw [List.length_cons]; have := hgw.2; have := hw3 (by omega); omega) (by rw [List.count_cons_of_ne (by omega), mcs_11]; exact hc8) (by rw [List.count_cons_of_ne (by omega), mcs_11]; exact hpl) (by rw [List.count_cons_of_ne (by omega), mcs_11]; exact hpn) hnn _
                · skip
                  rw [cI_eq (a := tRk (tS B t)) (b := 3) (by omega) (by omega)] at c32
                  refine me_aload_n (p' := 269) k193_268 rfl rfl ?_
                  refine me_gfr (p' := 272) k193_269 rfl (by decide) rfl (b := 137) rfl ?_
                  refine me_iload_n (p' := 273) k193_272 rfl rfl ?_
                  refine me_iload (p' := 275) k193_273 rfl rfl ?_
                  refine me_cs (p' := 278) k193_275 rfl rfl rfl rfl rfl (cl_le mx_197 rfl) (by decide) (cl_sum rfl) (ct_rank (x := tS B t) (by omega) ?_)
                  have hr5 := (tRk_r (tS B t) (by omega)).2
                  refine me_iconst (p' := 279) k193_278 rfl (v := nI 3) (by decide) ?_
                  refine me_ic_eq (p' := 282) k193_279 rfl (fun c35 => ?_) (fun c35 => ?_)
                  · skip
                    rw [cI_eq (a := tRk (tS B t)) (b := 3) (by omega) (by omega)] at c35
                    refine me_iconst (p' := 301) k193_300 rfl (v := nI 1) (by decide) ?_
                    refine me_goto k193_301 ?_
                    refine me_zast (p' := 306) k193_305 rfl (by decide) rfl (j := pn) rfl (by omega) (by decide) rfl rfl ?_
                    refine me_aload_n (p' := 307) k193_306 rfl rfl ?_
                    refine me_iload (p' := 309) k193_307 rfl rfl ?_
                    refine me_cs (p' := 312) k193_309 rfl rfl rfl rfl rfl (cl_le mx_197 rfl) (by decide) (cl_sum rfl) (ct_rank (x := tS B t) (by omega) ?_)
                    have hr5 := (tRk_r (tS B t) (by omega)).2
                    refine me_cv (p' := 315) k193_312 rfl rfl (by decide) rfl (by decide) (by decide) dp_196 rfl rfl (cl_le mx_196 rfl) (by decide) (cl_sum rfl) (ct_settle (S := S) (o := o) (by omega) (hp.un (by decide)) hS (by omega) (fun K1 hK1 hp1 => ?_))
                    have ht3 := tS_3 (show tS B t ≠ 0 by omega)
                    have hln := mcs_len (r := tRk (tS B t)) S o
                    have hgw := tgo_wf (B := B) (tl := tl) hw
                    refine me_aload_n (p' := 316) k193_315 rfl rfl ?_
                    refine me_gfr (p' := 319) k193_316 rfl (by decide) rfl (b := 136) rfl ?_
                    refine me_aload_n (p' := 320) k193_319 rfl rfl ?_
                    refine me_gfi (p' := 323) k193_320 rfl (by decide) rfl rfl ?_
                    rw [hp1.1]
                    refine me_iload (p' := 325) k193_323 rfl rfl ?_
                    refine me_iast (p' := 326) k193_325 rfl (by decide) rfl (j := (mcs (tRk (tS B t)) S o).1.length) rfl (by omega) (by decide) rfl ?_
                    refine me_aload_n (p' := 327) k193_326 rfl rfl ?_
                    refine me_dup (p' := 328) k193_327 rfl rfl ?_
                    refine me_gfi (p' := 331) k193_328 rfl (by decide) rfl rfl ?_
                    rw [mg_un1 (by decide), hp1.1]
                    refine me_iconst (p' := 332) k193_331 rfl (v := nI 1) (by decide) ?_
                    refine me_iadd (p' := 333) k193_332 rfl (v := nI (((mcs (tRk (tS B t)) S o).1.length) + 1)) (mI_add _ _) ?_
                    refine me_pfi (p' := 336) k193_333 rfl (by decide) rfl rfl rfl rfl ?_
                    refine me_iconst (p' := 337) k193_336 rfl (v := nI 1) (by decide) ?_
                    refine me_istore_n (p' := 338) k193_337 rfl ⟨Nat.le_of_ble_eq_true rfl, rfl⟩ rfl ?_
                    refine me_aload_n (p' := 339) k193_338 rfl rfl ?_
                    refine me_cv (p' := 342) k193_339 rfl rfl (by decide) rfl (by decide) (by decide) dp_189 rfl rfl (cl_le mx_189 rfl) (by decide) (cl_sum rfl) (ct_go (B := B) (tl := tl) (a := t.2.2) (w := t.1 = 1 ∨ t.1 = 2) (hTJ.zf ((((mZf.u (i := 137) (by simp)).tr (mZf.s hK1)).tr ((mZf.u (by simp)).tr (mZf.u (by simp)))))) hw.2.1 ((mg_une (by decide)).trans ((mg_un1 (by decide)).trans ((hK1.2 8 (by decide) (by decide)).trans ((mg_un1 (by decide)).trans hk.1)))) ((hk.2.2.2.2.2 (by omega)).fr ((mg_une (by decide)).trans ((mg_un1 (by decide)).trans ((hK1.2 12 (by decide) (by decide)).trans (mg_un1 (by decide)))))) (fun K536 hK536 hT536 => ?_))
                    have hp5 : mPs K536 (tS B t :: (mcs (tRk (tS B t)) S o).1) (mcs (tRk (tS B t)) S o).2 := (hp1.push rfl).gf hK536
                    have hna5 : K536 127 18 = nI (tNa (mcs (tRk (tS B t)) S o).2) := by
                      rw [tNa_mcs]
                      exact (hK536.2 18 (by decide) (by decide) (by decide) (by decide) (by decide)).trans ((mg_une (by decide)).trans ((mg_un1 (by decide)).trans ((hK1.2 18 (by decide) (by decide)).trans ((mg_un1 (by decide)).trans hna))))
                    have hts5 : mStk (K536 137) ((true :: l).map tB) := by
                      rw [show K536 137 = mg_u J 137 pn (tB true) 137 from funext fun k => (hK536.1 137 k (by decide)).trans ((mg_un1 (by decide)).trans ((mg_un1 (by decide)).trans (hK1.1 137 k (by decide))))]
                      have := (mStk.tl hts).push (i := 137) (v := tB true)
                      rw [List.length_map, hpl, ← hpn] at this
                      exact this
                    have hbn : (decide (tRk (tS B t) = 3) || (decide (3 < tRk (tS B t)) && false)) = true := by
                      rw [decide_eq_true (by omega)]
                      rfl
                    have hst : mst B tl key (t, S, o, false :: l, nn, false) = .inl (tgo B tl t, tS B t :: (mcs (tRk (tS B t)) S o).1, (mcs (tRk (tS B t)) S o).2, true :: l, nn, true) := by
                      show (if t.1 = 0 then _ else if t.1 = 3 ∧ B t.2.1 = 41 ∧ 0 < S.count 11 then _ else if tS B t = 0 ∨ (tRk (tS B t) = 3 ∧ false = true) then _ else Sum.inl (tgo B tl t, tS B t :: (mcs (tRk (tS B t)) S o).1, (mcs (tRk (tS B t)) S o).2, (decide (tRk (tS B t) = 3) || (decide (3 < tRk (tS B t)) && false)) :: l, nn, true)) = _
                      rw [if_neg (by omega), if_neg (fun z => by omega), if_neg (fun z => z.elim (fun y => by omega) (fun y => absurd y.2 (by decide))), hbn]
                    refine me_goto k193_342 ?_
                    rw [mc_s hst] at h
                    refine ih (tgo B tl t) (tS B t :: (mcs (tRk (tS B t)) S o).1) (mcs (tRk (tS B t)) S o).2 _ l nn true K536 pn h ((hz.tr (((mZf.u (i := 137) (by simp)).tr (mZf.s hK1)).tr ((mZf.u (by simp)).tr (mZf.u (by simp))))).tr (mZf.g hK536)) hT536 hp5 hna5 hts5 hgw.1 (hS_c (mcs_in S _ hS) (by omega)) (by rw [List.length_cons]; have := hgw.2; have := hw3 (by omega); omega) (by rw [List.count_cons_of_ne (by omega), mcs_11]; exact hc8) (by rw [List.count_cons_of_ne (by omega), mcs_11]; exact hpl) (by rw [List.count_cons_of_ne (by omega), mcs_11]; exact hpn) hnn _
                  · skip
                    rw [cI_eq (a := tRk (tS B t)) (b := 3) (by omega) (by omega)] at c35
                    refine me_iload (p' := 284) k193_282 rfl rfl ?_
                    refine me_cs (p' := 287) k193_284 rfl rfl rfl rfl rfl (cl_le mx_197 rfl) (by decide) (cl_sum rfl) (ct_rank (x := tS B t) (by omega) ?_)
                    have hr5 := (tRk_r (tS B t) (by omega)).2
                    refine me_iconst (p' := 288) k193_287 rfl (v := nI 3) (by decide) ?_
                    refine me_ic_le (p' := 291) k193_288 rfl (fun c36 => ?_) (fun c36 => ?_)
                    · skip
                      rw [cI_le (a := tRk (tS B t)) (b := 3) (by omega) (by omega)] at c36
                      refine me_iconst (p' := 305) k193_304 rfl (v := nI 0) (by decide) ?_
                      refine me_zast (p' := 306) k193_305 rfl (by decide) rfl (j := pn) rfl (by omega) (by decide) rfl rfl ?_
                      refine me_aload_n (p' := 307) k193_306 rfl rfl ?_
                      refine me_iload (p' := 309) k193_307 rfl rfl ?_
                      refine me_cs (p' := 312) k193_309 rfl rfl rfl rfl rfl (cl_le mx_197 rfl) (by decide) (cl_sum rfl) (ct_rank (x := tS B t) (by omega) ?_)
                      have hr5 := (tRk_r (tS B t) (by omega)).2
                      refine me_cv (p' := 315) k193_312 rfl rfl (by decide) rfl (by decide) (by decide) dp_196 rfl rfl (cl_le mx_196 rfl) (by decide) (cl_sum rfl) (ct_settle (S := S) (o := o) (by omega) (hp.un (by decide)) hS (by omega) (fun K1 hK1 hp1 => ?_))
                      have ht3 := tS_3 (show tS B t ≠ 0 by omega)
                      have hln := mcs_len (r := tRk (tS B t)) S o
                      have hgw := tgo_wf (B := B) (tl := tl) hw
                      refine me_aload_n (p' := 316) k193_315 rfl rfl ?_
                      refine me_gfr (p' := 319) k193_316 rfl (by decide) rfl (b := 136) rfl ?_
                      refine me_aload_n (p' := 320) k193_319 rfl rfl ?_
                      refine me_gfi (p' := 323) k193_320 rfl (by decide) rfl rfl ?_
                      rw [hp1.1]
                      refine me_iload (p' := 325) k193_323 rfl rfl ?_
                      refine me_iast (p' := 326) k193_325 rfl (by decide) rfl (j := (mcs (tRk (tS B t)) S o).1.length) rfl (by omega) (by decide) rfl ?_
                      refine me_aload_n (p' := 327) k193_326 rfl rfl ?_
                      refine me_dup (p' := 328) k193_327 rfl rfl ?_
                      refine me_gfi (p' := 331) k193_328 rfl (by decide) rfl rfl ?_
                      rw [mg_un1 (by decide), hp1.1]
                      refine me_iconst (p' := 332) k193_331 rfl (v := nI 1) (by decide) ?_
                      refine me_iadd (p' := 333) k193_332 rfl (v := nI (((mcs (tRk (tS B t)) S o).1.length) + 1)) (mI_add _ _) ?_
                      refine me_pfi (p' := 336) k193_333 rfl (by decide) rfl rfl rfl rfl ?_
                      refine me_iconst (p' := 337) k193_336 rfl (v := nI 1) (by decide) ?_
                      refine me_istore_n (p' := 338) k193_337 rfl ⟨Nat.le_of_ble_eq_true rfl, rfl⟩ rfl ?_
                      refine me_aload_n (p' := 339) k193_338 rfl rfl ?_
                      refine me_cv (p' := 342) k193_339 rfl rfl (by decide) rfl (by decide) (by decide) dp_189 rfl rfl (cl_le mx_189 rfl) (by decide) (cl_sum rfl) (ct_go (B := B) (tl := tl) (a := t.2.2) (w := t.1 = 1 ∨ t.1 = 2) (hTJ.zf ((((mZf.u (i := 137) (by simp)).tr (mZf.s hK1)).tr ((mZf.u (by simp)).tr (mZf.u (by simp)))))) hw.2.1 ((mg_une (by decide)).trans ((mg_un1 (by decide)).trans ((hK1.2 8 (by decide) (by decide)).trans ((mg_un1 (by decide)).trans hk.1)))) ((hk.2.2.2.2.2 (by omega)).fr ((mg_une (by decide)).trans ((mg_un1 (by decide)).trans ((hK1.2 12 (by decide) (by decide)).trans (mg_un1 (by decide)))))) (fun K537 hK537 hT537 => ?_))
                      have hp5 : mPs K537 (tS B t :: (mcs (tRk (tS B t)) S o).1) (mcs (tRk (tS B t)) S o).2 := (hp1.push rfl).gf hK537
                      have hna5 : K537 127 18 = nI (tNa (mcs (tRk (tS B t)) S o).2) := by
                        rw [tNa_mcs]
                        exact (hK537.2 18 (by decide) (by decide) (by decide) (by decide) (by decide)).trans ((mg_une (by decide)).trans ((mg_un1 (by decide)).trans ((hK1.2 18 (by decide) (by decide)).trans ((mg_un1 (by decide)).trans hna))))
                      have hts5 : mStk (K537 137) ((false :: l).map tB) := by
                        rw [show K537 137 = mg_u J 137 pn (tB false) 137 from funext fun k => (hK537.1 137 k (by decide)).trans ((mg_un1 (by decide)).trans ((mg_un1 (by decide)).trans (hK1.1 137 k (by decide))))]
                        have := (mStk.tl hts).push (i := 137) (v := tB false)
                        rw [List.length_map, hpl, ← hpn] at this
                        exact this
                      have hbn : (decide (tRk (tS B t) = 3) || (decide (3 < tRk (tS B t)) && false)) = false := by
                        rw [decide_eq_false (by omega), Bool.and_false]
                        rfl
                      have hst : mst B tl key (t, S, o, false :: l, nn, false) = .inl (tgo B tl t, tS B t :: (mcs (tRk (tS B t)) S o).1, (mcs (tRk (tS B t)) S o).2, false :: l, nn, true) := by
                        show (if t.1 = 0 then _ else if t.1 = 3 ∧ B t.2.1 = 41 ∧ 0 < S.count 11 then _ else if tS B t = 0 ∨ (tRk (tS B t) = 3 ∧ false = true) then _ else Sum.inl (tgo B tl t, tS B t :: (mcs (tRk (tS B t)) S o).1, (mcs (tRk (tS B t)) S o).2, (decide (tRk (tS B t) = 3) || (decide (3 < tRk (tS B t)) && false)) :: l, nn, true)) = _
                        rw [if_neg (by omega), if_neg (fun z => by omega), if_neg (fun z => z.elim (fun y => by omega) (fun y => absurd y.2 (by decide))), hbn]
                      refine me_goto k193_342 ?_
                      rw [mc_s hst] at h
                      refine ih (tgo B tl t) (tS B t :: (mcs (tRk (tS B t)) S o).1) (mcs (tRk (tS B t)) S o).2 _ l nn true K537 pn h ((hz.tr (((mZf.u (i := 137) (by simp)).tr (mZf.s hK1)).tr ((mZf.u (by simp)).tr (mZf.u (by simp))))).tr (mZf.g hK537)) hT537 hp5 hna5 hts5 hgw.1 (hS_c (mcs_in S _ hS) (by omega)) (by rw [List.length_cons]; have := hgw.2; have := hw3 (by omega); omega) (by rw [List.count_cons_of_ne (by omega), mcs_11]; exact hc8) (by rw [List.count_cons_of_ne (by omega), mcs_11]; exact hpl) (by rw [List.count_cons_of_ne (by omega), mcs_11]; exact hpn) hnn _
                    · skip
                      rw [cI_le (a := tRk (tS B t)) (b := 3) (by omega) (by omega)] at c36
                      refine me_aload_n (p' := 292) k193_291 rfl rfl ?_
                      refine me_gfr (p' := 295) k193_292 rfl (by decide) rfl (b := 137) rfl ?_
                      refine me_iload_n (p' := 296) k193_295 rfl rfl ?_
                      refine me_zald (p' := 297) k193_296 rfl (by decide) rfl (j := pn) rfl (by omega) (by decide) rfl ?_
                      rw [show J 137 pn = nI 0 from by have := hts.top; rw [List.length_map, hpl, ← hpn] at this; exact this]
                      refine me_if_eq (p' := 300) k193_297 rfl (fun _ => ?_) (fun h => absurd (by decide) h)
                      refine me_iconst (p' := 305) k193_304 rfl (v := nI 0) (by decide) ?_
                      refine me_zast (p' := 306) k193_305 rfl (by decide) rfl (j := pn) rfl (by omega) (by decide) rfl rfl ?_
                      refine me_aload_n (p' := 307) k193_306 rfl rfl ?_
                      refine me_iload (p' := 309) k193_307 rfl rfl ?_
                      refine me_cs (p' := 312) k193_309 rfl rfl rfl rfl rfl (cl_le mx_197 rfl) (by decide) (cl_sum rfl) (ct_rank (x := tS B t) (by omega) ?_)
                      have hr5 := (tRk_r (tS B t) (by omega)).2
                      refine me_cv (p' := 315) k193_312 rfl rfl (by decide) rfl (by decide) (by decide) dp_196 rfl rfl (cl_le mx_196 rfl) (by decide) (cl_sum rfl) (ct_settle (S := S) (o := o) (by omega) (hp.un (by decide)) hS (by omega) (fun K1 hK1 hp1 => ?_))
                      have ht3 := tS_3 (show tS B t ≠ 0 by omega)
                      have hln := mcs_len (r := tRk (tS B t)) S o
                      have hgw := tgo_wf (B := B) (tl := tl) hw
                      refine me_aload_n (p' := 316) k193_315 rfl rfl ?_
                      refine me_gfr (p' := 319) k193_316 rfl (by decide) rfl (b := 136) rfl ?_
                      refine me_aload_n (p' := 320) k193_319 rfl rfl ?_
                      refine me_gfi (p' := 323) k193_320 rfl (by decide) rfl rfl ?_
                      rw [hp1.1]
                      refine me_iload (p' := 325) k193_323 rfl rfl ?_
                      refine me_iast (p' := 326) k193_325 rfl (by decide) rfl (j := (mcs (tRk (tS B t)) S o).1.length) rfl (by omega) (by decide) rfl ?_
                      refine me_aload_n (p' := 327) k193_326 rfl rfl ?_
                      refine me_dup (p' := 328) k193_327 rfl rfl ?_
                      refine me_gfi (p' := 331) k193_328 rfl (by decide) rfl rfl ?_
                      rw [mg_un1 (by decide), hp1.1]
                      refine me_iconst (p' := 332) k193_331 rfl (v := nI 1) (by decide) ?_
                      refine me_iadd (p' := 333) k193_332 rfl (v := nI (((mcs (tRk (tS B t)) S o).1.length) + 1)) (mI_add _ _) ?_
                      refine me_pfi (p' := 336) k193_333 rfl (by decide) rfl rfl rfl rfl ?_
                      refine me_iconst (p' := 337) k193_336 rfl (v := nI 1) (by decide) ?_
                      refine me_istore_n (p' := 338) k193_337 rfl ⟨Nat.le_of_ble_eq_true rfl, rfl⟩ rfl ?_
                      refine me_aload_n (p' := 339) k193_338 rfl rfl ?_
                      refine me_cv (p' := 342) k193_339 rfl rfl (by decide) rfl (by decide) (by decide) dp_189 rfl rfl (cl_le mx_189 rfl) (by decide) (cl_sum rfl) (ct_go (B := B) (tl := tl) (a := t.2.2) (w := t.1 = 1 ∨ t.1 = 2) (hTJ.zf ((((mZf.u (i := 137) (by simp)).tr (mZf.s hK1)).tr ((mZf.u (by simp)).tr (mZf.u (by simp)))))) hw.2.1 ((mg_une (by decide)).trans ((mg_un1 (by decide)).trans ((hK1.2 8 (by decide) (by decide)).trans ((mg_un1 (by decide)).trans hk.1)))) ((hk.2.2.2.2.2 (by omega)).fr ((mg_une (by decide)).trans ((mg_un1 (by decide)).trans ((hK1.2 12 (by decide) (by decide)).trans (mg_un1 (by decide)))))) (fun K538 hK538 hT538 => ?_))
                      have hp5 : mPs K538 (tS B t :: (mcs (tRk (tS B t)) S o).1) (mcs (tRk (tS B t)) S o).2 := (hp1.push rfl).gf hK538
                      have hna5 : K538 127 18 = nI (tNa (mcs (tRk (tS B t)) S o).2) := by
                        rw [tNa_mcs]
                        exact (hK538.2 18 (by decide) (by decide) (by decide) (by decide) (by decide)).trans ((mg_une (by decide)).trans ((mg_un1 (by decide)).trans ((hK1.2 18 (by decide) (by decide)).trans ((mg_un1 (by decide)).trans hna))))
                      have hts5 : mStk (K538 137) ((false :: l).map tB) := by
                        rw [show K538 137 = mg_u J 137 pn (tB false) 137 from funext fun k => (hK538.1 137 k (by decide)).trans ((mg_un1 (by decide)).trans ((mg_un1 (by decide)).trans (hK1.1 137 k (by decide))))]
                        have := (mStk.tl hts).push (i := 137) (v := tB false)
                        rw [List.length_map, hpl, ← hpn] at this
                        exact this
                      have hbn : (decide (tRk (tS B t) = 3) || (decide (3 < tRk (tS B t)) && false)) = false := by
                        rw [decide_eq_false (by omega), Bool.and_false]
                        rfl
                      have hst : mst B tl key (t, S, o, false :: l, nn, false) = .inl (tgo B tl t, tS B t :: (mcs (tRk (tS B t)) S o).1, (mcs (tRk (tS B t)) S o).2, false :: l, nn, true) := by
                        show (if t.1 = 0 then _ else if t.1 = 3 ∧ B t.2.1 = 41 ∧ 0 < S.count 11 then _ else if tS B t = 0 ∨ (tRk (tS B t) = 3 ∧ false = true) then _ else Sum.inl (tgo B tl t, tS B t :: (mcs (tRk (tS B t)) S o).1, (mcs (tRk (tS B t)) S o).2, (decide (tRk (tS B t) = 3) || (decide (3 < tRk (tS B t)) && false)) :: l, nn, true)) = _
                        rw [if_neg (by omega), if_neg (fun z => by omega), if_neg (fun z => z.elim (fun y => by omega) (fun y => absurd y.2 (by decide))), hbn]
                      refine me_goto k193_342 ?_
                      rw [mc_s hst] at h
                      refine ih (tgo B tl t) (tS B t :: (mcs (tRk (tS B t)) S o).1) (mcs (tRk (tS B t)) S o).2 _ l nn true K538 pn h ((hz.tr (((mZf.u (i := 137) (by simp)).tr (mZf.s hK1)).tr ((mZf.u (by simp)).tr (mZf.u (by simp))))).tr (mZf.g hK538)) hT538 hp5 hna5 hts5 hgw.1 (hS_c (mcs_in S _ hS) (by omega)) (by rw [List.length_cons]; have := hgw.2; have := hw3 (by omega); omega) (by rw [List.count_cons_of_ne (by omega), mcs_11]; exact hc8) (by rw [List.count_cons_of_ne (by omega), mcs_11]; exact hpl) (by rw [List.count_cons_of_ne (by omega), mcs_11]; exact hpn) hnn _
          · skip
            refine me_aload_n (p' := 238) k193_237 rfl rfl ?_
            refine me_cv (p' := 241) k193_238 rfl rfl (by decide) rfl (by decide) (by decide) dp_199 rfl rfl (cl_le mx_199 rfl) (by decide) (cl_sum rfl) (ct_signHere hTJ hk hw ?_)
            have hq9 := tS_r B t
            refine me_istore (p' := 243) k193_241 rfl ⟨Nat.le_of_ble_eq_true rfl, rfl⟩ rfl ?_
            refine me_iload (p' := 245) k193_243 rfl rfl ?_
            rcases Nat.eq_zero_or_pos (tS B t) with hq0 | hq0
            · skip
              refine me_if_eq (p' := 248) k193_245 rfl (fun c37 => ?_) (fun c37 => ?_)
              · skip
                refine me_iconst (p' := 267) k193_266 rfl (v := nI 0) (by decide) ?_
                refine me_reti k193_267 rt_193 (by decide) ?_
                have hst : mst B tl key (t, S, o, true :: l, nn, false) = .inr (t.2.1, none) := by
                  show (if t.1 = 0 then _ else if t.1 = 3 ∧ B t.2.1 = 41 ∧ 0 < S.count 11 then _ else if tS B t = 0 ∨ (tRk (tS B t) = 3 ∧ true = true) then _ else _) = _
                  rw [if_neg (by omega), if_neg (fun z => by omega), if_pos (Or.inl hq0)]
                have hr := mc_e hst h
                exact hF J t.2.1 hz hr hk.2.1
              · skip
                exact absurd ((sg_neg _ (by omega)).2.mpr hq0) c37
            · skip
              refine me_if_eq (p' := 248) k193_245 rfl (fun c38 => ?_) (fun c38 => ?_)
              · skip
                exact absurd ((sg_neg _ (by omega)).2.mp c38) (by omega)
              · skip
                refine me_iload (p' := 250) k193_248 rfl rfl ?_
                refine me_cs (p' := 253) k193_250 rfl rfl rfl rfl rfl (cl_le mx_197 rfl) (by decide) (cl_sum rfl) (ct_rank (x := tS B t) (by omega) ?_)
                have hr5 := (tRk_r (tS B t) (by omega)).2
                refine me_iconst (p' := 254) k193_253 rfl (v := nI 3) (by decide) ?_
                refine me_ic_ne (p' := 257) k193_254 rfl (fun c39 => ?_) (fun c39 => ?_)
                · skip
                  rw [cI_eq (a := tRk (tS B t)) (b := 3) (by omega) (by omega)] at c39
                  refine me_aload_n (p' := 258) k193_257 rfl rfl ?_
                  refine me_gfr (p' := 261) k193_258 rfl (by decide) rfl (b := 137) rfl ?_
                  refine me_iload_n (p' := 262) k193_261 rfl rfl ?_
                  refine me_zald (p' := 263) k193_262 rfl (by decide) rfl (j := pn) rfl (by omega) (by decide) rfl ?_
                  rw [show J 137 pn = nI 1 from by have := hts.top; rw [List.length_map, hpl, ← hpn] at this; exact this]
                  refine me_if_eq (p' := 266) k193_263 rfl (fun h => absurd h (by decide)) (fun _ => ?_)
                  refine me_iconst (p' := 267) k193_266 rfl (v := nI 0) (by decide) ?_
                  refine me_reti k193_267 rt_193 (by decide) ?_
                  have hst : mst B tl key (t, S, o, true :: l, nn, false) = .inr (t.2.1, none) := by
                    show (if t.1 = 0 then _ else if t.1 = 3 ∧ B t.2.1 = 41 ∧ 0 < S.count 11 then _ else if tS B t = 0 ∨ (tRk (tS B t) = 3 ∧ true = true) then _ else _) = _
                    rw [if_neg (by omega), if_neg (fun z => by omega), if_pos (Or.inr ⟨by omega, rfl⟩)]
                  have hr := mc_e hst h
                  exact hF J t.2.1 hz hr hk.2.1
                · skip
                  rw [cI_eq (a := tRk (tS B t)) (b := 3) (by omega) (by omega)] at c39
                  refine me_aload_n (p' := 269) k193_268 rfl rfl ?_
                  refine me_gfr (p' := 272) k193_269 rfl (by decide) rfl (b := 137) rfl ?_
                  refine me_iload_n (p' := 273) k193_272 rfl rfl ?_
                  refine me_iload (p' := 275) k193_273 rfl rfl ?_
                  refine me_cs (p' := 278) k193_275 rfl rfl rfl rfl rfl (cl_le mx_197 rfl) (by decide) (cl_sum rfl) (ct_rank (x := tS B t) (by omega) ?_)
                  have hr5 := (tRk_r (tS B t) (by omega)).2
                  refine me_iconst (p' := 279) k193_278 rfl (v := nI 3) (by decide) ?_
                  refine me_ic_eq (p' := 282) k193_279 rfl (fun c40 => ?_) (fun c40 => ?_)
                  · skip
                    rw [cI_eq (a := tRk (tS B t)) (b := 3) (by omega) (by omega)] at c40
                    refine me_iconst (p' := 301) k193_300 rfl (v := nI 1) (by decide) ?_
                    refine me_goto k193_301 ?_
                    refine me_zast (p' := 306) k193_305 rfl (by decide) rfl (j := pn) rfl (by omega) (by decide) rfl rfl ?_
                    refine me_aload_n (p' := 307) k193_306 rfl rfl ?_
                    refine me_iload (p' := 309) k193_307 rfl rfl ?_
                    refine me_cs (p' := 312) k193_309 rfl rfl rfl rfl rfl (cl_le mx_197 rfl) (by decide) (cl_sum rfl) (ct_rank (x := tS B t) (by omega) ?_)
                    have hr5 := (tRk_r (tS B t) (by omega)).2
                    refine me_cv (p' := 315) k193_312 rfl rfl (by decide) rfl (by decide) (by decide) dp_196 rfl rfl (cl_le mx_196 rfl) (by decide) (cl_sum rfl) (ct_settle (S := S) (o := o) (by omega) (hp.un (by decide)) hS (by omega) (fun K1 hK1 hp1 => ?_))
                    have ht3 := tS_3 (show tS B t ≠ 0 by omega)
                    have hln := mcs_len (r := tRk (tS B t)) S o
                    have hgw := tgo_wf (B := B) (tl := tl) hw
                    refine me_aload_n (p' := 316) k193_315 rfl rfl ?_
                    refine me_gfr (p' := 319) k193_316 rfl (by decide) rfl (b := 136) rfl ?_
                    refine me_aload_n (p' := 320) k193_319 rfl rfl ?_
                    refine me_gfi (p' := 323) k193_320 rfl (by decide) rfl rfl ?_
                    rw [hp1.1]
                    refine me_iload (p' := 325) k193_323 rfl rfl ?_
                    refine me_iast (p' := 326) k193_325 rfl (by decide) rfl (j := (mcs (tRk (tS B t)) S o).1.length) rfl (by omega) (by decide) rfl ?_
                    refine me_aload_n (p' := 327) k193_326 rfl rfl ?_
                    refine me_dup (p' := 328) k193_327 rfl rfl ?_
                    refine me_gfi (p' := 331) k193_328 rfl (by decide) rfl rfl ?_
                    rw [mg_un1 (by decide), hp1.1]
                    refine me_iconst (p' := 332) k193_331 rfl (v := nI 1) (by decide) ?_
                    refine me_iadd (p' := 333) k193_332 rfl (v := nI (((mcs (tRk (tS B t)) S o).1.length) + 1)) (mI_add _ _) ?_
                    refine me_pfi (p' := 336) k193_333 rfl (by decide) rfl rfl rfl rfl ?_
                    refine me_iconst (p' := 337) k193_336 rfl (v := nI 1) (by decide) ?_
                    refine me_istore_n (p' := 338) k193_337 rfl ⟨Nat.le_of_ble_eq_true rfl, rfl⟩ rfl ?_
                    refine me_aload_n (p' := 339) k193_338 rfl rfl ?_
                    refine me_cv (p' := 342) k193_339 rfl rfl (by decide) rfl (by decide) (by decide) dp_189 rfl rfl (cl_le mx_189 rfl) (by decide) (cl_sum rfl) (ct_go (B := B) (tl := tl) (a := t.2.2) (w := t.1 = 1 ∨ t.1 = 2) (hTJ.zf ((((mZf.u (i := 137) (by simp)).tr (mZf.s hK1)).tr ((mZf.u (by simp)).tr (mZf.u (by simp)))))) hw.2.1 ((mg_une (by decide)).trans ((mg_un1 (by decide)).trans ((hK1.2 8 (by decide) (by decide)).trans ((mg_un1 (by decide)).trans hk.1)))) ((hk.2.2.2.2.2 (by omega)).fr ((mg_une (by decide)).trans ((mg_un1 (by decide)).trans ((hK1.2 12 (by decide) (by decide)).trans (mg_un1 (by decide)))))) (fun K539 hK539 hT539 => ?_))
                    have hp5 : mPs K539 (tS B t :: (mcs (tRk (tS B t)) S o).1) (mcs (tRk (tS B t)) S o).2 := (hp1.push rfl).gf hK539
                    have hna5 : K539 127 18 = nI (tNa (mcs (tRk (tS B t)) S o).2) := by
                      rw [tNa_mcs]
                      exact (hK539.2 18 (by decide) (by decide) (by decide) (by decide) (by decide)).trans ((mg_une (by decide)).trans ((mg_un1 (by decide)).trans ((hK1.2 18 (by decide) (by decide)).trans ((mg_un1 (by decide)).trans hna))))
                    have hts5 : mStk (K539 137) ((true :: l).map tB) := by
                      rw [show K539 137 = mg_u J 137 pn (tB true) 137 from funext fun k => (hK539.1 137 k (by decide)).trans ((mg_un1 (by decide)).trans ((mg_un1 (by decide)).trans (hK1.1 137 k (by decide))))]
                      have := (mStk.tl hts).push (i := 137) (v := tB true)
                      rw [List.length_map, hpl, ← hpn] at this
                      exact this
                    have hbn : (decide (tRk (tS B t) = 3) || (decide (3 < tRk (tS B t)) && true)) = true := by
                      by_cases z : tRk (tS B t) = 3
                      · rw [decide_eq_true z]
                        rfl
                      · rw [decide_eq_false z, decide_eq_true (by omega)]
                        rfl
                    have hst : mst B tl key (t, S, o, true :: l, nn, false) = .inl (tgo B tl t, tS B t :: (mcs (tRk (tS B t)) S o).1, (mcs (tRk (tS B t)) S o).2, true :: l, nn, true) := by
                      show (if t.1 = 0 then _ else if t.1 = 3 ∧ B t.2.1 = 41 ∧ 0 < S.count 11 then _ else if tS B t = 0 ∨ (tRk (tS B t) = 3 ∧ true = true) then _ else Sum.inl (tgo B tl t, tS B t :: (mcs (tRk (tS B t)) S o).1, (mcs (tRk (tS B t)) S o).2, (decide (tRk (tS B t) = 3) || (decide (3 < tRk (tS B t)) && true)) :: l, nn, true)) = _
                      rw [if_neg (by omega), if_neg (fun z => by omega), if_neg (fun z => z.elim (fun y => by omega) (fun y => by omega)), hbn]
                    refine me_goto k193_342 ?_
                    rw [mc_s hst] at h
                    refine ih (tgo B tl t) (tS B t :: (mcs (tRk (tS B t)) S o).1) (mcs (tRk (tS B t)) S o).2 _ l nn true K539 pn h ((hz.tr (((mZf.u (i := 137) (by simp)).tr (mZf.s hK1)).tr ((mZf.u (by simp)).tr (mZf.u (by simp))))).tr (mZf.g hK539)) hT539 hp5 hna5 hts5 hgw.1 (hS_c (mcs_in S _ hS) (by omega)) (by rw [List.length_cons]; have := hgw.2; have := hw3 (by omega); omega) (by rw [List.count_cons_of_ne (by omega), mcs_11]; exact hc8) (by rw [List.count_cons_of_ne (by omega), mcs_11]; exact hpl) (by rw [List.count_cons_of_ne (by omega), mcs_11]; exact hpn) hnn _
                  · skip
                    rw [cI_eq (a := tRk (tS B t)) (b := 3) (by omega) (by omega)] at c40
                    refine me_iload (p' := 284) k193_282 rfl rfl ?_
                    refine me_cs (p' := 287) k193_284 rfl rfl rfl rfl rfl (cl_le mx_197 rfl) (by decide) (cl_sum rfl) (ct_rank (x := tS B t) (by omega) ?_)
                    have hr5 := (tRk_r (tS B t) (by omega)).2
                    refine me_iconst (p' := 288) k193_287 rfl (v := nI 3) (by decide) ?_
                    refine me_ic_le (p' := 291) k193_288 rfl (fun c41 => ?_) (fun c41 => ?_)
                    · skip
                      rw [cI_le (a := tRk (tS B t)) (b := 3) (by omega) (by omega)] at c41
                      refine me_iconst (p' := 305) k193_304 rfl (v := nI 0) (by decide) ?_
                      refine me_zast (p' := 306) k193_305 rfl (by decide) rfl (j := pn) rfl (by omega) (by decide) rfl rfl ?_
                      refine me_aload_n (p' := 307) k193_306 rfl rfl ?_
                      refine me_iload (p' := 309) k193_307 rfl rfl ?_
                      refine me_cs (p' := 312) k193_309 rfl rfl rfl rfl rfl (cl_le mx_197 rfl) (by decide) (cl_sum rfl) (ct_rank (x := tS B t) (by omega) ?_)
                      have hr5 := (tRk_r (tS B t) (by omega)).2
                      refine me_cv (p' := 315) k193_312 rfl rfl (by decide) rfl (by decide) (by decide) dp_196 rfl rfl (cl_le mx_196 rfl) (by decide) (cl_sum rfl) (ct_settle (S := S) (o := o) (by omega) (hp.un (by decide)) hS (by omega) (fun K1 hK1 hp1 => ?_))
                      have ht3 := tS_3 (show tS B t ≠ 0 by omega)
                      have hln := mcs_len (r := tRk (tS B t)) S o
                      have hgw := tgo_wf (B := B) (tl := tl) hw
                      refine me_aload_n (p' := 316) k193_315 rfl rfl ?_
                      refine me_gfr (p' := 319) k193_316 rfl (by decide) rfl (b := 136) rfl ?_
                      refine me_aload_n (p' := 320) k193_319 rfl rfl ?_
                      refine me_gfi (p' := 323) k193_320 rfl (by decide) rfl rfl ?_
                      rw [hp1.1]
                      refine me_iload (p' := 325) k193_323 rfl rfl ?_
                      refine me_iast (p' := 326) k193_325 rfl (by decide) rfl (j := (mcs (tRk (tS B t)) S o).1.length) rfl (by omega) (by decide) rfl ?_
                      refine me_aload_n (p' := 327) k193_326 rfl rfl ?_
                      refine me_dup (p' := 328) k193_327 rfl rfl ?_
                      refine me_gfi (p' := 331) k193_328 rfl (by decide) rfl rfl ?_
                      rw [mg_un1 (by decide), hp1.1]
                      refine me_iconst (p' := 332) k193_331 rfl (v := nI 1) (by decide) ?_
                      refine me_iadd (p' := 333) k193_332 rfl (v := nI (((mcs (tRk (tS B t)) S o).1.length) + 1)) (mI_add _ _) ?_
                      refine me_pfi (p' := 336) k193_333 rfl (by decide) rfl rfl rfl rfl ?_
                      refine me_iconst (p' := 337) k193_336 rfl (v := nI 1) (by decide) ?_
                      refine me_istore_n (p' := 338) k193_337 rfl ⟨Nat.le_of_ble_eq_true rfl, rfl⟩ rfl ?_
                      refine me_aload_n (p' := 339) k193_338 rfl rfl ?_
                      refine me_cv (p' := 342) k193_339 rfl rfl (by decide) rfl (by decide) (by decide) dp_189 rfl rfl (cl_le mx_189 rfl) (by decide) (cl_sum rfl) (ct_go (B := B) (tl := tl) (a := t.2.2) (w := t.1 = 1 ∨ t.1 = 2) (hTJ.zf ((((mZf.u (i := 137) (by simp)).tr (mZf.s hK1)).tr ((mZf.u (by simp)).tr (mZf.u (by simp)))))) hw.2.1 ((mg_une (by decide)).trans ((mg_un1 (by decide)).trans ((hK1.2 8 (by decide) (by decide)).trans ((mg_un1 (by decide)).trans hk.1)))) ((hk.2.2.2.2.2 (by omega)).fr ((mg_une (by decide)).trans ((mg_un1 (by decide)).trans ((hK1.2 12 (by decide) (by decide)).trans (mg_un1 (by decide)))))) (fun K540 hK540 hT540 => ?_))
                      have hp5 : mPs K540 (tS B t :: (mcs (tRk (tS B t)) S o).1) (mcs (tRk (tS B t)) S o).2 := (hp1.push rfl).gf hK540
                      have hna5 : K540 127 18 = nI (tNa (mcs (tRk (tS B t)) S o).2) := by
                        rw [tNa_mcs]
                        exact (hK540.2 18 (by decide) (by decide) (by decide) (by decide) (by decide)).trans ((mg_une (by decide)).trans ((mg_un1 (by decide)).trans ((hK1.2 18 (by decide) (by decide)).trans ((mg_un1 (by decide)).trans hna))))
                      have hts5 : mStk (K540 137) ((false :: l).map tB) := by
                        rw [show K540 137 = mg_u J 137 pn (tB false) 137 from funext fun k => (hK540.1 137 k (by decide)).trans ((mg_un1 (by decide)).trans ((mg_un1 (by decide)).trans (hK1.1 137 k (by decide))))]
                        have := (mStk.tl hts).push (i := 137) (v := tB false)
                        rw [List.length_map, hpl, ← hpn] at this
                        exact this
                      have hbn : (decide (tRk (tS B t) = 3) || (decide (3 < tRk (tS B t)) && true)) = false := by
                        rw [decide_eq_false (by omega), decide_eq_false (by omega)]
                        rfl
                      have hst : mst B tl key (t, S, o, true :: l, nn, false) = .inl (tgo B tl t, tS B t :: (mcs (tRk (tS B t)) S o).1, (mcs (tRk (tS B t)) S o).2, false :: l, nn, true) := by
                        show (if t.1 = 0 then _ else if t.1 = 3 ∧ B t.2.1 = 41 ∧ 0 < S.count 11 then _ else if tS B t = 0 ∨ (tRk (tS B t) = 3 ∧ true = true) then _ else Sum.inl (tgo B tl t, tS B t :: (mcs (tRk (tS B t)) S o).1, (mcs (tRk (tS B t)) S o).2, (decide (tRk (tS B t) = 3) || (decide (3 < tRk (tS B t)) && true)) :: l, nn, true)) = _
                        rw [if_neg (by omega), if_neg (fun z => by omega), if_neg (fun z => z.elim (fun y => by omega) (fun y => by omega)), hbn]
                      refine me_goto k193_342 ?_
                      rw [mc_s hst] at h
                      refine ih (tgo B tl t) (tS B t :: (mcs (tRk (tS B t)) S o).1) (mcs (tRk (tS B t)) S o).2 _ l nn true K540 pn h ((hz.tr (((mZf.u (i := 137) (by simp)).tr (mZf.s hK1)).tr ((mZf.u (by simp)).tr (mZf.u (by simp))))).tr (mZf.g hK540)) hT540 hp5 hna5 hts5 hgw.1 (hS_c (mcs_in S _ hS) (by omega)) (by rw [List.length_cons]; have := hgw.2; have := hw3 (by omega); omega) (by rw [List.count_cons_of_ne (by omega), mcs_11]; exact hc8) (by rw [List.count_cons_of_ne (by omega), mcs_11]; exact hpl) (by rw [List.count_cons_of_ne (by omega), mcs_11]; exact hpn) hnn _
                    · skip
                      rw [cI_le (a := tRk (tS B t)) (b := 3) (by omega) (by omega)] at c41
                      refine me_aload_n (p' := 292) k193_291 rfl rfl ?_
                      refine me_gfr (p' := 295) k193_292 rfl (by decide) rfl (b := 137) rfl ?_
                      refine me_iload_n (p' := 296) k193_295 rfl rfl ?_
                      refine me_zald (p' := 297) k193_296 rfl (by decide) rfl (j := pn) rfl (by omega) (by decide) rfl ?_
                      rw [show J 137 pn = nI 1 from by have := hts.top; rw [List.length_map, hpl, ← hpn] at this; exact this]
                      refine me_if_eq (p' := 300) k193_297 rfl (fun h => absurd h (by decide)) (fun _ => ?_)
                      refine me_iconst (p' := 301) k193_300 rfl (v := nI 1) (by decide) ?_
                      refine me_goto k193_301 ?_
                      refine me_zast (p' := 306) k193_305 rfl (by decide) rfl (j := pn) rfl (by omega) (by decide) rfl rfl ?_
                      refine me_aload_n (p' := 307) k193_306 rfl rfl ?_
                      refine me_iload (p' := 309) k193_307 rfl rfl ?_
                      refine me_cs (p' := 312) k193_309 rfl rfl rfl rfl rfl (cl_le mx_197 rfl) (by decide) (cl_sum rfl) (ct_rank (x := tS B t) (by omega) ?_)
                      have hr5 := (tRk_r (tS B t) (by omega)).2
                      refine me_cv (p' := 315) k193_312 rfl rfl (by decide) rfl (by decide) (by decide) dp_196 rfl rfl (cl_le mx_196 rfl) (by decide) (cl_sum rfl) (ct_settle (S := S) (o := o) (by omega) (hp.un (by decide)) hS (by omega) (fun K1 hK1 hp1 => ?_))
                      have ht3 := tS_3 (show tS B t ≠ 0 by omega)
                      have hln := mcs_len (r := tRk (tS B t)) S o
                      have hgw := tgo_wf (B := B) (tl := tl) hw
                      refine me_aload_n (p' := 316) k193_315 rfl rfl ?_
                      refine me_gfr (p' := 319) k193_316 rfl (by decide) rfl (b := 136) rfl ?_
                      refine me_aload_n (p' := 320) k193_319 rfl rfl ?_
                      refine me_gfi (p' := 323) k193_320 rfl (by decide) rfl rfl ?_
                      rw [hp1.1]
                      refine me_iload (p' := 325) k193_323 rfl rfl ?_
                      refine me_iast (p' := 326) k193_325 rfl (by decide) rfl (j := (mcs (tRk (tS B t)) S o).1.length) rfl (by omega) (by decide) rfl ?_
                      refine me_aload_n (p' := 327) k193_326 rfl rfl ?_
                      refine me_dup (p' := 328) k193_327 rfl rfl ?_
                      refine me_gfi (p' := 331) k193_328 rfl (by decide) rfl rfl ?_
                      rw [mg_un1 (by decide), hp1.1]
                      refine me_iconst (p' := 332) k193_331 rfl (v := nI 1) (by decide) ?_
                      refine me_iadd (p' := 333) k193_332 rfl (v := nI (((mcs (tRk (tS B t)) S o).1.length) + 1)) (mI_add _ _) ?_
                      refine me_pfi (p' := 336) k193_333 rfl (by decide) rfl rfl rfl rfl ?_
                      refine me_iconst (p' := 337) k193_336 rfl (v := nI 1) (by decide) ?_
                      refine me_istore_n (p' := 338) k193_337 rfl ⟨Nat.le_of_ble_eq_true rfl, rfl⟩ rfl ?_
                      refine me_aload_n (p' := 339) k193_338 rfl rfl ?_
                      refine me_cv (p' := 342) k193_339 rfl rfl (by decide) rfl (by decide) (by decide) dp_189 rfl rfl (cl_le mx_189 rfl) (by decide) (cl_sum rfl) (ct_go (B := B) (tl := tl) (a := t.2.2) (w := t.1 = 1 ∨ t.1 = 2) (hTJ.zf ((((mZf.u (i := 137) (by simp)).tr (mZf.s hK1)).tr ((mZf.u (by simp)).tr (mZf.u (by simp)))))) hw.2.1 ((mg_une (by decide)).trans ((mg_un1 (by decide)).trans ((hK1.2 8 (by decide) (by decide)).trans ((mg_un1 (by decide)).trans hk.1)))) ((hk.2.2.2.2.2 (by omega)).fr ((mg_une (by decide)).trans ((mg_un1 (by decide)).trans ((hK1.2 12 (by decide) (by decide)).trans (mg_un1 (by decide)))))) (fun K541 hK541 hT541 => ?_))
                      have hp5 : mPs K541 (tS B t :: (mcs (tRk (tS B t)) S o).1) (mcs (tRk (tS B t)) S o).2 := (hp1.push rfl).gf hK541
                      have hna5 : K541 127 18 = nI (tNa (mcs (tRk (tS B t)) S o).2) := by
                        rw [tNa_mcs]
                        exact (hK541.2 18 (by decide) (by decide) (by decide) (by decide) (by decide)).trans ((mg_une (by decide)).trans ((mg_un1 (by decide)).trans ((hK1.2 18 (by decide) (by decide)).trans ((mg_un1 (by decide)).trans hna))))
                      have hts5 : mStk (K541 137) ((true :: l).map tB) := by
                        rw [show K541 137 = mg_u J 137 pn (tB true) 137 from funext fun k => (hK541.1 137 k (by decide)).trans ((mg_un1 (by decide)).trans ((mg_un1 (by decide)).trans (hK1.1 137 k (by decide))))]
                        have := (mStk.tl hts).push (i := 137) (v := tB true)
                        rw [List.length_map, hpl, ← hpn] at this
                        exact this
                      have hbn : (decide (tRk (tS B t) = 3) || (decide (3 < tRk (tS B t)) && true)) = true := by
                        by_cases z : tRk (tS B t) = 3
                        · rw [decide_eq_true z]
                          rfl
                        · rw [decide_eq_false z, decide_eq_true (by omega)]
                          rfl
                      have hst : mst B tl key (t, S, o, true :: l, nn, false) = .inl (tgo B tl t, tS B t :: (mcs (tRk (tS B t)) S o).1, (mcs (tRk (tS B t)) S o).2, true :: l, nn, true) := by
                        show (if t.1 = 0 then _ else if t.1 = 3 ∧ B t.2.1 = 41 ∧ 0 < S.count 11 then _ else if tS B t = 0 ∨ (tRk (tS B t) = 3 ∧ true = true) then _ else Sum.inl (tgo B tl t, tS B t :: (mcs (tRk (tS B t)) S o).1, (mcs (tRk (tS B t)) S o).2, (decide (tRk (tS B t) = 3) || (decide (3 < tRk (tS B t)) && true)) :: l, nn, true)) = _
                        rw [if_neg (by omega), if_neg (fun z => by omega), if_neg (fun z => z.elim (fun y => by omega) (fun y => by omega)), hbn]
                      refine me_goto k193_342 ?_
                      rw [mc_s hst] at h
                      refine ih (tgo B tl t) (tS B t :: (mcs (tRk (tS B t)) S o).1) (mcs (tRk (tS B t)) S o).2 _ l nn true K541 pn h ((hz.tr (((mZf.u (i := 137) (by simp)).tr (mZf.s hK1)).tr ((mZf.u (by simp)).tr (mZf.u (by simp))))).tr (mZf.g hK541)) hT541 hp5 hna5 hts5 hgw.1 (hS_c (mcs_in S _ hS) (by omega)) (by rw [List.length_cons]; have := hgw.2; have := hw3 (by omega); omega) (by rw [List.count_cons_of_ne (by omega), mcs_11]; exact hc8) (by rw [List.count_cons_of_ne (by omega), mcs_11]; exact hpl) (by rw [List.count_cons_of_ne (by omega), mcs_11]; exact hpn) hnn _
