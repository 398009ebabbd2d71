/-! ===== the text constants' instructions ===== -/
theorem isRef_ev {A : Array Value} {s : State} {t : Term} {v : Value} (h : (Cond.isRef t).before A s = true) (hv : t.eval A s none [] s = some v) : v = .null ∨ ∃ f : Nat, v = .ref f := by
  cases v with
  | ref f => exact Or.inr ⟨f, rfl⟩
  | null => exact Or.inl rfl
  | _ => simp [Cond.before, Cond.holds, Cond.value, hv] at h
theorem mZt_of2 {s : State} {A : Array Value} (b : Nat) (hts : ∀ w ∈ lw_tbl, w.before A s = true) (hgv : (Jvm.Cond.and given_1 narrow_1).before A s = true) : ∃ (tc adV : Nat → Nat) (fm : Value), (fm = .null ∨ ∃ f : Nat, fm = .ref f) ∧ mZt (s.heap.size, b, tc) adV fm s := by
  have hs := flat_of_before _ hgv
  have hA : ∀ a : Nat, a < s.heap.size → ¬ (fun q : Nat => s.heap.size ≤ q) a := fun a h => Nat.not_le.mpr h
  obtain ⟨tc, adV, h1, h2⟩ := vk_Sof (N := 14) (tm := tTm) (len := tLen) (byt := tByt) (A := fun q : Nat => s.heap.size ≤ q) (by decide) (fun i hi => hs _ (tF_ex i hi)) (fun i hi => hs _ (tF_co i hi)) (fun i hi => hs _ (tF_ar i hi)) (fun i hi => hs _ (tF_le i hi)) (fun i hi j hj => hs _ (tF_el i hi j hj)) (fun i j hi hj hij => (tF_ne i hi j hj hij).imp (hs _) (hs _)) hA
  have hfm := hs _ tF_fm
  cases hv : (Term.static "jdk/internal/util/Preconditions" "SIOOBE_FORMATTER" "Ljava/util/function/BiFunction;").eval A s none [] s with
  | none => simp [Cond.before, Cond.holds, Cond.value, hv] at hfm
  | some fm => exact ⟨tc, adV, fm, isRef_ev hfm hv, h1, fun i hi => vk_R.of (hts _ (tF_sr i hi)) (h2 i hi), va_Zof (hts _ tF_ls.1) (hts _ tF_ls.2.1) (va_eqi (hs _ tF_cs)) hA, va_Zof (hts _ tF_ls.2.2.1) (hts _ tF_ls.2.2.2) hv hA⟩
theorem jm_app {l1 l2 : List Cond} (h1 : ∀ w ∈ l1, w ∈ mj_T) (h2 : ∀ w ∈ l2, w ∈ mj_T) : ∀ w ∈ l1 ++ l2, w ∈ mj_T := fun w h => (List.mem_append.mp h).elim (h1 w) (h2 w)
theorem jm_V {own C : String} {idx : Nat} {y : MethodName} {ws : List Cond} (h1 : Cond.methodLink own idx y ∈ mj_T) (h2 : Cond.instanceMethod y ∈ mj_T) (h3 : Cond.selects C y y ∈ mj_T) (h4 : Cond.initialized C ∈ mj_T) (h : ∀ w ∈ ws, w ∈ mj_T) : ∀ w ∈ wsV own idx C y ws, w ∈ mj_T :=
  jm_app (List.forall_mem_cons.mpr ⟨h1, List.forall_mem_cons.mpr ⟨h2, List.forall_mem_cons.mpr ⟨h3, List.forall_mem_cons.mpr ⟨h4, fun _ h => absurd h List.not_mem_nil⟩⟩⟩⟩) h
theorem jm_S {own : String} {idx : Nat} {y : MethodName} {ws : List Cond} (h1 : Cond.methodLink own idx y ∈ mj_T) (h2 : Cond.static y ∈ mj_T) (h3 : Cond.initialized y.cls ∈ mj_T) (h : ∀ w ∈ ws, w ∈ mj_T) : ∀ w ∈ va_wsS own idx y ws, w ∈ mj_T :=
  jm_app (List.forall_mem_cons.mpr ⟨h1, List.forall_mem_cons.mpr ⟨h2, List.forall_mem_cons.mpr ⟨h3, fun _ h => absurd h List.not_mem_nil⟩⟩⟩) h
theorem jm_good {ws : List Cond} (h : ∀ w ∈ ws, w ∈ mj_T) : GoodIn mj_T ws := fun w hw => ⟨h w hw, good_of_word (List.mem_filter.mp (h w hw)).2⟩
set_option maxRecDepth 1000000 in
theorem jm_st : Cond.initialized "java/lang/String" ∈ mj_T := mj_tin (q := 65) rfl rfl
set_option maxRecDepth 1000000 in
theorem jm_l1 : Cond.initialized "java/lang/StringLatin1" ∈ mj_T := mj_tin (q := 66) rfl rfl
set_option maxRecDepth 1000000 in
theorem jm_coder : ∀ w ∈ jw_coder, w ∈ mj_T := List.forall_mem_cons.mpr ⟨mj_tin (q := 675) rfl rfl, List.forall_mem_cons.mpr ⟨mj_tin (q := 676) rfl rfl, List.forall_mem_cons.mpr ⟨mj_tin (q := 1393) rfl rfl, fun _ h => absurd h List.not_mem_nil⟩⟩⟩
set_option maxRecDepth 1000000 in
theorem jm_isLatin1 : ∀ w ∈ jw_isLatin1, w ∈ mj_T := List.forall_mem_cons.mpr ⟨mj_tin (q := 685) rfl rfl, List.forall_mem_cons.mpr ⟨mj_tin (q := 676) rfl rfl, List.forall_mem_cons.mpr ⟨mj_tin (q := 1393) rfl rfl, fun _ h => absurd h List.not_mem_nil⟩⟩⟩
set_option maxRecDepth 1000000 in
theorem jm_length : ∀ w ∈ jw_length, w ∈ mj_T := jm_app (List.forall_mem_cons.mpr ⟨mj_tin (q := 671) rfl rfl, List.forall_mem_cons.mpr ⟨mj_tin (q := 1392) rfl rfl, fun _ h => absurd h List.not_mem_nil⟩⟩) (jm_V (mj_tin (q := 672) rfl rfl) (mj_tin (q := 673) rfl rfl) (mj_tin (q := 674) rfl rfl) jm_st jm_coder)
set_option maxRecDepth 1000000 in
theorem jm_pci : ∀ w ∈ jw_pci, w ∈ mj_T := List.forall_mem_cons.mpr ⟨mj_tin (q := 696) rfl rfl, fun _ h => absurd h List.not_mem_nil⟩
set_option maxRecDepth 1000000 in
theorem jm_sci : ∀ w ∈ jw_sci, w ∈ mj_T := jm_app (List.forall_mem_cons.mpr ⟨mj_tin (q := 691) rfl rfl, List.forall_mem_cons.mpr ⟨mj_tin (q := 692) rfl rfl, fun _ h => absurd h List.not_mem_nil⟩⟩) (jm_S (mj_tin (q := 694) rfl rfl) (mj_tin (q := 695) rfl rfl) (mj_tin (q := 67) rfl rfl) jm_pci)
set_option maxRecDepth 1000000 in
theorem jm_lca : ∀ w ∈ jw_lca, w ∈ mj_T := jm_app (List.forall_mem_cons.mpr ⟨mj_tin (q := 688) rfl rfl, fun _ h => absurd h List.not_mem_nil⟩) (jm_S (mj_tin (q := 689) rfl rfl) (mj_tin (q := 690) rfl rfl) jm_st jm_sci)
set_option maxRecDepth 1000000 in
theorem jm_cat : ∀ w ∈ jw_cat, w ∈ mj_T := jm_app (jm_app (List.forall_mem_cons.mpr ⟨mj_tin (q := 681) rfl rfl, List.forall_mem_cons.mpr ⟨mj_tin (q := 1392) rfl rfl, fun _ h => absurd h List.not_mem_nil⟩⟩) (jm_V (mj_tin (q := 682) rfl rfl) (mj_tin (q := 683) rfl rfl) (mj_tin (q := 684) rfl rfl) jm_st jm_isLatin1)) (jm_S (mj_tin (q := 686) rfl rfl) (mj_tin (q := 687) rfl rfl) jm_l1 jm_lca)
set_option maxRecDepth 1000000 in
theorem jm_enc : ∀ w ∈ jw_enc, w ∈ mj_T := List.forall_mem_cons.mpr ⟨mj_tin (q := 749) rfl rfl, fun _ h => absurd h List.not_mem_nil⟩
set_option maxRecDepth 1000000 in
theorem jm_ioc : ∀ w ∈ jw_ioc, w ∈ mj_T := List.forall_mem_cons.mpr ⟨mj_tin (q := 754) rfl rfl, fun _ h => absurd h List.not_mem_nil⟩
set_option maxRecDepth 1000000 in
theorem jm_lio : ∀ w ∈ jw_lio, w ∈ mj_T := jm_app (jm_app (jm_app (jm_app (List.forall_mem_cons.mpr ⟨mj_tin (q := 746) rfl rfl, fun _ h => absurd h List.not_mem_nil⟩) (jm_S (mj_tin (q := 747) rfl rfl) (mj_tin (q := 748) rfl rfl) jm_l1 jm_enc)) (List.forall_mem_cons.mpr ⟨mj_tin (q := 750) rfl rfl, List.forall_mem_cons.mpr ⟨mj_tin (q := 359) rfl rfl, List.forall_mem_cons.mpr ⟨mj_tin (q := 63) rfl rfl, List.forall_mem_cons.mpr ⟨mj_tin (q := 360) rfl rfl, fun _ h => absurd h List.not_mem_nil⟩⟩⟩⟩)) (List.forall_mem_cons.mpr ⟨mj_tin (q := 751) rfl rfl, List.forall_mem_cons.mpr ⟨mj_tin (q := 356) rfl rfl, List.forall_mem_cons.mpr ⟨mj_tin (q := 63) rfl rfl, List.forall_mem_cons.mpr ⟨mj_tin (q := 357) rfl rfl, fun _ h => absurd h List.not_mem_nil⟩⟩⟩⟩)) (jm_S (mj_tin (q := 752) rfl rfl) (mj_tin (q := 753) rfl rfl) jm_l1 jm_ioc)
set_option maxRecDepth 1000000 in
theorem jm_ix2 : ∀ w ∈ jw_ix2, w ∈ mj_T := jm_app (jm_app (jm_app (List.forall_mem_cons.mpr ⟨mj_tin (q := 742) rfl rfl, List.forall_mem_cons.mpr ⟨mj_tin (q := 1392) rfl rfl, fun _ h => absurd h List.not_mem_nil⟩⟩) (jm_V (mj_tin (q := 682) rfl rfl) (mj_tin (q := 683) rfl rfl) (mj_tin (q := 684) rfl rfl) jm_st jm_isLatin1)) (jm_V (mj_tin (q := 743) rfl rfl) (mj_tin (q := 669) rfl rfl) (mj_tin (q := 670) rfl rfl) jm_st jm_length)) (jm_S (mj_tin (q := 744) rfl rfl) (mj_tin (q := 745) rfl rfl) jm_l1 jm_lio)
set_option maxRecDepth 1000000 in
theorem jm_ix1 : ∀ w ∈ jw_ix1, w ∈ mj_T := jm_app (List.forall_mem_cons.mpr ⟨mj_tin (q := 738) rfl rfl, fun _ h => absurd h List.not_mem_nil⟩) (jm_V (mj_tin (q := 739) rfl rfl) (mj_tin (q := 740) rfl rfl) (mj_tin (q := 741) rfl rfl) jm_st jm_ix2)
set_option maxRecDepth 1000000 in
theorem jm_T113 : ∀ w ∈ wsV "GhostTrain$Tape" 113 "java/lang/String" yJ0_length_8abf5 jw_length, w ∈ mj_T := jm_V (mj_tin (q := 668) rfl rfl) (mj_tin (q := 669) rfl rfl) (mj_tin (q := 670) rfl rfl) jm_st jm_length
set_option maxRecDepth 1000000 in
theorem jm_T115 : ∀ w ∈ wsV "GhostTrain$Tape" 115 "java/lang/String" yJ0_charAt_5068e jw_cat, w ∈ mj_T := jm_V (mj_tin (q := 678) rfl rfl) (mj_tin (q := 679) rfl rfl) (mj_tin (q := 680) rfl rfl) jm_st jm_cat
set_option maxRecDepth 1000000 in
theorem jm_T99 : ∀ w ∈ wsV "GhostTrain$Tape" 99 "java/lang/String" yJ0_indexOf_0f7a4 jw_ix1, w ∈ mj_T := jm_V (mj_tin (q := 735) rfl rfl) (mj_tin (q := 736) rfl rfl) (mj_tin (q := 737) rfl rfl) jm_st jm_ix1
theorem mj_vl3 : ∀ r ∈ mj_vl, r.1 = 9 ∧ (r.2.2.1 = 3002 → r.2.1 = 113) ∧ (r.2.2.1 = 3003 → r.2.1 = 115) ∧ (r.2.2.1 = 3004 → r.2.1 = 99) := by decide
theorem mj_txX (i : Nat) : mj_tx (mj_X + 1 + i) = mj_txt.getD i [] := by
  unfold mj_tx
  rw [Nat.add_sub_cancel_left]
theorem mj_trX {g : mj_G} {a : Nat} : mj_tr g (.ref (mj_X + 1 + a)) = .ref (g.2.2 a) := by
  show Value.ref (mj_ad g (mj_X + 1 + a)) = _
  unfold mj_ad
  rw [if_neg (show ¬ mj_X + 1 + a < mj_X by omega), if_neg (show ¬ mj_X + 1 + a = mj_X by omega), Nat.add_sub_cancel_left]
set_option maxHeartbeats 4000000 in
set_option maxRecDepth 100000 in
theorem mj_TX_ok (l : Launch) (g : mj_G) (K : mj_K) (adV : Nat → Nat) (fm : Value) (hfm : fm = .null ∨ ∃ f : Nat, fm = .ref f) : mj_TX l g K (mZt g adV fm) := by
  intro p e R s m args below meth c H locs cells slots Q cc pc lsr o ini en ls st q hx hb hown hts hF hd hk hns hs hml hlow hR hc1 hc2 kk
  have hz : mZt g adV fm s := hF.2.2.2.2.2
  have hat : ∀ U : State, U.heap = H → s.WarmedH U.vm → jP g adV fm H U := fun U hU hW => ⟨(mZt_ZZ g adV fm).2 s U hW (fun a ha => by rw [hU]; exact hlow a ha) hz, hU⟩
  have hrec : ∀ i, i < 14 → ∃ cell : Cell, H[g.2.2 i]? = some cell ∧ cell.vm.isStatics = false ∧ s.vm.findClass "java/lang/String" = some cell.cls := fun i hi => by
    obtain ⟨cell, h1, h2, h3, h4⟩ := (hz.1.1 i hi).1
    exact ⟨cell, by rw [hlow _ (Nat.lt_of_not_le h4)]; exact h1, h2, h3⟩
  obtain ⟨ins, ln, ea, eb⟩ := en
  dsimp only at hd hns
  unfold mj_sx at hs
  dsimp only at hs
  split at hs
  · rename_i i0
    split at hs
    · rename_i heb
      cases hs
      simp only [mj_chk, Bool.and_eq_true, decide_eq_true_eq] at hk
      obtain ⟨hln, hk⟩ := hk
      rw [if_pos heb] at hk
      obtain ⟨r, hr, h1⟩ := List.any_eq_true.mp hk
      simp only [Bool.and_eq_true, beq_iff_eq] at h1
      obtain ⟨⟨h1, h2⟩, h3⟩ := h1
      obtain ⟨t1, t2, t3⟩ := tTl r hr
      subst hln
      have ho : mj_own o = "GhostTrain$Tape" := by
        rw [← h1, t1]
        rfl
      rw [ho] at hown
      have hi0 : i0 = tIdx.getD ea 0 := by rw [← h2, t3, h3]
      have hi : ea < 14 := by
        rw [← h3]
        exact t2
      subst hi0
      refine va_ldcS (q := g.2.2 ea) hx hb hown (hz.2.1 ea hi) hd ?_
      dsimp only at kk
      rw [List.map_cons, mj_trX] at kk
      exact kk
    · cases hs
  · rename_i idx
    simp only [mj_chk, Bool.and_eq_true, decide_eq_true_eq] at hk
    obtain ⟨hln, hk⟩ := hk
    subst hln
    have row : 3002 ≤ ea → mj_own o = "GhostTrain$Tape" ∧ (ea = 3002 → idx = 113) ∧ (ea = 3003 → idx = 115) ∧ (ea = 3004 → idx = 99) := fun h => by
      rw [if_pos h] at hk
      obtain ⟨r, hr, h1⟩ := List.any_eq_true.mp hk
      simp only [Bool.and_eq_true, beq_iff_eq] at h1
      obtain ⟨⟨h1, h2⟩, h3⟩ := h1
      obtain ⟨t1, t2, t3, t4⟩ := mj_vl3 r hr
      exact ⟨by rw [← h1, t1]; rfl, fun z => by rw [← h2]; exact t2 (h3.trans z), fun z => by rw [← h2]; exact t3 (h3.trans z), fun z => by rw [← h2]; exact t4 (h3.trans z)⟩
    have nth : ∀ a : Nat, mj_X < a → a < mj_X + 15 → ∃ i : Nat, i < 14 ∧ a = mj_X + 1 + i := fun a h1 h2 => ⟨a - (mj_X + 1), by omega, by omega⟩
    split at hs
    · rename_i a r
      split at hs
      · rename_i hc
        obtain ⟨he, ha1, ha2, h8⟩ := hc
        cases hs
        obtain ⟨w1, w2, -, -⟩ := row (by omega)
        rw [w1] at hown
        have w2 := w2 he
        subst w2
        obtain ⟨i, hi, rfl⟩ := nth a ha1 ha2
        dsimp only at kk
        rw [mj_txX, ← tLen_ok i hi] at kk
        rw [List.map_cons, mj_trX]
        refine j_calli (va_runV (As := []) (rest := r.map (mj_tr g)) (b := g.2.2 i) ⟨hx, hb, hml, hown, hts⟩ (jc_length l g adV fm H i hi) (cwV 0 hts (jm_good jm_T113) rfl rfl rfl (by decide +kernel) ⟨Nat.le_trans (m := 10) (by decide) hR.1, Nat.le_trans (m := 1000) (by decide) hR.2⟩) ⟨fun a U g' mk q => ⟨q.1, q.2.calling rfl rfl⟩, hrec i hi, fun U hU hW => ⟨rfl, hat U hU hW⟩⟩ rfl rfl rfl rfl (lv_room (by rw [mj_tr_sum]; exact h8)) hd ⟨hc1, hc2⟩) rfl (fun r1 _ hw => ?_)
        subst hw
        exact kk
      · cases hs
    · rename_i ix a r
      split at hs
      · rename_i hc
        obtain ⟨he, ha1, ha2, hin, h8⟩ := hc
        cases hs
        obtain ⟨w1, -, w2, -⟩ := row (by omega)
        rw [w1] at hown
        have w2 := w2 he
        subst w2
        obtain ⟨i, hi, rfl⟩ := nth a ha1 ha2
        dsimp only at kk
        rw [mj_txX] at kk hin
        rw [← tLen_ok i hi] at hin
        simp only [mj_in, Bool.and_eq_true, decide_eq_true_eq] at hin
        obtain ⟨k, hk31, rfl⟩ := nI_of hin.1
        rw [nI_clamp hk31] at hin kk
        rw [List.map_cons, List.map_cons, mj_trX]
        refine j_calli (va_runV (As := [.int (nI k)]) (rest := r.map (mj_tr g)) (b := g.2.2 i) ⟨hx, hb, hml, hown, hts⟩ (jc_cat l g adV fm H hfm i k hi hin.2) (cwV 1 hts (jm_good jm_T115) rfl rfl rfl (by decide +kernel) ⟨Nat.le_trans (m := 10) (by decide) hR.1, Nat.le_trans (m := 1000) (by decide) hR.2⟩) ⟨fun a U g' mk q => ⟨q.1, q.2.calling rfl rfl⟩, hrec i hi, fun U hU hW => ⟨rfl, hat U hU hW⟩⟩ rfl rfl rfl rfl (lv_room (by rw [mj_tr_sum]; exact h8)) hd ⟨hc1, hc2⟩) rfl (fun r1 _ hw => ?_)
        subst hw
        exact kk
      · split at hs
        · rename_i hc
          obtain ⟨he, ha1, ha2, h8⟩ := hc
          cases hs
          obtain ⟨w1, -, -, w2⟩ := row (by omega)
          rw [w1] at hown
          have w2 := w2 he
          subst w2
          obtain ⟨i, hi, rfl⟩ := nth a ha1 ha2
          dsimp only at kk
          rw [mj_txX] at kk
          rw [List.map_cons, List.map_cons, mj_trX]
          refine j_calli (va_runV (As := [.int ix]) (rest := r.map (mj_tr g)) (b := g.2.2 i) ⟨hx, hb, hml, hown, hts⟩ (jc_ix1 l g adV fm H i hi ix) (cwV 1 hts (jm_good jm_T99) rfl rfl rfl (by decide +kernel) ⟨Nat.le_trans (m := 10) (by decide) hR.1, Nat.le_trans (m := 1000) (by decide) hR.2⟩) ⟨fun a U g' mk q => ⟨q.1, q.2.calling rfl rfl⟩, hrec i hi, fun U hU hW => ⟨rfl, hat U hU hW⟩⟩ rfl rfl rfl rfl (lv_room (by rw [mj_tr_sum]; exact h8)) hd ⟨hc1, hc2⟩) rfl (fun r1 _ hw => ?_)
          subst hw
          exact kk
        · cases hs
    · cases hs
  · rename_i idx
    exact absurd rfl (hns idx)
  · cases hs
