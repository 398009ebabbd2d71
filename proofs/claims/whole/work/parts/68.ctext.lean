/-! ===== the class: text ===== -/
/-- the first word or sign of THE TAPE -/
def tK0 (B : Nat → Nat) (tl : Nat) : Nat × Nat × Nat := tk B tl 0 False
def tIsK (B : Nat → Nat) (tl key : Nat) : Prop := key < 3 ∧ tIs B (tK0 B tl) (mj_txt.getD key []) ∧ ∀ k : Nat, k < key → ¬ tIs B (tK0 B tl) (mj_txt.getD k [])
/-- what THE TAPE gives: the place of its FAULT, or a KEY and words -/
def tOut (B : Nat → Nat) (tl : Nat) (r : Nat × Option (Nat × List Nat)) : Prop := ((∀ k : Nat, k < 3 → ¬ tIs B (tK0 B tl) (mj_txt.getD k [])) ∧ r = ((tK0 B tl).2.1, none)) ∨
  ∃ key, tIsK B tl key ∧ ((∃ p, r = (p, none) ∧ mEnd B tl key (tgo B tl (tK0 B tl), [], [], [false], 0, true) (p, none)) ∨ ∃ p o, r = (p, some (key, o)) ∧ mEnd B tl key (tgo B tl (tK0 B tl), [], [], [false], 0, true) (p, some o))
theorem tk_cg {B : Nat → Nat} {tl a : Nat} {w w' : Prop} [Decidable w] [Decidable w'] (h : w ↔ w') : tk B tl a w = tk B tl a w' := by
  unfold tk
  split
  · rfl
  · split
    · rfl
    · rw [tif_cg (show ((w ∧ tSk B tl a = a) ∨ _) ↔ ((w' ∧ tSk B tl a = a) ∨ _) from by rw [h])]
theorem ct_readInto {d L : Nat} {xs : Nat → Int32} {I : Nat → Nat → Int32} {Q : Option Value → mj_H → Prop} {B : Nat → Nat} {tl t0 : Nat} (hT0 : cTp I B tl) (ht0 : t0 < 15) (hF : ∀ K p, cFt t0 I K → K 9 2 = nI p → tOut B tl (p, none) → Q (some (.int (nI 0))) (mg_h L xs K)) (hOK : ∀ K p key o, cFt t0 I K → cTo K t0 key o → key < 3 → mExp o → o.length ≤ 96 → (key ≠ 0 → 10002 ∉ o) → tOut B tl (p, some (key, o)) → Q (some (.int (nI 1))) (mg_h L xs K)) : mj_Cl (d + 90) 94 [.ref 9, .ref (59 + 3 * t0)] (mg_h L xs I) Q := by
  have htl := hT0.2.1
  refine cl_start mx_94 (ls := [.ref 9, .ref (59 + 3 * t0), mj_no]) rfl ?_
  refine me_aload_n (p' := 1) k94_0 rfl rfl ?_
  refine me_iconst (p' := 2) k94_1 rfl (v := nI 0) (by decide) ?_
  refine me_pfi (p' := 5) k94_2 rfl (by decide) rfl rfl rfl rfl ?_
  refine me_aload_n (p' := 6) k94_5 rfl rfl ?_
  refine me_iconst (p' := 7) k94_6 rfl (v := nI 0) (by decide) ?_
  refine me_pfi (p' := 10) k94_7 rfl (by decide) rfl rfl rfl rfl ?_
  refine me_aload_n (p' := 11) k94_10 rfl rfl ?_
  refine me_cv (p' := 14) k94_11 rfl rfl (by decide) rfl (by decide) (by decide) dp_95 rfl rfl (cl_le mx_95 rfl) (by decide) (cl_sum rfl) (ct_advance (B := B) (tl := tl) (a := 0) (q := 0) (hT0.fr ((cFr.rf.u (by omega)).u (by omega))) ⟨by rw [mg_une (by decide), mg_ueq], mg_ueq⟩ (by omega) (by omega) (fun K1 hK1 hK1t => ?_))
  have hf1 : cFr I K1 := ((cFr.rf.u (by omega)).u (by omega)).tr hK1
  have hk1 : cTk K1 (tK0 B tl) := by
    have := hK1t
    rw [tk_cg (show ((0 : Nat) = 1 ∨ (0 : Nat) = 2) ↔ False from ⟨fun z => by omega, fun z => z.elim⟩)] at this
    exact this
  have hw1 : tWf B tl (tK0 B tl) := (tk_wf (by omega)).1
  refine me_aload_n (p' := 15) k94_14 rfl rfl ?_
  refine me_cv (p' := 18) k94_15 rfl rfl (by decide) rfl (by decide) (by decide) dp_97 rfl rfl (cl_le mx_97 rfl) (by decide) (cl_sum rfl) (ct_keyHere (hT0.fr hf1) hk1 hw1 (fun e0 => ?_) (fun e0 e1 => ?_) (fun e0 e1 e2 => ?_) (fun e0 e1 e2 => ?_))
  · skip
    have hkk : tIsK B tl 0 := ⟨by decide, e0, fun k hk => by omega⟩
    refine me_istore_n (p' := 19) k94_18 rfl ⟨Nat.le_of_ble_eq_true rfl, rfl⟩ rfl ?_
    refine me_iload_n (p' := 20) k94_19 rfl rfl ?_
    refine me_if_ge (p' := 23) k94_20 rfl (fun _ => ?_) (fun h => absurd (by decide) h)
    refine me_aload_n (p' := 26) k94_25 rfl rfl ?_
    refine me_iload_n (p' := 27) k94_26 rfl rfl ?_
    have hk11 : (tK0 B tl).1 = 1 := hkk.2.1.1
    have hlen : 3 ≤ (tK0 B tl).2.2 := by
      have h1 := hkk.2.1.2.1
      have h2 : 3 ≤ (mj_txt.getD 0 []).length := by decide
      omega
    refine me_cv (p' := 30) k94_27 rfl rfl (by omega) (congrArg Prod.fst (tb_T t0 (by omega))) (by decide) (by decide) dp_99 rfl rfl (cl_le mx_99 rfl) (by decide) (cl_sum rfl) (ct_begin ht0 (fun K2 hb1 hb2 => ?_))
    have hf2 : cFt t0 I K2 := (cFt.tp hf1).tr (cFt.tx hb1)
    refine me_aload_n (p' := 31) k94_30 rfl rfl ?_
    refine me_cv (p' := 34) k94_31 rfl rfl (by decide) rfl (by decide) (by decide) dp_95 rfl rfl (cl_le mx_95 rfl) (by decide) (cl_sum rfl) (ct_advance (hT0.ft hf2) ⟨(hb1 9 3 (by simp; omega)).trans hk1.2.1, (hb1 9 4 (by simp; omega)).trans hk1.2.2⟩ hw1.2.1 hw1.2.2.2.2.1 (fun K3 hK3 hK3t => ?_))
    have hgw := tgo_wf (B := B) (tl := tl) hw1
    refine me_aload_n (p' := 35) k94_34 rfl rfl ?_
    refine me_aload_n (p' := 36) k94_35 rfl rfl ?_
    refine me_iconst (p' := 37) k94_36 rfl (v := nI 0) (by decide) ?_
    refine me_iconst (p' := 38) k94_37 rfl (v := nI 0) (by decide) ?_
    refine me_iconst (p' := 39) k94_38 rfl (v := nI 0) (by decide) ?_
    refine me_cv (p' := 42) k94_39 rfl rfl (by decide) rfl (by decide) (by decide) dp_100 rfl rfl (cl_le mx_100 rfl) (by decide) (cl_sum rfl) ((ct_levels hT0 ht0 (show 0 < 3 by decide) 1000).2 (d + 89) 0 0 0 K3 (tgo B tl (tK0 B tl)) [] [] [false] _ (by omega) (by omega) (by omega) (by omega) rfl rfl (fun x hx => absurd hx (by simp)) (hf2.tr (cFt.tp hK3)) hK3t (hb2.tp hK3) hgw.1 (by have := hgw.2; show 0 < _; omega) (by have := htl; omega) (fun x S' h => by cases h) (by simp) (fun _ => rfl) (fun K t2 e P o2 ts2 hf4 hk4 ho4 hw4 hle hex hnm hre hP hmc hts hts0 hts3 hcont => ?_) (fun K t2 hf4 hk4 hw4 hen => ?_))
    · skip
      have hend : ∀ r, mst B tl 0 (t2, P ++ [], o2, ts2, 0, false) = .inr r → mEnd B tl 0 (tgo B tl (tK0 B tl), [], [], [false], 0, true) r := fun r h => hre.ed (mEnd.of h)
      refine me_if_eq (p' := 45) k94_42 rfl (fun h => absurd h (by decide)) (fun _ => ?_)
      refine me_aload_n (p' := 46) k94_45 rfl rfl ?_
      refine me_gfi (p' := 49) k94_46 rfl (by decide) rfl rfl ?_
      have hw44 := hw4.2.2.2.2.1
      rw [hk4.2.2]
      refine me_if_ne (p' := 52) k94_49 rfl (fun c1 => ?_) (fun c1 => ?_)
      · skip
        rw [cI_eq0 (a := t2.1) (by omega)] at c1
        refine me_iconst (p' := 53) k94_52 rfl (v := nI 1) (by decide) ?_
        refine me_goto k94_53 ?_
        refine me_reti k94_57 rt_94 (by decide) ?_
        refine hOK K t2.2.1 0 e hf4 ho4 (by decide) hex (by have := hw4.1; have : e.length + (tgo B tl (tK0 B tl)).2.1 ≤ t2.2.1 := hle; omega) hnm (Or.inr ⟨_, hkk, Or.inr ⟨_, _, rfl, hend _ ?_⟩⟩)
        show (if t2.1 = 0 then _ else _) = _
        rw [if_pos (by omega), ct_11 hP (Or.inr rfl), if_pos (show ([] : List Nat).count 11 = 0 from rfl), mcs_01 _ _ (fun x hx => by have := hP x (by simpa using hx); omega), hmc]
        rfl
      · skip
        rw [cI_eq0 (a := t2.1) (by omega)] at c1
        refine me_iconst (p' := 57) k94_56 rfl (v := nI 0) (by decide) ?_
        refine me_reti k94_57 rt_94 (by decide) ?_
        refine hF K t2.2.1 hf4 hk4.1 (Or.inr ⟨_, hkk, Or.inl ⟨_, rfl, hend _ ?_⟩⟩)
        show (if t2.1 = 0 then _ else if t2.1 = 3 ∧ B t2.2.1 = 41 ∧ 0 < (P ++ []).count 11 then _ else if tS B t2 = 0 ∨ (tRk (tS B t2) = 3 ∧ ts2.headD false = true) then _ else _) = _
        rw [if_neg (by omega), if_neg (fun z => by rw [ct_11 hP (Or.inr rfl)] at z; exact absurd z.2.2 (by decide)), if_pos ?_]
        rcases hcont with z | z | z
        · exact Or.inl z
        · left
          have h9 := tS_r B t2
          have := (tRk_r (tS B t2) (by omega)).1
          omega
        · exact Or.inr z.2
    · skip
      refine me_if_eq (p' := 45) k94_42 rfl (fun _ => ?_) (fun h => absurd (by decide) h)
      refine me_iconst (p' := 57) k94_56 rfl (v := nI 0) (by decide) ?_
      refine me_reti k94_57 rt_94 (by decide) ?_
      exact hF K t2.2.1 hf4 hk4.1 (Or.inr ⟨_, hkk, Or.inl ⟨_, rfl, hen⟩⟩)
  · skip
    have hkk : tIsK B tl 1 := ⟨by decide, e1, fun k hk => (show k = 0 by omega) ▸ e0⟩
    refine me_istore_n (p' := 19) k94_18 rfl ⟨Nat.le_of_ble_eq_true rfl, rfl⟩ rfl ?_
    refine me_iload_n (p' := 20) k94_19 rfl rfl ?_
    refine me_if_ge (p' := 23) k94_20 rfl (fun _ => ?_) (fun h => absurd (by decide) h)
    refine me_aload_n (p' := 26) k94_25 rfl rfl ?_
    refine me_iload_n (p' := 27) k94_26 rfl rfl ?_
    have hk11 : (tK0 B tl).1 = 1 := hkk.2.1.1
    have hlen : 3 ≤ (tK0 B tl).2.2 := by
      have h1 := hkk.2.1.2.1
      have h2 : 3 ≤ (mj_txt.getD 1 []).length := by decide
      omega
    refine me_cv (p' := 30) k94_27 rfl rfl (by omega) (congrArg Prod.fst (tb_T t0 (by omega))) (by decide) (by decide) dp_99 rfl rfl (cl_le mx_99 rfl) (by decide) (cl_sum rfl) (ct_begin ht0 (fun K2 hb1 hb2 => ?_))
    have hf2 : cFt t0 I K2 := (cFt.tp hf1).tr (cFt.tx hb1)
    refine me_aload_n (p' := 31) k94_30 rfl rfl ?_
    refine me_cv (p' := 34) k94_31 rfl rfl (by decide) rfl (by decide) (by decide) dp_95 rfl rfl (cl_le mx_95 rfl) (by decide) (cl_sum rfl) (ct_advance (hT0.ft hf2) ⟨(hb1 9 3 (by simp; omega)).trans hk1.2.1, (hb1 9 4 (by simp; omega)).trans hk1.2.2⟩ hw1.2.1 hw1.2.2.2.2.1 (fun K3 hK3 hK3t => ?_))
    have hgw := tgo_wf (B := B) (tl := tl) hw1
    refine me_aload_n (p' := 35) k94_34 rfl rfl ?_
    refine me_aload_n (p' := 36) k94_35 rfl rfl ?_
    refine me_iconst (p' := 37) k94_36 rfl (v := nI 0) (by decide) ?_
    refine me_iconst (p' := 38) k94_37 rfl (v := nI 0) (by decide) ?_
    refine me_iconst (p' := 39) k94_38 rfl (v := nI 0) (by decide) ?_
    refine me_cv (p' := 42) k94_39 rfl rfl (by decide) rfl (by decide) (by decide) dp_100 rfl rfl (cl_le mx_100 rfl) (by decide) (cl_sum rfl) ((ct_levels hT0 ht0 (show 1 < 3 by decide) 1000).2 (d + 89) 0 0 0 K3 (tgo B tl (tK0 B tl)) [] [] [false] _ (by omega) (by omega) (by omega) (by omega) rfl rfl (fun x hx => absurd hx (by simp)) (hf2.tr (cFt.tp hK3)) hK3t (hb2.tp hK3) hgw.1 (by have := hgw.2; show 0 < _; omega) (by have := htl; omega) (fun x S' h => by cases h) (by simp) (fun _ => rfl) (fun K t2 e P o2 ts2 hf4 hk4 ho4 hw4 hle hex hnm hre hP hmc hts hts0 hts3 hcont => ?_) (fun K t2 hf4 hk4 hw4 hen => ?_))
    · skip
      have hend : ∀ r, mst B tl 1 (t2, P ++ [], o2, ts2, 0, false) = .inr r → mEnd B tl 1 (tgo B tl (tK0 B tl), [], [], [false], 0, true) r := fun r h => hre.ed (mEnd.of h)
      refine me_if_eq (p' := 45) k94_42 rfl (fun h => absurd h (by decide)) (fun _ => ?_)
      refine me_aload_n (p' := 46) k94_45 rfl rfl ?_
      refine me_gfi (p' := 49) k94_46 rfl (by decide) rfl rfl ?_
      have hw44 := hw4.2.2.2.2.1
      rw [hk4.2.2]
      refine me_if_ne (p' := 52) k94_49 rfl (fun c2 => ?_) (fun c2 => ?_)
      · skip
        rw [cI_eq0 (a := t2.1) (by omega)] at c2
        refine me_iconst (p' := 53) k94_52 rfl (v := nI 1) (by decide) ?_
        refine me_goto k94_53 ?_
        refine me_reti k94_57 rt_94 (by decide) ?_
        refine hOK K t2.2.1 1 e hf4 ho4 (by decide) hex (by have := hw4.1; have : e.length + (tgo B tl (tK0 B tl)).2.1 ≤ t2.2.1 := hle; omega) hnm (Or.inr ⟨_, hkk, Or.inr ⟨_, _, rfl, hend _ ?_⟩⟩)
        show (if t2.1 = 0 then _ else _) = _
        rw [if_pos (by omega), ct_11 hP (Or.inr rfl), if_pos (show ([] : List Nat).count 11 = 0 from rfl), mcs_01 _ _ (fun x hx => by have := hP x (by simpa using hx); omega), hmc]
        rfl
      · skip
        rw [cI_eq0 (a := t2.1) (by omega)] at c2
        refine me_iconst (p' := 57) k94_56 rfl (v := nI 0) (by decide) ?_
        refine me_reti k94_57 rt_94 (by decide) ?_
        refine hF K t2.2.1 hf4 hk4.1 (Or.inr ⟨_, hkk, Or.inl ⟨_, rfl, hend _ ?_⟩⟩)
        show (if t2.1 = 0 then _ else if t2.1 = 3 ∧ B t2.2.1 = 41 ∧ 0 < (P ++ []).count 11 then _ else if tS B t2 = 0 ∨ (tRk (tS B t2) = 3 ∧ ts2.headD false = true) then _ else _) = _
        rw [if_neg (by omega), if_neg (fun z => by rw [ct_11 hP (Or.inr rfl)] at z; exact absurd z.2.2 (by decide)), if_pos ?_]
        rcases hcont with z | z | z
        · exact Or.inl z
        · left
          have h9 := tS_r B t2
          have := (tRk_r (tS B t2) (by omega)).1
          omega
        · exact Or.inr z.2
    · skip
      refine me_if_eq (p' := 45) k94_42 rfl (fun _ => ?_) (fun h => absurd (by decide) h)
      refine me_iconst (p' := 57) k94_56 rfl (v := nI 0) (by decide) ?_
      refine me_reti k94_57 rt_94 (by decide) ?_
      exact hF K t2.2.1 hf4 hk4.1 (Or.inr ⟨_, hkk, Or.inl ⟨_, rfl, hen⟩⟩)
  · skip
    have hkk : tIsK B tl 2 := ⟨by decide, e2, fun k hk => (show k = 0 ∨ k = 1 by omega).elim (fun z => z ▸ e0) (fun z => z ▸ e1)⟩
    refine me_istore_n (p' := 19) k94_18 rfl ⟨Nat.le_of_ble_eq_true rfl, rfl⟩ rfl ?_
    refine me_iload_n (p' := 20) k94_19 rfl rfl ?_
    refine me_if_ge (p' := 23) k94_20 rfl (fun _ => ?_) (fun h => absurd (by decide) h)
    refine me_aload_n (p' := 26) k94_25 rfl rfl ?_
    refine me_iload_n (p' := 27) k94_26 rfl rfl ?_
    have hk11 : (tK0 B tl).1 = 1 := hkk.2.1.1
    have hlen : 3 ≤ (tK0 B tl).2.2 := by
      have h1 := hkk.2.1.2.1
      have h2 : 3 ≤ (mj_txt.getD 2 []).length := by decide
      omega
    refine me_cv (p' := 30) k94_27 rfl rfl (by omega) (congrArg Prod.fst (tb_T t0 (by omega))) (by decide) (by decide) dp_99 rfl rfl (cl_le mx_99 rfl) (by decide) (cl_sum rfl) (ct_begin ht0 (fun K2 hb1 hb2 => ?_))
    have hf2 : cFt t0 I K2 := (cFt.tp hf1).tr (cFt.tx hb1)
    refine me_aload_n (p' := 31) k94_30 rfl rfl ?_
    refine me_cv (p' := 34) k94_31 rfl rfl (by decide) rfl (by decide) (by decide) dp_95 rfl rfl (cl_le mx_95 rfl) (by decide) (cl_sum rfl) (ct_advance (hT0.ft hf2) ⟨(hb1 9 3 (by simp; omega)).trans hk1.2.1, (hb1 9 4 (by simp; omega)).trans hk1.2.2⟩ hw1.2.1 hw1.2.2.2.2.1 (fun K3 hK3 hK3t => ?_))
    have hgw := tgo_wf (B := B) (tl := tl) hw1
    refine me_aload_n (p' := 35) k94_34 rfl rfl ?_
    refine me_aload_n (p' := 36) k94_35 rfl rfl ?_
    refine me_iconst (p' := 37) k94_36 rfl (v := nI 0) (by decide) ?_
    refine me_iconst (p' := 38) k94_37 rfl (v := nI 0) (by decide) ?_
    refine me_iconst (p' := 39) k94_38 rfl (v := nI 0) (by decide) ?_
    refine me_cv (p' := 42) k94_39 rfl rfl (by decide) rfl (by decide) (by decide) dp_100 rfl rfl (cl_le mx_100 rfl) (by decide) (cl_sum rfl) ((ct_levels hT0 ht0 (show 2 < 3 by decide) 1000).2 (d + 89) 0 0 0 K3 (tgo B tl (tK0 B tl)) [] [] [false] _ (by omega) (by omega) (by omega) (by omega) rfl rfl (fun x hx => absurd hx (by simp)) (hf2.tr (cFt.tp hK3)) hK3t (hb2.tp hK3) hgw.1 (by have := hgw.2; show 0 < _; omega) (by have := htl; omega) (fun x S' h => by cases h) (by simp) (fun _ => rfl) (fun K t2 e P o2 ts2 hf4 hk4 ho4 hw4 hle hex hnm hre hP hmc hts hts0 hts3 hcont => ?_) (fun K t2 hf4 hk4 hw4 hen => ?_))
    · skip
      have hend : ∀ r, mst B tl 2 (t2, P ++ [], o2, ts2, 0, false) = .inr r → mEnd B tl 2 (tgo B tl (tK0 B tl), [], [], [false], 0, true) r := fun r h => hre.ed (mEnd.of h)
      refine me_if_eq (p' := 45) k94_42 rfl (fun h => absurd h (by decide)) (fun _ => ?_)
      refine me_aload_n (p' := 46) k94_45 rfl rfl ?_
      refine me_gfi (p' := 49) k94_46 rfl (by decide) rfl rfl ?_
      have hw44 := hw4.2.2.2.2.1
      rw [hk4.2.2]
      refine me_if_ne (p' := 52) k94_49 rfl (fun c3 => ?_) (fun c3 => ?_)
      · skip
        rw [cI_eq0 (a := t2.1) (by omega)] at c3
        refine me_iconst (p' := 53) k94_52 rfl (v := nI 1) (by decide) ?_
        refine me_goto k94_53 ?_
        refine me_reti k94_57 rt_94 (by decide) ?_
        refine hOK K t2.2.1 2 e hf4 ho4 (by decide) hex (by have := hw4.1; have : e.length + (tgo B tl (tK0 B tl)).2.1 ≤ t2.2.1 := hle; omega) hnm (Or.inr ⟨_, hkk, Or.inr ⟨_, _, rfl, hend _ ?_⟩⟩)
        show (if t2.1 = 0 then _ else _) = _
        rw [if_pos (by omega), ct_11 hP (Or.inr rfl), if_pos (show ([] : List Nat).count 11 = 0 from rfl), mcs_01 _ _ (fun x hx => by have := hP x (by simpa using hx); omega), hmc]
        rfl
      · skip
        rw [cI_eq0 (a := t2.1) (by omega)] at c3
        refine me_iconst (p' := 57) k94_56 rfl (v := nI 0) (by decide) ?_
        refine me_reti k94_57 rt_94 (by decide) ?_
        refine hF K t2.2.1 hf4 hk4.1 (Or.inr ⟨_, hkk, Or.inl ⟨_, rfl, hend _ ?_⟩⟩)
        show (if t2.1 = 0 then _ else if t2.1 = 3 ∧ B t2.2.1 = 41 ∧ 0 < (P ++ []).count 11 then _ else if tS B t2 = 0 ∨ (tRk (tS B t2) = 3 ∧ ts2.headD false = true) then _ else _) = _
        rw [if_neg (by omega), if_neg (fun z => by rw [ct_11 hP (Or.inr rfl)] at z; exact absurd z.2.2 (by decide)), if_pos ?_]
        rcases hcont with z | z | z
        · exact Or.inl z
        · left
          have h9 := tS_r B t2
          have := (tRk_r (tS B t2) (by omega)).1
          omega
        · exact Or.inr z.2
    · skip
      refine me_if_eq (p' := 45) k94_42 rfl (fun _ => ?_) (fun h => absurd (by decide) h)
      refine me_iconst (p' := 57) k94_56 rfl (v := nI 0) (by decide) ?_
      refine me_reti k94_57 rt_94 (by decide) ?_
      exact hF K t2.2.1 hf4 hk4.1 (Or.inr ⟨_, hkk, Or.inl ⟨_, rfl, hen⟩⟩)
  · skip
    refine me_istore_n (p' := 19) k94_18 rfl ⟨Nat.le_of_ble_eq_true rfl, rfl⟩ rfl ?_
    refine me_iload_n (p' := 20) k94_19 rfl rfl ?_
    refine me_if_ge (p' := 23) k94_20 rfl (fun c4 => ?_) (fun c4 => ?_)
    · skip
      exact absurd c4 (by decide)
    · skip
      refine me_iconst (p' := 24) k94_23 rfl (v := nI 0) (by decide) ?_
      refine me_reti k94_24 rt_94 (by decide) ?_
      refine hF K1 _ (cFt.tp hf1) hk1.1 (Or.inl ⟨fun k hk => ?_, rfl⟩)
      rcases (show k = 0 ∨ k = 1 ∨ k = 2 by omega) with rfl | rfl | rfl
      · exact e0
      · exact e1
      · exact e2
theorem ct_Ctext {d L : Nat} {xs : Nat → Int32} {I : Nat → Nat → Int32} {Q : Option Value → mj_H → Prop} {T : mT} {B : Nat → Nat} {tl : Nat} (hT0 : cTp I B tl) (hnt : I 11 9 = nI T.nt) (hnt14 : T.nt ≤ 14) (hF : ∀ K p, cFt T.nt I K → tOut B tl (p, none) → Q (some (.int ((-100) - nI p))) (mg_h L xs (mg_u K 9 1 (nI 0)))) (hFull : T.nt = 14 → ∀ K p key o, cFt T.nt I K → o.length ≤ 96 → tOut B tl (p, some (key, o)) → Q (some (.int (-1000000003))) (mg_h L xs (mg_u K 9 1 (nI 0)))) (hOK : T.nt < 14 → ∀ K p key o, cFt T.nt I K → cTo K T.nt key o → key < 3 → mExp o → o.length ≤ 96 → (key ≠ 0 → 10002 ∉ o) → tOut B tl (p, some (key, o)) → Q (some (.int (nI T.nt))) (mg_h L xs (mg_u (mg_u (mg_u K 9 1 (nI 0)) 25 key (nI T.nt)) 11 9 (nI (T.nt + 1))))) : mj_Cl (d + 91) 93 [.ref 0] (mg_h L xs I) Q := by
  refine cl_start mx_93 (ls := [.ref 0, mj_no, mj_no]) rfl ?_
  refine me_aload_n (p' := 1) k93_0 rfl rfl ?_
  refine me_gfr (p' := 4) k93_1 rfl (by decide) rfl (b := 11) rfl ?_
  refine me_gfi (p' := 7) k93_4 rfl (by decide) rfl rfl ?_
  rw [hnt]
  refine me_istore_n (p' := 8) k93_7 rfl ⟨Nat.le_of_ble_eq_true rfl, rfl⟩ rfl ?_
  refine me_aload_n (p' := 9) k93_8 rfl rfl ?_
  refine me_gfr (p' := 12) k93_9 rfl (by decide) rfl (b := 9) rfl ?_
  refine me_aload_n (p' := 13) k93_12 rfl rfl ?_
  refine me_gfr (p' := 16) k93_13 rfl (by decide) rfl (b := 8) rfl ?_
  refine me_iload_n (p' := 17) k93_16 rfl rfl ?_
  refine me_aald (p' := 18) k93_17 rfl (by decide) rfl ⟨by decide, by decide⟩ (j := T.nt) rfl (by omega) (by decide) (b := 59 + 3 * T.nt) (rc_8 T.nt (by omega)) ?_
  refine me_cv (p' := 21) k93_18 rfl rfl (by decide) rfl (by decide) (by decide) dp_94 rfl rfl (cl_le mx_94 rfl) (by decide) (cl_sum rfl) (ct_readInto (t0 := T.nt) hT0 (by omega) (fun K p hf hp ho => ?_) (fun K p key o hf hto hkey hex hlen hnm ho => ?_))
  · skip
    refine me_istore_n (p' := 22) k93_21 rfl ⟨Nat.le_of_ble_eq_true rfl, rfl⟩ rfl ?_
    refine me_aload_n (p' := 23) k93_22 rfl rfl ?_
    refine me_gfr (p' := 26) k93_23 rfl (by decide) rfl (b := 9) rfl ?_
    refine me_iconst (p' := 27) k93_26 rfl (v := nI 0) (by decide) ?_
    refine me_pfi (p' := 30) k93_27 rfl (by decide) rfl rfl rfl rfl ?_
    refine me_iload_n (p' := 31) k93_30 rfl rfl ?_
    refine me_if_ne (p' := 34) k93_31 rfl (fun _ => ?_) (fun h => absurd (by decide) h)
    refine me_bipush (p' := 36) k93_34 rfl (v := (-100)) (by decide) ?_
    refine me_aload_n (p' := 37) k93_36 rfl rfl ?_
    refine me_gfr (p' := 40) k93_37 rfl (by decide) rfl (b := 9) rfl ?_
    refine me_gfi (p' := 43) k93_40 rfl (by decide) rfl rfl ?_
    rw [mg_une (by decide), hp]
    refine me_isub (p' := 44) k93_43 rfl rfl ?_
    refine me_reti k93_44 rt_93 rfl ?_
    exact hF K p hf ho
  · skip
    refine me_istore_n (p' := 22) k93_21 rfl ⟨Nat.le_of_ble_eq_true rfl, rfl⟩ rfl ?_
    refine me_aload_n (p' := 23) k93_22 rfl rfl ?_
    refine me_gfr (p' := 26) k93_23 rfl (by decide) rfl (b := 9) rfl ?_
    refine me_iconst (p' := 27) k93_26 rfl (v := nI 0) (by decide) ?_
    refine me_pfi (p' := 30) k93_27 rfl (by decide) rfl rfl rfl rfl ?_
    refine me_iload_n (p' := 31) k93_30 rfl rfl ?_
    refine me_if_ne (p' := 34) k93_31 rfl (fun h => absurd h (by decide)) (fun _ => ?_)
    refine me_iload_n (p' := 46) k93_45 rfl rfl ?_
    refine me_bipush (p' := 48) k93_46 rfl (v := nI 14) (by decide) ?_
    refine me_ic_lt (p' := 51) k93_48 rfl (fun c1 => ?_) (fun c1 => ?_)
    · skip
      rw [cI_lt (a := T.nt) (b := 14) (by omega) (by omega)] at c1
      refine me_aload_n (p' := 55) k93_54 rfl rfl ?_
      refine me_gfr (p' := 58) k93_55 rfl (by decide) rfl (b := 11) rfl ?_
      refine me_gfr (p' := 61) k93_58 rfl (by decide) rfl (b := 25) rfl ?_
      refine me_aload_n (p' := 62) k93_61 rfl rfl ?_
      refine me_gfr (p' := 65) k93_62 rfl (by decide) rfl (b := 8) rfl ?_
      refine me_iload_n (p' := 66) k93_65 rfl rfl ?_
      refine me_aald (p' := 67) k93_66 rfl (by decide) rfl ⟨by decide, by decide⟩ (j := T.nt) rfl (by omega) (by decide) (b := 59 + 3 * T.nt) (rc_8 T.nt (by omega)) ?_
      refine me_gfi (p' := 70) k93_67 rfl (by omega) (congrArg Prod.fst (tb_T T.nt (by omega))) (rc_Ti T.nt (by omega) 3 (by decide) (by decide)) ?_
      rw [mg_un1 (by omega), hto.2.1]
      refine me_iload_n (p' := 71) k93_70 rfl rfl ?_
      refine me_iast (p' := 72) k93_71 rfl (by decide) rfl (j := key) rfl (by omega) (by decide) rfl ?_
      refine me_aload_n (p' := 73) k93_72 rfl rfl ?_
      refine me_gfr (p' := 76) k93_73 rfl (by decide) rfl (b := 11) rfl ?_
      refine me_iload_n (p' := 77) k93_76 rfl rfl ?_
      refine me_iconst (p' := 78) k93_77 rfl (v := nI 1) (by decide) ?_
      refine me_iadd (p' := 79) k93_78 rfl (v := nI (T.nt + 1)) (mI_add _ _) ?_
      refine me_pfi (p' := 82) k93_79 rfl (by decide) rfl rfl rfl rfl ?_
      refine me_iload_n (p' := 83) k93_82 rfl rfl ?_
      refine me_reti k93_83 rt_93 rfl ?_
      exact hOK (by omega) K p key o hf hto hkey hex hlen hnm ho
    · skip
      rw [cI_lt (a := T.nt) (b := 14) (by omega) (by omega)] at c1
      refine me_ldc (p' := 53) k93_51 rfl (v := (-1000000003)) (by decide) ?_
      refine me_reti k93_53 rt_93 rfl ?_
      exact hFull (by omega) K p key o hf hlen ho
