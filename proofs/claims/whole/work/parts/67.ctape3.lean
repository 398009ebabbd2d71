/-! ===== the class: levels, PIECES ===== -/
theorem mcs_top {r : Nat} {S o : List Nat} (h : ∀ x S', S = x :: S' → x = 11 ∨ tRk x < r) : mcs r S o = (S, o) := by
  cases S with
  | nil => rfl
  | cons x S' =>
    refine mcs_stop (fun z => ?_)
    rcases h x S' rfl with e | e
    · exact z.1 e
    · omega
set_option maxRecDepth 100000 in
theorem tx_ops : ∀ l : Nat, l < 5 → ∀ b : Nat, b < 256 → (b ∈ mj_txt.getD (9 + l) [] ↔ tSg b ≠ 0 ∧ tRk (tSg b) = l + 1) := by decide +kernel
set_option maxRecDepth 100000 in
theorem tx_sg : ∀ b : Nat, b < 256 → tSg b ≠ 0 → sp_sg (tSg b) = b := by decide +kernel
theorem tRk_r : ∀ q : Nat, q < 10 → (q ≠ 0 → 1 ≤ tRk q) ∧ tRk q ≤ 5 := by decide
theorem tS_op {B : Nat → Nat} {t : Nat × Nat × Nat} {l : Nat} (hl : l < 5) (hb : t.1 = 3 → B t.2.1 < 256) : (t.1 = 3 ∧ B t.2.1 ∈ mj_txt.getD (9 + l) []) ↔ (tS B t ≠ 0 ∧ tRk (tS B t) = l + 1) := by
  unfold tS
  by_cases e : t.1 = 3
  · rw [if_pos e]
    have := tx_ops l hl _ (hb e)
    exact ⟨fun z => this.mp z.2, fun z => ⟨e, this.mpr z⟩⟩
  · rw [if_neg e]
    exact ⟨fun z => absurd z.1 e, fun z => absurd rfl z.1⟩
theorem tS_3 {B : Nat → Nat} {t : Nat × Nat × Nat} (h : tS B t ≠ 0) : t.1 = 3 := by
  unfold tS at h
  by_cases e : t.1 = 3
  · exact e
  · rw [if_neg e] at h; exact absurd rfl h
theorem tS_41 {B : Nat → Nat} {t : Nat × Nat × Nat} (h : tS B t ≠ 0) : B t.2.1 ≠ 41 := fun z => by
  have e := tS_3 h
  unfold tS at h
  rw [if_pos e, z] at h
  exact h (by decide)
theorem hS_c {S : List Nat} {y : Nat} (h : ∀ x ∈ S, 1 ≤ x ∧ x ≤ 11) (hy : 1 ≤ y ∧ y ≤ 11) : ∀ x ∈ y :: S, 1 ≤ x ∧ x ≤ 11 := fun x hx => by
  rcases List.mem_cons.mp hx with z | z
  · rw [z]; exact hy
  · exact h x z
theorem nm_a {e : List Nat} {x : Nat} (h : 10002 ∉ e) (hx : x ≠ 10002) : 10002 ∉ e ++ [x] := fun y => by
  rcases List.mem_append.mp y with y | y
  · exact h y
  · exact hx (List.mem_singleton.mp y).symm
theorem ct_11 {q : Nat} {P S : List Nat} (h : ∀ x ∈ P, 1 ≤ x ∧ x ≤ 9) (hq : q = 10 ∨ q = 11) : (P ++ S).count q = S.count q := by
  rw [List.count_append, List.count_eq_zero.mpr (fun z => by have := h q z; omega), Nat.zero_add]
def cRdP (L : Nat) (xs : Nat → Int32) (I : Nat → Nat → Int32) (B : Nat → Nat) (tl t0 key N : Nat) : Prop := ∀ (n opn den : Nat) (J : Nat → Nat → Int32) (t : Nat × Nat × Nat) (o S : List Nat) (ts : List Bool) (Q : Option Value → mj_H → Prop),
  8 * (8 - opn) + (8 - den) + 4 ≤ n → opn ≤ 8 → den ≤ 8 → S.count 11 = opn → S.count 10 = den → (∀ x ∈ S, 1 ≤ x ∧ x ≤ 11) → cFt t0 I J → cTk J t → cTo J t0 key o → tWf B tl t → o.length < t.2.1 → 8 * (tl - t.2.1) + 1 ≤ N →
  (∀ K t2 e, cFt t0 I K → cTk K t2 → cTo K t0 key (o ++ e) → tWf B tl t2 → e.length + t.2.1 ≤ t2.2.1 → mExp e → (key ≠ 0 → 10002 ∉ e) → mRch B tl key (t, S, o, ts, den, true) (t2, (mcs 6 S (o ++ e)).1, (mcs 6 S (o ++ e)).2, ts, (mcs 6 S (o ++ e)).1.count 10, false) → Q (some (.int (nI 1))) (mg_h L xs K)) →
  (∀ K t2, cFt t0 I K → cTk K t2 → tWf B tl t2 → mEnd B tl key (t, S, o, ts, den, true) (t2.2.1, none) → Q (some (.int (nI 0))) (mg_h L xs K)) →
  mj_Cl n 101 [.ref 9, .ref (59 + 3 * t0), .int (nI opn), .int (nI den)] (mg_h L xs J) Q
def cRdL (L : Nat) (xs : Nat → Int32) (I : Nat → Nat → Int32) (B : Nat → Nat) (tl t0 key N : Nat) : Prop := ∀ (n lev opn den : Nat) (J : Nat → Nat → Int32) (t : Nat × Nat × Nat) (o S : List Nat) (ts : List Bool) (Q : Option Value → mj_H → Prop),
  8 * (8 - opn) + (8 - den) + 4 + (6 - lev) ≤ n → lev ≤ 5 → opn ≤ 8 → den ≤ 8 → S.count 11 = opn → S.count 10 = den → (∀ x ∈ S, 1 ≤ x ∧ x ≤ 11) → cFt t0 I J → cTk J t → cTo J t0 key o → tWf B tl t → o.length < t.2.1 → 8 * (tl - t.2.1) + (7 - lev) ≤ N →
  (∀ x S', S = x :: S' → x = 11 ∨ tRk x ≤ lev) → ts ≠ [] → (lev ≤ 2 → ts.headD false = false) →
  (∀ K t2 e P o2 ts2, cFt t0 I K → cTk K t2 → cTo K t0 key (o ++ e) → tWf B tl t2 → e.length + t.2.1 ≤ t2.2.1 → mExp e → (key ≠ 0 → 10002 ∉ e) → mRch B tl key (t, S, o, ts, den, true) (t2, P ++ S, o2, ts2, den, false) → (∀ x ∈ P, 1 ≤ x ∧ x ≤ 9) → mcs (lev + 1) (P ++ S) o2 = (S, o ++ e) → ts2.tail = ts.tail → ts2 ≠ [] → (3 ≤ lev → ts2 = ts) →
    (tS B t2 = 0 ∨ tRk (tS B t2) ≤ lev ∨ (lev ≤ 2 ∧ tRk (tS B t2) = 3 ∧ ts2.headD false = true)) → Q (some (.int (nI 1))) (mg_h L xs K)) →
  (∀ K t2, cFt t0 I K → cTk K t2 → tWf B tl t2 → mEnd B tl key (t, S, o, ts, den, true) (t2.2.1, none) → Q (some (.int (nI 0))) (mg_h L xs K)) →
  mj_Cl n 100 [.ref 9, .ref (59 + 3 * t0), .int (nI lev), .int (nI opn), .int (nI den)] (mg_h L xs J) Q
theorem lp_piece {L : Nat} {xs : Nat → Int32} {I : Nat → Nat → Int32} {B : Nat → Nat} {tl t0 key : Nat} (hT0 : cTp I B tl) (ht0 : t0 < 15) (hkey : key < 3) {M : Nat} (ihP : cRdP L xs I B tl t0 key M) (ihL : cRdL L xs I B tl t0 key M) : cRdP L xs I B tl t0 key (M + 1) := by
  intro n opn den J t o S ts Q hn ho8 hd8 h11 h10 hS hf hk ho hw hl hN hT hF
  obtain ⟨m, rfl⟩ : ∃ m, n = m + 4 := ⟨n - 4, by omega⟩
  have hw1 := hw.1
  have hw2 := hw.2.1
  have hw3 := hw.2.2.2.1
  have hw4 := hw.2.2.2.2.1
  have hw9 := hw.2.2.2.2.2.2.2.2
  have htl := hT0.2.1
  have hTJ := hT0.ft hf
  refine cl_start mx_101 (ls := [.ref 9, .ref (59 + 3 * t0), .int (nI opn), .int (nI den)]) rfl ?_
  refine me_aload_n (p' := 1) k101_0 rfl rfl ?_
  refine me_ldcs (p' := 3) k101_1 rfl ?_
  refine me_cv (p' := 6) k101_3 rfl rfl (by decide) rfl (by decide) (by decide) dp_102 rfl rfl (cl_le mx_102 rfl) (by decide) (cl_sum rfl) (ct_isOneOf (c := 3) hTJ hk hw4 (by omega) (fun z => by have := hw3 (by omega); omega) (by decide) (fun e3 => ?_) (fun e3 => ?_))
  · skip
    refine me_if_eq (p' := 9) k101_6 rfl (fun h => absurd h (by decide)) (fun _ => ?_)
    refine me_iload_n (p' := 10) k101_9 rfl rfl ?_
    refine me_bipush (p' := 12) k101_10 rfl (v := nI 8) (by decide) ?_
    refine me_ic_ge (p' := 15) k101_12 rfl (fun c1 => ?_) (fun c1 => ?_)
    · skip
      rw [cI_le (a := 8) (b := den) (by omega) (by omega)] at c1
      refine me_aload_n (p' := 42) k101_41 rfl rfl ?_
      refine me_ldcs (p' := 44) k101_42 rfl ?_
      refine me_cv (p' := 47) k101_44 rfl rfl (by decide) rfl (by decide) (by decide) dp_102 rfl rfl (cl_le mx_102 rfl) (by decide) (cl_sum rfl) (ct_isOneOf (c := 4) hTJ hk hw4 (by omega) (fun z => by have := hw3 (by omega); omega) (by decide) (fun e4 => ?_) (fun e4 => ?_))
      · skip
        refine me_if_eq (p' := 50) k101_47 rfl (fun h => absurd h (by decide)) (fun _ => ?_)
        refine me_iload_n (p' := 51) k101_50 rfl rfl ?_
        refine me_bipush (p' := 53) k101_51 rfl (v := nI 8) (by decide) ?_
        refine me_ic_ge (p' := 56) k101_53 rfl (fun c2 => ?_) (fun c2 => ?_)
        · skip
          rw [cI_le (a := 8) (b := opn) (by omega) (by omega)] at c2
          refine me_aload_n (p' := 91) k101_90 rfl rfl ?_
          refine me_aload_n (p' := 92) k101_91 rfl rfl ?_
          refine me_cv (p' := 95) k101_92 rfl rfl (by decide) rfl (by decide) (by decide) dp_105 rfl rfl (cl_le mx_105 rfl) (by decide) (cl_sum rfl) (ct_readOperand hTJ hk hw ht0 hkey ho (by have := hw1; omega) (fun a ha K hK1 hK2 hK3 => ?_) (fun ha => ?_))
          · skip
            have hn3 : ¬ (t.1 = 3 ∧ B t.2.1 = 33 ∧ den < 8) := fun z => by omega
            have hn4 : ¬ (t.1 = 3 ∧ B t.2.1 = 40 ∧ S.count 11 < 8) := fun z => by omega
            have hgw := tgo_wf (B := B) (tl := tl) hw
            have hal := tAt_lt (key := key) hw ha
            have ht1 : t.1 ≠ 0 := fun z => by unfold tAt tNm at ha; rw [if_neg (by omega), if_neg (by omega)] at ha; cases ha
            have hst3 : mst B tl key (t, S, o, ts, den, true) = .inl (tgo B tl t, (mcs 6 S (o ++ [a])).1, (mcs 6 S (o ++ [a])).2, ts, (mcs 6 S (o ++ [a])).1.count 10, false) := by
              show (if t.1 = 3 ∧ B t.2.1 = 33 ∧ den < 8 then _ else if t.1 = 3 ∧ B t.2.1 = 40 ∧ S.count 11 < 8 then _ else match tAt B key t with | some a => _ | none => _) = _
              rw [if_neg hn3, if_neg hn4, ha]
            refine me_reti k101_95 rt_101 (by decide) ?_
            refine hT K (tgo B tl t) [a] (hf.tr hK1) hK2 hK3 hgw.1 (by have := hgw.2; have := hw3 (by omega); show 1 + t.2.1 ≤ _; omega) (mExp.one hal.1) (fun z y => hal.2 z (List.mem_singleton.mp y).symm) (mRch.st hst3)
          · skip
            have hn3 : ¬ (t.1 = 3 ∧ B t.2.1 = 33 ∧ den < 8) := fun z => by omega
            have hn4 : ¬ (t.1 = 3 ∧ B t.2.1 = 40 ∧ S.count 11 < 8) := fun z => by omega
            have hst3 : mst B tl key (t, S, o, ts, den, true) = .inr (t.2.1, none) := by
              show (if t.1 = 3 ∧ B t.2.1 = 33 ∧ den < 8 then _ else if t.1 = 3 ∧ B t.2.1 = 40 ∧ S.count 11 < 8 then _ else match tAt B key t with | some a => _ | none => _) = _
              rw [if_neg hn3, if_neg hn4, ha]
            refine me_reti k101_95 rt_101 (by decide) ?_
            exact hF J t hf hk hw (mEnd.of hst3)
        · skip
          rw [cI_le (a := 8) (b := opn) (by omega) (by omega)] at c2
          refine me_aload_n (p' := 57) k101_56 rfl rfl ?_
          refine me_cv (p' := 60) k101_57 rfl rfl (by decide) rfl (by decide) (by decide) dp_95 rfl rfl (cl_le mx_95 rfl) (by decide) (cl_sum rfl) (ct_advance hTJ ⟨hk.2.1, hk.2.2⟩ hw2 hw4 (fun K1 hK1 hK1t => ?_))
          have hgw := tgo_wf (B := B) (tl := tl) hw
          refine me_aload_n (p' := 61) k101_60 rfl rfl ?_
          refine me_aload_n (p' := 62) k101_61 rfl rfl ?_
          refine me_iconst (p' := 63) k101_62 rfl (v := nI 0) (by decide) ?_
          refine me_iload_n (p' := 64) k101_63 rfl rfl ?_
          refine me_iconst (p' := 65) k101_64 rfl (v := nI 1) (by decide) ?_
          refine me_iadd (p' := 66) k101_65 rfl (v := nI (opn + 1)) (mI_add _ _) ?_
          refine me_iload_n (p' := 67) k101_66 rfl rfl ?_
          refine me_cv (p' := 70) k101_67 rfl rfl (by decide) rfl (by decide) (by decide) dp_100 rfl rfl (cl_le mx_100 rfl) (by decide) (cl_sum rfl) (ihL (m + 3) 0 (opn + 1) den K1 (tgo B tl t) o (11 :: S) (false :: ts) _ (by omega) (by omega) (by omega) (by omega) (by rw [List.count_cons_self, h11]) (by rw [List.count_cons_of_ne (by decide)]; exact h10) (hS_c hS (by decide)) (hf.tr (cFt.tp hK1)) hK1t (ho.tp hK1) hgw.1 (by have := hgw.2; omega) (by have := hgw.2; have := hw3 (by omega); omega) (fun x S' h => by rw [List.cons.injEq] at h; exact Or.inl h.1.symm) (by simp) (fun _ => rfl) (fun K t2 e P o2 ts2 hf2 hk2 ho2 hw' hle hex hnm hre hP hmc hts hts0 hts3 hcont => ?_) (fun K t2 hf2 hk2 hw' hen => ?_))
          · skip
            have hst2 : mst B tl key (t, S, o, ts, den, true) = .inl (tgo B tl t, 11 :: S, o, false :: ts, den, true) := by
              show (if t.1 = 3 ∧ B t.2.1 = 33 ∧ den < 8 then _ else if t.1 = 3 ∧ B t.2.1 = 40 ∧ S.count 11 < 8 then _ else _) = _
              rw [if_neg (fun z => by have := List.mem_singleton.mp e4.2; omega), if_pos ⟨e4.1, List.mem_singleton.mp e4.2, by omega⟩, List.count_cons_of_ne (by decide), h10]
            have hS2 : ∀ x ∈ P ++ 11 :: S, 1 ≤ x ∧ x ≤ 11 := fun x hx => by
              rcases List.mem_append.mp hx with z | z
              · have := hP x z; omega
              · rcases List.mem_cons.mp z with z | z
                · omega
                · exact hS x z
            have hc11 : 0 < (P ++ 11 :: S).count 11 := by rw [ct_11 hP (Or.inr rfl), List.count_cons_self]; omega
            refine me_if_eq (p' := 73) k101_70 rfl (fun h => absurd h (by decide)) (fun _ => ?_)
            refine me_aload_n (p' := 74) k101_73 rfl rfl ?_
            refine me_ldcs (p' := 76) k101_74 rfl ?_
            refine me_cv (p' := 79) k101_76 rfl rfl (by decide) rfl (by decide) (by decide) dp_102 rfl rfl (cl_le mx_102 rfl) (by decide) (cl_sum rfl) (ct_isOneOf (c := 5) (hT0.ft hf2) hk2 (by have := hw'.2.2.2.2.1; omega) (by have := hw'.1; omega) (fun z => by have := hw'.2.2.2.1 (by omega); have := hw'.2.1; omega) (by decide) (fun e5 => ?_) (fun e5 => ?_))
            · skip
              refine me_if_ne (p' := 82) k101_79 rfl (fun h => absurd h (by decide)) (fun _ => ?_)
              refine me_aload_n (p' := 85) k101_84 rfl rfl ?_
              refine me_cv (p' := 88) k101_85 rfl rfl (by decide) rfl (by decide) (by decide) dp_95 rfl rfl (cl_le mx_95 rfl) (by decide) (cl_sum rfl) (ct_advance (hT0.ft hf2) ⟨hk2.2.1, hk2.2.2⟩ hw'.2.1 hw'.2.2.2.2.1 (fun K3 hK3 hK3t => ?_))
              have hgw2 := tgo_wf (B := B) (tl := tl) hw'
              refine me_iconst (p' := 89) k101_88 rfl (v := nI 1) (by decide) ?_
              refine me_reti k101_89 rt_101 (by decide) ?_
              refine hT K3 (tgo B tl t2) e (hf2.tr (cFt.tp hK3)) hK3t (ho2.tp hK3) hgw2.1 (by have := hgw.2; have := hgw2.2; have := hw3 (by omega); have := hw'.2.2.2.2.2.2.2.2; omega) hex hnm ?_
              have hst4 : mst B tl key (t2, P ++ 11 :: S, o2, ts2, den, false) = .inl (tgo B tl t2, (mcs 6 S (o ++ e)).1, (mcs 6 S (o ++ e)).2, ts, (mcs 6 S (o ++ e)).1.count 10, false) := by
                show (if t2.1 = 0 then _ else if t2.1 = 3 ∧ B t2.2.1 = 41 ∧ 0 < (P ++ 11 :: S).count 11 then _ else _) = _
                rw [if_neg (by omega), if_pos ⟨e5.1, List.mem_singleton.mp e5.2, hc11⟩, mcs_01 _ _ hS2, hmc, hts]
                rfl
              exact ((mRch.st hst2).tr hre).tr (mRch.st hst4)
            · skip
              refine me_if_ne (p' := 82) k101_79 rfl (fun _ => ?_) (fun h => absurd (by decide) h)
              refine me_iconst (p' := 83) k101_82 rfl (v := nI 0) (by decide) ?_
              refine me_reti k101_83 rt_101 (by decide) ?_
              refine hF K t2 hf2 hk2 hw' (((mRch.st hst2).tr hre).ed (mEnd.of ?_))
              show (if t2.1 = 0 then _ else if t2.1 = 3 ∧ B t2.2.1 = 41 ∧ 0 < (P ++ 11 :: S).count 11 then _ else if tS B t2 = 0 ∨ (tRk (tS B t2) = 3 ∧ ts2.headD false = true) then _ else _) = _
              by_cases z0 : t2.1 = 0
              · rw [if_pos z0, if_neg (by omega)]
              · rw [if_neg z0, if_neg (fun z => e5 ⟨z.1, List.mem_singleton.mpr z.2.1⟩), if_pos ?_]
                rcases hcont with z | z | z
                · exact Or.inl z
                · left
                  have h9 := tS_r B t2
                  have := (tRk_r (tS B t2) (by omega)).1
                  omega
                · exact Or.inr z.2
          · skip
            have hst2 : mst B tl key (t, S, o, ts, den, true) = .inl (tgo B tl t, 11 :: S, o, false :: ts, den, true) := by
              show (if t.1 = 3 ∧ B t.2.1 = 33 ∧ den < 8 then _ else if t.1 = 3 ∧ B t.2.1 = 40 ∧ S.count 11 < 8 then _ else _) = _
              rw [if_neg (fun z => by have := List.mem_singleton.mp e4.2; omega), if_pos ⟨e4.1, List.mem_singleton.mp e4.2, by omega⟩, List.count_cons_of_ne (by decide), h10]
            refine me_if_eq (p' := 73) k101_70 rfl (fun _ => ?_) (fun h => absurd (by decide) h)
            refine me_iconst (p' := 83) k101_82 rfl (v := nI 0) (by decide) ?_
            refine me_reti k101_83 rt_101 (by decide) ?_
            exact hF K t2 hf2 hk2 hw' ((mRch.st hst2).ed hen)
      · skip
        refine me_if_eq (p' := 50) k101_47 rfl (fun _ => ?_) (fun h => absurd (by decide) h)
        refine me_aload_n (p' := 91) k101_90 rfl rfl ?_
        refine me_aload_n (p' := 92) k101_91 rfl rfl ?_
        refine me_cv (p' := 95) k101_92 rfl rfl (by decide) rfl (by decide) (by decide) dp_105 rfl rfl (cl_le mx_105 rfl) (by decide) (cl_sum rfl) (ct_readOperand hTJ hk hw ht0 hkey ho (by have := hw1; omega) (fun a ha K hK1 hK2 hK3 => ?_) (fun ha => ?_))
        · skip
          have hn3 : ¬ (t.1 = 3 ∧ B t.2.1 = 33 ∧ den < 8) := fun z => by omega
          have hn4 : ¬ (t.1 = 3 ∧ B t.2.1 = 40 ∧ S.count 11 < 8) := fun z => absurd ⟨z.1, List.mem_singleton.mpr z.2.1⟩ e4
          have hgw := tgo_wf (B := B) (tl := tl) hw
          have hal := tAt_lt (key := key) hw ha
          have ht1 : t.1 ≠ 0 := fun z => by unfold tAt tNm at ha; rw [if_neg (by omega), if_neg (by omega)] at ha; cases ha
          have hst3 : mst B tl key (t, S, o, ts, den, true) = .inl (tgo B tl t, (mcs 6 S (o ++ [a])).1, (mcs 6 S (o ++ [a])).2, ts, (mcs 6 S (o ++ [a])).1.count 10, false) := by
            show (if t.1 = 3 ∧ B t.2.1 = 33 ∧ den < 8 then _ else if t.1 = 3 ∧ B t.2.1 = 40 ∧ S.count 11 < 8 then _ else match tAt B key t with | some a => _ | none => _) = _
            rw [if_neg hn3, if_neg hn4, ha]
          refine me_reti k101_95 rt_101 (by decide) ?_
          refine hT K (tgo B tl t) [a] (hf.tr hK1) hK2 hK3 hgw.1 (by have := hgw.2; have := hw3 (by omega); show 1 + t.2.1 ≤ _; omega) (mExp.one hal.1) (fun z y => hal.2 z (List.mem_singleton.mp y).symm) (mRch.st hst3)
        · skip
          have hn3 : ¬ (t.1 = 3 ∧ B t.2.1 = 33 ∧ den < 8) := fun z => by omega
          have hn4 : ¬ (t.1 = 3 ∧ B t.2.1 = 40 ∧ S.count 11 < 8) := fun z => absurd ⟨z.1, List.mem_singleton.mpr z.2.1⟩ e4
          have hst3 : mst B tl key (t, S, o, ts, den, true) = .inr (t.2.1, none) := by
            show (if t.1 = 3 ∧ B t.2.1 = 33 ∧ den < 8 then _ else if t.1 = 3 ∧ B t.2.1 = 40 ∧ S.count 11 < 8 then _ else match tAt B key t with | some a => _ | none => _) = _
            rw [if_neg hn3, if_neg hn4, ha]
          refine me_reti k101_95 rt_101 (by decide) ?_
          exact hF J t hf hk hw (mEnd.of hst3)
    · skip
      rw [cI_le (a := 8) (b := den) (by omega) (by omega)] at c1
      refine me_aload_n (p' := 16) k101_15 rfl rfl ?_
      refine me_cv (p' := 19) k101_16 rfl rfl (by decide) rfl (by decide) (by decide) dp_95 rfl rfl (cl_le mx_95 rfl) (by decide) (cl_sum rfl) (ct_advance hTJ ⟨hk.2.1, hk.2.2⟩ hw2 hw4 (fun K1 hK1 hK1t => ?_))
      have hgw := tgo_wf (B := B) (tl := tl) hw
      refine me_aload_n (p' := 20) k101_19 rfl rfl ?_
      refine me_aload_n (p' := 21) k101_20 rfl rfl ?_
      refine me_iload_n (p' := 22) k101_21 rfl rfl ?_
      refine me_iload_n (p' := 23) k101_22 rfl rfl ?_
      refine me_iconst (p' := 24) k101_23 rfl (v := nI 1) (by decide) ?_
      refine me_iadd (p' := 25) k101_24 rfl (v := nI (den + 1)) (mI_add _ _) ?_
      refine me_cv (p' := 28) k101_25 rfl rfl (by decide) rfl (by decide) (by decide) dp_101 rfl rfl (cl_le mx_101 rfl) (by decide) (cl_sum rfl) (ihP (m + 3) opn (den + 1) K1 (tgo B tl t) o (10 :: S) ts _ (by omega) (by omega) (by omega) (by rw [List.count_cons_of_ne (by decide)]; exact h11) (by rw [List.count_cons_self, h10]) (hS_c hS (by decide)) (hf.tr (cFt.tp hK1)) hK1t (ho.tp hK1) hgw.1 (by have := hgw.2; omega) (by have := hgw.2; have := hw3 (by omega); omega) (fun K t2 e hf2 hk2 ho2 hw' hle hex hnm hre => ?_) (fun K t2 hf2 hk2 hw' hen => ?_))
      · skip
        have hst1 : mst B tl key (t, S, o, ts, den, true) = .inl (tgo B tl t, 10 :: S, o, ts, den + 1, true) := by
          show (if t.1 = 3 ∧ B t.2.1 = 33 ∧ den < 8 then _ else _) = _
          rw [if_pos ⟨e3.1, List.mem_singleton.mp e3.2, by omega⟩, List.count_cons_self, h10]
        refine me_if_ne (p' := 31) k101_28 rfl (fun h => absurd h (by decide)) (fun _ => ?_)
        refine me_aload_n (p' := 34) k101_33 rfl rfl ?_
        refine me_bipush (p' := 36) k101_34 rfl (v := nI 33) (by decide) ?_
        rw [show nI 33 = nI (sp_sg 10) from rfl]
        refine me_cv (p' := 39) k101_36 rfl rfl (by omega) (congrArg Prod.fst (tb_T t0 (by omega))) (by decide) (by decide) dp_103 rfl rfl (cl_le mx_103 rfl) (by decide) (cl_sum rfl) (ct_addSign (q := 10) ht0 ho2 (by have := hw'.1; rw [List.length_append]; have := hgw.2; have := hw3 (by omega); omega) (by decide) (fun K2 hK2 hK2o => ?_))
        refine me_iconst (p' := 40) k101_39 rfl (v := nI 1) (by decide) ?_
        refine me_reti k101_40 rt_101 (by decide) ?_
        refine hT K2 t2 (e ++ [20010]) (hf2.tr (cFt.tx hK2)) ⟨(hK2 9 2 (by simp; omega)).trans hk2.1, (hK2 9 3 (by simp; omega)).trans hk2.2.1, (hK2 9 4 (by simp; omega)).trans hk2.2.2⟩ (by rw [← List.append_assoc]; exact hK2o) hw' (by rw [List.length_append, List.length_singleton]; have := hgw.2; have := hw3 (by omega); omega) hex.no (fun z => nm_a (hnm z) (by decide)) ?_
        have := (mRch.st hst1).tr hre
        rw [show mcs 6 (10 :: S) (o ++ e) = mcs 6 S (o ++ (e ++ [20010])) from by rw [← List.append_assoc]; exact if_pos ⟨by decide, by decide⟩] at this
        exact this
      · skip
        have hst1 : mst B tl key (t, S, o, ts, den, true) = .inl (tgo B tl t, 10 :: S, o, ts, den + 1, true) := by
          show (if t.1 = 3 ∧ B t.2.1 = 33 ∧ den < 8 then _ else _) = _
          rw [if_pos ⟨e3.1, List.mem_singleton.mp e3.2, by omega⟩, List.count_cons_self, h10]
        refine me_if_ne (p' := 31) k101_28 rfl (fun _ => ?_) (fun h => absurd (by decide) h)
        refine me_iconst (p' := 32) k101_31 rfl (v := nI 0) (by decide) ?_
        refine me_reti k101_32 rt_101 (by decide) ?_
        exact hF K t2 hf2 hk2 hw' ((mRch.st hst1).ed hen)
  · skip
    refine me_if_eq (p' := 9) k101_6 rfl (fun _ => ?_) (fun h => absurd (by decide) h)
    refine me_aload_n (p' := 42) k101_41 rfl rfl ?_
    refine me_ldcs (p' := 44) k101_42 rfl ?_
    refine me_cv (p' := 47) k101_44 rfl rfl (by decide) rfl (by decide) (by decide) dp_102 rfl rfl (cl_le mx_102 rfl) (by decide) (cl_sum rfl) (ct_isOneOf (c := 4) hTJ hk hw4 (by omega) (fun z => by have := hw3 (by omega); omega) (by decide) (fun e4 => ?_) (fun e4 => ?_))
    · skip
      refine me_if_eq (p' := 50) k101_47 rfl (fun h => absurd h (by decide)) (fun _ => ?_)
      refine me_iload_n (p' := 51) k101_50 rfl rfl ?_
      refine me_bipush (p' := 53) k101_51 rfl (v := nI 8) (by decide) ?_
      refine me_ic_ge (p' := 56) k101_53 rfl (fun c3 => ?_) (fun c3 => ?_)
      · skip
        rw [cI_le (a := 8) (b := opn) (by omega) (by omega)] at c3
        refine me_aload_n (p' := 91) k101_90 rfl rfl ?_
        refine me_aload_n (p' := 92) k101_91 rfl rfl ?_
        refine me_cv (p' := 95) k101_92 rfl rfl (by decide) rfl (by decide) (by decide) dp_105 rfl rfl (cl_le mx_105 rfl) (by decide) (cl_sum rfl) (ct_readOperand hTJ hk hw ht0 hkey ho (by have := hw1; omega) (fun a ha K hK1 hK2 hK3 => ?_) (fun ha => ?_))
        · skip
          have hn3 : ¬ (t.1 = 3 ∧ B t.2.1 = 33 ∧ den < 8) := fun z => absurd ⟨z.1, List.mem_singleton.mpr z.2.1⟩ e3
          have hn4 : ¬ (t.1 = 3 ∧ B t.2.1 = 40 ∧ S.count 11 < 8) := fun z => by omega
          have hgw := tgo_wf (B := B) (tl := tl) hw
          have hal := tAt_lt (key := key) hw ha
          have ht1 : t.1 ≠ 0 := fun z => by unfold tAt tNm at ha; rw [if_neg (by omega), if_neg (by omega)] at ha; cases ha
          have hst3 : mst B tl key (t, S, o, ts, den, true) = .inl (tgo B tl t, (mcs 6 S (o ++ [a])).1, (mcs 6 S (o ++ [a])).2, ts, (mcs 6 S (o ++ [a])).1.count 10, false) := by
            show (if t.1 = 3 ∧ B t.2.1 = 33 ∧ den < 8 then _ else if t.1 = 3 ∧ B t.2.1 = 40 ∧ S.count 11 < 8 then _ else match tAt B key t with | some a => _ | none => _) = _
            rw [if_neg hn3, if_neg hn4, ha]
          refine me_reti k101_95 rt_101 (by decide) ?_
          refine hT K (tgo B tl t) [a] (hf.tr hK1) hK2 hK3 hgw.1 (by have := hgw.2; have := hw3 (by omega); show 1 + t.2.1 ≤ _; omega) (mExp.one hal.1) (fun z y => hal.2 z (List.mem_singleton.mp y).symm) (mRch.st hst3)
        · skip
          have hn3 : ¬ (t.1 = 3 ∧ B t.2.1 = 33 ∧ den < 8) := fun z => absurd ⟨z.1, List.mem_singleton.mpr z.2.1⟩ e3
          have hn4 : ¬ (t.1 = 3 ∧ B t.2.1 = 40 ∧ S.count 11 < 8) := fun z => by omega
          have hst3 : mst B tl key (t, S, o, ts, den, true) = .inr (t.2.1, none) := by
            show (if t.1 = 3 ∧ B t.2.1 = 33 ∧ den < 8 then _ else if t.1 = 3 ∧ B t.2.1 = 40 ∧ S.count 11 < 8 then _ else match tAt B key t with | some a => _ | none => _) = _
            rw [if_neg hn3, if_neg hn4, ha]
          refine me_reti k101_95 rt_101 (by decide) ?_
          exact hF J t hf hk hw (mEnd.of hst3)
      · skip
        rw [cI_le (a := 8) (b := opn) (by omega) (by omega)] at c3
        refine me_aload_n (p' := 57) k101_56 rfl rfl ?_
        refine me_cv (p' := 60) k101_57 rfl rfl (by decide) rfl (by decide) (by decide) dp_95 rfl rfl (cl_le mx_95 rfl) (by decide) (cl_sum rfl) (ct_advance hTJ ⟨hk.2.1, hk.2.2⟩ hw2 hw4 (fun K1 hK1 hK1t => ?_))
        have hgw := tgo_wf (B := B) (tl := tl) hw
        refine me_aload_n (p' := 61) k101_60 rfl rfl ?_
        refine me_aload_n (p' := 62) k101_61 rfl rfl ?_
        refine me_iconst (p' := 63) k101_62 rfl (v := nI 0) (by decide) ?_
        refine me_iload_n (p' := 64) k101_63 rfl rfl ?_
        refine me_iconst (p' := 65) k101_64 rfl (v := nI 1) (by decide) ?_
        refine me_iadd (p' := 66) k101_65 rfl (v := nI (opn + 1)) (mI_add _ _) ?_
        refine me_iload_n (p' := 67) k101_66 rfl rfl ?_
        refine me_cv (p' := 70) k101_67 rfl rfl (by decide) rfl (by decide) (by decide) dp_100 rfl rfl (cl_le mx_100 rfl) (by decide) (cl_sum rfl) (ihL (m + 3) 0 (opn + 1) den K1 (tgo B tl t) o (11 :: S) (false :: ts) _ (by omega) (by omega) (by omega) (by omega) (by rw [List.count_cons_self, h11]) (by rw [List.count_cons_of_ne (by decide)]; exact h10) (hS_c hS (by decide)) (hf.tr (cFt.tp hK1)) hK1t (ho.tp hK1) hgw.1 (by have := hgw.2; omega) (by have := hgw.2; have := hw3 (by omega); omega) (fun x S' h => by rw [List.cons.injEq] at h; exact Or.inl h.1.symm) (by simp) (fun _ => rfl) (fun K t2 e P o2 ts2 hf2 hk2 ho2 hw' hle hex hnm hre hP hmc hts hts0 hts3 hcont => ?_) (fun K t2 hf2 hk2 hw' hen => ?_))
        · skip
          have hst2 : mst B tl key (t, S, o, ts, den, true) = .inl (tgo B tl t, 11 :: S, o, false :: ts, den, true) := by
            show (if t.1 = 3 ∧ B t.2.1 = 33 ∧ den < 8 then _ else if t.1 = 3 ∧ B t.2.1 = 40 ∧ S.count 11 < 8 then _ else _) = _
            rw [if_neg (fun z => by have := List.mem_singleton.mp e4.2; omega), if_pos ⟨e4.1, List.mem_singleton.mp e4.2, by omega⟩, List.count_cons_of_ne (by decide), h10]
          have hS2 : ∀ x ∈ P ++ 11 :: S, 1 ≤ x ∧ x ≤ 11 := fun x hx => by
            rcases List.mem_append.mp hx with z | z
            · have := hP x z; omega
            · rcases List.mem_cons.mp z with z | z
              · omega
              · exact hS x z
          have hc11 : 0 < (P ++ 11 :: S).count 11 := by rw [ct_11 hP (Or.inr rfl), List.count_cons_self]; omega
          refine me_if_eq (p' := 73) k101_70 rfl (fun h => absurd h (by decide)) (fun _ => ?_)
          refine me_aload_n (p' := 74) k101_73 rfl rfl ?_
          refine me_ldcs (p' := 76) k101_74 rfl ?_
          refine me_cv (p' := 79) k101_76 rfl rfl (by decide) rfl (by decide) (by decide) dp_102 rfl rfl (cl_le mx_102 rfl) (by decide) (cl_sum rfl) (ct_isOneOf (c := 5) (hT0.ft hf2) hk2 (by have := hw'.2.2.2.2.1; omega) (by have := hw'.1; omega) (fun z => by have := hw'.2.2.2.1 (by omega); have := hw'.2.1; omega) (by decide) (fun e5 => ?_) (fun e5 => ?_))
          · skip
            refine me_if_ne (p' := 82) k101_79 rfl (fun h => absurd h (by decide)) (fun _ => ?_)
            refine me_aload_n (p' := 85) k101_84 rfl rfl ?_
            refine me_cv (p' := 88) k101_85 rfl rfl (by decide) rfl (by decide) (by decide) dp_95 rfl rfl (cl_le mx_95 rfl) (by decide) (cl_sum rfl) (ct_advance (hT0.ft hf2) ⟨hk2.2.1, hk2.2.2⟩ hw'.2.1 hw'.2.2.2.2.1 (fun K3 hK3 hK3t => ?_))
            have hgw2 := tgo_wf (B := B) (tl := tl) hw'
            refine me_iconst (p' := 89) k101_88 rfl (v := nI 1) (by decide) ?_
            refine me_reti k101_89 rt_101 (by decide) ?_
            refine hT K3 (tgo B tl t2) e (hf2.tr (cFt.tp hK3)) hK3t (ho2.tp hK3) hgw2.1 (by have := hgw.2; have := hgw2.2; have := hw3 (by omega); have := hw'.2.2.2.2.2.2.2.2; omega) hex hnm ?_
            have hst4 : mst B tl key (t2, P ++ 11 :: S, o2, ts2, den, false) = .inl (tgo B tl t2, (mcs 6 S (o ++ e)).1, (mcs 6 S (o ++ e)).2, ts, (mcs 6 S (o ++ e)).1.count 10, false) := by
              show (if t2.1 = 0 then _ else if t2.1 = 3 ∧ B t2.2.1 = 41 ∧ 0 < (P ++ 11 :: S).count 11 then _ else _) = _
              rw [if_neg (by omega), if_pos ⟨e5.1, List.mem_singleton.mp e5.2, hc11⟩, mcs_01 _ _ hS2, hmc, hts]
              rfl
            exact ((mRch.st hst2).tr hre).tr (mRch.st hst4)
          · skip
            refine me_if_ne (p' := 82) k101_79 rfl (fun _ => ?_) (fun h => absurd (by decide) h)
            refine me_iconst (p' := 83) k101_82 rfl (v := nI 0) (by decide) ?_
            refine me_reti k101_83 rt_101 (by decide) ?_
            refine hF K t2 hf2 hk2 hw' (((mRch.st hst2).tr hre).ed (mEnd.of ?_))
            show (if t2.1 = 0 then _ else if t2.1 = 3 ∧ B t2.2.1 = 41 ∧ 0 < (P ++ 11 :: S).count 11 then _ else if tS B t2 = 0 ∨ (tRk (tS B t2) = 3 ∧ ts2.headD false = true) then _ else _) = _
            by_cases z0 : t2.1 = 0
            · rw [if_pos z0, if_neg (by omega)]
            · rw [if_neg z0, if_neg (fun z => e5 ⟨z.1, List.mem_singleton.mpr z.2.1⟩), if_pos ?_]
              rcases hcont with z | z | z
              · exact Or.inl z
              · left
                have h9 := tS_r B t2
                have := (tRk_r (tS B t2) (by omega)).1
                omega
              · exact Or.inr z.2
        · skip
          have hst2 : mst B tl key (t, S, o, ts, den, true) = .inl (tgo B tl t, 11 :: S, o, false :: ts, den, true) := by
            show (if t.1 = 3 ∧ B t.2.1 = 33 ∧ den < 8 then _ else if t.1 = 3 ∧ B t.2.1 = 40 ∧ S.count 11 < 8 then _ else _) = _
            rw [if_neg (fun z => by have := List.mem_singleton.mp e4.2; omega), if_pos ⟨e4.1, List.mem_singleton.mp e4.2, by omega⟩, List.count_cons_of_ne (by decide), h10]
          refine me_if_eq (p' := 73) k101_70 rfl (fun _ => ?_) (fun h => absurd (by decide) h)
          refine me_iconst (p' := 83) k101_82 rfl (v := nI 0) (by decide) ?_
          refine me_reti k101_83 rt_101 (by decide) ?_
          exact hF K t2 hf2 hk2 hw' ((mRch.st hst2).ed hen)
    · skip
      refine me_if_eq (p' := 50) k101_47 rfl (fun _ => ?_) (fun h => absurd (by decide) h)
      refine me_aload_n (p' := 91) k101_90 rfl rfl ?_
      refine me_aload_n (p' := 92) k101_91 rfl rfl ?_
      refine me_cv (p' := 95) k101_92 rfl rfl (by decide) rfl (by decide) (by decide) dp_105 rfl rfl (cl_le mx_105 rfl) (by decide) (cl_sum rfl) (ct_readOperand hTJ hk hw ht0 hkey ho (by have := hw1; omega) (fun a ha K hK1 hK2 hK3 => ?_) (fun ha => ?_))
      · skip
        have hn3 : ¬ (t.1 = 3 ∧ B t.2.1 = 33 ∧ den < 8) := fun z => absurd ⟨z.1, List.mem_singleton.mpr z.2.1⟩ e3
        have hn4 : ¬ (t.1 = 3 ∧ B t.2.1 = 40 ∧ S.count 11 < 8) := fun z => absurd ⟨z.1, List.mem_singleton.mpr z.2.1⟩ e4
        have hgw := tgo_wf (B := B) (tl := tl) hw
        have hal := tAt_lt (key := key) hw ha
        have ht1 : t.1 ≠ 0 := fun z => by unfold tAt tNm at ha; rw [if_neg (by omega), if_neg (by omega)] at ha; cases ha
        have hst3 : mst B tl key (t, S, o, ts, den, true) = .inl (tgo B tl t, (mcs 6 S (o ++ [a])).1, (mcs 6 S (o ++ [a])).2, ts, (mcs 6 S (o ++ [a])).1.count 10, false) := by
          show (if t.1 = 3 ∧ B t.2.1 = 33 ∧ den < 8 then _ else if t.1 = 3 ∧ B t.2.1 = 40 ∧ S.count 11 < 8 then _ else match tAt B key t with | some a => _ | none => _) = _
          rw [if_neg hn3, if_neg hn4, ha]
        refine me_reti k101_95 rt_101 (by decide) ?_
        refine hT K (tgo B tl t) [a] (hf.tr hK1) hK2 hK3 hgw.1 (by have := hgw.2; have := hw3 (by omega); show 1 + t.2.1 ≤ _; omega) (mExp.one hal.1) (fun z y => hal.2 z (List.mem_singleton.mp y).symm) (mRch.st hst3)
      · skip
        have hn3 : ¬ (t.1 = 3 ∧ B t.2.1 = 33 ∧ den < 8) := fun z => absurd ⟨z.1, List.mem_singleton.mpr z.2.1⟩ e3
        have hn4 : ¬ (t.1 = 3 ∧ B t.2.1 = 40 ∧ S.count 11 < 8) := fun z => absurd ⟨z.1, List.mem_singleton.mpr z.2.1⟩ e4
        have hst3 : mst B tl key (t, S, o, ts, den, true) = .inr (t.2.1, none) := by
          show (if t.1 = 3 ∧ B t.2.1 = 33 ∧ den < 8 then _ else if t.1 = 3 ∧ B t.2.1 = 40 ∧ S.count 11 < 8 then _ else match tAt B key t with | some a => _ | none => _) = _
          rw [if_neg hn3, if_neg hn4, ha]
        refine me_reti k101_95 rt_101 (by decide) ?_
        exact hF J t hf hk hw (mEnd.of hst3)
theorem lp_level {L : Nat} {xs : Nat → Int32} {I : Nat → Nat → Int32} {B : Nat → Nat} {tl t0 key : Nat} (hT0 : cTp I B tl) (ht0 : t0 < 15) (hkey : key < 3) {M : Nat} (ihL : cRdL L xs I B tl t0 key M) {m lev opn den most : Nat} {t : Nat × Nat × Nat} {o S : List Nat} {ts : List Bool} {Q : Option Value → mj_H → Prop}
    (hn : 8 * (8 - opn) + (8 - den) + 4 + (6 - lev) ≤ m + 4) (hlev : lev < 5) (ho8 : opn ≤ 8) (hd8 : den ≤ 8) (h11 : S.count 11 = opn) (h10 : S.count 10 = den) (hS : ∀ x ∈ S, 1 ≤ x ∧ x ≤ 11) (hl : o.length < t.2.1) (hN : 8 * (tl - t.2.1) + (7 - lev) ≤ M + 1) (htop : ∀ x S', S = x :: S' → x = 11 ∨ tRk x ≤ lev) (hmost : lev ≠ 2 → most = tl) (hmost2 : lev = 2 → most = 1)
    (hT : ∀ K t2 e P o2 ts2, cFt t0 I K → cTk K t2 → cTo K t0 key (o ++ e) → tWf B tl t2 → e.length + t.2.1 ≤ t2.2.1 → mExp e → (key ≠ 0 → 10002 ∉ e) → mRch B tl key (t, S, o, ts, den, true) (t2, P ++ S, o2, ts2, den, false) → (∀ x ∈ P, 1 ≤ x ∧ x ≤ 9) → mcs (lev + 1) (P ++ S) o2 = (S, o ++ e) → ts2.tail = ts.tail → ts2 ≠ [] → (3 ≤ lev → ts2 = ts) →
      (tS B t2 = 0 ∨ tRk (tS B t2) ≤ lev ∨ (lev ≤ 2 ∧ tRk (tS B t2) = 3 ∧ ts2.headD false = true)) → Q (some (.int (nI 1))) (mg_h L xs K))
    (hF : ∀ K t2, cFt t0 I K → cTk K t2 → tWf B tl t2 → mEnd B tl key (t, S, o, ts, den, true) (t2.2.1, none) → Q (some (.int (nI 0))) (mg_h L xs K)) :
    ∀ (mu : Nat) (G : Nat → Nat → Int32) (t1 : Nat × Nat × Nat) (e P o2 : List Nat) (ts2 : List Bool), mu = tl - t1.2.1 → cFt t0 I G → cTk G t1 → cTo G t0 key (o ++ e) → tWf B tl t1 → e.length + t.2.1 ≤ t1.2.1 → mExp e → (key ≠ 0 → 10002 ∉ e) → mRch B tl key (t, S, o, ts, den, true) (t1, P ++ S, o2, ts2, den, false) → (∀ x ∈ P, 1 ≤ x ∧ x ≤ 9) → mcs (lev + 1) (P ++ S) o2 = (S, o ++ e) → ts2.tail = ts.tail → ts2 ≠ [] → (3 ≤ lev → ts2 = ts) →
      (tS B t1 = 0 ∨ tRk (tS B t1) ≤ lev + 1 ∨ (lev + 1 ≤ 2 ∧ tRk (tS B t1) = 3 ∧ ts2.headD false = true)) → (i : Nat) → i < t1.2.1 → (lev = 2 ∧ i = 0 → ts2.headD false = false) → (lev = 2 ∧ 1 ≤ i → ts2.headD false = true) → (u7 : Value) → mj_cat1 u7 = true → mj_Ev (m + 4) 100 48 [.ref 9, .ref (59 + 3 * t0), .int (nI lev), .int (nI opn), .int (nI den), .int (nI most), .int (nI i), u7] [] (mg_h L xs G) Q := by
  intro mu
  induction mu using Nat.strongRecOn with
  | _ mu ih =>
    intro G t1 e P o2 ts2 hmu hf1 hk1 ho1 hw' hle hex hnm hre hP hmc hts hts0 hts3 hcont i hi hfl0 hfl1 u7 hu7
    have htl := hT0.2.1
    have hT1 := hT0.ft hf1
    have hw1 := hw'.1
    have hb1 : most ≤ 96 := by by_cases z : lev = 2; rw [hmost2 z]; decide; rw [hmost z]; exact htl
    have he1 : 1 ≤ e.length := by cases he : e with | nil => exact absurd he hex.1 | cons x l => simp
    have hfl : lev = 2 → i < most → ts2.headD false = false := fun z y => hfl0 ⟨z, by rw [hmost2 z] at y; omega⟩
    refine me_iload (p' := 50) k100_48 rfl rfl ?_
    refine me_iload (p' := 52) k100_50 rfl rfl ?_
    refine me_ic_ge (p' := 55) k100_52 rfl (fun c1 => ?_) (fun c1 => ?_)
    · skip
      rw [cI_le (a := most) (b := i) (by omega) (by omega)] at c1
      refine me_iconst (p' := 110) k100_109 rfl (v := nI 1) (by decide) ?_
      refine me_reti k100_110 rt_100 (by decide) ?_
      refine hT _ t1 e P o2 ts2 hf1 hk1 ho1 hw' hle hex hnm hre hP hmc hts hts0 hts3 ?_
      by_cases e2 : lev = 2
      · subst e2
        have hi1 := hmost2 rfl
        rcases hcont with z | z | z
        · exact Or.inl z
        · by_cases e8 : tRk (tS B t1) = 3
          · exact Or.inr (Or.inr ⟨by omega, e8, hfl1 ⟨rfl, by omega⟩⟩)
          · exact Or.inr (Or.inl (by omega))
        · exact absurd z.1 (by omega)
      · have hi1 := hmost e2
        have : t1.1 = 0 := by
          rcases Nat.eq_zero_or_pos t1.1 with z | z
          · exact z
          · have := hw'.2.2.2.1 (by omega)
            have := hw'.2.1
            omega
        left
        unfold tS
        rw [if_neg (by omega)]
    · skip
      rw [cI_le (a := most) (b := i) (by omega) (by omega)] at c1
      refine me_aload_n (p' := 56) k100_55 rfl rfl ?_
      refine me_iload_n (p' := 57) k100_56 rfl rfl ?_
      refine me_cs (p' := 60) k100_57 rfl rfl rfl rfl rfl (cl_le mx_110 rfl) (by decide) (cl_sum rfl) (ct_operatorsOf (by omega) ?_)
      refine me_cv (p' := 63) k100_60 rfl rfl (by decide) rfl (by decide) (by decide) dp_102 rfl rfl (cl_le mx_102 rfl) (by decide) (cl_sum rfl) (ct_isOneOf (c := 9 + lev) hT1 hk1 (by have := hw'.2.2.2.2.1; omega) (by have := hw'.1; omega) (fun z => by have := hw'.2.2.2.1 (by omega); have := hw'.2.1; omega) (by omega) (fun e9 => ?_) (fun e9 => ?_))
      · skip
        obtain ⟨hq0, hqr⟩ := (tS_op (l := lev) (by omega) (fun z => (hT0.2.2 _ (by have := hw'.2.2.2.1 (by omega); have := hw'.2.1; omega)).2)).mp e9
        have hq9 := tS_r B t1
        have hqs : sp_sg (tS B t1) = B t1.2.1 := by
          unfold tS at hq0 ⊢
          rw [if_pos e9.1] at hq0 ⊢
          exact tx_sg _ (hT0.2.2 _ (by have := hw'.2.2.2.1 (by omega); have := hw'.2.1; omega)).2 hq0
        have ht1 := hw'.2.2.2.1 (by omega)
        have ht1' := hw'.2.1
        have hgw := tgo_wf (B := B) (tl := tl) hw'
        refine me_if_eq (p' := 66) k100_63 rfl (fun h => absurd h (by decide)) (fun _ => ?_)
        refine me_aload_n (p' := 67) k100_66 rfl rfl ?_
        refine me_gfr (p' := 70) k100_67 rfl (by decide) rfl (b := 10) rfl ?_
        refine me_aload_n (p' := 71) k100_70 rfl rfl ?_
        refine me_gfi (p' := 74) k100_71 rfl (by decide) rfl rfl ?_
        rw [hk1.1]
        refine me_iald (p' := 75) k100_74 rfl (by decide) rfl (j := t1.2.1) rfl (by omega) (by decide) rfl ?_
        rw [(hT1.2.2 t1.2.1 (by omega)).1, ← hqs]
        refine me_istore (p' := 77) k100_75 rfl ⟨Nat.le_of_ble_eq_true rfl, rfl⟩ rfl ?_
        refine me_aload_n (p' := 78) k100_77 rfl rfl ?_
        refine me_cv (p' := 81) k100_78 rfl rfl (by decide) rfl (by decide) (by decide) dp_95 rfl rfl (cl_le mx_95 rfl) (by decide) (cl_sum rfl) (ct_advance hT1 ⟨hk1.2.1, hk1.2.2⟩ hw'.2.1 hw'.2.2.2.2.1 (fun K1 hK1 hK1t => ?_))
        have hst : mst B tl key (t1, P ++ S, o2, ts2, den, false) = .inl (tgo B tl t1, tS B t1 :: S, o ++ e, (decide (tRk (tS B t1) = 3) || (decide (3 < tRk (tS B t1)) && ts2.headD false)) :: ts2.tail, den, true) := by
          show (if t1.1 = 0 then _ else if t1.1 = 3 ∧ B t1.2.1 = 41 ∧ 0 < (P ++ S).count 11 then _ else if tS B t1 = 0 ∨ (tRk (tS B t1) = 3 ∧ ts2.headD false = true) then _ else _) = _
          rw [if_neg (by omega), if_neg (fun z => tS_41 hq0 z.2.1), if_neg ?_, hqr, hmc]
          rintro (z | z)
          · exact hq0 z
          · have := hfl (by omega) (by omega)
            rw [z.2] at this
            exact absurd this (by decide)
        refine me_aload_n (p' := 82) k100_81 rfl rfl ?_
        refine me_aload_n (p' := 83) k100_82 rfl rfl ?_
        refine me_iload_n (p' := 84) k100_83 rfl rfl ?_
        refine me_iconst (p' := 85) k100_84 rfl (v := nI 1) (by decide) ?_
        refine me_iadd (p' := 86) k100_85 rfl (v := nI (lev + 1)) (mI_add _ _) ?_
        refine me_iload_n (p' := 87) k100_86 rfl rfl ?_
        refine me_iload (p' := 89) k100_87 rfl rfl ?_
        refine me_cv (p' := 92) k100_89 rfl rfl (by decide) rfl (by decide) (by decide) dp_100 rfl rfl (cl_le mx_100 rfl) (by decide) (cl_sum rfl) (ihL (m + 3) (lev + 1) opn den K1 (tgo B tl t1) (o ++ e) (tS B t1 :: S) ((decide (tRk (tS B t1) = 3) || (decide (3 < tRk (tS B t1)) && ts2.headD false)) :: ts2.tail) _ (by omega) (by omega) (by omega) (by omega) (by rw [List.count_cons_of_ne (by omega)]; exact h11) (by rw [List.count_cons_of_ne (by omega)]; exact h10) (hS_c hS (by omega)) (hf1.tr (cFt.tp hK1)) hK1t (ho1.tp hK1) hgw.1 (by rw [List.length_append]; have := hgw.2; omega) (by have := hgw.2; omega) (fun x S' h => by rw [List.cons.injEq] at h; right; rw [← h.1]; omega) (by simp) (fun h2 => by show (decide (tRk (tS B t1) = 3) || (decide (3 < tRk (tS B t1)) && ts2.headD false)) = false; rw [decide_eq_false (by omega), decide_eq_false (by omega)]; rfl) (fun K t2 e2 P2 o3 ts3 hf2 hk2 ho2 hw2' hle2 hex2 hnm2 hre2 hP2 hmc2 hts2 hts20 hts23 hcont2 => ?_) (fun K t2 hf2 hk2 hw2' hen => ?_))
        · skip
          refine me_if_ne (p' := 95) k100_92 rfl (fun h => absurd h (by decide)) (fun _ => ?_)
          refine me_aload_n (p' := 98) k100_97 rfl rfl ?_
          refine me_iload (p' := 100) k100_98 rfl rfl ?_
          refine me_cv (p' := 103) k100_100 rfl rfl (by omega) (congrArg Prod.fst (tb_T t0 (by omega))) (by decide) (by decide) dp_103 rfl rfl (cl_le mx_103 rfl) (by decide) (cl_sum rfl) (ct_addSign (q := tS B t1) ht0 ho2 (by rw [List.length_append, List.length_append]; have := hgw.2; have := hw2'.1; omega) (by omega) (fun K2 hK2 hK2o => ?_))
          refine me_iinc (p' := 106) k100_103 rfl rfl rfl (v := nI (i + 1)) (mI_inc (by decide)) rfl ?_
          refine me_goto k100_106 ?_
          have hfl3 : lev = 2 → ts3.headD false = true := fun z => by
            rw [hts23 (by omega)]
            show (decide (tRk (tS B t1) = 3) || _) = true
            rw [decide_eq_true (by omega)]
            rfl
          refine ih (tl - t2.2.1) (by have := hgw.2; have := hw2'.1; omega) _ t2 (e ++ (e2 ++ [20000 + tS B t1])) (P2 ++ [tS B t1]) o3 ts3 rfl (hf2.tr (cFt.tx hK2)) ⟨(hK2 9 2 (by simp; omega)).trans hk2.1, (hK2 9 3 (by simp; omega)).trans hk2.2.1, (hK2 9 4 (by simp; omega)).trans hk2.2.2⟩ (by rw [show o ++ (e ++ (e2 ++ [20000 + tS B t1])) = o ++ e ++ e2 ++ [20000 + tS B t1] by simp]; exact hK2o) hw2' (by rw [List.length_append, List.length_append, List.length_singleton]; have := hgw.2; omega) (hex.two hex2 (by omega)) (fun z y => by rcases List.mem_append.mp y with y | y; exact hnm z y; exact nm_a (hnm2 z) (by omega) y) ?_ (fun x hx => by rcases List.mem_append.mp hx with z | z; exact hP2 x z; have := List.mem_singleton.mp z; omega) ?_ ?_ hts20 (fun z => ?_) ?_ (i + 1) (by have := hgw.2; omega) (fun z => ?_) (fun z => hfl3 z.1) _ rfl
          · rw [show P2 ++ [tS B t1] ++ S = P2 ++ tS B t1 :: S by simp]
            exact (hre.tr (mRch.st hst)).tr hre2
          · rw [show P2 ++ [tS B t1] ++ S = P2 ++ tS B t1 :: S by simp, ← mcs_mcs (show lev + 1 ≤ lev + 1 + 1 by omega), hmc2]
            rw [show mcs (lev + 1) (tS B t1 :: S) (o ++ e ++ e2) = mcs (lev + 1) S (o ++ e ++ e2 ++ [20000 + tS B t1]) from if_pos ⟨by omega, by omega⟩, mcs_top (fun x S' h => (htop x S' h).imp id (fun h => by omega))]
            simp
          · rw [hts2]; exact hts
          · rw [hts23 (by omega), show (decide (tRk (tS B t1) = 3) || (decide (3 < tRk (tS B t1)) && ts2.headD false)) = ts2.headD false from by rw [decide_eq_false (by omega), decide_eq_true (by omega)]; rfl, ← hts3 z]
            cases ts2 with
            | nil => exact absurd rfl hts0
            | cons b l => rfl
          · exact hcont2.imp id (Or.imp id (fun h => ⟨by omega, h.2⟩))
          · exact absurd z.2 (by omega)
        · skip
          refine me_if_ne (p' := 95) k100_92 rfl (fun _ => ?_) (fun h => absurd (by decide) h)
          refine me_iconst (p' := 96) k100_95 rfl (v := nI 0) (by decide) ?_
          refine me_reti k100_96 rt_100 (by decide) ?_
          exact hF K t2 hf2 hk2 hw2' ((hre.tr (mRch.st hst)).ed hen)
      · skip
        have hno := fun z => e9 ((tS_op (l := lev) (by omega) (fun z => (hT0.2.2 _ (by have := hw'.2.2.2.1 (by omega); have := hw'.2.1; omega)).2)).mpr z)
        refine me_if_eq (p' := 66) k100_63 rfl (fun _ => ?_) (fun h => absurd (by decide) h)
        refine me_iconst (p' := 110) k100_109 rfl (v := nI 1) (by decide) ?_
        refine me_reti k100_110 rt_100 (by decide) ?_
        refine hT _ t1 e P o2 ts2 hf1 hk1 ho1 hw' hle hex hnm hre hP hmc hts hts0 hts3 ?_
        rcases hcont with z | z | z
        · exact Or.inl z
        · by_cases e8 : tS B t1 = 0
          · exact Or.inl e8
          · exact Or.inr (Or.inl (by have : tRk (tS B t1) ≠ lev + 1 := fun y => hno ⟨e8, y⟩; omega))
        · exact Or.inr (Or.inr ⟨by omega, z.2⟩)
theorem lp_lev {L : Nat} {xs : Nat → Int32} {I : Nat → Nat → Int32} {B : Nat → Nat} {tl t0 key : Nat} (hT0 : cTp I B tl) (ht0 : t0 < 15) (hkey : key < 3) {M : Nat} (ihP : cRdP L xs I B tl t0 key M) (ihL : cRdL L xs I B tl t0 key M) : cRdL L xs I B tl t0 key (M + 1) := by
  intro n lev opn den J t o S ts Q hn hlev ho8 hd8 h11 h10 hS hf hk ho hw hl hN htop hts0 htsf hT hF
  obtain ⟨m, rfl⟩ : ∃ m, n = m + 4 := ⟨n - 4, by omega⟩
  have htl := hT0.2.1
  refine cl_start mx_100 (ls := [.ref 9, .ref (59 + 3 * t0), .int (nI lev), .int (nI opn), .int (nI den), mj_no, mj_no, mj_no]) rfl ?_
  refine me_iload_n (p' := 1) k100_0 rfl rfl ?_
  refine me_iconst (p' := 2) k100_1 rfl (v := nI 5) (by decide) ?_
  refine me_ic_lt (p' := 5) k100_2 rfl (fun c1 => ?_) (fun c1 => ?_)
  · skip
    rw [cI_lt (a := lev) (b := 5) (by omega) (by omega)] at c1
    refine me_aload_n (p' := 15) k100_14 rfl rfl ?_
    refine me_aload_n (p' := 16) k100_15 rfl rfl ?_
    refine me_iload_n (p' := 17) k100_16 rfl rfl ?_
    refine me_iconst (p' := 18) k100_17 rfl (v := nI 1) (by decide) ?_
    refine me_iadd (p' := 19) k100_18 rfl (v := nI (lev + 1)) (mI_add _ _) ?_
    refine me_iload_n (p' := 20) k100_19 rfl rfl ?_
    refine me_iload (p' := 22) k100_20 rfl rfl ?_
    refine me_cv (p' := 25) k100_22 rfl rfl (by decide) rfl (by decide) (by decide) dp_100 rfl rfl (cl_le mx_100 rfl) (by decide) (cl_sum rfl) (ihL (m + 3) (lev + 1) opn den J t o S ts _ (by omega) (by omega) ho8 hd8 h11 h10 hS hf hk ho hw hl (by omega) (fun x S' h => (htop x S' h).imp id (fun h => by omega)) hts0 (fun h => htsf (by omega)) (fun K t2 e P o2 ts2 hf2 hk2 ho2 hw' hle hex hnm hre hP hmc hts hts0' hts3 hcont => ?_) (fun K t2 hf2 hk2 hw' hen => ?_))
    · skip
      refine me_if_ne (p' := 28) k100_25 rfl (fun h => absurd h (by decide)) (fun _ => ?_)
      refine me_iload_n (p' := 31) k100_30 rfl rfl ?_
      refine me_iconst (p' := 32) k100_31 rfl (v := nI 2) (by decide) ?_
      refine me_ic_ne (p' := 35) k100_32 rfl (fun c2 => ?_) (fun c2 => ?_)
      · skip
        rw [cI_eq (a := lev) (b := 2) (by omega) (by omega)] at c2
        refine me_iconst (p' := 36) k100_35 rfl (v := nI 1) (by decide) ?_
        refine me_goto k100_36 ?_
        refine me_istore (p' := 45) k100_43 rfl ⟨Nat.le_of_ble_eq_true rfl, rfl⟩ rfl ?_
        refine me_iconst (p' := 46) k100_45 rfl (v := nI 0) (by decide) ?_
        refine me_istore (p' := 48) k100_46 rfl ⟨Nat.le_of_ble_eq_true rfl, rfl⟩ rfl ?_
        refine lp_level hT0 ht0 hkey ihL (m := m) (lev := lev) (most := 1) (ts := ts) hn (by omega) ho8 hd8 h11 h10 hS hl hN htop (fun z => by omega) (fun z => rfl) hT hF _ K t2 e P o2 ts2 rfl hf2 hk2 ho2 hw' hle hex hnm hre hP (by rw [← mcs_mcs (show lev + 1 ≤ lev + 1 + 1 by omega), hmc]; exact mcs_top (fun x S' h => (htop x S' h).imp id (fun h => by omega))) hts hts0' (fun z => hts3 (by omega)) (hcont.imp id (Or.imp id (fun h => ⟨by omega, h.2⟩))) 0 (by have := hw.2.2.2.2.2.2.2.2; omega) (fun z => by rw [hts3 (by omega)]; exact htsf (by omega)) (fun z => absurd z.2 (by omega)) _ rfl
      · skip
        rw [cI_eq (a := lev) (b := 2) (by omega) (by omega)] at c2
        refine me_aload_n (p' := 40) k100_39 rfl rfl ?_
        refine me_gfi (p' := 43) k100_40 rfl (by decide) rfl rfl ?_
        rw [(hT0.ft hf2).1]
        refine me_istore (p' := 45) k100_43 rfl ⟨Nat.le_of_ble_eq_true rfl, rfl⟩ rfl ?_
        refine me_iconst (p' := 46) k100_45 rfl (v := nI 0) (by decide) ?_
        refine me_istore (p' := 48) k100_46 rfl ⟨Nat.le_of_ble_eq_true rfl, rfl⟩ rfl ?_
        refine lp_level hT0 ht0 hkey ihL (m := m) (lev := lev) (most := tl) (ts := ts) hn (by omega) ho8 hd8 h11 h10 hS hl hN htop (fun z => rfl) (fun z => by omega) hT hF _ K t2 e P o2 ts2 rfl hf2 hk2 ho2 hw' hle hex hnm hre hP (by rw [← mcs_mcs (show lev + 1 ≤ lev + 1 + 1 by omega), hmc]; exact mcs_top (fun x S' h => (htop x S' h).imp id (fun h => by omega))) hts hts0' (fun z => hts3 (by omega)) (hcont.imp id (Or.imp id (fun h => ⟨by omega, h.2⟩))) 0 (by have := hw.2.2.2.2.2.2.2.2; omega) (fun z => by rw [hts3 (by omega)]; exact htsf (by omega)) (fun z => absurd z.2 (by omega)) _ rfl
    · skip
      refine me_if_ne (p' := 28) k100_25 rfl (fun _ => ?_) (fun h => absurd (by decide) h)
      refine me_iconst (p' := 29) k100_28 rfl (v := nI 0) (by decide) ?_
      refine me_reti k100_29 rt_100 (by decide) ?_
      exact hF K t2 hf2 hk2 hw' hen
  · skip
    rw [cI_lt (a := lev) (b := 5) (by omega) (by omega)] at c1
    refine me_aload_n (p' := 6) k100_5 rfl rfl ?_
    refine me_aload_n (p' := 7) k100_6 rfl rfl ?_
    refine me_iload_n (p' := 8) k100_7 rfl rfl ?_
    refine me_iload (p' := 10) k100_8 rfl rfl ?_
    refine me_cv (p' := 13) k100_10 rfl rfl (by decide) rfl (by decide) (by decide) dp_101 rfl rfl (cl_le mx_101 rfl) (by decide) (cl_sum rfl) (ihP (m + 3) opn den J t o S ts _ (by omega) ho8 hd8 h11 h10 hS hf hk ho hw hl (by omega) (fun K t2 e hf2 hk2 ho2 hw' hle hex hnm hre => ?_) (fun K t2 hf2 hk2 hw' hen => ?_))
    · skip
      refine me_reti k100_13 rt_100 (by decide) ?_
      have h6 : mcs 6 S (o ++ e) = (S, o ++ e) := mcs_top (fun x S' h => (htop x S' h).imp id (fun h => by omega))
      rw [h6] at hre
      have h9 := tS_r B t2
      exact hT K t2 e [] (o ++ e) ts hf2 hk2 ho2 hw' hle hex hnm (by rw [← h10]; rw [← h10] at hre; exact hre) (fun x hx => absurd hx (by simp)) (mcs_top (fun x S' h => (htop x S' h).imp id (fun h => by omega))) rfl hts0 (fun _ => rfl) (Or.inr (Or.inl (by have := (tRk_r (tS B t2) (by omega)).2; omega)))
    · skip
      refine me_reti k100_13 rt_100 (by decide) ?_
      exact hF K t2 hf2 hk2 hw' hen
theorem ct_levels {L : Nat} {xs : Nat → Int32} {I : Nat → Nat → Int32} {B : Nat → Nat} {tl t0 key : Nat} (hT0 : cTp I B tl) (ht0 : t0 < 15) (hkey : key < 3) : ∀ N : Nat, cRdP L xs I B tl t0 key N ∧ cRdL L xs I B tl t0 key N
  | 0 => ⟨fun n opn den J t o S ts Q hn ho8 hd8 h11 h10 hS hf hk ho hw hl hN => absurd hN (by omega), fun n lev opn den J t o S ts Q hn hlev ho8 hd8 h11 h10 hS hf hk ho hw hl hN => absurd hN (by omega)⟩
  | M + 1 => ⟨lp_piece hT0 ht0 hkey (ct_levels hT0 ht0 hkey M).1 (ct_levels hT0 ht0 hkey M).2, lp_lev hT0 ht0 hkey (ct_levels hT0 ht0 hkey M).1 (ct_levels hT0 ht0 hkey M).2⟩
