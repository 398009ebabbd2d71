/-! ===== the class: SHEETS ===== -/
/-- a is a row, b its places -/
def mShR (a b : Nat) : Prop := a < 149 ∧ mg_tbl.getD a (99, 0) = (7, 3) ∧ mg_rc a 0 = b + 2 ∧ mg_rc a 1 = 0 ∧ mg_rc a 2 = 0 ∧ b < 149 ∧ mg_tbl.getD b (99, 0) = (20, 24) ∧ mg_rt.getD b [] = []
theorem hs_S : ∀ j : Nat, j < 4 → mShR (104 + 2 * j) (105 + 2 * j) := by unfold mShR; decide
theorem hs_L : ∀ j : Nat, j < 5 → mShR (113 + 3 * j) (114 + 3 * j) := by unfold mShR; decide
theorem rc_56 : ∀ j : Nat, j < 4 → mg_rc 56 j = (104 + 2 * j) + 2 := by decide
theorem rc_57 : ∀ j : Nat, j < 5 → mg_rc 57 j = (112 + 3 * j) + 2 := by decide
theorem tb_L : ∀ j : Nat, j < 5 → mg_tbl.getD (112 + 3 * j) (99, 0) = (8, 5) ∧ mg_rc (112 + 3 * j) 0 = 0 ∧ mg_rc (112 + 3 * j) 1 = 1 ∧ mg_rc (112 + 3 * j) 2 = 0 ∧ mg_rc (112 + 3 * j) 3 = (113 + 3 * j) + 2 ∧ mg_rc (112 + 3 * j) 4 = 0 := by decide
def mShL : List Nat := [104, 105, 106, 107, 108, 109, 110, 111, 112, 113, 114, 115, 116, 117, 118, 119, 120, 121, 122, 123, 124, 125, 126]
theorem ml_S : ∀ j : Nat, j < 4 → 104 + 2 * j ∈ mShL ∧ 105 + 2 * j ∈ mShL := by decide
theorem ml_L : ∀ j : Nat, j < 5 → 112 + 3 * j ∈ mShL ∧ 113 + 3 * j ∈ mShL ∧ 114 + 3 * j ∈ mShL := by decide
/-- the class's SHEETS are these -/
def cSh (I W : Nat → Nat → Int32) : Prop := ∀ j : Nat, j < 4 → I (104 + 2 * j) 1 = W 0 j ∧ I (104 + 2 * j) 2 = W 1 j ∧ ∀ k : Nat, k < sN W j → I (105 + 2 * j) k = W 2 (24 * j + k)
/-- and its SLOTS -/
def cSl (I W : Nat → Nat → Int32) : Prop := ∀ j : Nat, j < 5 → I (112 + 3 * j) 0 = W 3 j ∧ (W 3 j = nI 1 → I (112 + 3 * j) 1 = nI (2 + sN2 W j) ∧ W 5 j = sp_worth (sN2 W j) (I (112 + 3 * j) 2)) ∧
  (W 3 j = nI 2 → I (113 + 3 * j) 2 = W 4 j ∧ ∀ k : Nat, k < sN2 W j → I (114 + 3 * j) k = W 6 (24 * j + k)) ∧ (W 3 j = nI 3 → I (112 + 3 * j) 4 = W 4 j)
def cW (I W : Nat → Nat → Int32) : Prop := cSh I W ∧ cSl I W
theorem cW.fr {S : List Nat} {I I' W : Nat → Nat → Int32} (h : cW I W) (hf : mFr S I I') (hd : ∀ i ∈ mShL, i ∉ S) : cW I' W := by
  have e : ∀ i k : Nat, i ∈ mShL → I' i k = I i k := fun i k hi => hf i k (hd i hi)
  refine ⟨fun j hj => ?_, fun j hj => ?_⟩
  · obtain ⟨h1, h2, h3⟩ := h.1 j hj
    have m := ml_S j hj
    exact ⟨(e _ _ m.1).trans h1, (e _ _ m.1).trans h2, fun k hk => (e _ _ m.2).trans (h3 k hk)⟩
  · obtain ⟨h1, h2, h3, h4⟩ := h.2 j hj
    have m := ml_L j hj
    refine ⟨(e _ _ m.1).trans h1, fun z => ?_, fun z => ?_, fun z => (e _ _ m.1).trans (h4 z)⟩
    · rw [e _ _ m.1, e _ _ m.1]; exact h2 z
    · exact ⟨(e _ _ m.2.1).trans (h3 z).1, fun k hk => (e _ _ m.2.2).trans ((h3 z).2 k hk)⟩
theorem cW.so {I W : Nat → Nat → Int32} (h : cW I W) {j : Nat} (hj : j < 4) : I (104 + 2 * j) 1 = W 0 j := (h.1 j hj).1
theorem cW.sz {I W : Nat → Nat → Int32} (h : cW I W) (hwk : mWk W) {j : Nat} (hj : j < 4) : I (104 + 2 * j) 2 = nI (sN W j) := (h.1 j hj).2.1.trans (hwk.sz hj)
theorem cW.vl {I W : Nat → Nat → Int32} (h : cW I W) {j k : Nat} (hj : j < 4) (hk : k < sN W j) : I (105 + 2 * j) k = W 2 (24 * j + k) := (h.1 j hj).2.2 k hk
theorem cW.tg {I W : Nat → Nat → Int32} (h : cW I W) {j : Nat} (hj : j < 5) : I (112 + 3 * j) 0 = W 3 j := (h.2 j hj).1
theorem ct_isMissing {d L : Nat} {xs : Nat → Int32} {I : Nat → Nat → Int32} {Q : Option Value → mj_H → Prop} {a b : Nat} (hs : mShR a b) (h1 : I a 1 = -1 → Q (some (.int (nI 1))) (mg_h L xs I)) (h0 : ¬ I a 1 = -1 → Q (some (.int (nI 0))) (mg_h L xs I)) : mj_Cl d 85 [.ref a] (mg_h L xs I) Q := by
  refine cl_start mx_85 (ls := [.ref a]) rfl ?_
  refine me_aload_n (p' := 1) k85_0 rfl rfl ?_
  refine me_gfi (p' := 4) k85_1 rfl hs.1 (congrArg Prod.fst hs.2.1) hs.2.2.2.1 ?_
  refine me_iconst (p' := 5) k85_4 rfl (v := (-1)) (by decide) ?_
  refine me_ic_ne (p' := 8) k85_5 rfl (fun c1 => ?_) (fun c1 => ?_)
  · skip
    refine me_iconst (p' := 9) k85_8 rfl (v := nI 1) (by decide) ?_
    refine me_goto k85_9 ?_
    refine me_reti k85_13 rt_85 (by decide) ?_
    exact h1 c1
  · skip
    refine me_iconst (p' := 13) k85_12 rfl (v := nI 0) (by decide) ?_
    refine me_reti k85_13 rt_85 (by decide) ?_
    exact h0 c1
theorem ct_isNumber {d L : Nat} {xs : Nat → Int32} {I : Nat → Nat → Int32} {Q : Option Value → mj_H → Prop} {a b k : Nat} (hs : mShR a b) (hk : k < 24) (h1 : ¬ I b k = (-1000000005) → Q (some (.int (nI 1))) (mg_h L xs I)) (h0 : I b k = (-1000000005) → Q (some (.int (nI 0))) (mg_h L xs I)) : mj_Cl d 87 [.ref a, .int (nI k)] (mg_h L xs I) Q := by
  refine cl_start mx_87 (ls := [.ref a, .int (nI k)]) rfl ?_
  refine me_aload_n (p' := 1) k87_0 rfl rfl ?_
  refine me_gfr (p' := 4) k87_1 rfl hs.1 (congrArg Prod.fst hs.2.1) (b := b) hs.2.2.1 ?_
  refine me_iload_n (p' := 5) k87_4 rfl rfl ?_
  refine me_iald (p' := 6) k87_5 rfl hs.2.2.2.2.2.1 hs.2.2.2.2.2.2.1 (j := k) rfl (by omega) (by decide) (rc_nil _ (Nat.lt_of_lt_of_le hs.2.2.2.2.2.1 (by decide)) hs.2.2.2.2.2.2.2 _) ?_
  refine me_ldc (p' := 8) k87_6 rfl (v := (-1000000005)) (by decide) ?_
  refine me_ic_eq (p' := 11) k87_8 rfl (fun c1 => ?_) (fun c1 => ?_)
  · skip
    refine me_iconst (p' := 16) k87_15 rfl (v := nI 0) (by decide) ?_
    refine me_reti k87_16 rt_87 (by decide) ?_
    exact h0 c1
  · skip
    refine me_iconst (p' := 12) k87_11 rfl (v := nI 1) (by decide) ?_
    refine me_goto k87_12 ?_
    refine me_reti k87_16 rt_87 (by decide) ?_
    exact h1 c1
theorem mI_has {p m : Int32} {N : Nat} (h0 : 0 ≤ p) (h1 : 0 ≤ m) (hN : N ≤ 24) : (p ≤ nI N ∧ m ≤ nI N - p) ↔ p.toNatClampNeg + m.toNatClampNeg ≤ N := by
  obtain ⟨a, rfl, ha⟩ := mI_of h0
  obtain ⟨b, rfl, hb⟩ := mI_of h1
  rw [nI_clamp ha, nI_clamp hb, cI_le ha (by omega)]
  constructor
  · rintro ⟨h2, h3⟩
    rw [mI_sub h2, cI_le hb (by omega)] at h3
    omega
  · intro h
    refine ⟨by omega, ?_⟩
    rw [mI_sub (by omega), cI_le hb (by omega)]
    omega
theorem ct_has {d L : Nat} {xs : Nat → Int32} {I : Nat → Nat → Int32} {Q : Option Value → mj_H → Prop} {a b N : Nat} {p m : Int32} (hs : mShR a b) (hN : I a 2 = nI N ∧ N ≤ 24) (h1 : (0 ≤ p ∧ 0 ≤ m ∧ p.toNatClampNeg + m.toNatClampNeg ≤ N) → Q (some (.int (nI 1))) (mg_h L xs I)) (h0 : ¬ (0 ≤ p ∧ 0 ≤ m ∧ p.toNatClampNeg + m.toNatClampNeg ≤ N) → Q (some (.int (nI 0))) (mg_h L xs I)) : mj_Cl d 116 [.ref a, .int p, .int m] (mg_h L xs I) Q := by
  refine cl_start mx_116 (ls := [.ref a, .int p, .int m]) rfl ?_
  refine me_iload_n (p' := 1) k116_0 rfl rfl ?_
  refine me_if_lt (p' := 4) k116_1 rfl (fun c1 => ?_) (fun c1 => ?_)
  · skip
    refine me_iconst (p' := 31) k116_30 rfl (v := nI 0) (by decide) ?_
    refine me_reti k116_31 rt_116 (by decide) ?_
    exact h0 (fun z => absurd z.1 (Int32.not_le.mpr c1))
  · skip
    refine me_iload_n (p' := 5) k116_4 rfl rfl ?_
    refine me_if_lt (p' := 8) k116_5 rfl (fun c2 => ?_) (fun c2 => ?_)
    · skip
      refine me_iconst (p' := 31) k116_30 rfl (v := nI 0) (by decide) ?_
      refine me_reti k116_31 rt_116 (by decide) ?_
      exact h0 (fun z => absurd z.2.1 (Int32.not_le.mpr c2))
    · skip
      refine me_iload_n (p' := 9) k116_8 rfl rfl ?_
      refine me_aload_n (p' := 10) k116_9 rfl rfl ?_
      refine me_gfi (p' := 13) k116_10 rfl hs.1 (congrArg Prod.fst hs.2.1) hs.2.2.2.2.1 ?_
      rw [hN.1]
      refine me_ic_gt (p' := 16) k116_13 rfl (fun c3 => ?_) (fun c3 => ?_)
      · skip
        refine me_iconst (p' := 31) k116_30 rfl (v := nI 0) (by decide) ?_
        refine me_reti k116_31 rt_116 (by decide) ?_
        exact h0 (fun z => absurd ((mI_has z.1 z.2.1 hN.2).mpr z.2.2).1 (Int32.not_le.mpr c3))
      · skip
        refine me_iload_n (p' := 17) k116_16 rfl rfl ?_
        refine me_aload_n (p' := 18) k116_17 rfl rfl ?_
        refine me_gfi (p' := 21) k116_18 rfl hs.1 (congrArg Prod.fst hs.2.1) hs.2.2.2.2.1 ?_
        rw [hN.1]
        refine me_iload_n (p' := 22) k116_21 rfl rfl ?_
        refine me_isub (p' := 23) k116_22 rfl rfl ?_
        refine me_ic_gt (p' := 26) k116_23 rfl (fun c4 => ?_) (fun c4 => ?_)
        · skip
          refine me_iconst (p' := 31) k116_30 rfl (v := nI 0) (by decide) ?_
          refine me_reti k116_31 rt_116 (by decide) ?_
          exact h0 (fun z => absurd ((mI_has z.1 z.2.1 hN.2).mpr z.2.2).2 (Int32.not_le.mpr c4))
        · skip
          refine me_iconst (p' := 27) k116_26 rfl (v := nI 1) (by decide) ?_
          refine me_goto k116_27 ?_
          refine me_reti k116_31 rt_116 (by decide) ?_
          exact h1 ⟨Int32.not_lt.mp c1, Int32.not_lt.mp c2, (mI_has (Int32.not_lt.mp c1) (Int32.not_lt.mp c2) hN.2).mp ⟨Int32.not_lt.mp c3, Int32.not_lt.mp c4⟩⟩
theorem hs_ne {a b : Nat} (h : mShR a b) : b ≠ a := by
  rintro rfl
  have h1 := h.2.1
  have h2 := h.2.2.2.2.2.2.1
  rw [h1] at h2
  exact absurd (congrArg Prod.fst h2) (by decide)
theorem sp_has1 {p : Int32} {N : Nat} (hN : N ≤ 24) : (0 ≤ p ∧ 0 ≤ nI 1 ∧ p.toNatClampNeg + (nI 1).toNatClampNeg ≤ N) ↔ ∃ k : Nat, k < N ∧ p = nI k := by
  rw [nI_clamp (show 1 < 2 ^ 31 by decide)]
  constructor
  · rintro ⟨h1, -, h3⟩
    obtain ⟨k, rfl, hk⟩ := mI_of h1
    rw [nI_clamp hk] at h3
    exact ⟨k, by omega, rfl⟩
  · rintro ⟨k, hk, rfl⟩
    rw [nI_clamp (by omega)]
    exact ⟨nI_pos' (by omega), by decide, by omega⟩
theorem lp_renew {d L : Nat} {xs : Nat → Int32} {J : Nat → Nat → Int32} {Q : Option Value → mj_H → Prop} {a b N : Nat} {so m : Int32} (hs : mShR a b) (hN : J a 2 = nI N ∧ N ≤ 24) (hQ : Q none (mg_h L xs (mw J b (fun q => if q < N then nI 0 else J b q)))) : ∀ k : Nat, k ≤ N → mj_Ev d 114 12 [.ref a, .int so, .int m, .int (nI k)] [] (mg_h L xs (mw J b (fun q => if q < k then nI 0 else J b q))) Q := by
  have hN2 := hN.2
  refine loop_ind (n := N) (fun k hk ih => ?_)
  refine me_iload_n (p' := 13) k114_12 rfl rfl ?_
  refine me_aload_n (p' := 14) k114_13 rfl rfl ?_
  refine me_gfi (p' := 17) k114_14 rfl hs.1 (congrArg Prod.fst hs.2.1) hs.2.2.2.2.1 ?_
  rw [mw_ne (fun z => hs_ne hs z.symm), hN.1]
  refine me_ic_ge (p' := 20) k114_17 rfl (fun c1 => ?_) (fun c1 => ?_)
  · skip
    rw [cI_le (a := N) (b := k) (by omega) (by omega)] at c1
    refine me_retv k114_33 rt_114 ?_
    obtain rfl : k = N := by omega
    exact hQ
  · skip
    rw [cI_le (a := N) (b := k) (by omega) (by omega)] at c1
    refine me_aload_n (p' := 21) k114_20 rfl rfl ?_
    refine me_gfr (p' := 24) k114_21 rfl hs.1 (congrArg Prod.fst hs.2.1) (b := b) hs.2.2.1 ?_
    refine me_iload_n (p' := 25) k114_24 rfl rfl ?_
    refine me_iconst (p' := 26) k114_25 rfl (v := nI 0) (by decide) ?_
    refine me_iast (p' := 27) k114_26 rfl hs.2.2.2.2.2.1 hs.2.2.2.2.2.2.1 (j := k) rfl (by omega) (by decide) (rc_nil _ (Nat.lt_of_lt_of_le hs.2.2.2.2.2.1 (by decide)) hs.2.2.2.2.2.2.2 _) ?_
    refine me_iinc (p' := 30) k114_27 rfl rfl rfl (v := nI (k + 1)) (mI_inc (by decide)) rfl ?_
    refine me_goto k114_30 ?_
    rw [mw_u, show up (fun q => if q < k then nI 0 else J b q) k (nI 0) = (fun q => if q < k + 1 then nI 0 else J b q) from by
      funext q
      unfold up
      dsimp only
      by_cases e : q = k
      · subst e; rw [if_pos rfl, if_pos (by omega)]
      · rw [if_neg e]
        by_cases e2 : q < k
        · rw [if_pos e2, if_pos (by omega)]
        · rw [if_neg e2, if_neg (by omega)]]
    exact ih (by omega)
theorem ct_renew {d L : Nat} {xs : Nat → Int32} {I : Nat → Nat → Int32} {Q : Option Value → mj_H → Prop} {a b N : Nat} {so : Int32} (hs : mShR a b) (hN : N ≤ 24) (hQ : Q none (mg_h L xs (mw (mg_u (mg_u I a 1 so) a 2 (nI N)) b (fun q => if q < N then nI 0 else (mg_u (mg_u I a 1 so) a 2 (nI N)) b q)))) : mj_Cl d 114 [.ref a, .int so, .int (nI N)] (mg_h L xs I) Q := by
  refine cl_start mx_114 (ls := [.ref a, .int so, .int (nI N), mj_no]) rfl ?_
  refine me_aload_n (p' := 1) k114_0 rfl rfl ?_
  refine me_iload_n (p' := 2) k114_1 rfl rfl ?_
  refine me_pfi (p' := 5) k114_2 rfl hs.1 (congrArg Prod.fst hs.2.1) hs.2.2.2.1 rfl rfl ?_
  refine me_aload_n (p' := 6) k114_5 rfl rfl ?_
  refine me_iload_n (p' := 7) k114_6 rfl rfl ?_
  refine me_pfi (p' := 10) k114_7 rfl hs.1 (congrArg Prod.fst hs.2.1) hs.2.2.2.2.1 rfl rfl ?_
  refine me_iconst (p' := 11) k114_10 rfl (v := nI 0) (by decide) ?_
  refine me_istore_n (p' := 12) k114_11 rfl ⟨Nat.le_of_ble_eq_true rfl, rfl⟩ rfl ?_
  have hE := lp_renew (d := d) (L := L) (xs := xs) (Q := Q) (J := (mg_u (mg_u I a 1 so) a 2 (nI N))) (a := a) (b := b) (N := N) (so := so) (m := nI N) hs ⟨mg_ueq, hN⟩ hQ 0 (Nat.zero_le _)
  rw [mw_c1] at hE
  exact hE
theorem ct_rowbecome {d L : Nat} {xs : Nat → Int32} {I : Nat → Nat → Int32} {Q : Option Value → mj_H → Prop} {a b a' b' : Nat} (hs : mShR a b) (hs' : mShR a' b') (hQ : Q none (mg_h L xs (mg_c (mg_u (mg_u I a 1 (I a' 1)) a 2 (mg_u I a 1 (I a' 1) a' 2)) b' 0 b 0 24))) : mj_Cl d 122 [.ref a, .ref a'] (mg_h L xs I) Q := by
  refine cl_start mx_122 (ls := [.ref a, .ref a']) rfl ?_
  refine me_aload_n (p' := 1) k122_0 rfl rfl ?_
  refine me_aload_n (p' := 2) k122_1 rfl rfl ?_
  refine me_gfi (p' := 5) k122_2 rfl hs'.1 (congrArg Prod.fst hs'.2.1) hs'.2.2.2.1 ?_
  refine me_pfi (p' := 8) k122_5 rfl hs.1 (congrArg Prod.fst hs.2.1) hs.2.2.2.1 rfl rfl ?_
  refine me_aload_n (p' := 9) k122_8 rfl rfl ?_
  refine me_aload_n (p' := 10) k122_9 rfl rfl ?_
  refine me_gfi (p' := 13) k122_10 rfl hs'.1 (congrArg Prod.fst hs'.2.1) hs'.2.2.2.2.1 ?_
  refine me_pfi (p' := 16) k122_13 rfl hs.1 (congrArg Prod.fst hs.2.1) hs.2.2.2.2.1 rfl rfl ?_
  refine me_aload_n (p' := 17) k122_16 rfl rfl ?_
  refine me_gfr (p' := 20) k122_17 rfl hs'.1 (congrArg Prod.fst hs'.2.1) (b := b') hs'.2.2.1 ?_
  refine me_iconst (p' := 21) k122_20 rfl (v := nI 0) (by decide) ?_
  refine me_aload_n (p' := 22) k122_21 rfl rfl ?_
  refine me_gfr (p' := 25) k122_22 rfl hs.1 (congrArg Prod.fst hs.2.1) (b := b) hs.2.2.1 ?_
  refine me_iconst (p' := 26) k122_25 rfl (v := nI 0) (by decide) ?_
  refine me_bipush (p' := 28) k122_26 rfl (v := nI 24) (by decide) ?_
  refine me_acp (p' := 31) k122_28 rfl hs'.2.2.2.2.2.1 hs.2.2.2.2.2.1 hs'.2.2.2.2.2.2.1 hs.2.2.2.2.2.2.1 (n := 24) (dp := 0) (sp := 0) rfl rfl rfl (by omega) (by omega) ⟨by decide, by decide⟩ (rc_nil _ (Nat.lt_of_lt_of_le hs'.2.2.2.2.2.1 (by decide)) hs'.2.2.2.2.2.2.2) (rc_nil _ (Nat.lt_of_lt_of_le hs.2.2.2.2.2.1 (by decide)) hs.2.2.2.2.2.2.2) (cl_sum rfl) ?_
  refine me_retv k122_31 rt_122 ?_
  exact hQ
theorem cW.sheet {I W : Nat → Nat → Int32} {j N : Nat} {so : Int32} (h : cW I W) (hj : j < 4) (hN : N ≤ 24) (hsz : ∀ i, i < 4 → sN W i ≤ 24) : cW (mw (mg_u (mg_u I (104 + 2 * j) 1 so) (104 + 2 * j) 2 (nI N)) (105 + 2 * j) (fun q => if q < N then nI 0 else (mg_u (mg_u I (104 + 2 * j) 1 so) (104 + 2 * j) 2 (nI N)) (105 + 2 * j) q)) (sp_shW W j so (nI N)) := by
  have w0 : ∀ i, sp_shW W j so (nI N) 0 i = if i = j then so else W 0 i := fun i => by
    unfold sp_shW
    rw [mw_ne (by decide), mg_un1 (by decide)]
    unfold mg_u
    simp
  have w1 : ∀ i, sp_shW W j so (nI N) 1 i = if i = j then nI N else W 1 i := fun i => by
    unfold sp_shW
    rw [mw_ne (by decide)]
    unfold mg_u
    simp
  have w2 : ∀ i, sp_shW W j so (nI N) 2 i = if 24 * j ≤ i ∧ i < 24 * j + 24 then nI 0 else W 2 i := fun i => by
    unfold sp_shW
    rw [mw_eq]
  have w3 : ∀ q i, 3 ≤ q → sp_shW W j so (nI N) q i = W q i := fun q i hq => by
    unfold sp_shW
    rw [mw_ne (by omega), mg_un1 (by omega), mg_un1 (by omega)]
  have n2 : ∀ i, sN2 (sp_shW W j so (nI N)) i = sN2 W i := fun i => by
    unfold sN2
    rw [w3 _ _ (by decide)]
  refine ⟨fun i hi => ?_, fun i hi => ?_⟩
  · obtain ⟨h1, h2, h3⟩ := h.1 i hi
    rw [w0, w1]
    by_cases e : i = j
    · subst e
      rw [if_pos rfl, if_pos rfl]
      refine ⟨by rw [mw_ne (by omega), mg_une (by omega), mg_ueq], by rw [mw_ne (by omega), mg_ueq], fun k hk => ?_⟩
      have hk2 : k < N := by
        unfold sN at hk
        rw [w1, if_pos rfl, nI_clamp (by omega)] at hk
        exact hk
      rw [mw_eq, if_pos hk2, w2, if_pos (by omega)]
    · rw [if_neg e, if_neg e]
      refine ⟨by rw [mw_ne (by omega), mg_un1 (by omega), mg_un1 (by omega)]; exact h1, by rw [mw_ne (by omega), mg_un1 (by omega), mg_un1 (by omega)]; exact h2, fun k hk => ?_⟩
      have hk2 : k < sN W i := by
        unfold sN at hk ⊢
        rw [w1, if_neg e] at hk
        exact hk
      rw [mw_ne (by omega), mg_un1 (by omega), mg_un1 (by omega), h3 k hk2, w2]
      by_cases e2 : 24 * j ≤ 24 * i + k ∧ 24 * i + k < 24 * j + 24
      · exfalso
        have h24 := hsz i hi
        omega
      · rw [if_neg e2]
  · obtain ⟨h1, h2, h3, h4⟩ := h.2 i hi
    rw [w3 3 i (by decide), w3 4 i (by decide), w3 5 i (by decide), n2]
    refine ⟨by rw [mw_ne (by omega), mg_un1 (by omega), mg_un1 (by omega)]; exact h1, fun z => ?_, fun z => ?_, fun z => ?_⟩
    · rw [mw_ne (by omega), mg_un1 (by omega), mg_un1 (by omega), mw_ne (by omega), mg_un1 (by omega), mg_un1 (by omega)]; exact h2 z
    · refine ⟨by rw [mw_ne (by omega), mg_un1 (by omega), mg_un1 (by omega)]; exact (h3 z).1, fun k hk => ?_⟩
      rw [mw_ne (by omega), mg_un1 (by omega), mg_un1 (by omega), w3 6 _ (by decide)]
      exact (h3 z).2 k hk
    · rw [mw_ne (by omega), mg_un1 (by omega), mg_un1 (by omega)]; exact h4 z
theorem ct_Csheet {d L : Nat} {xs : Nat → Int32} {I : Nat → Nat → Int32} {Q : Option Value → mj_H → Prop} {W : Nat → Nat → Int32} (hc : cW I W) (hwk : mWk W) {a so m : Int32} (hQ : ∀ I2, mFr mShL I I2 → cW I2 (sp_sheet W a so m).2 → Q (some (.int (sp_sheet W a so m).1)) (mg_h L xs I2)) : mj_Cl (d + 1) 113 [.ref 0, .int a, .int so, .int m] (mg_h L xs I) Q := by
  refine cl_start mx_113 (ls := [.ref 0, .int a, .int so, .int m, mj_no]) rfl ?_
  refine me_iload_n (p' := 1) k113_0 rfl rfl ?_
  refine me_cs (p' := 4) k113_1 rfl rfl rfl rfl rfl (cl_le mx_84 rfl) (by decide) (cl_sum rfl) (ct_CisSheet (fun k400 hk401 he => ?_) (fun hz402 => ?_))
  · skip
    subst he
    refine me_if_eq (p' := 7) k113_4 rfl (fun h => absurd h (by decide)) (fun _ => ?_)
    refine me_iload_n (p' := 8) k113_7 rfl rfl ?_
    refine me_iconst (p' := 9) k113_8 rfl (v := (-1)) (by decide) ?_
    refine me_iconst (p' := 10) k113_9 rfl (v := nI 1) (by decide) ?_
    refine me_cs (p' := 13) k113_10 rfl rfl rfl rfl rfl (cl_le mx_16 rfl) (by decide) (cl_sum rfl) (ct_isWithin (fun e403 => ?_) (fun e403 => ?_))
    · skip
      refine me_if_eq (p' := 16) k113_13 rfl (fun h => absurd h (by decide)) (fun _ => ?_)
      rcases mI_so e403 with rfl | rfl | rfl
      · skip
        refine me_iload_n (p' := 17) k113_16 rfl rfl ?_
        refine me_iconst (p' := 18) k113_17 rfl (v := (-1)) (by decide) ?_
        refine me_ic_eq (p' := 21) k113_18 rfl (fun c1 => ?_) (fun c1 => ?_)
        · skip
          refine me_iload_n (p' := 31) k113_30 rfl rfl ?_
          refine me_iconst (p' := 32) k113_31 rfl (v := (-1)) (by decide) ?_
          refine me_ic_eq (p' := 35) k113_32 rfl (fun c2 => ?_) (fun c2 => ?_)
          · skip
            refine me_iload_n (p' := 43) k113_42 rfl rfl ?_
            refine me_iconst (p' := 44) k113_43 rfl (v := (-1)) (by decide) ?_
            refine me_ic_ne (p' := 47) k113_44 rfl (fun c3 => ?_) (fun c3 => ?_)
            · skip
              refine me_iconst (p' := 48) k113_47 rfl (v := nI 0) (by decide) ?_
              refine me_goto k113_48 ?_
              refine me_istore (p' := 54) k113_52 rfl ⟨Nat.le_of_ble_eq_true rfl, rfl⟩ rfl ?_
              refine me_aload_n (p' := 55) k113_54 rfl rfl ?_
              refine me_gfr (p' := 58) k113_55 rfl (by decide) rfl (b := 56) rfl ?_
              refine me_iload_n (p' := 59) k113_58 rfl rfl ?_
              refine me_aald (p' := 60) k113_59 rfl (by decide) rfl ⟨by decide, by decide⟩ (j := k400) rfl (by omega) (by decide) (b := 104 + 2 * k400) (rc_56 k400 (by omega)) ?_
              refine me_iload_n (p' := 61) k113_60 rfl rfl ?_
              refine me_iload (p' := 63) k113_61 rfl rfl ?_
              refine me_cv (p' := 66) k113_63 rfl rfl (hs_S k400 (by omega)).1 (congrArg Prod.fst (hs_S k400 (by omega)).2.1) (by decide) (by decide) dp_114 rfl rfl (cl_le mx_114 rfl) (by decide) (cl_sum rfl) (ct_renew (hs_S k400 (by omega)) (by omega) ?_)
              refine me_iload (p' := 68) k113_66 rfl rfl ?_
              refine me_reti k113_68 rt_113 rfl ?_
              simp only [sp_sheet, sp_rg_s hk401 (by omega), if_pos e403, (show ((-1) : Int32) < 0 by decide), (eq_true c1), (eq_true c2), (eq_true c3), if_true, if_false, true_and, and_true, and_self] at hQ
              refine hQ _ (((mFr.up (ml_S k400 (by omega)).1).tr (mFr.up (ml_S k400 (by omega)).1)).tr (mFr.w (ml_S k400 (by omega)).2)) (cW.sheet hc (by omega) (by omega) (fun i hi => hwk.le hi))
            · skip
              exact absurd rfl c3
          · skip
            exact absurd rfl c2
        · skip
          exact absurd rfl c1
      · skip
        refine me_iload_n (p' := 17) k113_16 rfl rfl ?_
        refine me_iconst (p' := 18) k113_17 rfl (v := (-1)) (by decide) ?_
        refine me_ic_eq (p' := 21) k113_18 rfl (fun c4 => ?_) (fun c4 => ?_)
        · skip
          exact absurd c4 (by decide)
        · skip
          refine me_iload_n (p' := 22) k113_21 rfl rfl ?_
          refine me_bipush (p' := 24) k113_22 rfl (v := nI 24) (by decide) ?_
          refine me_ic_le (p' := 27) k113_24 rfl (fun c5 => ?_) (fun c5 => ?_)
          · skip
            refine me_iload_n (p' := 31) k113_30 rfl rfl ?_
            refine me_iconst (p' := 32) k113_31 rfl (v := (-1)) (by decide) ?_
            refine me_ic_eq (p' := 35) k113_32 rfl (fun c6 => ?_) (fun c6 => ?_)
            · skip
              exact absurd c6 (by decide)
            · skip
              refine me_iload_n (p' := 36) k113_35 rfl rfl ?_
              refine me_if_ge (p' := 39) k113_36 rfl (fun c7 => ?_) (fun c7 => ?_)
              · skip
                refine me_iload_n (p' := 43) k113_42 rfl rfl ?_
                refine me_iconst (p' := 44) k113_43 rfl (v := (-1)) (by decide) ?_
                refine me_ic_ne (p' := 47) k113_44 rfl (fun c8 => ?_) (fun c8 => ?_)
                · skip
                  exact absurd c8 (by decide)
                · skip
                  refine me_iload_n (p' := 52) k113_51 rfl rfl ?_
                  refine me_istore (p' := 54) k113_52 rfl ⟨Nat.le_of_ble_eq_true rfl, rfl⟩ rfl ?_
                  obtain ⟨m9, rfl, hm9⟩ := mI_b24 (v := m) (by assumption) (by assumption)
                  refine me_aload_n (p' := 55) k113_54 rfl rfl ?_
                  refine me_gfr (p' := 58) k113_55 rfl (by decide) rfl (b := 56) rfl ?_
                  refine me_iload_n (p' := 59) k113_58 rfl rfl ?_
                  refine me_aald (p' := 60) k113_59 rfl (by decide) rfl ⟨by decide, by decide⟩ (j := k400) rfl (by omega) (by decide) (b := 104 + 2 * k400) (rc_56 k400 (by omega)) ?_
                  refine me_iload_n (p' := 61) k113_60 rfl rfl ?_
                  refine me_iload (p' := 63) k113_61 rfl rfl ?_
                  refine me_cv (p' := 66) k113_63 rfl rfl (hs_S k400 (by omega)).1 (congrArg Prod.fst (hs_S k400 (by omega)).2.1) (by decide) (by decide) dp_114 rfl rfl (cl_le mx_114 rfl) (by decide) (cl_sum rfl) (ct_renew (hs_S k400 (by omega)) (by omega) ?_)
                  refine me_iload (p' := 68) k113_66 rfl rfl ?_
                  refine me_reti k113_68 rt_113 rfl ?_
                  simp only [sp_sheet, sp_rg_s hk401 (by omega), if_pos e403, (show ¬ (nI 0 : Int32) < 0 by decide), c4, (eq_true c5), c6, (eq_true c7), c8, if_true, if_false, true_and, and_true, and_self] at hQ
                  refine hQ _ (((mFr.up (ml_S k400 (by omega)).1).tr (mFr.up (ml_S k400 (by omega)).1)).tr (mFr.w (ml_S k400 (by omega)).2)) (cW.sheet hc (by omega) (by omega) (fun i hi => hwk.le hi))
              · skip
                refine me_ldc (p' := 41) k113_39 rfl (v := (-1000000014)) (by decide) ?_
                refine me_reti k113_41 rt_113 rfl ?_
                simp only [sp_sheet, sp_rg_s hk401 (by omega), if_pos e403, (show ¬ (nI 0 : Int32) < 0 by decide), c4, (eq_true c5), c6, c7, if_true, if_false, true_and, and_true, and_self] at hQ
                exact hQ _ mFr.rf hc
          · skip
            refine me_ldc (p' := 29) k113_27 rfl (v := (-1000000001)) (by decide) ?_
            refine me_reti k113_29 rt_113 rfl ?_
            simp only [sp_sheet, sp_rg_s hk401 (by omega), if_pos e403, (show ¬ (nI 0 : Int32) < 0 by decide), c4, c5, if_true, if_false, true_and, and_true, and_self] at hQ
            exact hQ _ mFr.rf hc
      · skip
        refine me_iload_n (p' := 17) k113_16 rfl rfl ?_
        refine me_iconst (p' := 18) k113_17 rfl (v := (-1)) (by decide) ?_
        refine me_ic_eq (p' := 21) k113_18 rfl (fun c9 => ?_) (fun c9 => ?_)
        · skip
          exact absurd c9 (by decide)
        · skip
          refine me_iload_n (p' := 22) k113_21 rfl rfl ?_
          refine me_bipush (p' := 24) k113_22 rfl (v := nI 24) (by decide) ?_
          refine me_ic_le (p' := 27) k113_24 rfl (fun c10 => ?_) (fun c10 => ?_)
          · skip
            refine me_iload_n (p' := 31) k113_30 rfl rfl ?_
            refine me_iconst (p' := 32) k113_31 rfl (v := (-1)) (by decide) ?_
            refine me_ic_eq (p' := 35) k113_32 rfl (fun c11 => ?_) (fun c11 => ?_)
            · skip
              exact absurd c11 (by decide)
            · skip
              refine me_iload_n (p' := 36) k113_35 rfl rfl ?_
              refine me_if_ge (p' := 39) k113_36 rfl (fun c12 => ?_) (fun c12 => ?_)
              · skip
                refine me_iload_n (p' := 43) k113_42 rfl rfl ?_
                refine me_iconst (p' := 44) k113_43 rfl (v := (-1)) (by decide) ?_
                refine me_ic_ne (p' := 47) k113_44 rfl (fun c13 => ?_) (fun c13 => ?_)
                · skip
                  exact absurd c13 (by decide)
                · skip
                  refine me_iload_n (p' := 52) k113_51 rfl rfl ?_
                  refine me_istore (p' := 54) k113_52 rfl ⟨Nat.le_of_ble_eq_true rfl, rfl⟩ rfl ?_
                  obtain ⟨m9, rfl, hm9⟩ := mI_b24 (v := m) (by assumption) (by assumption)
                  refine me_aload_n (p' := 55) k113_54 rfl rfl ?_
                  refine me_gfr (p' := 58) k113_55 rfl (by decide) rfl (b := 56) rfl ?_
                  refine me_iload_n (p' := 59) k113_58 rfl rfl ?_
                  refine me_aald (p' := 60) k113_59 rfl (by decide) rfl ⟨by decide, by decide⟩ (j := k400) rfl (by omega) (by decide) (b := 104 + 2 * k400) (rc_56 k400 (by omega)) ?_
                  refine me_iload_n (p' := 61) k113_60 rfl rfl ?_
                  refine me_iload (p' := 63) k113_61 rfl rfl ?_
                  refine me_cv (p' := 66) k113_63 rfl rfl (hs_S k400 (by omega)).1 (congrArg Prod.fst (hs_S k400 (by omega)).2.1) (by decide) (by decide) dp_114 rfl rfl (cl_le mx_114 rfl) (by decide) (cl_sum rfl) (ct_renew (hs_S k400 (by omega)) (by omega) ?_)
                  refine me_iload (p' := 68) k113_66 rfl rfl ?_
                  refine me_reti k113_68 rt_113 rfl ?_
                  simp only [sp_sheet, sp_rg_s hk401 (by omega), if_pos e403, (show ¬ (nI 1 : Int32) < 0 by decide), c9, (eq_true c10), c11, (eq_true c12), c13, if_true, if_false, true_and, and_true, and_self] at hQ
                  refine hQ _ (((mFr.up (ml_S k400 (by omega)).1).tr (mFr.up (ml_S k400 (by omega)).1)).tr (mFr.w (ml_S k400 (by omega)).2)) (cW.sheet hc (by omega) (by omega) (fun i hi => hwk.le hi))
              · skip
                refine me_ldc (p' := 41) k113_39 rfl (v := (-1000000014)) (by decide) ?_
                refine me_reti k113_41 rt_113 rfl ?_
                simp only [sp_sheet, sp_rg_s hk401 (by omega), if_pos e403, (show ¬ (nI 1 : Int32) < 0 by decide), c9, (eq_true c10), c11, c12, if_true, if_false, true_and, and_true, and_self] at hQ
                exact hQ _ mFr.rf hc
          · skip
            refine me_ldc (p' := 29) k113_27 rfl (v := (-1000000001)) (by decide) ?_
            refine me_reti k113_29 rt_113 rfl ?_
            simp only [sp_sheet, sp_rg_s hk401 (by omega), if_pos e403, (show ¬ (nI 1 : Int32) < 0 by decide), c9, c10, if_true, if_false, true_and, and_true, and_self] at hQ
            exact hQ _ mFr.rf hc
    · skip
      refine me_if_eq (p' := 16) k113_13 rfl (fun _ => ?_) (fun h => absurd (by decide) h)
      refine me_ldc (p' := 29) k113_27 rfl (v := (-1000000001)) (by decide) ?_
      refine me_reti k113_29 rt_113 rfl ?_
      simp only [sp_sheet, sp_rg_s hk401 (by omega), if_neg e403, if_true, if_false, true_and, and_true, and_self] at hQ
      exact hQ _ mFr.rf hc
  · skip
    refine me_if_eq (p' := 7) k113_4 rfl (fun _ => ?_) (fun h => absurd (by decide) h)
    refine me_ldc (p' := 29) k113_27 rfl (v := (-1000000001)) (by decide) ?_
    refine me_reti k113_29 rt_113 rfl ?_
    simp only [sp_sheet, sp_rg_n (by omega) hz402, if_true, if_false, true_and, and_true, and_self] at hQ
    exact hQ _ mFr.rf hc
