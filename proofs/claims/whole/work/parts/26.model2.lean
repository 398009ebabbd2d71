/-! ===== the model: sums, ROOM, kinds ===== -/
theorem loop_ind {n : Nat} {P : Nat → Prop} (h : ∀ k, k ≤ n → (k < n → P (k + 1)) → P k) : ∀ k, k ≤ n → P k := by
  have go : ∀ j k, n - k ≤ j → k ≤ n → P k := by
    intro j
    induction j with
    | zero => intro k h1 h2; exact h k h2 (fun z => by omega)
    | succ j ih => intro k h1 h2; exact h k h2 (fun z => ih (k + 1) (by omega) (by omega))
  intro k hk
  exact go (n - k) k (Nat.le_refl _) hk
/-- of all CARS but one (aw: none, if it is -1) together -/
def sp_sum (s : Nat → Int32) (aw : Int32) (w : Nat) : Nat → Int32
  | 0 => nI 0
  | k + 1 => sp_sum s aw w k + (if nI k = aw then nI 0 else s (53 + 7 * k + w))
def sF (s : Nat → Int32) (c : Nat) : Nat := (s (53 + 7 * c + 1)).toNatClampNeg
/-- FEET of the CARS: 0 .. 239 -/
def mFt (s : Nat → Int32) (n : Nat) : Prop := ∀ c : Nat, c < n → s (53 + 7 * c + 1) = nI (sF s c) ∧ sF s c < 240
def sp_feet (s : Nat → Int32) (c k : Nat) : Nat := if (sF s k + 240 - sF s c) % 240 = 0 ∧ k < c then 240 else (sF s k + 240 - sF s c) % 240
def sp_ml (s : Nat → Int32) (aw : Int32) (c : Nat) : Nat → Option Nat
  | 0 => none
  | k + 1 => if k = c ∨ nI k = aw then sp_ml s aw c k else match sp_ml s aw c k with
    | none => some (sp_feet s c k)
    | some l => some (if sp_feet s c k < l then sp_feet s c k else l)
theorem sp_feet_lt (s : Nat → Int32) (c k : Nat) : sp_feet s c k ≤ 240 := by
  unfold sp_feet
  split
  · omega
  · have := Nat.mod_lt (sF s k + 240 - sF s c) (show 0 < 240 by decide)
    omega
theorem sp_ml_lt (s : Nat → Int32) (aw : Int32) (c : Nat) : ∀ (k l : Nat), sp_ml s aw c k = some l → l ≤ 240
  | 0, l, h => by cases h
  | k + 1, l, h => by
    unfold sp_ml at h
    split at h
    · exact sp_ml_lt s aw c k l h
    · have hf := sp_feet_lt s c k
      split at h
      · cases h; exact hf
      · rename_i l0 h0
        cases h
        have := sp_ml_lt s aw c k l0 h0
        split <;> omega
def oI : Option Nat → Int32
  | none => (-1)
  | some l => nI l
def sp_room (s : Nat → Int32) (aw : Int32) (c n : Nat) : Int32 := match sp_ml s aw c n with
  | none => nI 240
  | some l => nI l - s 3
theorem lp_sumOf {d L : Nat} {xs : Nat → Int32} {I : Nat → Nat → Int32} {Q : Option Value → mj_H → Prop} {n w : Nat} (hn : mN (I 128) n) (hw : w < 7) (hQ : Q (some (.int (sp_sum (I 128) (I 127 4) w n))) (mg_h L xs I)) : ∀ k : Nat, k ≤ n → mj_Ev (d + 1) 161 4 [.ref 127, .int (nI w), .int (sp_sum (I 128) (I 127 4) w k), .int (nI k)] [] (mg_h L xs I) Q := by
  have hn8 := hn.2
  refine loop_ind (n := n) (fun k hk ih => ?_)
  refine me_iload_n (p' := 5) k161_4 rfl rfl ?_
  refine me_aload_n (p' := 6) k161_5 rfl rfl ?_
  refine me_gfr (p' := 9) k161_6 rfl (by decide) rfl (b := 128) rfl ?_
  refine me_iconst (p' := 10) k161_9 rfl (v := nI 1) (by decide) ?_
  refine me_iald (p' := 11) k161_10 rfl (by decide) rfl (j := 1) rfl (by omega) (by decide) rfl ?_
  rw [hn.1]
  refine me_ic_ge (p' := 14) k161_11 rfl (fun c1 => ?_) (fun c1 => ?_)
  · skip
    rw [cI_le (a := n) (b := k) (by omega) (by omega)] at c1
    refine me_iload_n (p' := 42) k161_41 rfl rfl ?_
    refine me_reti k161_42 rt_161 rfl ?_
    have e8 : k = n := by omega
    rw [e8]
    exact hQ
  · skip
    rw [cI_le (a := n) (b := k) (by omega) (by omega)] at c1
    refine me_iload_n (p' := 15) k161_14 rfl rfl ?_
    refine me_iload_n (p' := 16) k161_15 rfl rfl ?_
    refine me_aload_n (p' := 17) k161_16 rfl rfl ?_
    refine me_gfi (p' := 20) k161_17 rfl (by decide) rfl rfl ?_
    refine me_ic_ne (p' := 23) k161_20 rfl (fun c2 => ?_) (fun c2 => ?_)
    · skip
      refine me_iconst (p' := 24) k161_23 rfl (v := nI 0) (by decide) ?_
      refine me_goto k161_24 ?_
      refine me_iadd (p' := 34) k161_33 rfl rfl ?_
      refine me_istore_n (p' := 35) k161_34 rfl ⟨Nat.le_of_ble_eq_true rfl, rfl⟩ rfl ?_
      refine me_iinc (p' := 38) k161_35 rfl rfl rfl (v := nI (k + 1)) (mI_inc (by decide)) rfl ?_
      refine me_goto k161_38 ?_
      have e9 : ((sp_sum (I 128) (I 127 4) w k) + nI 0) = sp_sum (I 128) (I 127 4) w (k + 1) := by simp only [sp_sum, c2, if_true, if_false]
      rw [e9]
      exact ih (by omega)
    · skip
      refine me_aload_n (p' := 28) k161_27 rfl rfl ?_
      refine me_iload_n (p' := 29) k161_28 rfl rfl ?_
      refine me_iload_n (p' := 30) k161_29 rfl rfl ?_
      refine me_cv (p' := 33) k161_30 rfl rfl (by decide) rfl (by decide) (by decide) dp_141 rfl rfl (cl_le mx_141 rfl) (by decide) (cl_sum rfl) (ct_of (by omega) ?_)
      refine me_iadd (p' := 34) k161_33 rfl rfl ?_
      refine me_istore_n (p' := 35) k161_34 rfl ⟨Nat.le_of_ble_eq_true rfl, rfl⟩ rfl ?_
      refine me_iinc (p' := 38) k161_35 rfl rfl rfl (v := nI (k + 1)) (mI_inc (by decide)) rfl ?_
      refine me_goto k161_38 ?_
      have e9 : ((sp_sum (I 128) (I 127 4) w k) + (I 128 (53 + 7 * k + w))) = sp_sum (I 128) (I 127 4) w (k + 1) := by simp only [sp_sum, c2, if_true, if_false]
      rw [e9]
      exact ih (by omega)
theorem ct_sumOf {d L : Nat} {xs : Nat → Int32} {I : Nat → Nat → Int32} {Q : Option Value → mj_H → Prop} {n w : Nat} (hn : mN (I 128) n) (hw : w < 7) (hQ : Q (some (.int (sp_sum (I 128) (I 127 4) w n))) (mg_h L xs I)) : mj_Cl (d + 1) 161 [.ref 127, .int (nI w)] (mg_h L xs I) Q := by
  refine cl_start mx_161 (ls := [.ref 127, .int (nI w), mj_no, mj_no]) rfl ?_
  refine me_iconst (p' := 1) k161_0 rfl (v := nI 0) (by decide) ?_
  refine me_istore_n (p' := 2) k161_1 rfl ⟨Nat.le_of_ble_eq_true rfl, rfl⟩ rfl ?_
  refine me_iconst (p' := 3) k161_2 rfl (v := nI 0) (by decide) ?_
  refine me_istore_n (p' := 4) k161_3 rfl ⟨Nat.le_of_ble_eq_true rfl, rfl⟩ rfl ?_
  exact lp_sumOf hn hw hQ 0 (Nat.zero_le _)
def sp_loud (q : Nat) : Nat := [2, 1, 3, 1, 4, 0].getD q 0
theorem ct_loudOf {d L : Nat} {xs : Nat → Int32} {I : Nat → Nat → Int32} {Q : Option Value → mj_H → Prop} {c q : Nat} (hc : c < 8) (hk : I 128 (53 + 7 * c + 0) = nI q) (hq : q < 6) (hQ : Q (some (.int (nI (sp_loud q)))) (mg_h L xs I)) : mj_Cl (d + 1) 147 [.ref 127, .int (nI c)] (mg_h L xs I) Q := by
  refine cl_start mx_147 (ls := [.ref 127, .int (nI c)]) rfl ?_
  refine me_aload_n (p' := 1) k147_0 rfl rfl ?_
  refine me_iload_n (p' := 2) k147_1 rfl rfl ?_
  refine me_iconst (p' := 3) k147_2 rfl (v := nI 0) (by decide) ?_
  refine me_cv (p' := 6) k147_3 rfl rfl (by decide) rfl (by decide) (by decide) dp_141 rfl rfl (cl_le mx_141 rfl) (by decide) (cl_sum rfl) (ct_of (by omega) ?_)
  rw [hk]
  rcases (show q = 0 ∨ q = 1 ∨ q = 2 ∨ q = 3 ∨ q = 4 ∨ q = 5 by omega) with rfl | rfl | rfl | rfl | rfl | rfl
  · skip
    refine me_tsw (p' := 48) k147_6 (by decide) ?_
    refine me_iconst (p' := 49) k147_48 rfl (v := nI 2) (by decide) ?_
    refine me_reti k147_49 rt_147 rfl ?_
    exact hQ
  · skip
    refine me_tsw (p' := 40) k147_6 (by decide) ?_
    refine me_iconst (p' := 41) k147_40 rfl (v := nI 1) (by decide) ?_
    refine me_reti k147_41 rt_147 rfl ?_
    exact hQ
  · skip
    refine me_tsw (p' := 42) k147_6 (by decide) ?_
    refine me_iconst (p' := 43) k147_42 rfl (v := nI 3) (by decide) ?_
    refine me_reti k147_43 rt_147 rfl ?_
    exact hQ
  · skip
    refine me_tsw (p' := 40) k147_6 (by decide) ?_
    refine me_iconst (p' := 41) k147_40 rfl (v := nI 1) (by decide) ?_
    refine me_reti k147_41 rt_147 rfl ?_
    exact hQ
  · skip
    refine me_tsw (p' := 44) k147_6 (by decide) ?_
    refine me_iconst (p' := 45) k147_44 rfl (v := nI 4) (by decide) ?_
    refine me_reti k147_45 rt_147 rfl ?_
    exact hQ
  · skip
    refine me_tsw (p' := 46) k147_6 (by decide) ?_
    refine me_iconst (p' := 47) k147_46 rfl (v := nI 0) (by decide) ?_
    refine me_reti k147_47 rt_147 rfl ?_
    exact hQ
theorem mI_dist {a b : Nat} (ha : a < 240) (hb : b < 240) : nI a - nI b + nI 240 = nI (a + 240 - b) := by
  have e : nI (a + 240 - b) + nI b = nI a + nI 240 := by
    rw [mI_add, mI_add]
    congr 1
    omega
  have e2 : nI (a + 240 - b) = nI a + nI 240 - nI b := by
    rw [← e]
    simp
  rw [e2, Int32.sub_eq_add_neg, Int32.sub_eq_add_neg, Int32.add_assoc, Int32.add_assoc, Int32.add_comm (-nI b)]
theorem sp_ml_skip {s : Nat → Int32} {aw : Int32} {c k : Nat} (h : k = c ∨ nI k = aw) : sp_ml s aw c (k + 1) = sp_ml s aw c k := by
  rw [sp_ml, if_pos h]
theorem oI_ml {s : Nat → Int32} {aw : Int32} {c k f : Nat} (h1 : ¬ k = c) (h2 : ¬ nI k = aw) (hf : sp_feet s c k = f) : oI (sp_ml s aw c (k + 1)) = if oI (sp_ml s aw c k) < 0 then nI f else if oI (sp_ml s aw c k) ≤ nI f then oI (sp_ml s aw c k) else nI f := by
  rw [sp_ml, if_neg (fun z => z.elim h1 h2)]
  have hl := sp_ml_lt s aw c k
  have hfl := sp_feet_lt s c k
  rw [hf] at hfl
  cases hm : sp_ml s aw c k with
  | none =>
    dsimp only
    rw [hf]
    show nI f = if (-1 : Int32) < 0 then nI f else _
    rw [if_pos (by decide)]
  | some l =>
    have := hl l hm
    dsimp only
    rw [hf]
    show nI (if f < l then f else l) = if nI l < 0 then nI f else if nI l ≤ nI f then nI l else nI f
    rw [if_neg (nI_pos (by omega))]
    by_cases e : f < l
    · rw [if_pos e, if_neg (fun z => by have := (cI_le (by omega) (by omega)).mp z; omega)]
    · rw [if_neg e, if_pos ((cI_le (by omega) (by omega)).mpr (by omega))]
theorem sp_room_none {s : Nat → Int32} {aw : Int32} {c n : Nat} (h : oI (sp_ml s aw c n) < 0) : sp_room s aw c n = nI 240 := by
  unfold sp_room
  have hl := sp_ml_lt s aw c n
  cases hm : sp_ml s aw c n with
  | none => rfl
  | some l =>
    rw [hm] at h
    have := hl l hm
    exact absurd h (nI_pos (by omega))
theorem sp_room_some {s : Nat → Int32} {aw : Int32} {c n : Nat} (h : ¬ oI (sp_ml s aw c n) < 0) : sp_room s aw c n = oI (sp_ml s aw c n) - s 3 := by
  unfold sp_room
  cases hm : sp_ml s aw c n with
  | none =>
    rw [hm] at h
    exact absurd (by decide) h
  | some l => rfl
theorem lp_roomOf {d L : Nat} {xs : Nat → Int32} {I : Nat → Nat → Int32} {Q : Option Value → mj_H → Prop} {n c : Nat} (hn : mN (I 128) n) (hf : mFt (I 128) n) (hc : c < n) (hQ : Q (some (.int (sp_room (I 128) (I 127 4) c n))) (mg_h L xs I)) : ∀ k : Nat, k ≤ n → ∀ u : Value, mj_Ev (d + 1) 146 4 [.ref 127, .int (nI c), .int (oI (sp_ml (I 128) (I 127 4) c k)), .int (nI k), u] [] (mg_h L xs I) Q := by
  have hn8 := hn.2
  refine loop_ind (n := n) (fun k hk ih => ?_)
  intro u
  refine me_iload_n (p' := 5) k146_4 rfl rfl ?_
  refine me_aload_n (p' := 6) k146_5 rfl rfl ?_
  refine me_gfr (p' := 9) k146_6 rfl (by decide) rfl (b := 128) rfl ?_
  refine me_iconst (p' := 10) k146_9 rfl (v := nI 1) (by decide) ?_
  refine me_iald (p' := 11) k146_10 rfl (by decide) rfl (j := 1) rfl (by omega) (by decide) rfl ?_
  rw [hn.1]
  refine me_ic_ge (p' := 14) k146_11 rfl (fun c1 => ?_) (fun c1 => ?_)
  · skip
    rw [cI_le (a := n) (b := k) (by omega) (by omega)] at c1
    have e8 : k = n := by omega
    refine me_iload_n (p' := 94) k146_93 rfl rfl ?_
    refine me_if_ge (p' := 97) k146_94 rfl (fun c2 => ?_) (fun c2 => ?_)
    · skip
      refine me_iload_n (p' := 104) k146_103 rfl rfl ?_
      refine me_aload_n (p' := 105) k146_104 rfl rfl ?_
      refine me_gfr (p' := 108) k146_105 rfl (by decide) rfl (b := 128) rfl ?_
      refine me_iconst (p' := 109) k146_108 rfl (v := nI 3) (by decide) ?_
      refine me_iald (p' := 110) k146_109 rfl (by decide) rfl (j := 3) rfl (by omega) (by decide) rfl ?_
      refine me_isub (p' := 111) k146_110 rfl rfl ?_
      refine me_reti k146_111 rt_146 rfl ?_
      rw [sp_room_some (by rw [← e8]; exact Int32.not_lt.mpr c2), ← e8] at hQ
      exact hQ
    · skip
      refine me_sipush (p' := 100) k146_97 rfl (v := nI 240) (by decide) ?_
      refine me_goto k146_100 ?_
      refine me_reti k146_111 rt_146 rfl ?_
      rw [sp_room_none (by rw [← e8]; exact Int32.not_le.mp c2)] at hQ
      exact hQ
  · skip
    rw [cI_le (a := n) (b := k) (by omega) (by omega)] at c1
    refine me_iload_n (p' := 15) k146_14 rfl rfl ?_
    refine me_iload_n (p' := 16) k146_15 rfl rfl ?_
    refine me_ic_eq (p' := 19) k146_16 rfl (fun c3 => ?_) (fun c3 => ?_)
    · skip
      rw [cI_eq (a := k) (b := c) (by omega) (by omega)] at c3
      refine me_iinc (p' := 90) k146_87 rfl rfl rfl (v := nI (k + 1)) (mI_inc (by decide)) rfl ?_
      refine me_goto k146_90 ?_
      have e9 : (oI (sp_ml (I 128) (I 127 4) c k)) = oI (sp_ml (I 128) (I 127 4) c (k + 1)) := by rw [sp_ml_skip (Or.inl c3)]
      rw [e9]
      exact ih (by omega) _
    · skip
      rw [cI_eq (a := k) (b := c) (by omega) (by omega)] at c3
      refine me_iload_n (p' := 20) k146_19 rfl rfl ?_
      refine me_aload_n (p' := 21) k146_20 rfl rfl ?_
      refine me_gfi (p' := 24) k146_21 rfl (by decide) rfl rfl ?_
      refine me_ic_eq (p' := 27) k146_24 rfl (fun c4 => ?_) (fun c4 => ?_)
      · skip
        refine me_iinc (p' := 90) k146_87 rfl rfl rfl (v := nI (k + 1)) (mI_inc (by decide)) rfl ?_
        refine me_goto k146_90 ?_
        have e9 : (oI (sp_ml (I 128) (I 127 4) c k)) = oI (sp_ml (I 128) (I 127 4) c (k + 1)) := by rw [sp_ml_skip (Or.inr c4)]
        rw [e9]
        exact ih (by omega) _
      · skip
        refine me_aload_n (p' := 28) k146_27 rfl rfl ?_
        refine me_iload_n (p' := 29) k146_28 rfl rfl ?_
        refine me_iconst (p' := 30) k146_29 rfl (v := nI 1) (by decide) ?_
        refine me_cv (p' := 33) k146_30 rfl rfl (by decide) rfl (by decide) (by decide) dp_141 rfl rfl (cl_le mx_141 rfl) (by decide) (cl_sum rfl) (ct_of (by omega) ?_)
        refine me_aload_n (p' := 34) k146_33 rfl rfl ?_
        refine me_iload_n (p' := 35) k146_34 rfl rfl ?_
        refine me_iconst (p' := 36) k146_35 rfl (v := nI 1) (by decide) ?_
        refine me_cv (p' := 39) k146_36 rfl rfl (by decide) rfl (by decide) (by decide) dp_141 rfl rfl (cl_le mx_141 rfl) (by decide) (cl_sum rfl) (ct_of (by omega) ?_)
        rw [(hf k (by omega)).1, (hf c hc).1]
        refine me_isub (p' := 40) k146_39 rfl rfl ?_
        refine me_sipush (p' := 43) k146_40 rfl (v := nI 240) (by decide) ?_
        refine me_iadd (p' := 44) k146_43 rfl rfl ?_
        refine me_sipush (p' := 47) k146_44 rfl (v := nI 240) (by decide) ?_
        have f1 := (hf k (by omega)).2
        have f2 := (hf c hc).2
        rw [mI_dist (by omega) (by omega)]
        refine me_irem (p' := 48) k146_47 rfl (nI_ne0 (by omega) (by omega)) (v := nI ((sF (I 128) k + 240 - sF (I 128) c) % 240)) (mI_mod (by omega) (by omega)) ?_
        refine me_istore (p' := 50) k146_48 rfl ⟨Nat.le_of_ble_eq_true rfl, rfl⟩ rfl ?_
        refine me_iload (p' := 52) k146_50 rfl rfl ?_
        refine me_if_ne (p' := 55) k146_52 rfl (fun c5 => ?_) (fun c5 => ?_)
        · skip
          rw [cI_eq0 (a := (sF (I 128) k + 240 - sF (I 128) c) % 240) (by omega)] at c5
          refine me_iload_n (p' := 56) k146_55 rfl rfl ?_
          refine me_iload_n (p' := 57) k146_56 rfl rfl ?_
          refine me_ic_ge (p' := 60) k146_57 rfl (fun c6 => ?_) (fun c6 => ?_)
          · skip
            rw [cI_le (a := c) (b := k) (by omega) (by omega)] at c6
            refine me_iload (p' := 68) k146_66 rfl rfl ?_
            refine me_istore (p' := 70) k146_68 rfl ⟨Nat.le_of_ble_eq_true rfl, rfl⟩ rfl ?_
            refine me_iload_n (p' := 71) k146_70 rfl rfl ?_
            refine me_if_lt (p' := 74) k146_71 rfl (fun c7 => ?_) (fun c7 => ?_)
            · skip
              refine me_iload (p' := 82) k146_80 rfl rfl ?_
              refine me_goto k146_82 ?_
              refine me_istore_n (p' := 87) k146_86 rfl ⟨Nat.le_of_ble_eq_true rfl, rfl⟩ rfl ?_
              refine me_iinc (p' := 90) k146_87 rfl rfl rfl (v := nI (k + 1)) (mI_inc (by decide)) rfl ?_
              refine me_goto k146_90 ?_
              have e9 : nI ((sF (I 128) k + 240 - sF (I 128) c) % 240) = oI (sp_ml (I 128) (I 127 4) c (k + 1)) := by
                rw [oI_ml (f := (sF (I 128) k + 240 - sF (I 128) c) % 240) c3 c4 (by unfold sp_feet; split <;> omega)]
                rw [if_pos c7]
              rw [e9]
              exact ih (by omega) _
            · skip
              refine me_iload (p' := 76) k146_74 rfl rfl ?_
              refine me_iload_n (p' := 77) k146_76 rfl rfl ?_
              refine me_ic_ge (p' := 80) k146_77 rfl (fun c8 => ?_) (fun c8 => ?_)
              · skip
                refine me_iload_n (p' := 86) k146_85 rfl rfl ?_
                refine me_istore_n (p' := 87) k146_86 rfl ⟨Nat.le_of_ble_eq_true rfl, rfl⟩ rfl ?_
                refine me_iinc (p' := 90) k146_87 rfl rfl rfl (v := nI (k + 1)) (mI_inc (by decide)) rfl ?_
                refine me_goto k146_90 ?_
                have e9 : (oI (sp_ml (I 128) (I 127 4) c k)) = oI (sp_ml (I 128) (I 127 4) c (k + 1)) := by
                  rw [oI_ml (f := (sF (I 128) k + 240 - sF (I 128) c) % 240) c3 c4 (by unfold sp_feet; split <;> omega)]
                  rw [if_neg c7, if_pos c8]
                rw [e9]
                exact ih (by omega) _
              · skip
                refine me_iload (p' := 82) k146_80 rfl rfl ?_
                refine me_goto k146_82 ?_
                refine me_istore_n (p' := 87) k146_86 rfl ⟨Nat.le_of_ble_eq_true rfl, rfl⟩ rfl ?_
                refine me_iinc (p' := 90) k146_87 rfl rfl rfl (v := nI (k + 1)) (mI_inc (by decide)) rfl ?_
                refine me_goto k146_90 ?_
                have e9 : nI ((sF (I 128) k + 240 - sF (I 128) c) % 240) = oI (sp_ml (I 128) (I 127 4) c (k + 1)) := by
                  rw [oI_ml (f := (sF (I 128) k + 240 - sF (I 128) c) % 240) c3 c4 (by unfold sp_feet; split <;> omega)]
                  rw [if_neg c7, if_neg c8]
                rw [e9]
                exact ih (by omega) _
          · skip
            rw [cI_le (a := c) (b := k) (by omega) (by omega)] at c6
            refine me_sipush (p' := 63) k146_60 rfl (v := nI 240) (by decide) ?_
            refine me_goto k146_63 ?_
            refine me_istore (p' := 70) k146_68 rfl ⟨Nat.le_of_ble_eq_true rfl, rfl⟩ rfl ?_
            refine me_iload_n (p' := 71) k146_70 rfl rfl ?_
            refine me_if_lt (p' := 74) k146_71 rfl (fun c9 => ?_) (fun c9 => ?_)
            · skip
              refine me_iload (p' := 82) k146_80 rfl rfl ?_
              refine me_goto k146_82 ?_
              refine me_istore_n (p' := 87) k146_86 rfl ⟨Nat.le_of_ble_eq_true rfl, rfl⟩ rfl ?_
              refine me_iinc (p' := 90) k146_87 rfl rfl rfl (v := nI (k + 1)) (mI_inc (by decide)) rfl ?_
              refine me_goto k146_90 ?_
              have e9 : nI 240 = oI (sp_ml (I 128) (I 127 4) c (k + 1)) := by
                rw [oI_ml (f := 240) c3 c4 (by unfold sp_feet; split <;> omega)]
                rw [if_pos c9]
              rw [e9]
              exact ih (by omega) _
            · skip
              refine me_iload (p' := 76) k146_74 rfl rfl ?_
              refine me_iload_n (p' := 77) k146_76 rfl rfl ?_
              refine me_ic_ge (p' := 80) k146_77 rfl (fun c10 => ?_) (fun c10 => ?_)
              · skip
                refine me_iload_n (p' := 86) k146_85 rfl rfl ?_
                refine me_istore_n (p' := 87) k146_86 rfl ⟨Nat.le_of_ble_eq_true rfl, rfl⟩ rfl ?_
                refine me_iinc (p' := 90) k146_87 rfl rfl rfl (v := nI (k + 1)) (mI_inc (by decide)) rfl ?_
                refine me_goto k146_90 ?_
                have e9 : (oI (sp_ml (I 128) (I 127 4) c k)) = oI (sp_ml (I 128) (I 127 4) c (k + 1)) := by
                  rw [oI_ml (f := 240) c3 c4 (by unfold sp_feet; split <;> omega)]
                  rw [if_neg c9, if_pos c10]
                rw [e9]
                exact ih (by omega) _
              · skip
                refine me_iload (p' := 82) k146_80 rfl rfl ?_
                refine me_goto k146_82 ?_
                refine me_istore_n (p' := 87) k146_86 rfl ⟨Nat.le_of_ble_eq_true rfl, rfl⟩ rfl ?_
                refine me_iinc (p' := 90) k146_87 rfl rfl rfl (v := nI (k + 1)) (mI_inc (by decide)) rfl ?_
                refine me_goto k146_90 ?_
                have e9 : nI 240 = oI (sp_ml (I 128) (I 127 4) c (k + 1)) := by
                  rw [oI_ml (f := 240) c3 c4 (by unfold sp_feet; split <;> omega)]
                  rw [if_neg c9, if_neg c10]
                rw [e9]
                exact ih (by omega) _
        · skip
          rw [cI_eq0 (a := (sF (I 128) k + 240 - sF (I 128) c) % 240) (by omega)] at c5
          refine me_iload (p' := 68) k146_66 rfl rfl ?_
          refine me_istore (p' := 70) k146_68 rfl ⟨Nat.le_of_ble_eq_true rfl, rfl⟩ rfl ?_
          refine me_iload_n (p' := 71) k146_70 rfl rfl ?_
          refine me_if_lt (p' := 74) k146_71 rfl (fun c11 => ?_) (fun c11 => ?_)
          · skip
            refine me_iload (p' := 82) k146_80 rfl rfl ?_
            refine me_goto k146_82 ?_
            refine me_istore_n (p' := 87) k146_86 rfl ⟨Nat.le_of_ble_eq_true rfl, rfl⟩ rfl ?_
            refine me_iinc (p' := 90) k146_87 rfl rfl rfl (v := nI (k + 1)) (mI_inc (by decide)) rfl ?_
            refine me_goto k146_90 ?_
            have e9 : nI ((sF (I 128) k + 240 - sF (I 128) c) % 240) = oI (sp_ml (I 128) (I 127 4) c (k + 1)) := by
              rw [oI_ml (f := (sF (I 128) k + 240 - sF (I 128) c) % 240) c3 c4 (by unfold sp_feet; split <;> omega)]
              rw [if_pos c11]
            rw [e9]
            exact ih (by omega) _
          · skip
            refine me_iload (p' := 76) k146_74 rfl rfl ?_
            refine me_iload_n (p' := 77) k146_76 rfl rfl ?_
            refine me_ic_ge (p' := 80) k146_77 rfl (fun c12 => ?_) (fun c12 => ?_)
            · skip
              refine me_iload_n (p' := 86) k146_85 rfl rfl ?_
              refine me_istore_n (p' := 87) k146_86 rfl ⟨Nat.le_of_ble_eq_true rfl, rfl⟩ rfl ?_
              refine me_iinc (p' := 90) k146_87 rfl rfl rfl (v := nI (k + 1)) (mI_inc (by decide)) rfl ?_
              refine me_goto k146_90 ?_
              have e9 : (oI (sp_ml (I 128) (I 127 4) c k)) = oI (sp_ml (I 128) (I 127 4) c (k + 1)) := by
                rw [oI_ml (f := (sF (I 128) k + 240 - sF (I 128) c) % 240) c3 c4 (by unfold sp_feet; split <;> omega)]
                rw [if_neg c11, if_pos c12]
              rw [e9]
              exact ih (by omega) _
            · skip
              refine me_iload (p' := 82) k146_80 rfl rfl ?_
              refine me_goto k146_82 ?_
              refine me_istore_n (p' := 87) k146_86 rfl ⟨Nat.le_of_ble_eq_true rfl, rfl⟩ rfl ?_
              refine me_iinc (p' := 90) k146_87 rfl rfl rfl (v := nI (k + 1)) (mI_inc (by decide)) rfl ?_
              refine me_goto k146_90 ?_
              have e9 : nI ((sF (I 128) k + 240 - sF (I 128) c) % 240) = oI (sp_ml (I 128) (I 127 4) c (k + 1)) := by
                rw [oI_ml (f := (sF (I 128) k + 240 - sF (I 128) c) % 240) c3 c4 (by unfold sp_feet; split <;> omega)]
                rw [if_neg c11, if_neg c12]
              rw [e9]
              exact ih (by omega) _
theorem ct_roomOf {d L : Nat} {xs : Nat → Int32} {I : Nat → Nat → Int32} {Q : Option Value → mj_H → Prop} {n c : Nat} (hn : mN (I 128) n) (hf : mFt (I 128) n) (hc : c < n) (hQ : Q (some (.int (sp_room (I 128) (I 127 4) c n))) (mg_h L xs I)) : mj_Cl (d + 1) 146 [.ref 127, .int (nI c)] (mg_h L xs I) Q := by
  refine cl_start mx_146 (ls := [.ref 127, .int (nI c), mj_no, mj_no, mj_no]) rfl ?_
  refine me_iconst (p' := 1) k146_0 rfl (v := (-1)) (by decide) ?_
  refine me_istore_n (p' := 2) k146_1 rfl ⟨Nat.le_of_ble_eq_true rfl, rfl⟩ rfl ?_
  refine me_iconst (p' := 3) k146_2 rfl (v := nI 0) (by decide) ?_
  refine me_istore_n (p' := 4) k146_3 rfl ⟨Nat.le_of_ble_eq_true rfl, rfl⟩ rfl ?_
  exact lp_roomOf hn hf hc hQ 0 (Nat.zero_le _) _
