/-! ===== the model: signs, ranks, what waits ===== -/
/-- what waits and what stands -/
def mPs (I : Nat → Nat → Int32) (S o : List Nat) : Prop := I 127 20 = nI S.length ∧ mStk (I 136) (S.map fun x => -(nI x)) ∧ I 127 17 = nI o.length ∧ ∀ j : Nat, j < o.length → I 135 j = sp_mc (o.getD j 0)
theorem sg_neg : ∀ x : Nat, x < 12 → (nI x = 0 ↔ x = 0) ∧ (-(nI x) = nI 0 ↔ x = 0) := by decide
theorem ng_eq : ∀ x : Nat, x < 12 → ∀ y : Nat, y < 12 → (-(nI x) = -(nI y) ↔ x = y) ∧ (-(nI x) < -(nI y) ↔ y < x) := by decide
theorem ng_c : (-1 : Int32) = -(nI 1) ∧ (-2 : Int32) = -(nI 2) ∧ (-5 : Int32) = -(nI 5) ∧ (-7 : Int32) = -(nI 7) ∧ (-9 : Int32) = -(nI 9) ∧ (-10 : Int32) = -(nI 10) ∧ (-11 : Int32) = -(nI 11) := by decide
theorem ct_rank {d L : Nat} {xs : Nat → Int32} {I : Nat → Nat → Int32} {Q : Option Value → mj_H → Prop} {x : Nat} (hx : 1 ≤ x ∧ x ≤ 11) (hQ : Q (some (.int (nI (tRk x)))) (mg_h L xs I)) : mj_Cl d 197 [.int (-(nI x))] (mg_h L xs I) Q := by
  refine cl_start mx_197 (ls := [.int (-(nI x))]) rfl ?_
  refine me_iload_n (p' := 1) k197_0 rfl rfl ?_
  refine me_iconst (p' := 2) k197_1 rfl (v := (-1)) (by decide) ?_
  refine me_ic_ne (p' := 5) k197_2 rfl (fun c1 => ?_) (fun c1 => ?_)
  · skip
    refine me_iconst (p' := 6) k197_5 rfl (v := nI 1) (by decide) ?_
    refine me_goto k197_6 ?_
    refine me_reti k197_51 rt_197 rfl ?_
    rw [ng_c.1, (ng_eq x (by omega) 1 (by decide)).1] at c1
    have : tRk x = 1 := by
      have h : ∀ x : Nat, x < 12 → x = 1 → tRk x = 1 := by decide
      exact h x (by omega) (by omega)
    rw [this] at hQ
    exact hQ
  · skip
    refine me_iload_n (p' := 10) k197_9 rfl rfl ?_
    refine me_bipush (p' := 12) k197_10 rfl (v := (-2)) (by decide) ?_
    refine me_ic_ne (p' := 15) k197_12 rfl (fun c2 => ?_) (fun c2 => ?_)
    · skip
      refine me_iconst (p' := 16) k197_15 rfl (v := nI 2) (by decide) ?_
      refine me_goto k197_16 ?_
      refine me_reti k197_51 rt_197 rfl ?_
      rw [ng_c.1, (ng_eq x (by omega) 1 (by decide)).1] at c1
      rw [ng_c.2.1, (ng_eq x (by omega) 2 (by decide)).1] at c2
      have : tRk x = 2 := by
        have h : ∀ x : Nat, x < 12 → x = 2 → tRk x = 2 := by decide
        exact h x (by omega) (by omega)
      rw [this] at hQ
      exact hQ
    · skip
      refine me_iload_n (p' := 20) k197_19 rfl rfl ?_
      refine me_bipush (p' := 22) k197_20 rfl (v := (-5)) (by decide) ?_
      refine me_ic_lt (p' := 25) k197_22 rfl (fun c3 => ?_) (fun c3 => ?_)
      · skip
        refine me_iload_n (p' := 30) k197_29 rfl rfl ?_
        refine me_bipush (p' := 32) k197_30 rfl (v := (-7)) (by decide) ?_
        refine me_ic_lt (p' := 35) k197_32 rfl (fun c4 => ?_) (fun c4 => ?_)
        · skip
          refine me_iload_n (p' := 40) k197_39 rfl rfl ?_
          refine me_bipush (p' := 42) k197_40 rfl (v := (-9)) (by decide) ?_
          refine me_ic_lt (p' := 45) k197_42 rfl (fun c5 => ?_) (fun c5 => ?_)
          · skip
            refine me_bipush (p' := 51) k197_49 rfl (v := nI 6) (by decide) ?_
            refine me_reti k197_51 rt_197 rfl ?_
            rw [ng_c.1, (ng_eq x (by omega) 1 (by decide)).1] at c1
            rw [ng_c.2.1, (ng_eq x (by omega) 2 (by decide)).1] at c2
            rw [ng_c.2.2.1, (ng_eq x (by omega) 5 (by decide)).2] at c3
            rw [ng_c.2.2.2.1, (ng_eq x (by omega) 7 (by decide)).2] at c4
            rw [ng_c.2.2.2.2.1, (ng_eq x (by omega) 9 (by decide)).2] at c5
            have : tRk x = 6 := by
              have h : ∀ x : Nat, x < 12 → 10 ≤ x → tRk x = 6 := by decide
              exact h x (by omega) (by omega)
            rw [this] at hQ
            exact hQ
          · skip
            refine me_iconst (p' := 46) k197_45 rfl (v := nI 5) (by decide) ?_
            refine me_goto k197_46 ?_
            refine me_reti k197_51 rt_197 rfl ?_
            rw [ng_c.1, (ng_eq x (by omega) 1 (by decide)).1] at c1
            rw [ng_c.2.1, (ng_eq x (by omega) 2 (by decide)).1] at c2
            rw [ng_c.2.2.1, (ng_eq x (by omega) 5 (by decide)).2] at c3
            rw [ng_c.2.2.2.1, (ng_eq x (by omega) 7 (by decide)).2] at c4
            rw [ng_c.2.2.2.2.1, (ng_eq x (by omega) 9 (by decide)).2] at c5
            have : tRk x = 5 := by
              have h : ∀ x : Nat, x < 12 → (8 ≤ x ∧ x ≤ 9) → tRk x = 5 := by decide
              exact h x (by omega) (by omega)
            rw [this] at hQ
            exact hQ
        · skip
          refine me_iconst (p' := 36) k197_35 rfl (v := nI 4) (by decide) ?_
          refine me_goto k197_36 ?_
          refine me_reti k197_51 rt_197 rfl ?_
          rw [ng_c.1, (ng_eq x (by omega) 1 (by decide)).1] at c1
          rw [ng_c.2.1, (ng_eq x (by omega) 2 (by decide)).1] at c2
          rw [ng_c.2.2.1, (ng_eq x (by omega) 5 (by decide)).2] at c3
          rw [ng_c.2.2.2.1, (ng_eq x (by omega) 7 (by decide)).2] at c4
          have : tRk x = 4 := by
            have h : ∀ x : Nat, x < 12 → (6 ≤ x ∧ x ≤ 7) → tRk x = 4 := by decide
            exact h x (by omega) (by omega)
          rw [this] at hQ
          exact hQ
      · skip
        refine me_iconst (p' := 26) k197_25 rfl (v := nI 3) (by decide) ?_
        refine me_goto k197_26 ?_
        refine me_reti k197_51 rt_197 rfl ?_
        rw [ng_c.1, (ng_eq x (by omega) 1 (by decide)).1] at c1
        rw [ng_c.2.1, (ng_eq x (by omega) 2 (by decide)).1] at c2
        rw [ng_c.2.2.1, (ng_eq x (by omega) 5 (by decide)).2] at c3
        have : tRk x = 3 := by
          have h : ∀ x : Nat, x < 12 → (3 ≤ x ∧ x ≤ 5) → tRk x = 3 := by decide
          exact h x (by omega) (by omega)
        rw [this] at hQ
        exact hQ
theorem ct_nameOf {d L : Nat} {xs : Nat → Int32} {I : Nat → Nat → Int32} {Q : Option Value → mj_H → Prop} {b key : Nat} (hb : b < 256) (hkey : I 127 13 = nI key) (hk3 : key < 3) (hQ : Q (some (.int (oI (tPos b (tNms key) 0)))) (mg_h L xs I)) : mj_Cl d 195 [.ref 127, .int (nI b)] (mg_h L xs I) Q := by
  refine cl_start mx_195 (ls := [.ref 127, .int (nI b)]) rfl ?_
  refine me_aload_n (p' := 1) k195_0 rfl rfl ?_
  refine me_gfi (p' := 4) k195_1 rfl (by decide) rfl rfl ?_
  rw [hkey]
  rcases (show key = 0 ∨ key = 1 ∨ key = 2 by omega) with rfl | rfl | rfl
  · skip
    refine me_lsw (p' := 32) k195_4 (by decide) ?_
    refine me_iload_n (p' := 33) k195_32 rfl rfl ?_
    refine me_bipush (p' := 35) k195_33 rfl (v := nI 119) (by decide) ?_
    refine me_ic_ne (p' := 38) k195_35 rfl (fun c1 => ?_) (fun c1 => ?_)
    · skip
      rw [cI_eq (a := b) (b := 119) (by omega) (by omega)] at c1
      refine me_iconst (p' := 39) k195_38 rfl (v := nI 0) (by decide) ?_
      refine me_goto k195_39 ?_
      refine me_reti k195_63 rt_195 rfl ?_
      rw [show tPos b (tNms 0) 0 = some 0 from by show (if b = 119 then some 0 else (if b = 114 then some 1 else (if b = 98 then some 2 else none))) = _; rw [if_pos c1]] at hQ
      exact hQ
    · skip
      rw [cI_eq (a := b) (b := 119) (by omega) (by omega)] at c1
      refine me_iload_n (p' := 43) k195_42 rfl rfl ?_
      refine me_bipush (p' := 45) k195_43 rfl (v := nI 114) (by decide) ?_
      refine me_ic_ne (p' := 48) k195_45 rfl (fun c2 => ?_) (fun c2 => ?_)
      · skip
        rw [cI_eq (a := b) (b := 114) (by omega) (by omega)] at c2
        refine me_iconst (p' := 49) k195_48 rfl (v := nI 1) (by decide) ?_
        refine me_goto k195_49 ?_
        refine me_reti k195_63 rt_195 rfl ?_
        rw [show tPos b (tNms 0) 0 = some 1 from by show (if b = 119 then some 0 else (if b = 114 then some 1 else (if b = 98 then some 2 else none))) = _; rw [if_neg c1, if_pos c2]] at hQ
        exact hQ
      · skip
        rw [cI_eq (a := b) (b := 114) (by omega) (by omega)] at c2
        refine me_iload_n (p' := 53) k195_52 rfl rfl ?_
        refine me_bipush (p' := 55) k195_53 rfl (v := nI 98) (by decide) ?_
        refine me_ic_ne (p' := 58) k195_55 rfl (fun c3 => ?_) (fun c3 => ?_)
        · skip
          rw [cI_eq (a := b) (b := 98) (by omega) (by omega)] at c3
          refine me_iconst (p' := 59) k195_58 rfl (v := nI 2) (by decide) ?_
          refine me_goto k195_59 ?_
          refine me_reti k195_63 rt_195 rfl ?_
          rw [show tPos b (tNms 0) 0 = some 2 from by show (if b = 119 then some 0 else (if b = 114 then some 1 else (if b = 98 then some 2 else none))) = _; rw [if_neg c1, if_neg c2, if_pos c3]] at hQ
          exact hQ
        · skip
          rw [cI_eq (a := b) (b := 98) (by omega) (by omega)] at c3
          refine me_iconst (p' := 63) k195_62 rfl (v := (-1)) (by decide) ?_
          refine me_reti k195_63 rt_195 rfl ?_
          rw [show tPos b (tNms 0) 0 = none from by show (if b = 119 then some 0 else (if b = 114 then some 1 else (if b = 98 then some 2 else none))) = _; rw [if_neg c1, if_neg c2, if_neg c3]] at hQ
          exact hQ
  · skip
    refine me_lsw (p' := 64) k195_4 (by decide) ?_
    refine me_iload_n (p' := 65) k195_64 rfl rfl ?_
    refine me_bipush (p' := 67) k195_65 rfl (v := nI 115) (by decide) ?_
    refine me_ic_ne (p' := 70) k195_67 rfl (fun c4 => ?_) (fun c4 => ?_)
    · skip
      rw [cI_eq (a := b) (b := 115) (by omega) (by omega)] at c4
      refine me_iconst (p' := 71) k195_70 rfl (v := nI 0) (by decide) ?_
      refine me_goto k195_71 ?_
      refine me_reti k195_85 rt_195 rfl ?_
      rw [show tPos b (tNms 1) 0 = some 0 from by show (if b = 115 then some 0 else (if b = 116 then some 1 else none)) = _; rw [if_pos c4]] at hQ
      exact hQ
    · skip
      rw [cI_eq (a := b) (b := 115) (by omega) (by omega)] at c4
      refine me_iload_n (p' := 75) k195_74 rfl rfl ?_
      refine me_bipush (p' := 77) k195_75 rfl (v := nI 116) (by decide) ?_
      refine me_ic_ne (p' := 80) k195_77 rfl (fun c5 => ?_) (fun c5 => ?_)
      · skip
        rw [cI_eq (a := b) (b := 116) (by omega) (by omega)] at c5
        refine me_iconst (p' := 81) k195_80 rfl (v := nI 1) (by decide) ?_
        refine me_goto k195_81 ?_
        refine me_reti k195_85 rt_195 rfl ?_
        rw [show tPos b (tNms 1) 0 = some 1 from by show (if b = 115 then some 0 else (if b = 116 then some 1 else none)) = _; rw [if_neg c4, if_pos c5]] at hQ
        exact hQ
      · skip
        rw [cI_eq (a := b) (b := 116) (by omega) (by omega)] at c5
        refine me_iconst (p' := 85) k195_84 rfl (v := (-1)) (by decide) ?_
        refine me_reti k195_85 rt_195 rfl ?_
        rw [show tPos b (tNms 1) 0 = none from by show (if b = 115 then some 0 else (if b = 116 then some 1 else none)) = _; rw [if_neg c4, if_neg c5]] at hQ
        exact hQ
  · skip
    refine me_lsw (p' := 86) k195_4 (by decide) ?_
    refine me_iload_n (p' := 87) k195_86 rfl rfl ?_
    refine me_bipush (p' := 89) k195_87 rfl (v := nI 102) (by decide) ?_
    refine me_ic_ne (p' := 92) k195_89 rfl (fun c6 => ?_) (fun c6 => ?_)
    · skip
      rw [cI_eq (a := b) (b := 102) (by omega) (by omega)] at c6
      refine me_iconst (p' := 93) k195_92 rfl (v := nI 0) (by decide) ?_
      refine me_goto k195_93 ?_
      refine me_reti k195_107 rt_195 rfl ?_
      rw [show tPos b (tNms 2) 0 = some 0 from by show (if b = 102 then some 0 else (if b = 109 then some 1 else none)) = _; rw [if_pos c6]] at hQ
      exact hQ
    · skip
      rw [cI_eq (a := b) (b := 102) (by omega) (by omega)] at c6
      refine me_iload_n (p' := 97) k195_96 rfl rfl ?_
      refine me_bipush (p' := 99) k195_97 rfl (v := nI 109) (by decide) ?_
      refine me_ic_ne (p' := 102) k195_99 rfl (fun c7 => ?_) (fun c7 => ?_)
      · skip
        rw [cI_eq (a := b) (b := 109) (by omega) (by omega)] at c7
        refine me_iconst (p' := 103) k195_102 rfl (v := nI 1) (by decide) ?_
        refine me_goto k195_103 ?_
        refine me_reti k195_107 rt_195 rfl ?_
        rw [show tPos b (tNms 2) 0 = some 1 from by show (if b = 102 then some 0 else (if b = 109 then some 1 else none)) = _; rw [if_neg c6, if_pos c7]] at hQ
        exact hQ
      · skip
        rw [cI_eq (a := b) (b := 109) (by omega) (by omega)] at c7
        refine me_iconst (p' := 107) k195_106 rfl (v := (-1)) (by decide) ?_
        refine me_reti k195_107 rt_195 rfl ?_
        rw [show tPos b (tNms 2) 0 = none from by show (if b = 102 then some 0 else (if b = 109 then some 1 else none)) = _; rw [if_neg c6, if_neg c7]] at hQ
        exact hQ
set_option maxRecDepth 100000 in
theorem lsw_sg : ∀ b : Nat, b < 256 → Op.lookupswitch.offset [(38, 84), (42, 102), (43, 96), (45, 99), (47, 105), (60, 87), (61, 90), (62, 93), (124, 82)] 108 (b : Int) = ([108, 82, 84, 87, 90, 93, 96, 99, 102, 105] : List Int).getD (tSg b) 0 := by decide +kernel
theorem ct_signHere {d L : Nat} {xs : Nat → Int32} {I : Nat → Nat → Int32} {Q : Option Value → mj_H → Prop} {B : Nat → Nat} {tl : Nat} {t : Nat × Nat × Nat} (hT : mTp I B tl) (hk : mTk I B t) (hw : tWf B tl t) (hQ : Q (some (.int (-(nI (tS B t))))) (mg_h L xs I)) : mj_Cl d 199 [.ref 127] (mg_h L xs I) Q := by
  have hw4 := hw.2.2.2.2.1
  refine cl_start mx_199 (ls := [.ref 127]) rfl ?_
  refine me_aload_n (p' := 1) k199_0 rfl rfl ?_
  refine me_gfi (p' := 4) k199_1 rfl (by decide) rfl rfl ?_
  rw [hk.2.2.1]
  refine me_iconst (p' := 5) k199_4 rfl (v := nI 3) (by decide) ?_
  refine me_ic_eq (p' := 8) k199_5 rfl (fun c1 => ?_) (fun c1 => ?_)
  · skip
    rw [cI_eq (a := t.1) (b := 3) (by omega) (by omega)] at c1
    refine me_aload_n (p' := 11) k199_10 rfl rfl ?_
    refine me_gfi (p' := 14) k199_11 rfl (by decide) rfl rfl ?_
    rw [hk.2.2.2.1 (Or.inr (by omega))]
    have hB9 := (hT.2.2 t.2.1 (by have := hw.2.2.2.1 (by omega); have := hw.2.1; omega)).2
    have h9 := tSg_r (B t.2.1)
    have hoff := lsw_sg (B t.2.1) hB9
    generalize hq : tSg (B t.2.1) = q at h9 hoff
    rcases (show q = 0 ∨ q = 1 ∨ q = 2 ∨ q = 3 ∨ q = 4 ∨ q = 5 ∨ q = 6 ∨ q = 7 ∨ q = 8 ∨ q = 9 by omega) with rfl | rfl | rfl | rfl | rfl | rfl | rfl | rfl | rfl | rfl
    · skip
      refine me_lsw (p' := 122) k199_14 (by rw [nI_toInt (by omega)]; show ((14 : Int) + Op.lookupswitch.offset [(38, 84), (42, 102), (43, 96), (45, 99), (47, 105), (60, 87), (61, 90), (62, 93), (124, 82)] 108 ((B t.2.1 : Nat) : Int)).toNat = 122; rw [hoff]; rfl) ?_
      refine me_iconst (p' := 123) k199_122 rfl (v := nI 0) (by decide) ?_
      refine me_reti k199_123 rt_199 rfl ?_
      rw [show tS B t = 0 from by unfold tS; rw [if_pos (by omega)]; exact hq] at hQ
      exact hQ
    · skip
      refine me_lsw (p' := 96) k199_14 (by rw [nI_toInt (by omega)]; show ((14 : Int) + Op.lookupswitch.offset [(38, 84), (42, 102), (43, 96), (45, 99), (47, 105), (60, 87), (61, 90), (62, 93), (124, 82)] 108 ((B t.2.1 : Nat) : Int)).toNat = 96; rw [hoff]; rfl) ?_
      refine me_iconst (p' := 97) k199_96 rfl (v := (-1)) (by decide) ?_
      refine me_reti k199_97 rt_199 rfl ?_
      rw [show tS B t = 1 from by unfold tS; rw [if_pos (by omega)]; exact hq] at hQ
      exact hQ
    · skip
      refine me_lsw (p' := 98) k199_14 (by rw [nI_toInt (by omega)]; show ((14 : Int) + Op.lookupswitch.offset [(38, 84), (42, 102), (43, 96), (45, 99), (47, 105), (60, 87), (61, 90), (62, 93), (124, 82)] 108 ((B t.2.1 : Nat) : Int)).toNat = 98; rw [hoff]; rfl) ?_
      refine me_bipush (p' := 100) k199_98 rfl (v := (-2)) (by decide) ?_
      refine me_reti k199_100 rt_199 rfl ?_
      rw [show tS B t = 2 from by unfold tS; rw [if_pos (by omega)]; exact hq] at hQ
      exact hQ
    · skip
      refine me_lsw (p' := 101) k199_14 (by rw [nI_toInt (by omega)]; show ((14 : Int) + Op.lookupswitch.offset [(38, 84), (42, 102), (43, 96), (45, 99), (47, 105), (60, 87), (61, 90), (62, 93), (124, 82)] 108 ((B t.2.1 : Nat) : Int)).toNat = 101; rw [hoff]; rfl) ?_
      refine me_bipush (p' := 103) k199_101 rfl (v := (-3)) (by decide) ?_
      refine me_reti k199_103 rt_199 rfl ?_
      rw [show tS B t = 3 from by unfold tS; rw [if_pos (by omega)]; exact hq] at hQ
      exact hQ
    · skip
      refine me_lsw (p' := 104) k199_14 (by rw [nI_toInt (by omega)]; show ((14 : Int) + Op.lookupswitch.offset [(38, 84), (42, 102), (43, 96), (45, 99), (47, 105), (60, 87), (61, 90), (62, 93), (124, 82)] 108 ((B t.2.1 : Nat) : Int)).toNat = 104; rw [hoff]; rfl) ?_
      refine me_bipush (p' := 106) k199_104 rfl (v := (-4)) (by decide) ?_
      refine me_reti k199_106 rt_199 rfl ?_
      rw [show tS B t = 4 from by unfold tS; rw [if_pos (by omega)]; exact hq] at hQ
      exact hQ
    · skip
      refine me_lsw (p' := 107) k199_14 (by rw [nI_toInt (by omega)]; show ((14 : Int) + Op.lookupswitch.offset [(38, 84), (42, 102), (43, 96), (45, 99), (47, 105), (60, 87), (61, 90), (62, 93), (124, 82)] 108 ((B t.2.1 : Nat) : Int)).toNat = 107; rw [hoff]; rfl) ?_
      refine me_bipush (p' := 109) k199_107 rfl (v := (-5)) (by decide) ?_
      refine me_reti k199_109 rt_199 rfl ?_
      rw [show tS B t = 5 from by unfold tS; rw [if_pos (by omega)]; exact hq] at hQ
      exact hQ
    · skip
      refine me_lsw (p' := 110) k199_14 (by rw [nI_toInt (by omega)]; show ((14 : Int) + Op.lookupswitch.offset [(38, 84), (42, 102), (43, 96), (45, 99), (47, 105), (60, 87), (61, 90), (62, 93), (124, 82)] 108 ((B t.2.1 : Nat) : Int)).toNat = 110; rw [hoff]; rfl) ?_
      refine me_bipush (p' := 112) k199_110 rfl (v := (-6)) (by decide) ?_
      refine me_reti k199_112 rt_199 rfl ?_
      rw [show tS B t = 6 from by unfold tS; rw [if_pos (by omega)]; exact hq] at hQ
      exact hQ
    · skip
      refine me_lsw (p' := 113) k199_14 (by rw [nI_toInt (by omega)]; show ((14 : Int) + Op.lookupswitch.offset [(38, 84), (42, 102), (43, 96), (45, 99), (47, 105), (60, 87), (61, 90), (62, 93), (124, 82)] 108 ((B t.2.1 : Nat) : Int)).toNat = 113; rw [hoff]; rfl) ?_
      refine me_bipush (p' := 115) k199_113 rfl (v := (-7)) (by decide) ?_
      refine me_reti k199_115 rt_199 rfl ?_
      rw [show tS B t = 7 from by unfold tS; rw [if_pos (by omega)]; exact hq] at hQ
      exact hQ
    · skip
      refine me_lsw (p' := 116) k199_14 (by rw [nI_toInt (by omega)]; show ((14 : Int) + Op.lookupswitch.offset [(38, 84), (42, 102), (43, 96), (45, 99), (47, 105), (60, 87), (61, 90), (62, 93), (124, 82)] 108 ((B t.2.1 : Nat) : Int)).toNat = 116; rw [hoff]; rfl) ?_
      refine me_bipush (p' := 118) k199_116 rfl (v := (-8)) (by decide) ?_
      refine me_reti k199_118 rt_199 rfl ?_
      rw [show tS B t = 8 from by unfold tS; rw [if_pos (by omega)]; exact hq] at hQ
      exact hQ
    · skip
      refine me_lsw (p' := 119) k199_14 (by rw [nI_toInt (by omega)]; show ((14 : Int) + Op.lookupswitch.offset [(38, 84), (42, 102), (43, 96), (45, 99), (47, 105), (60, 87), (61, 90), (62, 93), (124, 82)] 108 ((B t.2.1 : Nat) : Int)).toNat = 119; rw [hoff]; rfl) ?_
      refine me_bipush (p' := 121) k199_119 rfl (v := (-9)) (by decide) ?_
      refine me_reti k199_121 rt_199 rfl ?_
      rw [show tS B t = 9 from by unfold tS; rw [if_pos (by omega)]; exact hq] at hQ
      exact hQ
  · skip
    rw [cI_eq (a := t.1) (b := 3) (by omega) (by omega)] at c1
    refine me_iconst (p' := 9) k199_8 rfl (v := nI 0) (by decide) ?_
    refine me_reti k199_9 rt_199 rfl ?_
    rw [show tS B t = 0 from by unfold tS; rw [if_neg (by omega)]] at hQ
    exact hQ
theorem lp_nots {d L : Nat} {xs : Nat → Int32} {I : Nat → Nat → Int32} {Q : Option Value → mj_H → Prop} {S o : List Nat} (hp : mPs I S o) (hS : ∀ x ∈ S, 1 ≤ x ∧ x ≤ 11) (hl : S.length ≤ 96) (hQ : Q (some (.int (nI (S.count 10)))) (mg_h L xs I)) : ∀ k : Nat, k ≤ S.length → mj_Ev d 198 4 [.ref 127, .int (nI ((S.drop (S.length - k)).count 10)), .int (nI k)] [] (mg_h L xs I) Q := by
  refine loop_ind (n := S.length) (fun k hkn ih => ?_)
  refine me_iload_n (p' := 5) k198_4 rfl rfl ?_
  refine me_aload_n (p' := 6) k198_5 rfl rfl ?_
  refine me_gfi (p' := 9) k198_6 rfl (by decide) rfl rfl ?_
  rw [hp.1]
  refine me_ic_ge (p' := 12) k198_9 rfl (fun c1 => ?_) (fun c1 => ?_)
  · skip
    rw [cI_le (a := S.length) (b := k) (by omega) (by omega)] at c1
    refine me_iload_n (p' := 38) k198_37 rfl rfl ?_
    refine me_reti k198_38 rt_198 rfl ?_
    obtain rfl : k = S.length := by omega
    rw [Nat.sub_self] at *
    exact hQ
  · skip
    rw [cI_le (a := S.length) (b := k) (by omega) (by omega)] at c1
    refine me_iload_n (p' := 13) k198_12 rfl rfl ?_
    refine me_aload_n (p' := 14) k198_13 rfl rfl ?_
    refine me_gfr (p' := 17) k198_14 rfl (by decide) rfl (b := 136) rfl ?_
    refine me_iload_n (p' := 18) k198_17 rfl rfl ?_
    refine me_iald (p' := 19) k198_18 rfl (by decide) rfl (j := k) rfl (by omega) (by decide) rfl ?_
    rw [show I 136 k = -(nI (S.getD (S.length - 1 - k) 0)) from by
      have := hp.2.1 k (by rw [List.length_map]; omega)
      rw [this, List.length_map, List.getD_eq_getElem?_getD, List.getElem?_map, List.getD_eq_getElem?_getD, List.getElem?_eq_getElem (show S.length - 1 - k < S.length by omega)]
      rfl]
    refine me_bipush (p' := 21) k198_19 rfl (v := (-10)) (by decide) ?_
    refine me_ic_ne (p' := 24) k198_21 rfl (fun c2 => ?_) (fun c2 => ?_)
    · skip
      refine me_iconst (p' := 25) k198_24 rfl (v := nI 1) (by decide) ?_
      refine me_goto k198_25 ?_
      refine me_iadd (p' := 30) k198_29 rfl (v := nI (((S.drop (S.length - k)).count 10) + 1)) (mI_add _ _) ?_
      refine me_istore_n (p' := 31) k198_30 rfl ⟨Nat.le_of_ble_eq_true rfl, rfl⟩ rfl ?_
      refine me_iinc (p' := 34) k198_31 rfl rfl rfl (v := nI (k + 1)) (mI_inc (by decide)) rfl ?_
      refine me_goto k198_34 ?_
      have hx := hS (S.getD (S.length - 1 - k) 0) (by rw [List.getD_eq_getElem?_getD, List.getElem?_eq_getElem (show S.length - 1 - k < S.length by omega)]; exact List.getElem_mem _)
      rw [ng_c.2.2.2.2.2.1, (ng_eq _ (by omega) 10 (by decide)).1] at c2
      have e9 : (S.drop (S.length - (k + 1))).count 10 = (S.drop (S.length - k)).count 10 + 1 := by
        rw [List.drop_eq_getElem_cons (show S.length - (k + 1) < S.length by omega), show S.length - (k + 1) + 1 = S.length - k by omega]
        have e8 : S[S.length - (k + 1)] = S.getD (S.length - 1 - k) 0 := by
          rw [List.getD_eq_getElem?_getD, List.getElem?_eq_getElem (show S.length - 1 - k < S.length by omega)]
          show _ = S[S.length - 1 - k]
          congr 1
          omega
        rw [e8]
        rw [c2, List.count_cons_self]
      rw [← e9]
      exact ih (by omega)
    · skip
      refine me_iconst (p' := 29) k198_28 rfl (v := nI 0) (by decide) ?_
      refine me_iadd (p' := 30) k198_29 rfl (v := nI (((S.drop (S.length - k)).count 10) + 0)) (mI_add _ _) ?_
      refine me_istore_n (p' := 31) k198_30 rfl ⟨Nat.le_of_ble_eq_true rfl, rfl⟩ rfl ?_
      refine me_iinc (p' := 34) k198_31 rfl rfl rfl (v := nI (k + 1)) (mI_inc (by decide)) rfl ?_
      refine me_goto k198_34 ?_
      have hx := hS (S.getD (S.length - 1 - k) 0) (by rw [List.getD_eq_getElem?_getD, List.getElem?_eq_getElem (show S.length - 1 - k < S.length by omega)]; exact List.getElem_mem _)
      rw [ng_c.2.2.2.2.2.1, (ng_eq _ (by omega) 10 (by decide)).1] at c2
      have e9 : (S.drop (S.length - (k + 1))).count 10 = (S.drop (S.length - k)).count 10 + 0 := by
        rw [List.drop_eq_getElem_cons (show S.length - (k + 1) < S.length by omega), show S.length - (k + 1) + 1 = S.length - k by omega]
        have e8 : S[S.length - (k + 1)] = S.getD (S.length - 1 - k) 0 := by
          rw [List.getD_eq_getElem?_getD, List.getElem?_eq_getElem (show S.length - 1 - k < S.length by omega)]
          show _ = S[S.length - 1 - k]
          congr 1
          omega
        rw [e8]
        rw [List.count_cons_of_ne (fun z => c2 z), Nat.add_zero]
      rw [← e9]
      exact ih (by omega)
theorem ct_notsOpen {d L : Nat} {xs : Nat → Int32} {I : Nat → Nat → Int32} {Q : Option Value → mj_H → Prop} {S o : List Nat} (hp : mPs I S o) (hS : ∀ x ∈ S, 1 ≤ x ∧ x ≤ 11) (hl : S.length ≤ 96) (hQ : Q (some (.int (nI (S.count 10)))) (mg_h L xs I)) : mj_Cl d 198 [.ref 127] (mg_h L xs I) Q := by
  refine cl_start mx_198 (ls := [.ref 127, mj_no, mj_no]) rfl ?_
  refine me_iconst (p' := 1) k198_0 rfl (v := nI 0) (by decide) ?_
  refine me_istore_n (p' := 2) k198_1 rfl ⟨Nat.le_of_ble_eq_true rfl, rfl⟩ rfl ?_
  refine me_iconst (p' := 3) k198_2 rfl (v := nI 0) (by decide) ?_
  refine me_istore_n (p' := 4) k198_3 rfl ⟨Nat.le_of_ble_eq_true rfl, rfl⟩ rfl ?_
  have hE := lp_nots (d := d) (L := L) (xs := xs) (Q := Q) hp hS hl hQ 0 (Nat.zero_le _)
  rw [show (S.drop (S.length - 0)).count 10 = 0 from by rw [Nat.sub_zero, List.drop_length]; rfl] at hE
  exact hE
theorem mPs.top {I : Nat → Nat → Int32} {x : Nat} {S o : List Nat} (h : mPs I (x :: S) o) : I 136 S.length = -(nI x) := by
  have := h.2.1.top
  rw [List.length_map] at this
  exact this
theorem mPs.pop {I : Nat → Nat → Int32} {x : Nat} {S o : List Nat} (h : mPs I (x :: S) o) (hl : o.length + S.length ≤ 200) : mPs (mg_u (mg_u (mg_u I 127 20 (nI S.length)) 135 o.length (-(nI x))) 127 17 (nI (o.length + 1))) S (o ++ [20000 + x]) := by
  refine ⟨?_, ?_, ?_, fun j hj => ?_⟩
  · rw [mg_une (by decide), mg_un1 (by decide), mg_ueq]
  · rw [mg_un (by decide), mg_un (by decide), mg_un (by decide)]
    exact h.2.1.tl
  · rw [mg_ueq, List.length_append, List.length_singleton]
  · rw [List.length_append, List.length_singleton] at hj
    rw [mg_un1 (by decide), o_get hj]
    by_cases e : j = o.length
    · rw [if_pos e, e, mg_ueq]
      unfold sp_mc
      rw [if_neg (by omega), show 20000 + x - 20000 = x by omega]
    · rw [if_neg e, mg_une (fun z => e z.2), mg_un1 (by decide)]
      exact h.2.2.2 j (by omega)
def mSf (I J : Nat → Nat → Int32) : Prop := mFr [127, 135] I J ∧ ∀ k : Nat, k ≠ 17 → k ≠ 20 → J 127 k = I 127 k
theorem mSf.rf {I : Nat → Nat → Int32} : mSf I I := ⟨mFr.rf, fun _ _ _ => rfl⟩
theorem mSf.tr {I J K : Nat → Nat → Int32} (h : mSf I J) (h2 : mSf J K) : mSf I K := ⟨h.1.tr h2.1, fun k a b => (h2.2 k a b).trans (h.2 k a b)⟩
theorem mSf.u {I J : Nat → Nat → Int32} {i k : Nat} {v : Int32} (h : mSf I J) (hk : i = 135 ∨ (i = 127 ∧ (k = 17 ∨ k = 20))) : mSf I (mg_u J i k v) := ⟨h.1.tr (mFr.up (hk.elim (fun z => by simp [z]) (fun z => by simp [z.1]))), fun q a b => (mg_une (by omega)).trans (h.2 q a b)⟩
theorem lp_settle {d L : Nat} {xs : Nat → Int32} {I : Nat → Nat → Int32} {Q : Option Value → mj_H → Prop} {r : Nat} (hr : r ≤ 6) : ∀ (S o : List Nat) (J : Nat → Nat → Int32), mSf I J → mPs J S o → (∀ x ∈ S, 1 ≤ x ∧ x ≤ 11) → o.length + S.length ≤ 96 → (hQ : ∀ K, mSf I K → mPs K (mcs r S o).1 (mcs r S o).2 → Q none (mg_h L xs K)) → mj_Ev (d + 1) 196 0 [.ref 127, .int (nI r)] [] (mg_h L xs J) Q := by
  intro S
  induction S with
  | nil =>
    intro o J hf hp hS hl hQ
    refine me_aload_n (p' := 1) k196_0 rfl rfl ?_
    refine me_gfi (p' := 4) k196_1 rfl (by decide) rfl rfl ?_
    rw [hp.1]; rw [List.length_nil]
    refine me_if_le (p' := 7) k196_4 rfl (fun _ => ?_) (fun h => absurd (by decide) h)
    refine me_retv k196_82 rt_196 ?_
    exact hQ _ hf hp
  | cons x S ih =>
    intro o J hf hp hS hl hQ
    have hx9 := hS x (by simp)
    have hl2 : o.length + (S.length + 1) ≤ 96 := hl
    have hr9 : tRk x ≤ 6 := by have h : ∀ x : Nat, x < 12 → tRk x ≤ 6 := by decide
                               exact h x (by omega)
    refine me_aload_n (p' := 1) k196_0 rfl rfl ?_
    refine me_gfi (p' := 4) k196_1 rfl (by decide) rfl rfl ?_
    rw [hp.1]; rw [List.length_cons]
    refine me_if_le (p' := 7) k196_4 rfl (fun c1 => ?_) (fun c1 => ?_)
    · skip
      rw [cI_le0 (a := S.length + 1) (by omega)] at c1
      exfalso
      omega
    · skip
      rw [cI_le0 (a := S.length + 1) (by omega)] at c1
      refine me_aload_n (p' := 8) k196_7 rfl rfl ?_
      refine me_gfr (p' := 11) k196_8 rfl (by decide) rfl (b := 136) rfl ?_
      refine me_aload_n (p' := 12) k196_11 rfl rfl ?_
      refine me_gfi (p' := 15) k196_12 rfl (by decide) rfl rfl ?_
      rw [hp.1]; rw [List.length_cons]
      refine me_iconst (p' := 16) k196_15 rfl (v := nI 1) (by decide) ?_
      refine me_isub (p' := 17) k196_16 rfl rfl ?_
      rw [mI_sub (by omega), Nat.add_sub_cancel]
      refine me_iald (p' := 18) k196_17 rfl (by decide) rfl (j := S.length) rfl (by omega) (by decide) rfl ?_
      rw [hp.top]
      refine me_bipush (p' := 20) k196_18 rfl (v := (-11)) (by decide) ?_
      refine me_ic_eq (p' := 23) k196_20 rfl (fun c2 => ?_) (fun c2 => ?_)
      · skip
        refine me_retv k196_82 rt_196 ?_
        rw [ng_c.2.2.2.2.2.2, (ng_eq x (by omega) 11 (by decide)).1] at c2
        rw [mcs_stop (fun z => z.1 c2)] at hQ
        exact hQ _ hf hp
      · skip
        refine me_aload_n (p' := 24) k196_23 rfl rfl ?_
        refine me_gfr (p' := 27) k196_24 rfl (by decide) rfl (b := 136) rfl ?_
        refine me_aload_n (p' := 28) k196_27 rfl rfl ?_
        refine me_gfi (p' := 31) k196_28 rfl (by decide) rfl rfl ?_
        rw [hp.1]; rw [List.length_cons]
        refine me_iconst (p' := 32) k196_31 rfl (v := nI 1) (by decide) ?_
        refine me_isub (p' := 33) k196_32 rfl rfl ?_
        rw [mI_sub (by omega), Nat.add_sub_cancel]
        refine me_iald (p' := 34) k196_33 rfl (by decide) rfl (j := S.length) rfl (by omega) (by decide) rfl ?_
        rw [hp.top]
        refine me_cs (p' := 37) k196_34 rfl rfl rfl rfl rfl (cl_le mx_197 rfl) (by decide) (cl_sum rfl) (ct_rank hx9 ?_)
        refine me_iload_n (p' := 38) k196_37 rfl rfl ?_
        refine me_ic_lt (p' := 41) k196_38 rfl (fun c3 => ?_) (fun c3 => ?_)
        · skip
          rw [cI_lt (a := tRk x) (b := r) (by omega) (by omega)] at c3
          refine me_retv k196_82 rt_196 ?_
          rw [mcs_stop (fun z => by omega)] at hQ
          exact hQ _ hf hp
        · skip
          rw [cI_lt (a := tRk x) (b := r) (by omega) (by omega)] at c3
          refine me_aload_n (p' := 42) k196_41 rfl rfl ?_
          refine me_dup (p' := 43) k196_42 rfl rfl ?_
          refine me_gfi (p' := 46) k196_43 rfl (by decide) rfl rfl ?_
          rw [hp.1]; rw [List.length_cons]
          refine me_iconst (p' := 47) k196_46 rfl (v := nI 1) (by decide) ?_
          refine me_isub (p' := 48) k196_47 rfl rfl ?_
          rw [mI_sub (by omega), Nat.add_sub_cancel]
          refine me_pfi (p' := 51) k196_48 rfl (by decide) rfl rfl rfl rfl ?_
          refine me_aload_n (p' := 52) k196_51 rfl rfl ?_
          refine me_gfr (p' := 55) k196_52 rfl (by decide) rfl (b := 135) rfl ?_
          refine me_aload_n (p' := 56) k196_55 rfl rfl ?_
          refine me_gfi (p' := 59) k196_56 rfl (by decide) rfl rfl ?_
          rw [mg_une (by decide), hp.2.2.1]
          refine me_aload_n (p' := 60) k196_59 rfl rfl ?_
          refine me_gfr (p' := 63) k196_60 rfl (by decide) rfl (b := 136) rfl ?_
          refine me_aload_n (p' := 64) k196_63 rfl rfl ?_
          refine me_gfi (p' := 67) k196_64 rfl (by decide) rfl rfl ?_
          rw [mg_ueq]
          refine me_iald (p' := 68) k196_67 rfl (by decide) rfl (j := S.length) rfl (by omega) (by decide) rfl ?_
          rw [mg_un1 (by decide), hp.top]
          refine me_iast (p' := 69) k196_68 rfl (by decide) rfl (j := o.length) rfl (by omega) (by decide) rfl ?_
          refine me_aload_n (p' := 70) k196_69 rfl rfl ?_
          refine me_dup (p' := 71) k196_70 rfl rfl ?_
          refine me_gfi (p' := 74) k196_71 rfl (by decide) rfl rfl ?_
          rw [mg_un1 (by decide), mg_une (by decide), hp.2.2.1]
          refine me_iconst (p' := 75) k196_74 rfl (v := nI 1) (by decide) ?_
          refine me_iadd (p' := 76) k196_75 rfl (v := nI (o.length + 1)) (mI_add _ _) ?_
          refine me_pfi (p' := 79) k196_76 rfl (by decide) rfl rfl rfl rfl ?_
          refine me_goto k196_79 ?_
          rw [show mcs r (x :: S) o = mcs r S (o ++ [20000 + x]) from if_pos ⟨fun z => c2 (by rw [z]; decide), by omega⟩] at hQ
          refine ih (o ++ [20000 + x]) _ (((hf.u (by simp)).u (by simp)).u (by simp)) (hp.pop (by omega)) (fun y hy => hS y (by simp [hy])) (by rw [List.length_append, List.length_singleton]; rw [List.length_cons] at hl; omega) hQ
theorem ct_settle {d L : Nat} {xs : Nat → Int32} {I : Nat → Nat → Int32} {Q : Option Value → mj_H → Prop} {S o : List Nat} {r : Nat} (hr : r ≤ 6) (hp : mPs I S o) (hS : ∀ x ∈ S, 1 ≤ x ∧ x ≤ 11) (hl : o.length + S.length ≤ 96) (hQ : ∀ K, mSf I K → mPs K (mcs r S o).1 (mcs r S o).2 → Q none (mg_h L xs K)) : mj_Cl (d + 1) 196 [.ref 127, .int (nI r)] (mg_h L xs I) Q := by
  refine cl_start mx_196 (ls := [.ref 127, .int (nI r)]) rfl ?_
  exact lp_settle hr S o I mSf.rf hp hS hl hQ
