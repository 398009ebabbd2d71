/-! ===== the class: KINDS ===== -/
def mj_dn0 (q : Nat) : Nat := [52, 50, 48, 51, 47, 49].getD q 0
theorem me_cg0 {d y pc p' : Nat} {ls : List Value} {L : Nat} {xs : Nat → Int32} {I : Nat → Nat → Int32} {Q : Option Value → mj_H → Prop} {i q : Nat} {st as rest : List Value} (hl : mj_look (mj_prog y) pc = some (.invokevirtual i, 3, 1000, 1)) (hp : pc + 3 = p') (hq : q < 6) (hd : st.drop 1 = .ref (2 + q) :: rest) (has : .ref (2 + q) :: (st.take 1).reverse = as) (hk : as.all mj_cat1 = true) (hlen : as.length ≤ 2) (hr : mj_sum rest ≤ 8) (H : mj_Cl d (mj_dn0 q) as (mg_h L xs I) (fun v h' => mj_Ev (d + 1) y p' ls (v.toList ++ rest) h' Q)) : mj_Ev (d + 1) y pc ls st (mg_h L xs I) Q := by
  rcases (show q = 0 ∨ q = 1 ∨ q = 2 ∨ q = 3 ∨ q = 4 ∨ q = 5 by omega) with rfl | rfl | rfl | rfl | rfl | rfl
  · exact me_cv hl hp hd (by decide) rfl (by decide) (by decide) (c' := 52) rfl has hk (Nat.le_trans hlen (Nat.le_of_ble_eq_true rfl)) (by decide) hr H
  · exact me_cv hl hp hd (by decide) rfl (by decide) (by decide) (c' := 50) rfl has hk (Nat.le_trans hlen (Nat.le_of_ble_eq_true rfl)) (by decide) hr H
  · exact me_cv hl hp hd (by decide) rfl (by decide) (by decide) (c' := 48) rfl has hk (Nat.le_trans hlen (Nat.le_of_ble_eq_true rfl)) (by decide) hr H
  · exact me_cv hl hp hd (by decide) rfl (by decide) (by decide) (c' := 51) rfl has hk (Nat.le_trans hlen (Nat.le_of_ble_eq_true rfl)) (by decide) hr H
  · exact me_cv hl hp hd (by decide) rfl (by decide) (by decide) (c' := 47) rfl has hk (Nat.le_trans hlen (Nat.le_of_ble_eq_true rfl)) (by decide) hr H
  · exact me_cv hl hp hd (by decide) rfl (by decide) (by decide) (c' := 49) rfl has hk (Nat.le_trans hlen (Nat.le_of_ble_eq_true rfl)) (by decide) hr H
def mj_dn1 (q : Nat) : Nat := [31, 29, 27, 30, 26, 28].getD q 0
theorem me_cg1 {d y pc p' : Nat} {ls : List Value} {L : Nat} {xs : Nat → Int32} {I : Nat → Nat → Int32} {Q : Option Value → mj_H → Prop} {i q : Nat} {st as rest : List Value} (hl : mj_look (mj_prog y) pc = some (.invokevirtual i, 3, 1001, 3)) (hp : pc + 3 = p') (hq : q < 6) (hd : st.drop 3 = .ref (2 + q) :: rest) (has : .ref (2 + q) :: (st.take 3).reverse = as) (hk : as.all mj_cat1 = true) (hlen : as.length ≤ 4) (hr : mj_sum rest ≤ 8) (H : mj_Cl d (mj_dn1 q) as (mg_h L xs I) (fun v h' => mj_Ev (d + 1) y p' ls (v.toList ++ rest) h' Q)) : mj_Ev (d + 1) y pc ls st (mg_h L xs I) Q := by
  rcases (show q = 0 ∨ q = 1 ∨ q = 2 ∨ q = 3 ∨ q = 4 ∨ q = 5 by omega) with rfl | rfl | rfl | rfl | rfl | rfl
  · exact me_cv hl hp hd (by decide) rfl (by decide) (by decide) (c' := 31) rfl has hk (Nat.le_trans hlen (Nat.le_of_ble_eq_true rfl)) (by decide) hr H
  · exact me_cv hl hp hd (by decide) rfl (by decide) (by decide) (c' := 29) rfl has hk (Nat.le_trans hlen (Nat.le_of_ble_eq_true rfl)) (by decide) hr H
  · exact me_cv hl hp hd (by decide) rfl (by decide) (by decide) (c' := 27) rfl has hk (Nat.le_trans hlen (Nat.le_of_ble_eq_true rfl)) (by decide) hr H
  · exact me_cv hl hp hd (by decide) rfl (by decide) (by decide) (c' := 30) rfl has hk (Nat.le_trans hlen (Nat.le_of_ble_eq_true rfl)) (by decide) hr H
  · exact me_cv hl hp hd (by decide) rfl (by decide) (by decide) (c' := 26) rfl has hk (Nat.le_trans hlen (Nat.le_of_ble_eq_true rfl)) (by decide) hr H
  · exact me_cv hl hp hd (by decide) rfl (by decide) (by decide) (c' := 28) rfl has hk (Nat.le_trans hlen (Nat.le_of_ble_eq_true rfl)) (by decide) hr H
def mj_dn2 (q : Nat) : Nat := [37, 36, 34, 36, 33, 35].getD q 0
theorem me_cg2 {d y pc p' : Nat} {ls : List Value} {L : Nat} {xs : Nat → Int32} {I : Nat → Nat → Int32} {Q : Option Value → mj_H → Prop} {i q : Nat} {st as rest : List Value} (hl : mj_look (mj_prog y) pc = some (.invokevirtual i, 3, 1002, 0)) (hp : pc + 3 = p') (hq : q < 6) (hd : st.drop 0 = .ref (2 + q) :: rest) (has : .ref (2 + q) :: (st.take 0).reverse = as) (hk : as.all mj_cat1 = true) (hlen : as.length ≤ 1) (hr : mj_sum rest ≤ 8) (H : mj_Cl d (mj_dn2 q) as (mg_h L xs I) (fun v h' => mj_Ev (d + 1) y p' ls (v.toList ++ rest) h' Q)) : mj_Ev (d + 1) y pc ls st (mg_h L xs I) Q := by
  rcases (show q = 0 ∨ q = 1 ∨ q = 2 ∨ q = 3 ∨ q = 4 ∨ q = 5 by omega) with rfl | rfl | rfl | rfl | rfl | rfl
  · exact me_cv hl hp hd (by decide) rfl (by decide) (by decide) (c' := 37) rfl has hk (Nat.le_trans hlen (Nat.le_of_ble_eq_true rfl)) (by decide) hr H
  · exact me_cv hl hp hd (by decide) rfl (by decide) (by decide) (c' := 36) rfl has hk (Nat.le_trans hlen (Nat.le_of_ble_eq_true rfl)) (by decide) hr H
  · exact me_cv hl hp hd (by decide) rfl (by decide) (by decide) (c' := 34) rfl has hk (Nat.le_trans hlen (Nat.le_of_ble_eq_true rfl)) (by decide) hr H
  · exact me_cv hl hp hd (by decide) rfl (by decide) (by decide) (c' := 36) rfl has hk (Nat.le_trans hlen (Nat.le_of_ble_eq_true rfl)) (by decide) hr H
  · exact me_cv hl hp hd (by decide) rfl (by decide) (by decide) (c' := 33) rfl has hk (Nat.le_trans hlen (Nat.le_of_ble_eq_true rfl)) (by decide) hr H
  · exact me_cv hl hp hd (by decide) rfl (by decide) (by decide) (c' := 35) rfl has hk (Nat.le_trans hlen (Nat.le_of_ble_eq_true rfl)) (by decide) hr H
def mj_dn3 (q : Nat) : Nat := [43, 41, 39, 42, 38, 40].getD q 0
theorem me_cg3 {d y pc p' : Nat} {ls : List Value} {L : Nat} {xs : Nat → Int32} {I : Nat → Nat → Int32} {Q : Option Value → mj_H → Prop} {i q : Nat} {st as rest : List Value} (hl : mj_look (mj_prog y) pc = some (.invokevirtual i, 3, 1003, 1)) (hp : pc + 3 = p') (hq : q < 6) (hd : st.drop 1 = .ref (2 + q) :: rest) (has : .ref (2 + q) :: (st.take 1).reverse = as) (hk : as.all mj_cat1 = true) (hlen : as.length ≤ 2) (hr : mj_sum rest ≤ 8) (H : mj_Cl d (mj_dn3 q) as (mg_h L xs I) (fun v h' => mj_Ev (d + 1) y p' ls (v.toList ++ rest) h' Q)) : mj_Ev (d + 1) y pc ls st (mg_h L xs I) Q := by
  rcases (show q = 0 ∨ q = 1 ∨ q = 2 ∨ q = 3 ∨ q = 4 ∨ q = 5 by omega) with rfl | rfl | rfl | rfl | rfl | rfl
  · exact me_cv hl hp hd (by decide) rfl (by decide) (by decide) (c' := 43) rfl has hk (Nat.le_trans hlen (Nat.le_of_ble_eq_true rfl)) (by decide) hr H
  · exact me_cv hl hp hd (by decide) rfl (by decide) (by decide) (c' := 41) rfl has hk (Nat.le_trans hlen (Nat.le_of_ble_eq_true rfl)) (by decide) hr H
  · exact me_cv hl hp hd (by decide) rfl (by decide) (by decide) (c' := 39) rfl has hk (Nat.le_trans hlen (Nat.le_of_ble_eq_true rfl)) (by decide) hr H
  · exact me_cv hl hp hd (by decide) rfl (by decide) (by decide) (c' := 42) rfl has hk (Nat.le_trans hlen (Nat.le_of_ble_eq_true rfl)) (by decide) hr H
  · exact me_cv hl hp hd (by decide) rfl (by decide) (by decide) (c' := 38) rfl has hk (Nat.le_trans hlen (Nat.le_of_ble_eq_true rfl)) (by decide) hr H
  · exact me_cv hl hp hd (by decide) rfl (by decide) (by decide) (c' := 40) rfl has hk (Nat.le_trans hlen (Nat.le_of_ble_eq_true rfl)) (by decide) hr H
theorem sp_hv : ∀ a : Nat, a < 21 → 1 ≤ a → (if nI (a + 2) < nI 20 then nI (a + 2) else nI 20) = sp_within (nI a + nI 2) (nI 1) (nI 20) := by decide
theorem sp_wi : ∀ a : Nat, a < 21 → 1 ≤ a → nI a = sp_within (nI a) (nI 1) (nI 20) := by decide
theorem sp_lt : ∀ a : Nat, a < 21 → 1 ≤ a → (if nI 1 < nI (a / 2) then nI (a / 2) else nI 1) = sp_within (nI a / nI 2) (nI 1) (nI 20) := by decide
theorem sp_ir : ∀ a : Nat, a < 21 → 1 ≤ a → (if nI 1 < nI a - nI 1 then nI a - nI 1 else nI 1) = sp_within (nI a - nI 1) (nI 1) (nI 20) := by decide
theorem ct_isu_car2 {d L : Nat} {xs : Nat → Int32} {I : Nat → Nat → Int32} {Q : Option Value → mj_H → Prop} {o : Nat} (ho : o < 6) (h1 : o = 0 → Q (some (.int (nI 1))) (mg_h L xs I)) (h0 : ¬ (o = 0) → Q (some (.int (nI 0))) (mg_h L xs I)) : mj_Cl d 52 [.ref 2, .int (nI o)] (mg_h L xs I) Q := by
  refine cl_start mx_52 (ls := [.ref 2, .int (nI o)]) rfl ?_
  refine me_iload_n (p' := 1) k52_0 rfl rfl ?_
  refine me_if_ne (p' := 4) k52_1 rfl (fun c1 => ?_) (fun c1 => ?_)
  · skip
    rw [cI_eq0 (a := o) (by omega)] at c1
    refine me_iconst (p' := 5) k52_4 rfl (v := nI 1) (by decide) ?_
    refine me_goto k52_5 ?_
    refine me_reti k52_9 rt_52 (by decide) ?_
    exact h1 (by omega)
  · skip
    rw [cI_eq0 (a := o) (by omega)] at c1
    refine me_iconst (p' := 9) k52_8 rfl (v := nI 0) (by decide) ?_
    refine me_reti k52_9 rt_52 (by decide) ?_
    exact h0 (by omega)
theorem ct_isu_car3 {d L : Nat} {xs : Nat → Int32} {I : Nat → Nat → Int32} {Q : Option Value → mj_H → Prop} {o : Nat} (ho : o < 6) (h1 : o = 0 → Q (some (.int (nI 1))) (mg_h L xs I)) (h0 : ¬ (o = 0) → Q (some (.int (nI 0))) (mg_h L xs I)) : mj_Cl d 52 [.ref 3, .int (nI o)] (mg_h L xs I) Q := by
  refine cl_start mx_52 (ls := [.ref 3, .int (nI o)]) rfl ?_
  refine me_iload_n (p' := 1) k52_0 rfl rfl ?_
  refine me_if_ne (p' := 4) k52_1 rfl (fun c1 => ?_) (fun c1 => ?_)
  · skip
    rw [cI_eq0 (a := o) (by omega)] at c1
    refine me_iconst (p' := 5) k52_4 rfl (v := nI 1) (by decide) ?_
    refine me_goto k52_5 ?_
    refine me_reti k52_9 rt_52 (by decide) ?_
    exact h1 (by omega)
  · skip
    rw [cI_eq0 (a := o) (by omega)] at c1
    refine me_iconst (p' := 9) k52_8 rfl (v := nI 0) (by decide) ?_
    refine me_reti k52_9 rt_52 (by decide) ?_
    exact h0 (by omega)
theorem ct_isu_car4 {d L : Nat} {xs : Nat → Int32} {I : Nat → Nat → Int32} {Q : Option Value → mj_H → Prop} {o : Nat} (ho : o < 6) (h1 : o = 0 → Q (some (.int (nI 1))) (mg_h L xs I)) (h0 : ¬ (o = 0) → Q (some (.int (nI 0))) (mg_h L xs I)) : mj_Cl d 52 [.ref 4, .int (nI o)] (mg_h L xs I) Q := by
  refine cl_start mx_52 (ls := [.ref 4, .int (nI o)]) rfl ?_
  refine me_iload_n (p' := 1) k52_0 rfl rfl ?_
  refine me_if_ne (p' := 4) k52_1 rfl (fun c1 => ?_) (fun c1 => ?_)
  · skip
    rw [cI_eq0 (a := o) (by omega)] at c1
    refine me_iconst (p' := 5) k52_4 rfl (v := nI 1) (by decide) ?_
    refine me_goto k52_5 ?_
    refine me_reti k52_9 rt_52 (by decide) ?_
    exact h1 (by omega)
  · skip
    rw [cI_eq0 (a := o) (by omega)] at c1
    refine me_iconst (p' := 9) k52_8 rfl (v := nI 0) (by decide) ?_
    refine me_reti k52_9 rt_52 (by decide) ?_
    exact h0 (by omega)
theorem ct_isu_car5 {d L : Nat} {xs : Nat → Int32} {I : Nat → Nat → Int32} {Q : Option Value → mj_H → Prop} {o : Nat} (ho : o < 6) (h1 : o = 0 → Q (some (.int (nI 1))) (mg_h L xs I)) (h0 : ¬ (o = 0) → Q (some (.int (nI 0))) (mg_h L xs I)) : mj_Cl d 52 [.ref 5, .int (nI o)] (mg_h L xs I) Q := by
  refine cl_start mx_52 (ls := [.ref 5, .int (nI o)]) rfl ?_
  refine me_iload_n (p' := 1) k52_0 rfl rfl ?_
  refine me_if_ne (p' := 4) k52_1 rfl (fun c1 => ?_) (fun c1 => ?_)
  · skip
    rw [cI_eq0 (a := o) (by omega)] at c1
    refine me_iconst (p' := 5) k52_4 rfl (v := nI 1) (by decide) ?_
    refine me_goto k52_5 ?_
    refine me_reti k52_9 rt_52 (by decide) ?_
    exact h1 (by omega)
  · skip
    rw [cI_eq0 (a := o) (by omega)] at c1
    refine me_iconst (p' := 9) k52_8 rfl (v := nI 0) (by decide) ?_
    refine me_reti k52_9 rt_52 (by decide) ?_
    exact h0 (by omega)
theorem ct_isu_car6 {d L : Nat} {xs : Nat → Int32} {I : Nat → Nat → Int32} {Q : Option Value → mj_H → Prop} {o : Nat} (ho : o < 6) (h1 : o = 0 → Q (some (.int (nI 1))) (mg_h L xs I)) (h0 : ¬ (o = 0) → Q (some (.int (nI 0))) (mg_h L xs I)) : mj_Cl d 52 [.ref 6, .int (nI o)] (mg_h L xs I) Q := by
  refine cl_start mx_52 (ls := [.ref 6, .int (nI o)]) rfl ?_
  refine me_iload_n (p' := 1) k52_0 rfl rfl ?_
  refine me_if_ne (p' := 4) k52_1 rfl (fun c1 => ?_) (fun c1 => ?_)
  · skip
    rw [cI_eq0 (a := o) (by omega)] at c1
    refine me_iconst (p' := 5) k52_4 rfl (v := nI 1) (by decide) ?_
    refine me_goto k52_5 ?_
    refine me_reti k52_9 rt_52 (by decide) ?_
    exact h1 (by omega)
  · skip
    rw [cI_eq0 (a := o) (by omega)] at c1
    refine me_iconst (p' := 9) k52_8 rfl (v := nI 0) (by decide) ?_
    refine me_reti k52_9 rt_52 (by decide) ?_
    exact h0 (by omega)
theorem ct_isu_car7 {d L : Nat} {xs : Nat → Int32} {I : Nat → Nat → Int32} {Q : Option Value → mj_H → Prop} {o : Nat} (ho : o < 6) (h1 : o = 0 → Q (some (.int (nI 1))) (mg_h L xs I)) (h0 : ¬ (o = 0) → Q (some (.int (nI 0))) (mg_h L xs I)) : mj_Cl d 52 [.ref 7, .int (nI o)] (mg_h L xs I) Q := by
  refine cl_start mx_52 (ls := [.ref 7, .int (nI o)]) rfl ?_
  refine me_iload_n (p' := 1) k52_0 rfl rfl ?_
  refine me_if_ne (p' := 4) k52_1 rfl (fun c1 => ?_) (fun c1 => ?_)
  · skip
    rw [cI_eq0 (a := o) (by omega)] at c1
    refine me_iconst (p' := 5) k52_4 rfl (v := nI 1) (by decide) ?_
    refine me_goto k52_5 ?_
    refine me_reti k52_9 rt_52 (by decide) ?_
    exact h1 (by omega)
  · skip
    rw [cI_eq0 (a := o) (by omega)] at c1
    refine me_iconst (p' := 9) k52_8 rfl (v := nI 0) (by decide) ?_
    refine me_reti k52_9 rt_52 (by decide) ?_
    exact h0 (by omega)
theorem ct_isu_heavy3 {d L : Nat} {xs : Nat → Int32} {I : Nat → Nat → Int32} {Q : Option Value → mj_H → Prop} {o : Nat} (ho : o < 6) (h1 : o = 1 ∨ o = 0 → Q (some (.int (nI 1))) (mg_h L xs I)) (h0 : ¬ (o = 1 ∨ o = 0) → Q (some (.int (nI 0))) (mg_h L xs I)) : mj_Cl (d + 1) 50 [.ref 3, .int (nI o)] (mg_h L xs I) Q := by
  refine cl_start mx_50 (ls := [.ref 3, .int (nI o)]) rfl ?_
  refine me_iload_n (p' := 1) k50_0 rfl rfl ?_
  refine me_iconst (p' := 2) k50_1 rfl (v := nI 1) (by decide) ?_
  refine me_ic_eq (p' := 5) k50_2 rfl (fun c1 => ?_) (fun c1 => ?_)
  · skip
    rw [cI_eq (a := o) (b := 1) (by omega) (by omega)] at c1
    refine me_iconst (p' := 14) k50_13 rfl (v := nI 1) (by decide) ?_
    refine me_goto k50_14 ?_
    refine me_reti k50_18 rt_50 (by decide) ?_
    exact h1 (by omega)
  · skip
    rw [cI_eq (a := o) (b := 1) (by omega) (by omega)] at c1
    refine me_aload_n (p' := 6) k50_5 rfl rfl ?_
    refine me_iload_n (p' := 7) k50_6 rfl rfl ?_
    refine me_ci (p' := 10) k50_7 rfl rfl (by decide) rfl (by decide) rfl rfl (cl_le mx_52 rfl) (by decide) (cl_sum rfl) (ct_isu_car3 ho (fun e => ?_) (fun e => ?_))
    · skip
      refine me_if_eq (p' := 13) k50_10 rfl (fun h => absurd h (by decide)) (fun _ => ?_)
      refine me_iconst (p' := 14) k50_13 rfl (v := nI 1) (by decide) ?_
      refine me_goto k50_14 ?_
      refine me_reti k50_18 rt_50 (by decide) ?_
      exact h1 (by omega)
    · skip
      refine me_if_eq (p' := 13) k50_10 rfl (fun _ => ?_) (fun h => absurd (by decide) h)
      refine me_iconst (p' := 18) k50_17 rfl (v := nI 0) (by decide) ?_
      refine me_reti k50_18 rt_50 (by decide) ?_
      exact h0 (by omega)
theorem ct_isu_heavy5 {d L : Nat} {xs : Nat → Int32} {I : Nat → Nat → Int32} {Q : Option Value → mj_H → Prop} {o : Nat} (ho : o < 6) (h1 : o = 1 ∨ o = 0 → Q (some (.int (nI 1))) (mg_h L xs I)) (h0 : ¬ (o = 1 ∨ o = 0) → Q (some (.int (nI 0))) (mg_h L xs I)) : mj_Cl (d + 1) 50 [.ref 5, .int (nI o)] (mg_h L xs I) Q := by
  refine cl_start mx_50 (ls := [.ref 5, .int (nI o)]) rfl ?_
  refine me_iload_n (p' := 1) k50_0 rfl rfl ?_
  refine me_iconst (p' := 2) k50_1 rfl (v := nI 1) (by decide) ?_
  refine me_ic_eq (p' := 5) k50_2 rfl (fun c1 => ?_) (fun c1 => ?_)
  · skip
    rw [cI_eq (a := o) (b := 1) (by omega) (by omega)] at c1
    refine me_iconst (p' := 14) k50_13 rfl (v := nI 1) (by decide) ?_
    refine me_goto k50_14 ?_
    refine me_reti k50_18 rt_50 (by decide) ?_
    exact h1 (by omega)
  · skip
    rw [cI_eq (a := o) (b := 1) (by omega) (by omega)] at c1
    refine me_aload_n (p' := 6) k50_5 rfl rfl ?_
    refine me_iload_n (p' := 7) k50_6 rfl rfl ?_
    refine me_ci (p' := 10) k50_7 rfl rfl (by decide) rfl (by decide) rfl rfl (cl_le mx_52 rfl) (by decide) (cl_sum rfl) (ct_isu_car5 ho (fun e => ?_) (fun e => ?_))
    · skip
      refine me_if_eq (p' := 13) k50_10 rfl (fun h => absurd h (by decide)) (fun _ => ?_)
      refine me_iconst (p' := 14) k50_13 rfl (v := nI 1) (by decide) ?_
      refine me_goto k50_14 ?_
      refine me_reti k50_18 rt_50 (by decide) ?_
      exact h1 (by omega)
    · skip
      refine me_if_eq (p' := 13) k50_10 rfl (fun _ => ?_) (fun h => absurd (by decide) h)
      refine me_iconst (p' := 18) k50_17 rfl (v := nI 0) (by decide) ?_
      refine me_reti k50_18 rt_50 (by decide) ?_
      exact h0 (by omega)
theorem ct_isu_light4 {d L : Nat} {xs : Nat → Int32} {I : Nat → Nat → Int32} {Q : Option Value → mj_H → Prop} {o : Nat} (ho : o < 6) (h1 : o = 2 ∨ o = 0 → Q (some (.int (nI 1))) (mg_h L xs I)) (h0 : ¬ (o = 2 ∨ o = 0) → Q (some (.int (nI 0))) (mg_h L xs I)) : mj_Cl (d + 1) 48 [.ref 4, .int (nI o)] (mg_h L xs I) Q := by
  refine cl_start mx_48 (ls := [.ref 4, .int (nI o)]) rfl ?_
  refine me_iload_n (p' := 1) k48_0 rfl rfl ?_
  refine me_iconst (p' := 2) k48_1 rfl (v := nI 2) (by decide) ?_
  refine me_ic_eq (p' := 5) k48_2 rfl (fun c1 => ?_) (fun c1 => ?_)
  · skip
    rw [cI_eq (a := o) (b := 2) (by omega) (by omega)] at c1
    refine me_iconst (p' := 14) k48_13 rfl (v := nI 1) (by decide) ?_
    refine me_goto k48_14 ?_
    refine me_reti k48_18 rt_48 (by decide) ?_
    exact h1 (by omega)
  · skip
    rw [cI_eq (a := o) (b := 2) (by omega) (by omega)] at c1
    refine me_aload_n (p' := 6) k48_5 rfl rfl ?_
    refine me_iload_n (p' := 7) k48_6 rfl rfl ?_
    refine me_ci (p' := 10) k48_7 rfl rfl (by decide) rfl (by decide) rfl rfl (cl_le mx_52 rfl) (by decide) (cl_sum rfl) (ct_isu_car4 ho (fun e => ?_) (fun e => ?_))
    · skip
      refine me_if_eq (p' := 13) k48_10 rfl (fun h => absurd h (by decide)) (fun _ => ?_)
      refine me_iconst (p' := 14) k48_13 rfl (v := nI 1) (by decide) ?_
      refine me_goto k48_14 ?_
      refine me_reti k48_18 rt_48 (by decide) ?_
      exact h1 (by omega)
    · skip
      refine me_if_eq (p' := 13) k48_10 rfl (fun _ => ?_) (fun h => absurd (by decide) h)
      refine me_iconst (p' := 18) k48_17 rfl (v := nI 0) (by decide) ?_
      refine me_reti k48_18 rt_48 (by decide) ?_
      exact h0 (by omega)
theorem ct_isu_light6 {d L : Nat} {xs : Nat → Int32} {I : Nat → Nat → Int32} {Q : Option Value → mj_H → Prop} {o : Nat} (ho : o < 6) (h1 : o = 2 ∨ o = 0 → Q (some (.int (nI 1))) (mg_h L xs I)) (h0 : ¬ (o = 2 ∨ o = 0) → Q (some (.int (nI 0))) (mg_h L xs I)) : mj_Cl (d + 1) 48 [.ref 6, .int (nI o)] (mg_h L xs I) Q := by
  refine cl_start mx_48 (ls := [.ref 6, .int (nI o)]) rfl ?_
  refine me_iload_n (p' := 1) k48_0 rfl rfl ?_
  refine me_iconst (p' := 2) k48_1 rfl (v := nI 2) (by decide) ?_
  refine me_ic_eq (p' := 5) k48_2 rfl (fun c1 => ?_) (fun c1 => ?_)
  · skip
    rw [cI_eq (a := o) (b := 2) (by omega) (by omega)] at c1
    refine me_iconst (p' := 14) k48_13 rfl (v := nI 1) (by decide) ?_
    refine me_goto k48_14 ?_
    refine me_reti k48_18 rt_48 (by decide) ?_
    exact h1 (by omega)
  · skip
    rw [cI_eq (a := o) (b := 2) (by omega) (by omega)] at c1
    refine me_aload_n (p' := 6) k48_5 rfl rfl ?_
    refine me_iload_n (p' := 7) k48_6 rfl rfl ?_
    refine me_ci (p' := 10) k48_7 rfl rfl (by decide) rfl (by decide) rfl rfl (cl_le mx_52 rfl) (by decide) (cl_sum rfl) (ct_isu_car6 ho (fun e => ?_) (fun e => ?_))
    · skip
      refine me_if_eq (p' := 13) k48_10 rfl (fun h => absurd h (by decide)) (fun _ => ?_)
      refine me_iconst (p' := 14) k48_13 rfl (v := nI 1) (by decide) ?_
      refine me_goto k48_14 ?_
      refine me_reti k48_18 rt_48 (by decide) ?_
      exact h1 (by omega)
    · skip
      refine me_if_eq (p' := 13) k48_10 rfl (fun _ => ?_) (fun h => absurd (by decide) h)
      refine me_iconst (p' := 18) k48_17 rfl (v := nI 0) (by decide) ?_
      refine me_reti k48_18 rt_48 (by decide) ?_
      exact h0 (by omega)
theorem ct_isu_iron5 {d L : Nat} {xs : Nat → Int32} {I : Nat → Nat → Int32} {Q : Option Value → mj_H → Prop} {o : Nat} (ho : o < 6) (h1 : o = 3 ∨ o = 1 ∨ o = 0 → Q (some (.int (nI 1))) (mg_h L xs I)) (h0 : ¬ (o = 3 ∨ o = 1 ∨ o = 0) → Q (some (.int (nI 0))) (mg_h L xs I)) : mj_Cl (d + 2) 51 [.ref 5, .int (nI o)] (mg_h L xs I) Q := by
  refine cl_start mx_51 (ls := [.ref 5, .int (nI o)]) rfl ?_
  refine me_iload_n (p' := 1) k51_0 rfl rfl ?_
  refine me_iconst (p' := 2) k51_1 rfl (v := nI 3) (by decide) ?_
  refine me_ic_eq (p' := 5) k51_2 rfl (fun c1 => ?_) (fun c1 => ?_)
  · skip
    rw [cI_eq (a := o) (b := 3) (by omega) (by omega)] at c1
    refine me_iconst (p' := 14) k51_13 rfl (v := nI 1) (by decide) ?_
    refine me_goto k51_14 ?_
    refine me_reti k51_18 rt_51 (by decide) ?_
    exact h1 (by omega)
  · skip
    rw [cI_eq (a := o) (b := 3) (by omega) (by omega)] at c1
    refine me_aload_n (p' := 6) k51_5 rfl rfl ?_
    refine me_iload_n (p' := 7) k51_6 rfl rfl ?_
    refine me_ci (p' := 10) k51_7 rfl rfl (by decide) rfl (by decide) rfl rfl (cl_le mx_50 rfl) (by decide) (cl_sum rfl) (ct_isu_heavy5 ho (fun e => ?_) (fun e => ?_))
    · skip
      refine me_if_eq (p' := 13) k51_10 rfl (fun h => absurd h (by decide)) (fun _ => ?_)
      refine me_iconst (p' := 14) k51_13 rfl (v := nI 1) (by decide) ?_
      refine me_goto k51_14 ?_
      refine me_reti k51_18 rt_51 (by decide) ?_
      exact h1 (by omega)
    · skip
      refine me_if_eq (p' := 13) k51_10 rfl (fun _ => ?_) (fun h => absurd (by decide) h)
      refine me_iconst (p' := 18) k51_17 rfl (v := nI 0) (by decide) ?_
      refine me_reti k51_18 rt_51 (by decide) ?_
      exact h0 (by omega)
theorem ct_isu_bridal6 {d L : Nat} {xs : Nat → Int32} {I : Nat → Nat → Int32} {Q : Option Value → mj_H → Prop} {o : Nat} (ho : o < 6) (h1 : o = 4 ∨ o = 2 ∨ o = 0 → Q (some (.int (nI 1))) (mg_h L xs I)) (h0 : ¬ (o = 4 ∨ o = 2 ∨ o = 0) → Q (some (.int (nI 0))) (mg_h L xs I)) : mj_Cl (d + 2) 47 [.ref 6, .int (nI o)] (mg_h L xs I) Q := by
  refine cl_start mx_47 (ls := [.ref 6, .int (nI o)]) rfl ?_
  refine me_iload_n (p' := 1) k47_0 rfl rfl ?_
  refine me_iconst (p' := 2) k47_1 rfl (v := nI 4) (by decide) ?_
  refine me_ic_eq (p' := 5) k47_2 rfl (fun c1 => ?_) (fun c1 => ?_)
  · skip
    rw [cI_eq (a := o) (b := 4) (by omega) (by omega)] at c1
    refine me_iconst (p' := 14) k47_13 rfl (v := nI 1) (by decide) ?_
    refine me_goto k47_14 ?_
    refine me_reti k47_18 rt_47 (by decide) ?_
    exact h1 (by omega)
  · skip
    rw [cI_eq (a := o) (b := 4) (by omega) (by omega)] at c1
    refine me_aload_n (p' := 6) k47_5 rfl rfl ?_
    refine me_iload_n (p' := 7) k47_6 rfl rfl ?_
    refine me_ci (p' := 10) k47_7 rfl rfl (by decide) rfl (by decide) rfl rfl (cl_le mx_48 rfl) (by decide) (cl_sum rfl) (ct_isu_light6 ho (fun e => ?_) (fun e => ?_))
    · skip
      refine me_if_eq (p' := 13) k47_10 rfl (fun h => absurd h (by decide)) (fun _ => ?_)
      refine me_iconst (p' := 14) k47_13 rfl (v := nI 1) (by decide) ?_
      refine me_goto k47_14 ?_
      refine me_reti k47_18 rt_47 (by decide) ?_
      exact h1 (by omega)
    · skip
      refine me_if_eq (p' := 13) k47_10 rfl (fun _ => ?_) (fun h => absurd (by decide) h)
      refine me_iconst (p' := 18) k47_17 rfl (v := nI 0) (by decide) ?_
      refine me_reti k47_18 rt_47 (by decide) ?_
      exact h0 (by omega)
theorem ct_isu_ghost7 {d L : Nat} {xs : Nat → Int32} {I : Nat → Nat → Int32} {Q : Option Value → mj_H → Prop} {o : Nat} (ho : o < 6) (h1 : o = 5 ∨ o = 0 → Q (some (.int (nI 1))) (mg_h L xs I)) (h0 : ¬ (o = 5 ∨ o = 0) → Q (some (.int (nI 0))) (mg_h L xs I)) : mj_Cl (d + 1) 49 [.ref 7, .int (nI o)] (mg_h L xs I) Q := by
  refine cl_start mx_49 (ls := [.ref 7, .int (nI o)]) rfl ?_
  refine me_iload_n (p' := 1) k49_0 rfl rfl ?_
  refine me_iconst (p' := 2) k49_1 rfl (v := nI 5) (by decide) ?_
  refine me_ic_eq (p' := 5) k49_2 rfl (fun c1 => ?_) (fun c1 => ?_)
  · skip
    rw [cI_eq (a := o) (b := 5) (by omega) (by omega)] at c1
    refine me_iconst (p' := 14) k49_13 rfl (v := nI 1) (by decide) ?_
    refine me_goto k49_14 ?_
    refine me_reti k49_18 rt_49 (by decide) ?_
    exact h1 (by omega)
  · skip
    rw [cI_eq (a := o) (b := 5) (by omega) (by omega)] at c1
    refine me_aload_n (p' := 6) k49_5 rfl rfl ?_
    refine me_iload_n (p' := 7) k49_6 rfl rfl ?_
    refine me_ci (p' := 10) k49_7 rfl rfl (by decide) rfl (by decide) rfl rfl (cl_le mx_52 rfl) (by decide) (cl_sum rfl) (ct_isu_car7 ho (fun e => ?_) (fun e => ?_))
    · skip
      refine me_if_eq (p' := 13) k49_10 rfl (fun h => absurd h (by decide)) (fun _ => ?_)
      refine me_iconst (p' := 14) k49_13 rfl (v := nI 1) (by decide) ?_
      refine me_goto k49_14 ?_
      refine me_reti k49_18 rt_49 (by decide) ?_
      exact h1 (by omega)
    · skip
      refine me_if_eq (p' := 13) k49_10 rfl (fun _ => ?_) (fun h => absurd (by decide) h)
      refine me_iconst (p' := 18) k49_17 rfl (v := nI 0) (by decide) ?_
      refine me_reti k49_18 rt_49 (by decide) ?_
      exact h0 (by omega)
theorem ct_gn2 {d L : Nat} {xs : Nat → Int32} {I : Nat → Nat → Int32} {Q : Option Value → mj_H → Prop} {a : Nat} {r b : Int32} (ha : 1 ≤ a ∧ a < 21) (hQ : Q (some (.int (nI a))) (mg_h L xs I)) : mj_Cl d 31 [.ref 2, .int (nI a), .int r, .int b] (mg_h L xs I) Q := by
  refine cl_start mx_31 (ls := [.ref 2, .int (nI a), .int r, .int b]) rfl ?_
  refine me_iload_n (p' := 1) k31_0 rfl rfl ?_
  refine me_reti k31_1 rt_31 rfl ?_
  exact hQ
theorem ct_gnh3 {d L : Nat} {xs : Nat → Int32} {I : Nat → Nat → Int32} {Q : Option Value → mj_H → Prop} {a : Nat} {r b : Int32} (ha : 1 ≤ a ∧ a < 21) (hQ : Q (some (.int (sp_heavy (nI a) r))) (mg_h L xs I)) : mj_Cl d 29 [.ref 3, .int (nI a), .int r, .int b] (mg_h L xs I) Q := by
  refine cl_start mx_29 (ls := [.ref 3, .int (nI a), .int r, .int b]) rfl ?_
  refine me_iload_n (p' := 1) k29_0 rfl rfl ?_
  refine me_if_ge (p' := 4) k29_1 rfl (fun c1 => ?_) (fun c1 => ?_)
  · skip
    refine me_iload_n (p' := 16) k29_15 rfl rfl ?_
    refine me_reti k29_16 rt_29 rfl ?_
    rw [sp_heavy, if_pos c1, ← sp_wi a ha.2 ha.1] at hQ
    exact hQ
  · skip
    refine me_bipush (p' := 6) k29_4 rfl (v := nI 20) (by decide) ?_
    refine me_iload_n (p' := 7) k29_6 rfl rfl ?_
    refine me_iconst (p' := 8) k29_7 rfl (v := nI 2) (by decide) ?_
    refine me_iadd (p' := 9) k29_8 rfl (v := nI (a + 2)) (mI_add _ _) ?_
    refine me_min (p' := 12) k29_9 rfl (cl_sum rfl) rfl ?_
    refine me_goto k29_12 ?_
    refine me_reti k29_16 rt_29 rfl ?_
    rw [sp_heavy, if_neg c1, ← sp_hv a ha.2 ha.1] at hQ
    exact hQ
theorem ct_gnh5 {d L : Nat} {xs : Nat → Int32} {I : Nat → Nat → Int32} {Q : Option Value → mj_H → Prop} {a : Nat} {r b : Int32} (ha : 1 ≤ a ∧ a < 21) (hQ : Q (some (.int (sp_heavy (nI a) r))) (mg_h L xs I)) : mj_Cl d 29 [.ref 5, .int (nI a), .int r, .int b] (mg_h L xs I) Q := by
  refine cl_start mx_29 (ls := [.ref 5, .int (nI a), .int r, .int b]) rfl ?_
  refine me_iload_n (p' := 1) k29_0 rfl rfl ?_
  refine me_if_ge (p' := 4) k29_1 rfl (fun c1 => ?_) (fun c1 => ?_)
  · skip
    refine me_iload_n (p' := 16) k29_15 rfl rfl ?_
    refine me_reti k29_16 rt_29 rfl ?_
    rw [sp_heavy, if_pos c1, ← sp_wi a ha.2 ha.1] at hQ
    exact hQ
  · skip
    refine me_bipush (p' := 6) k29_4 rfl (v := nI 20) (by decide) ?_
    refine me_iload_n (p' := 7) k29_6 rfl rfl ?_
    refine me_iconst (p' := 8) k29_7 rfl (v := nI 2) (by decide) ?_
    refine me_iadd (p' := 9) k29_8 rfl (v := nI (a + 2)) (mI_add _ _) ?_
    refine me_min (p' := 12) k29_9 rfl (cl_sum rfl) rfl ?_
    refine me_goto k29_12 ?_
    refine me_reti k29_16 rt_29 rfl ?_
    rw [sp_heavy, if_neg c1, ← sp_hv a ha.2 ha.1] at hQ
    exact hQ
theorem ct_gnl4 {d L : Nat} {xs : Nat → Int32} {I : Nat → Nat → Int32} {Q : Option Value → mj_H → Prop} {a : Nat} {r b : Int32} (ha : 1 ≤ a ∧ a < 21) (hQ : Q (some (.int (sp_light (nI a)))) (mg_h L xs I)) : mj_Cl d 27 [.ref 4, .int (nI a), .int r, .int b] (mg_h L xs I) Q := by
  refine cl_start mx_27 (ls := [.ref 4, .int (nI a), .int r, .int b]) rfl ?_
  refine me_iconst (p' := 1) k27_0 rfl (v := nI 1) (by decide) ?_
  refine me_iload_n (p' := 2) k27_1 rfl rfl ?_
  refine me_iconst (p' := 3) k27_2 rfl (v := nI 2) (by decide) ?_
  refine me_idiv (p' := 4) k27_3 rfl (nI_ne0 (by omega) (by omega)) (v := nI (a / 2)) (mI_div (by omega) (by omega)) ?_
  refine me_max (p' := 7) k27_4 rfl (cl_sum rfl) rfl ?_
  refine me_reti k27_7 rt_27 rfl ?_
  rw [sp_light, ← sp_lt a ha.2 ha.1] at hQ
  exact hQ
theorem ct_gnl6 {d L : Nat} {xs : Nat → Int32} {I : Nat → Nat → Int32} {Q : Option Value → mj_H → Prop} {a : Nat} {r b : Int32} (ha : 1 ≤ a ∧ a < 21) (hQ : Q (some (.int (sp_light (nI a)))) (mg_h L xs I)) : mj_Cl d 27 [.ref 6, .int (nI a), .int r, .int b] (mg_h L xs I) Q := by
  refine cl_start mx_27 (ls := [.ref 6, .int (nI a), .int r, .int b]) rfl ?_
  refine me_iconst (p' := 1) k27_0 rfl (v := nI 1) (by decide) ?_
  refine me_iload_n (p' := 2) k27_1 rfl rfl ?_
  refine me_iconst (p' := 3) k27_2 rfl (v := nI 2) (by decide) ?_
  refine me_idiv (p' := 4) k27_3 rfl (nI_ne0 (by omega) (by omega)) (v := nI (a / 2)) (mI_div (by omega) (by omega)) ?_
  refine me_max (p' := 7) k27_4 rfl (cl_sum rfl) rfl ?_
  refine me_reti k27_7 rt_27 rfl ?_
  rw [sp_light, ← sp_lt a ha.2 ha.1] at hQ
  exact hQ
theorem ct_gn5 {d L : Nat} {xs : Nat → Int32} {I : Nat → Nat → Int32} {Q : Option Value → mj_H → Prop} {a : Nat} {r b : Int32} (ha : 1 ≤ a ∧ a < 21) (hQ : Q (some (.int (sp_within (if r ≤ 0 then sp_heavy (nI a) r else sp_heavy (nI a) r - nI 1) (nI 1) (nI 20)))) (mg_h L xs I)) : mj_Cl (d + 1) 30 [.ref 5, .int (nI a), .int r, .int b] (mg_h L xs I) Q := by
  refine cl_start mx_30 (ls := [.ref 5, .int (nI a), .int r, .int b, mj_no]) rfl ?_
  refine me_aload_n (p' := 1) k30_0 rfl rfl ?_
  refine me_iload_n (p' := 2) k30_1 rfl rfl ?_
  refine me_iload_n (p' := 3) k30_2 rfl rfl ?_
  refine me_iload_n (p' := 4) k30_3 rfl rfl ?_
  refine me_ci (p' := 7) k30_4 rfl rfl (by decide) rfl (by decide) rfl rfl (cl_le mx_29 rfl) (by decide) (cl_sum rfl) (ct_gnh5 ha ?_)
  obtain ⟨h, hh, hh1, hh2⟩ : ∃ k, sp_heavy (nI a) r = nI k ∧ 1 ≤ k ∧ k ≤ 20 := sp_within_rng (by decide) (by decide)
  rw [hh]
  rw [hh] at hQ
  refine me_istore (p' := 9) k30_7 rfl ⟨Nat.le_of_ble_eq_true rfl, rfl⟩ rfl ?_
  refine me_iload_n (p' := 10) k30_9 rfl rfl ?_
  refine me_if_le (p' := 13) k30_10 rfl (fun c1 => ?_) (fun c1 => ?_)
  · skip
    refine me_iload (p' := 26) k30_24 rfl rfl ?_
    refine me_reti k30_26 rt_30 rfl ?_
    rw [if_pos c1, ← sp_wi h (by omega) hh1] at hQ
    exact hQ
  · skip
    refine me_iconst (p' := 14) k30_13 rfl (v := nI 1) (by decide) ?_
    refine me_iload (p' := 16) k30_14 rfl rfl ?_
    refine me_iconst (p' := 17) k30_16 rfl (v := nI 1) (by decide) ?_
    refine me_isub (p' := 18) k30_17 rfl rfl ?_
    refine me_max (p' := 21) k30_18 rfl (cl_sum rfl) rfl ?_
    refine me_goto k30_21 ?_
    refine me_reti k30_26 rt_30 rfl ?_
    rw [if_neg c1, ← sp_ir h (by omega) hh1] at hQ
    exact hQ
theorem ct_gn6 {d L : Nat} {xs : Nat → Int32} {I : Nat → Nat → Int32} {Q : Option Value → mj_H → Prop} {a : Nat} {r b : Int32} (ha : 1 ≤ a ∧ a < 21) (hQ : Q (some (.int (if b < nI 5 then sp_light (nI a) else nI 1))) (mg_h L xs I)) : mj_Cl (d + 1) 26 [.ref 6, .int (nI a), .int r, .int b] (mg_h L xs I) Q := by
  refine cl_start mx_26 (ls := [.ref 6, .int (nI a), .int r, .int b]) rfl ?_
  refine me_iload_n (p' := 1) k26_0 rfl rfl ?_
  refine me_iconst (p' := 2) k26_1 rfl (v := nI 5) (by decide) ?_
  refine me_ic_lt (p' := 5) k26_2 rfl (fun c1 => ?_) (fun c1 => ?_)
  · skip
    refine me_aload_n (p' := 10) k26_9 rfl rfl ?_
    refine me_iload_n (p' := 11) k26_10 rfl rfl ?_
    refine me_iload_n (p' := 12) k26_11 rfl rfl ?_
    refine me_iload_n (p' := 13) k26_12 rfl rfl ?_
    refine me_ci (p' := 16) k26_13 rfl rfl (by decide) rfl (by decide) rfl rfl (cl_le mx_27 rfl) (by decide) (cl_sum rfl) (ct_gnl6 ha ?_)
    refine me_reti k26_16 rt_26 rfl ?_
    rw [if_pos c1] at hQ
    exact hQ
  · skip
    refine me_iconst (p' := 6) k26_5 rfl (v := nI 1) (by decide) ?_
    refine me_goto k26_6 ?_
    refine me_reti k26_16 rt_26 rfl ?_
    rw [if_neg c1] at hQ
    exact hQ
theorem ct_gn7 {d L : Nat} {xs : Nat → Int32} {I : Nat → Nat → Int32} {Q : Option Value → mj_H → Prop} {a : Nat} {r b : Int32} (ha : 1 ≤ a ∧ a < 21) (hQ : Q (some (.int (nI 7))) (mg_h L xs I)) : mj_Cl d 28 [.ref 7, .int (nI a), .int r, .int b] (mg_h L xs I) Q := by
  refine cl_start mx_28 (ls := [.ref 7, .int (nI a), .int r, .int b]) rfl ?_
  refine me_bipush (p' := 2) k28_0 rfl (v := nI 7) (by decide) ?_
  refine me_reti k28_2 rt_28 rfl ?_
  exact hQ
theorem ct_ld2 {d L : Nat} {xs : Nat → Int32} {I : Nat → Nat → Int32} {Q : Option Value → mj_H → Prop}  (hQ : Q (some (.int (nI 2))) (mg_h L xs I)) : mj_Cl d 37 [.ref 2] (mg_h L xs I) Q := by
  refine cl_start mx_37 (ls := [.ref 2]) rfl ?_
  refine me_iconst (p' := 1) k37_0 rfl (v := nI 2) (by decide) ?_
  refine me_reti k37_1 rt_37 rfl ?_
  exact hQ
theorem ct_ld3 {d L : Nat} {xs : Nat → Int32} {I : Nat → Nat → Int32} {Q : Option Value → mj_H → Prop}  (hQ : Q (some (.int (nI 1))) (mg_h L xs I)) : mj_Cl d 36 [.ref 3] (mg_h L xs I) Q := by
  refine cl_start mx_36 (ls := [.ref 3]) rfl ?_
  refine me_iconst (p' := 1) k36_0 rfl (v := nI 1) (by decide) ?_
  refine me_reti k36_1 rt_36 rfl ?_
  exact hQ
theorem ct_ld5 {d L : Nat} {xs : Nat → Int32} {I : Nat → Nat → Int32} {Q : Option Value → mj_H → Prop}  (hQ : Q (some (.int (nI 1))) (mg_h L xs I)) : mj_Cl d 36 [.ref 5] (mg_h L xs I) Q := by
  refine cl_start mx_36 (ls := [.ref 5]) rfl ?_
  refine me_iconst (p' := 1) k36_0 rfl (v := nI 1) (by decide) ?_
  refine me_reti k36_1 rt_36 rfl ?_
  exact hQ
theorem ct_ldl4 {d L : Nat} {xs : Nat → Int32} {I : Nat → Nat → Int32} {Q : Option Value → mj_H → Prop}  (hQ : Q (some (.int (nI 3))) (mg_h L xs I)) : mj_Cl d 34 [.ref 4] (mg_h L xs I) Q := by
  refine cl_start mx_34 (ls := [.ref 4]) rfl ?_
  refine me_iconst (p' := 1) k34_0 rfl (v := nI 3) (by decide) ?_
  refine me_reti k34_1 rt_34 rfl ?_
  exact hQ
theorem ct_ldl6 {d L : Nat} {xs : Nat → Int32} {I : Nat → Nat → Int32} {Q : Option Value → mj_H → Prop}  (hQ : Q (some (.int (nI 3))) (mg_h L xs I)) : mj_Cl d 34 [.ref 6] (mg_h L xs I) Q := by
  refine cl_start mx_34 (ls := [.ref 6]) rfl ?_
  refine me_iconst (p' := 1) k34_0 rfl (v := nI 3) (by decide) ?_
  refine me_reti k34_1 rt_34 rfl ?_
  exact hQ
theorem ct_ld6 {d L : Nat} {xs : Nat → Int32} {I : Nat → Nat → Int32} {Q : Option Value → mj_H → Prop}  (hQ : Q (some (.int (nI 4))) (mg_h L xs I)) : mj_Cl (d + 1) 33 [.ref 6] (mg_h L xs I) Q := by
  refine cl_start mx_33 (ls := [.ref 6]) rfl ?_
  refine me_aload_n (p' := 1) k33_0 rfl rfl ?_
  refine me_ci (p' := 4) k33_1 rfl rfl (by decide) rfl (by decide) rfl rfl (cl_le mx_34 rfl) (by decide) (cl_sum rfl) (ct_ldl6 ?_)
  refine me_iconst (p' := 5) k33_4 rfl (v := nI 1) (by decide) ?_
  refine me_iadd (p' := 6) k33_5 rfl (v := nI (3 + 1)) (mI_add _ _) ?_
  refine me_reti k33_6 rt_33 rfl ?_
  exact hQ
theorem ct_ld7 {d L : Nat} {xs : Nat → Int32} {I : Nat → Nat → Int32} {Q : Option Value → mj_H → Prop}  (hQ : Q (some (.int (nI 0))) (mg_h L xs I)) : mj_Cl d 35 [.ref 7] (mg_h L xs I) Q := by
  refine cl_start mx_35 (ls := [.ref 7]) rfl ?_
  refine me_iconst (p' := 1) k35_0 rfl (v := nI 0) (by decide) ?_
  refine me_reti k35_1 rt_35 rfl ?_
  exact hQ
theorem ct_wt2 {d L : Nat} {xs : Nat → Int32} {I : Nat → Nat → Int32} {Q : Option Value → mj_H → Prop} {w : Int32} (hQ : Q (some (.int (w))) (mg_h L xs I)) : mj_Cl d 43 [.ref 2, .int w] (mg_h L xs I) Q := by
  refine cl_start mx_43 (ls := [.ref 2, .int w]) rfl ?_
  refine me_iload_n (p' := 1) k43_0 rfl rfl ?_
  refine me_reti k43_1 rt_43 rfl ?_
  exact hQ
theorem ct_wth3 {d L : Nat} {xs : Nat → Int32} {I : Nat → Nat → Int32} {Q : Option Value → mj_H → Prop} {w : Int32} (hQ : Q (some (.int (w + nI 8))) (mg_h L xs I)) : mj_Cl d 41 [.ref 3, .int w] (mg_h L xs I) Q := by
  refine cl_start mx_41 (ls := [.ref 3, .int w]) rfl ?_
  refine me_iload_n (p' := 1) k41_0 rfl rfl ?_
  refine me_bipush (p' := 3) k41_1 rfl (v := nI 8) (by decide) ?_
  refine me_iadd (p' := 4) k41_3 rfl rfl ?_
  refine me_reti k41_4 rt_41 rfl ?_
  exact hQ
theorem ct_wth5 {d L : Nat} {xs : Nat → Int32} {I : Nat → Nat → Int32} {Q : Option Value → mj_H → Prop} {w : Int32} (hQ : Q (some (.int (w + nI 8))) (mg_h L xs I)) : mj_Cl d 41 [.ref 5, .int w] (mg_h L xs I) Q := by
  refine cl_start mx_41 (ls := [.ref 5, .int w]) rfl ?_
  refine me_iload_n (p' := 1) k41_0 rfl rfl ?_
  refine me_bipush (p' := 3) k41_1 rfl (v := nI 8) (by decide) ?_
  refine me_iadd (p' := 4) k41_3 rfl rfl ?_
  refine me_reti k41_4 rt_41 rfl ?_
  exact hQ
theorem ct_wtl4 {d L : Nat} {xs : Nat → Int32} {I : Nat → Nat → Int32} {Q : Option Value → mj_H → Prop} {w : Int32} (hQ : Q (some (.int (nI 99 - w))) (mg_h L xs I)) : mj_Cl d 39 [.ref 4, .int w] (mg_h L xs I) Q := by
  refine cl_start mx_39 (ls := [.ref 4, .int w]) rfl ?_
  refine me_bipush (p' := 2) k39_0 rfl (v := nI 99) (by decide) ?_
  refine me_iload_n (p' := 3) k39_2 rfl rfl ?_
  refine me_isub (p' := 4) k39_3 rfl rfl ?_
  refine me_reti k39_4 rt_39 rfl ?_
  exact hQ
theorem ct_wtl6 {d L : Nat} {xs : Nat → Int32} {I : Nat → Nat → Int32} {Q : Option Value → mj_H → Prop} {w : Int32} (hQ : Q (some (.int (nI 99 - w))) (mg_h L xs I)) : mj_Cl d 39 [.ref 6, .int w] (mg_h L xs I) Q := by
  refine cl_start mx_39 (ls := [.ref 6, .int w]) rfl ?_
  refine me_bipush (p' := 2) k39_0 rfl (v := nI 99) (by decide) ?_
  refine me_iload_n (p' := 3) k39_2 rfl rfl ?_
  refine me_isub (p' := 4) k39_3 rfl rfl ?_
  refine me_reti k39_4 rt_39 rfl ?_
  exact hQ
theorem ct_wt5 {d L : Nat} {xs : Nat → Int32} {I : Nat → Nat → Int32} {Q : Option Value → mj_H → Prop} {w : Int32} (hQ : Q (some (.int (nI 2 * (w + nI 8)))) (mg_h L xs I)) : mj_Cl (d + 1) 42 [.ref 5, .int w] (mg_h L xs I) Q := by
  refine cl_start mx_42 (ls := [.ref 5, .int w]) rfl ?_
  refine me_iconst (p' := 1) k42_0 rfl (v := nI 2) (by decide) ?_
  refine me_aload_n (p' := 2) k42_1 rfl rfl ?_
  refine me_iload_n (p' := 3) k42_2 rfl rfl ?_
  refine me_ci (p' := 6) k42_3 rfl rfl (by decide) rfl (by decide) rfl rfl (cl_le mx_41 rfl) (by decide) (cl_sum rfl) (ct_wth5 ?_)
  refine me_imul (p' := 7) k42_6 rfl rfl ?_
  refine me_reti k42_7 rt_42 rfl ?_
  exact hQ
theorem ct_wt6 {d L : Nat} {xs : Nat → Int32} {I : Nat → Nat → Int32} {Q : Option Value → mj_H → Prop} {w : Int32} (hQ : Q (some (.int (nI 96 - w))) (mg_h L xs I)) : mj_Cl (d + 1) 38 [.ref 6, .int w] (mg_h L xs I) Q := by
  refine cl_start mx_38 (ls := [.ref 6, .int w]) rfl ?_
  refine me_aload_n (p' := 1) k38_0 rfl rfl ?_
  refine me_iload_n (p' := 2) k38_1 rfl rfl ?_
  refine me_ci (p' := 5) k38_2 rfl rfl (by decide) rfl (by decide) rfl rfl (cl_le mx_39 rfl) (by decide) (cl_sum rfl) (ct_wtl6 ?_)
  refine me_iconst (p' := 6) k38_5 rfl (v := nI 3) (by decide) ?_
  refine me_isub (p' := 7) k38_6 rfl rfl ?_
  refine me_reti k38_7 rt_38 rfl ?_
  rw [show nI 99 - w - nI 3 = nI 96 - w from by rw [Int32.sub_eq_add_neg, Int32.sub_eq_add_neg, Int32.sub_eq_add_neg, Int32.add_assoc, Int32.add_comm (-w), ← Int32.add_assoc]; rfl]
  exact hQ
theorem ct_wt7 {d L : Nat} {xs : Nat → Int32} {I : Nat → Nat → Int32} {Q : Option Value → mj_H → Prop} {w : Int32} (hQ : Q (some (.int (nI 4))) (mg_h L xs I)) : mj_Cl d 40 [.ref 7, .int w] (mg_h L xs I) Q := by
  refine cl_start mx_40 (ls := [.ref 7, .int w]) rfl ?_
  refine me_iconst (p' := 1) k40_0 rfl (v := nI 4) (by decide) ?_
  refine me_reti k40_1 rt_40 rfl ?_
  exact hQ
theorem cg_isUnder {d L : Nat} {xs : Nat → Int32} {I : Nat → Nat → Int32} {Q : Option Value → mj_H → Prop} {q : Nat} (hq : q < 6) {o : Nat} (ho : o < 6) (h1 : sp_under q o → Q (some (.int (nI 1))) (mg_h L xs I)) (h0 : ¬ sp_under q o → Q (some (.int (nI 0))) (mg_h L xs I)) : mj_Cl (d + 2) (mj_dn0 q) [.ref (2 + q), .int (nI o)] (mg_h L xs I) Q := by
  rcases (show q = 0 ∨ q = 1 ∨ q = 2 ∨ q = 3 ∨ q = 4 ∨ q = 5 by omega) with rfl | rfl | rfl | rfl | rfl | rfl
  · exact ct_isu_car2 (d := d + 2) ho (fun e => h1 (by unfold sp_under; omega)) (fun e => h0 (by unfold sp_under; omega))
  · exact ct_isu_heavy3 (d := d + 1) ho (fun e => h1 (by unfold sp_under; omega)) (fun e => h0 (by unfold sp_under; omega))
  · exact ct_isu_light4 (d := d + 1) ho (fun e => h1 (by unfold sp_under; omega)) (fun e => h0 (by unfold sp_under; omega))
  · exact ct_isu_iron5 (d := d + 0) ho (fun e => h1 (by unfold sp_under; omega)) (fun e => h0 (by unfold sp_under; omega))
  · exact ct_isu_bridal6 (d := d + 0) ho (fun e => h1 (by unfold sp_under; omega)) (fun e => h0 (by unfold sp_under; omega))
  · exact ct_isu_ghost7 (d := d + 1) ho (fun e => h1 (by unfold sp_under; omega)) (fun e => h0 (by unfold sp_under; omega))
theorem cg_gains {d L : Nat} {xs : Nat → Int32} {I : Nat → Nat → Int32} {Q : Option Value → mj_H → Prop} {q : Nat} (hq : q < 6) {a : Nat} {r b : Int32} (ha : 1 ≤ a ∧ a < 21) (hQ : Q (some (.int (sp_gain q (nI a) r b))) (mg_h L xs I)) : mj_Cl (d + 1) (mj_dn1 q) [.ref (2 + q), .int (nI a), .int r, .int b] (mg_h L xs I) Q := by
  rcases (show q = 0 ∨ q = 1 ∨ q = 2 ∨ q = 3 ∨ q = 4 ∨ q = 5 by omega) with rfl | rfl | rfl | rfl | rfl | rfl
  · exact ct_gn2 (d := d + 1) ha hQ
  · exact ct_gnh3 (d := d + 1) ha hQ
  · exact ct_gnl4 (d := d + 1) ha hQ
  · exact ct_gn5 (d := d + 0) ha hQ
  · exact ct_gn6 (d := d + 0) ha hQ
  · exact ct_gn7 (d := d + 1) ha hQ
theorem cg_loud {d L : Nat} {xs : Nat → Int32} {I : Nat → Nat → Int32} {Q : Option Value → mj_H → Prop} {q : Nat} (hq : q < 6)  (hQ : Q (some (.int (nI (sp_loud q)))) (mg_h L xs I)) : mj_Cl (d + 1) (mj_dn2 q) [.ref (2 + q)] (mg_h L xs I) Q := by
  rcases (show q = 0 ∨ q = 1 ∨ q = 2 ∨ q = 3 ∨ q = 4 ∨ q = 5 by omega) with rfl | rfl | rfl | rfl | rfl | rfl
  · exact ct_ld2 (d := d + 1) hQ
  · exact ct_ld3 (d := d + 1) hQ
  · exact ct_ldl4 (d := d + 1) hQ
  · exact ct_ld5 (d := d + 1) hQ
  · exact ct_ld6 (d := d + 0) hQ
  · exact ct_ld7 (d := d + 1) hQ
theorem cg_worth {d L : Nat} {xs : Nat → Int32} {I : Nat → Nat → Int32} {Q : Option Value → mj_H → Prop} {q : Nat} (hq : q < 6) {w : Int32} (hQ : Q (some (.int (sp_worth q w))) (mg_h L xs I)) : mj_Cl (d + 1) (mj_dn3 q) [.ref (2 + q), .int w] (mg_h L xs I) Q := by
  rcases (show q = 0 ∨ q = 1 ∨ q = 2 ∨ q = 3 ∨ q = 4 ∨ q = 5 by omega) with rfl | rfl | rfl | rfl | rfl | rfl
  · exact ct_wt2 (d := d + 1) hQ
  · exact ct_wth3 (d := d + 1) hQ
  · exact ct_wtl4 (d := d + 1) hQ
  · exact ct_wt5 (d := d + 0) hQ
  · exact ct_wt6 (d := d + 0) hQ
  · exact ct_wt7 (d := d + 1) hQ
