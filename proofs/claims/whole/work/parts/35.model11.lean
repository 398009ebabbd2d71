/-! ===== the model: what is called (4) ===== -/
theorem mOk.upX {s : Nat → Int32} {n k : Nat} {v : Int32} (h : mOk s n) (h1 : k ≠ 1) (h3 : k ≠ 3) (hk : k < 29 ∨ 109 ≤ k ∨ (53 ≤ k ∧ 3 ≤ (k - 53) % 7)) : mOk (up s k v) n := by
  have hn8 := h.hn.2
  refine mOk.mk ⟨?_, hn8⟩ (fun c hc => ?_) (fun c hc => ?_) (fun c hc => ?_) (fun p hp => ?_) (fun p hp => ?_) ?_
  · rw [up_ne (by omega)]; exact h.hn.1
  · rw [up_ne (by omega)]; exact h.kd' c hc
  · rw [up_ne (by omega)]; exact h.ft' c hc
  · rw [up_ne (by omega)]; exact h.wt c hc
  · rw [up_ne (by omega)]; exact h.sc p hp
  · rw [up_ne (by omega)]; exact h.se p hp
  · rw [up_ne (by omega)]; exact h.gp
theorem mOk.upK {s : Nat → Int32} {n c q : Nat} (h : mOk s n) (hc : c < n) (hq : q < 6) : mOk (up s (53 + (7 * c)) (nI q)) n := by
  have hn8 := h.hn.2
  refine mOk.mk ⟨?_, hn8⟩ (fun c' hc' => ?_) (fun c hc => ?_) (fun c hc => ?_) (fun p hp => ?_) (fun p hp => ?_) ?_
  · rw [up_ne (by omega)]; exact h.hn.1
  · by_cases e : c' = c
    · subst e; exact ⟨q, up_eq, hq⟩
    · rw [up_ne (by omega)]; exact h.kd' c' hc'
  · rw [up_ne (by omega)]; exact h.ft' c hc
  · rw [up_ne (by omega)]; exact h.wt c hc
  · rw [up_ne (by omega)]; exact h.sc p hp
  · rw [up_ne (by omega)]; exact h.se p hp
  · rw [up_ne (by omega)]; exact h.gp
theorem mOk.upG {s : Nat → Int32} {n g : Nat} (h : mOk s n) (h1 : 1 ≤ g) (h2 : g ≤ 60) : mOk (up s 3 (nI g)) n := by
  have hn8 := h.hn.2
  refine mOk.mk ⟨?_, hn8⟩ (fun c' hc' => ?_) (fun c hc => ?_) (fun c hc => ?_) (fun p hp => ?_) (fun p hp => ?_) ⟨g, up_eq, h1, h2⟩
  · rw [up_ne (by omega)]; exact h.hn.1
  · rw [up_ne (by omega)]; exact h.kd' c' hc'
  · rw [up_ne (by omega)]; exact h.ft' c hc
  · rw [up_ne (by omega)]; exact h.wt c hc
  · rw [up_ne (by omega)]; exact h.sc p hp
  · rw [up_ne (by omega)]; exact h.se p hp
theorem mOk.upW {s : Nat → Int32} {n c w : Nat} (h : mOk s n) (hc : c < n) (h1 : 1 ≤ w) (h2 : w ≤ 99) : mOk (up s (53 + (7 * c) + 2) (nI w)) n := by
  have hn8 := h.hn.2
  refine mOk.mk ⟨?_, hn8⟩ (fun c' hc' => ?_) (fun c hc => ?_) (fun c' hc' => ?_) (fun p hp => ?_) (fun p hp => ?_) ?_
  · rw [up_ne (by omega)]; exact h.hn.1
  · rw [up_ne (by omega)]; exact h.kd' c' hc'
  · rw [up_ne (by omega)]; exact h.ft' c hc
  · by_cases e : c' = c
    · subst e; exact ⟨w, up_eq, h1, h2⟩
    · rw [up_ne (by omega)]; exact h.wt c' hc'
  · rw [up_ne (by omega)]; exact h.sc p hp
  · rw [up_ne (by omega)]; exact h.se p hp
  · rw [up_ne (by omega)]; exact h.gp
def sp_swap (s : Nat → Int32) (p o : Nat) : Nat → Int32 := up (up (up (up s (29 + p) (s (29 + o))) (29 + o) (s (29 + p))) (41 + p) (s (41 + o))) (41 + o) (s (41 + p))
theorem mOk.swap {s : Nat → Int32} {n p o : Nat} (h : mOk s n) (hp : p < 12) (ho : o < 12) : mOk (sp_swap s p o) n := by
  have hn8 := h.hn.2
  unfold sp_swap
  refine mOk.mk ⟨?_, hn8⟩ (fun c' hc' => ?_) (fun c hc => ?_) (fun c' hc' => ?_) (fun p' hp' => ?_) (fun p' hp' => ?_) ?_
  · rw [up_ne (by omega), up_ne (by omega), up_ne (by omega), up_ne (by omega)]; exact h.hn.1
  · rw [up_ne (by omega), up_ne (by omega), up_ne (by omega), up_ne (by omega)]; exact h.kd' c' hc'
  · rw [up_ne (by omega), up_ne (by omega), up_ne (by omega), up_ne (by omega)]; exact h.ft' c hc
  · rw [up_ne (by omega), up_ne (by omega), up_ne (by omega), up_ne (by omega)]; exact h.wt c' hc'
  · rw [up_ne (by omega), up_ne (by omega)]
    by_cases e : p' = o
    · subst e; rw [up_eq]; exact h.sc p hp
    · rw [up_ne (by omega)]
      by_cases e2 : p' = p
      · subst e2; rw [up_eq]; exact h.sc o ho
      · rw [up_ne (by omega)]; exact h.sc p' hp'
  · by_cases e : p' = o
    · subst e; rw [up_eq]; exact h.se p hp
    · rw [up_ne (by omega)]
      by_cases e2 : p' = p
      · subst e2; rw [up_eq]; exact h.se o ho
      · rw [up_ne (by omega), up_ne (by omega), up_ne (by omega)]; exact h.se p' hp'
  · rw [up_ne (by omega), up_ne (by omega), up_ne (by omega), up_ne (by omega)]; exact h.gp
/-- the first of the greatest -/
def sp_bst (f : Nat → Int32) : Nat → Nat × Int32
  | 0 => (0, f 0)
  | k + 1 => if (sp_bst f k).2 < f (k + 1) then (k + 1, f (k + 1)) else sp_bst f k
def sp_b1 (f : Nat → Int32) : Nat → Int32
  | 0 => (-1)
  | k + 1 => nI (sp_bst f k).1
def sp_b2 (z : Int32) (f : Nat → Int32) : Nat → Int32
  | 0 => z
  | k + 1 => (sp_bst f k).2
theorem sp_bst_le (f : Nat → Int32) : ∀ k : Nat, (sp_bst f k).1 ≤ k
  | 0 => Nat.le_refl _
  | k + 1 => by
    have := sp_bst_le f k
    unfold sp_bst
    split
    · exact Nat.le_refl _
    · omega
theorem sp_b_neg {f : Nat → Int32} {k : Nat} (hk : k < 1000) : sp_b1 f k < 0 ↔ k = 0 := by
  cases k with
  | zero => exact ⟨fun _ => rfl, fun _ => by show (-1 : Int32) < 0; decide⟩
  | succ k =>
    have := sp_bst_le f k
    exact ⟨fun z => absurd z (nI_pos (by omega)), fun z => by omega⟩
theorem sp_b_hit {z : Int32} {f : Nat → Int32} {k : Nat} (hk : k < 1000) (h : sp_b1 f k < 0 ∨ sp_b2 z f k < f k) : nI k = sp_b1 f (k + 1) ∧ f k = sp_b2 z f (k + 1) := by
  cases k with
  | zero => exact ⟨rfl, rfl⟩
  | succ k =>
    have h2 : (sp_bst f k).2 < f (k + 1) := h.elim (fun e => absurd ((sp_b_neg hk).mp e) (by omega)) id
    have e : sp_bst f (k + 1) = if (sp_bst f k).2 < f (k + 1) then (k + 1, f (k + 1)) else sp_bst f k := rfl
    rw [if_pos h2] at e
    show nI (k + 1) = nI (sp_bst f (k + 1)).1 ∧ f (k + 1) = (sp_bst f (k + 1)).2
    rw [e]
    exact ⟨rfl, rfl⟩
theorem sp_b_miss {z : Int32} {f : Nat → Int32} {k : Nat} (hk : k < 1000) (h1 : ¬ sp_b1 f k < 0) (h2 : ¬ sp_b2 z f k < f k) : sp_b1 f k = sp_b1 f (k + 1) ∧ sp_b2 z f k = sp_b2 z f (k + 1) := by
  cases k with
  | zero => exact absurd ((sp_b_neg hk).mpr rfl) h1
  | succ k =>
    have h2 : ¬ (sp_bst f k).2 < f (k + 1) := h2
    have e : sp_bst f (k + 1) = if (sp_bst f k).2 < f (k + 1) then (k + 1, f (k + 1)) else sp_bst f k := rfl
    rw [if_neg h2] at e
    show nI (sp_bst f k).1 = nI (sp_bst f (k + 1)).1 ∧ (sp_bst f k).2 = (sp_bst f (k + 1)).2
    rw [e]
    exact ⟨rfl, rfl⟩
def sp_brk (T : mT) (s : Nat → Int32) (n p m v : Nat) : Int32 := sp_sum (sp_secs T (up s (17 + p) (nI v)) (-1) n m) (-1) 3 n - sp_sum (sp_secs T (up s (17 + p) (nI v)) (-1) n m) (-1) 5 n
def sp_brake (T : mT) (s : Nat → Int32) (n : Nat) (pt v what : Int32) : Int32 := match sp_rg 12 pt with
  | none => (-1000000001)
  | some p => if nI 1 ≤ v ∧ v ≤ nI 100 then (match sp_rg 2 what with
    | none => (-1000000001)
    | some k => if k = 0 then nI (sp_bst (sp_brk T s n p v.toNatClampNeg) 9).1 else (sp_bst (sp_brk T s n p v.toNatClampNeg) 9).2) else (-1000000001)
def sp_scm (T : mT) (s : Nat → Int32) (aw : Int32) (n m : Nat) : Int32 := sp_sum (sp_secs T s aw n m) aw 3 n
def sp_moved (T : mT) (s : Nat → Int32) (n : Nat) (pt ot v : Int32) : Int32 := match sp_rg 12 pt with
  | none => (-1000000001)
  | some p => match sp_rg 12 ot with
    | none => (-1000000001)
    | some o => if p = o then (-1000000001) else if nI 1 ≤ v ∧ v ≤ nI 100 then sp_scm T (sp_swap s p o) (-1) n v.toNatClampNeg - sp_scm T s (-1) n v.toNatClampNeg else (-1000000001)
def sp_offF (T : mT) (s : Nat → Int32) (n m c : Nat) : Int32 := sp_scm T s (nI c) n m
def sp_kndF (T : mT) (s : Nat → Int32) (n c m q : Nat) : Int32 := sp_scm T (up s (53 + (7 * c)) (nI q)) (-1) n m
def sp_off (T : mT) (s : Nat → Int32) (n : Nat) (v what : Int32) : Int32 := if nI 1 ≤ v ∧ v ≤ nI 100 then (match sp_rg 2 what with
  | none => (-1000000001)
  | some k => if n = 0 then (-1000000005) else if k = 0 then nI (sp_bst (sp_offF T s n v.toNatClampNeg) (n - 1)).1 else (sp_bst (sp_offF T s n v.toNatClampNeg) (n - 1)).2) else (-1000000001)
def sp_kind (T : mT) (s : Nat → Int32) (n : Nat) (car v what : Int32) : Int32 := match sp_rg n car with
  | none => (-1000000001)
  | some c => if nI 1 ≤ v ∧ v ≤ nI 100 then (match sp_rg 2 what with
    | none => (-1000000001)
    | some k => if k = 0 then nI (sp_bst (sp_kndF T s n c v.toNatClampNeg) 5).1 else (sp_bst (sp_kndF T s n c v.toNatClampNeg) 5).2) else (-1000000001)
def sp_kiss (T : mT) (s : Nat → Int32) (n : Nat) (pt v : Int32) : Int32 := match sp_rg 12 pt with
  | none => (-1000000001)
  | some p => if nI 1 ≤ v ∧ v ≤ nI 100 then sp_scm T s (-1) n v.toNatClampNeg - sp_scm T (up s (17 + p) (nI 9)) (-1) n v.toNatClampNeg else (-1000000001)
def sp_gp (g : Nat → Int32) (w0 : Int32) : Nat → Int32
  | 0 => (-1000000005)
  | v + 1 => if g (v + 1) = w0 then nI (v + 1) else sp_gp g w0 v
def sp_gaps (T : mT) (s : Nat → Int32) (n : Nat) (v : Int32) : Int32 := if nI 1 ≤ v ∧ v ≤ nI 60 then sp_gp (fun g => sp_sum (sp_secs T (up s 3 (nI g)) (-1) n v.toNatClampNeg) (-1) 5 n) (sp_sum s (-1) 5 n) 60 else (-1000000001)
def sp_st (g : Nat → Int32) (w0 : Int32) : Nat → Int32
  | 0 => (-1000000005)
  | j + 1 => if g (300 - j) = w0 then sp_st g w0 j else nI (300 - j)
def sp_stands (T : mT) (s : Nat → Int32) (n : Nat) : Int32 := sp_st (fun k => sp_sum (sp_secs T s (-1) n k) (-1) 5 n) (sp_sum s (-1) 5 n) 300
theorem ct_Mkiss {d L : Nat} {xs : Nat → Int32} {I : Nat → Nat → Int32} {Q : Option Value → mj_H → Prop} {T : mT} {n : Nat} (hx : mTx I T) (hk : mOk (I 128) n) (haw : I 127 4 = -1) {pt v : Int32} (hQ : ∀ I2, mFr [131, 138, 139] I I2 → Q (some (.int (sp_kiss T (I 128) n pt v))) (mg_h L xs I2)) : mj_Cl (d + 7) 179 [.ref 127, .int pt, .int v] (mg_h L xs I) Q := by
  have hn8 := hk.hn.2
  refine cl_start mx_179 (ls := [.ref 127, .int pt, .int v, mj_no]) rfl ?_
  refine me_iload_n (p' := 1) k179_0 rfl rfl ?_
  refine me_cs (p' := 4) k179_1 rfl rfl rfl rfl rfl (cl_le mx_138 rfl) (by decide) (cl_sum rfl) (ct_MisPart (fun k89 hk90 he => ?_) (fun hz91 => ?_))
  · skip
    subst he
    refine me_if_eq (p' := 7) k179_4 rfl (fun h => absurd h (by decide)) (fun _ => ?_)
    refine me_iload_n (p' := 8) k179_7 rfl rfl ?_
    refine me_iconst (p' := 9) k179_8 rfl (v := nI 1) (by decide) ?_
    refine me_bipush (p' := 11) k179_9 rfl (v := nI 100) (by decide) ?_
    refine me_cs (p' := 14) k179_11 rfl rfl rfl rfl rfl (cl_le mx_134 rfl) (by decide) (cl_sum rfl) (ct_in (fun e92 => ?_) (fun e92 => ?_))
    · skip
      refine me_if_ne (p' := 17) k179_14 rfl (fun h => absurd h (by decide)) (fun _ => ?_)
      obtain ⟨m, rfl, hm⟩ : ∃ m : Nat, v = nI m ∧ m ≤ 100 ∧ 1 ≤ m := by
        obtain ⟨m, rfl, hm⟩ := mI_of (Int32.le_trans (nI_pos' (show 1 < 2 ^ 31 by omega)) e92.1)
        exact ⟨m, rfl, (cI_le hm (by decide)).mp e92.2, (cI_le (by decide) hm).mp e92.1⟩
      refine me_aload_n (p' := 21) k179_20 rfl rfl ?_
      refine me_cv (p' := 24) k179_21 rfl rfl (by decide) rfl (by decide) (by decide) dp_171 rfl rfl (cl_le mx_171 rfl) (by decide) (cl_sum rfl) (ct_thinks ?_)
      generalize hJe : mw I 131 (fun j => if j < 109 then I 128 j else I 131 j) = J
      have hJ : mTh I J := by rw [← hJe]; exact mTh.thinks
      refine me_aload_n (p' := 25) k179_24 rfl rfl ?_
      refine me_iload_n (p' := 26) k179_25 rfl rfl ?_
      refine me_cv (p' := 29) k179_26 rfl rfl (by decide) rfl (by decide) (by decide) dp_176 rfl rfl (cl_le mx_176 rfl) (by decide) (cl_sum rfl) (ct_screamsBehind (s0 := I 128) (T := T) (n := n) (by omega) (hJ.tx hx) (by rw [hJ.e128]; exact hk) hJ.2 (fun j _ => by rw [hJ.e128]) (fun K hK1 hK2 hK3 => ?_))
      rw [hJ.e128, hJ.e127, haw]
      have hK : mTh I K := hJ.sb haw hK1 (fun k hk => by rw [hK2, up_ne hk]) (by rw [hK2, up_eq]) hK3
      show mj_Ev _ _ _ _ (.int (sp_scm T (I 128) (-1) n m) :: _) _ _
      refine me_istore_n (p' := 30) k179_29 rfl ⟨Nat.le_of_ble_eq_true rfl, rfl⟩ rfl ?_
      refine me_aload_n (p' := 31) k179_30 rfl rfl ?_
      refine me_gfr (p' := 34) k179_31 rfl (by decide) rfl (b := 128) rfl ?_
      refine me_bipush (p' := 36) k179_34 rfl (v := nI 17) (by decide) ?_
      refine me_iload_n (p' := 37) k179_36 rfl rfl ?_
      refine me_iadd (p' := 38) k179_37 rfl (v := nI (17 + k89)) (mI_add _ _) ?_
      refine me_bipush (p' := 40) k179_38 rfl (v := nI 9) (by decide) ?_
      refine me_iast (p' := 41) k179_40 rfl (by decide) rfl (j := 17 + k89) rfl (by omega) (by decide) rfl ?_
      refine me_iload_n (p' := 42) k179_41 rfl rfl ?_
      refine me_aload_n (p' := 43) k179_42 rfl rfl ?_
      refine me_iload_n (p' := 44) k179_43 rfl rfl ?_
      refine me_cv (p' := 47) k179_44 rfl rfl (by decide) rfl (by decide) (by decide) dp_176 rfl rfl (cl_le mx_176 rfl) (by decide) (cl_sum rfl) (ct_screamsBehind (s0 := I 128) (T := T) (n := n) (by omega) ((hK.tx hx).kp (fun j hj => by rw [mg_une (by omega)])) (by rw [mg_ui, hK3]; exact hk.upX (by omega) (by omega) (by omega)) (fun j hj => by rw [mg_un1 (by decide)]; exact hK.2 j hj) (fun j hj => by rw [mg_une (by omega), hK3]) (fun K2 hK21 hK22 hK23 => ?_))
      rw [show (mg_u K 128 (17 + k89) (nI 9)) 127 4 = -1 from by rw [mg_un1 (by decide), hK.e127, haw], mg_ui, hK3]
      have hK2 : mTh I K2 := hK.sb haw ((mFr.up (by decide)).tr hK21) (fun k hk => by rw [hK22, up_ne hk, mg_un (by decide)]) (by rw [hK22, up_eq]) hK23
      show mj_Ev _ _ _ _ (.int (sp_scm T (up (I 128) (17 + k89) (nI 9)) (-1) n m) :: _) _ _
      refine me_isub (p' := 48) k179_47 rfl rfl ?_
      refine me_reti k179_48 rt_179 rfl ?_
      simp only [sp_kiss, sp_rg_s hk90 (by omega), if_pos e92, nI_clamp (show m < 2 ^ 31 by omega), if_true, if_false] at hQ
      exact hQ _ hK2.1
    · skip
      refine me_if_ne (p' := 17) k179_14 rfl (fun _ => ?_) (fun h => absurd (by decide) h)
      refine me_ldc (p' := 19) k179_17 rfl (v := (-1000000001)) (by decide) ?_
      refine me_reti k179_19 rt_179 rfl ?_
      simp only [sp_kiss, sp_rg_s hk90 (by omega), if_neg e92, if_true, if_false] at hQ
      exact hQ _ mFr.rf
  · skip
    refine me_if_eq (p' := 7) k179_4 rfl (fun _ => ?_) (fun h => absurd (by decide) h)
    refine me_ldc (p' := 19) k179_17 rfl (v := (-1000000001)) (by decide) ?_
    refine me_reti k179_19 rt_179 rfl ?_
    simp only [sp_kiss, sp_rg_n (by omega) hz91, if_true, if_false] at hQ
    exact hQ _ mFr.rf
theorem ct_Mmoved {d L : Nat} {xs : Nat → Int32} {I : Nat → Nat → Int32} {Q : Option Value → mj_H → Prop} {T : mT} {n : Nat} (hx : mTx I T) (hk : mOk (I 128) n) (haw : I 127 4 = -1) {pt ot v : Int32} (hQ : ∀ I2, mFr [131, 138, 139] I I2 → Q (some (.int (sp_moved T (I 128) n pt ot v))) (mg_h L xs I2)) : mj_Cl (d + 7) 175 [.ref 127, .int pt, .int ot, .int v] (mg_h L xs I) Q := by
  have hn8 := hk.hn.2
  refine cl_start mx_175 (ls := [.ref 127, .int pt, .int ot, .int v, mj_no, mj_no]) rfl ?_
  refine me_iload_n (p' := 1) k175_0 rfl rfl ?_
  refine me_cs (p' := 4) k175_1 rfl rfl rfl rfl rfl (cl_le mx_138 rfl) (by decide) (cl_sum rfl) (ct_MisPart (fun k93 hk94 he => ?_) (fun hz95 => ?_))
  · skip
    subst he
    refine me_if_eq (p' := 7) k175_4 rfl (fun h => absurd h (by decide)) (fun _ => ?_)
    refine me_iload_n (p' := 8) k175_7 rfl rfl ?_
    refine me_cs (p' := 11) k175_8 rfl rfl rfl rfl rfl (cl_le mx_138 rfl) (by decide) (cl_sum rfl) (ct_MisPart (fun k96 hk97 he => ?_) (fun hz98 => ?_))
    · skip
      subst he
      refine me_if_eq (p' := 14) k175_11 rfl (fun h => absurd h (by decide)) (fun _ => ?_)
      refine me_iload_n (p' := 15) k175_14 rfl rfl ?_
      refine me_iload_n (p' := 16) k175_15 rfl rfl ?_
      refine me_ic_eq (p' := 19) k175_16 rfl (fun c1 => ?_) (fun c1 => ?_)
      · skip
        rw [cI_eq (a := k93) (b := k96) (by omega) (by omega)] at c1
        refine me_ldc (p' := 31) k175_29 rfl (v := (-1000000001)) (by decide) ?_
        refine me_reti k175_31 rt_175 rfl ?_
        simp only [sp_moved, sp_rg_s hk94 (by omega), sp_rg_s hk97 (by omega), c1, if_true, if_false] at hQ
        exact hQ _ mFr.rf
      · skip
        rw [cI_eq (a := k93) (b := k96) (by omega) (by omega)] at c1
        refine me_iload_n (p' := 20) k175_19 rfl rfl ?_
        refine me_iconst (p' := 21) k175_20 rfl (v := nI 1) (by decide) ?_
        refine me_bipush (p' := 23) k175_21 rfl (v := nI 100) (by decide) ?_
        refine me_cs (p' := 26) k175_23 rfl rfl rfl rfl rfl (cl_le mx_134 rfl) (by decide) (cl_sum rfl) (ct_in (fun e99 => ?_) (fun e99 => ?_))
        · skip
          refine me_if_ne (p' := 29) k175_26 rfl (fun h => absurd h (by decide)) (fun _ => ?_)
          obtain ⟨m, rfl, hm⟩ : ∃ m : Nat, v = nI m ∧ m ≤ 100 ∧ 1 ≤ m := by
            obtain ⟨m, rfl, hm⟩ := mI_of (Int32.le_trans (nI_pos' (show 1 < 2 ^ 31 by omega)) e99.1)
            exact ⟨m, rfl, (cI_le hm (by decide)).mp e99.2, (cI_le (by decide) hm).mp e99.1⟩
          refine me_aload_n (p' := 33) k175_32 rfl rfl ?_
          refine me_cv (p' := 36) k175_33 rfl rfl (by decide) rfl (by decide) (by decide) dp_171 rfl rfl (cl_le mx_171 rfl) (by decide) (cl_sum rfl) (ct_thinks ?_)
          generalize hJe : mw I 131 (fun j => if j < 109 then I 128 j else I 131 j) = J
          have hJ : mTh I J := by rw [← hJe]; exact mTh.thinks
          refine me_aload_n (p' := 37) k175_36 rfl rfl ?_
          refine me_iload_n (p' := 38) k175_37 rfl rfl ?_
          refine me_cv (p' := 41) k175_38 rfl rfl (by decide) rfl (by decide) (by decide) dp_176 rfl rfl (cl_le mx_176 rfl) (by decide) (cl_sum rfl) (ct_screamsBehind (s0 := I 128) (T := T) (n := n) (by omega) (hJ.tx hx) (by rw [hJ.e128]; exact hk) hJ.2 (fun j _ => by rw [hJ.e128]) (fun K hK1 hK2 hK3 => ?_))
          rw [hJ.e128, hJ.e127, haw]
          have hK : mTh I K := hJ.sb haw hK1 (fun k hk => by rw [hK2, up_ne hk]) (by rw [hK2, up_eq]) hK3
          show mj_Ev _ _ _ _ (.int (sp_scm T (I 128) (-1) n m) :: _) _ _
          refine me_istore (p' := 43) k175_41 rfl ⟨Nat.le_of_ble_eq_true rfl, rfl⟩ rfl ?_
          refine me_bipush (p' := 45) k175_43 rfl (v := nI 29) (by decide) ?_
          refine me_istore (p' := 47) k175_45 rfl ⟨Nat.le_of_ble_eq_true rfl, rfl⟩ rfl ?_
          refine me_iload (p' := 49) k175_47 rfl rfl ?_
          refine me_bipush (p' := 51) k175_49 rfl (v := nI 41) (by decide) ?_
          refine me_ic_gt (p' := 54) k175_51 rfl (fun h => absurd h (by decide)) (fun _ => ?_)
          refine me_aload_n (p' := 55) k175_54 rfl rfl ?_
          refine me_gfr (p' := 58) k175_55 rfl (by decide) rfl (b := 128) rfl ?_
          refine me_iload (p' := 60) k175_58 rfl rfl ?_
          refine me_iload_n (p' := 61) k175_60 rfl rfl ?_
          refine me_iadd (p' := 62) k175_61 rfl (v := nI (29 + k93)) (mI_add _ _) ?_
          refine me_aload_n (p' := 63) k175_62 rfl rfl ?_
          refine me_gfr (p' := 66) k175_63 rfl (by decide) rfl (b := 131) rfl ?_
          refine me_iload (p' := 68) k175_66 rfl rfl ?_
          refine me_iload_n (p' := 69) k175_68 rfl rfl ?_
          refine me_iadd (p' := 70) k175_69 rfl (v := nI (29 + k96)) (mI_add _ _) ?_
          refine me_iald (p' := 71) k175_70 rfl (by decide) rfl (j := 29 + k96) rfl (by omega) (by decide) rfl ?_
          refine me_iast (p' := 72) k175_71 rfl (by decide) rfl (j := 29 + k93) rfl (by omega) (by decide) rfl ?_
          refine me_aload_n (p' := 73) k175_72 rfl rfl ?_
          refine me_gfr (p' := 76) k175_73 rfl (by decide) rfl (b := 128) rfl ?_
          refine me_iload (p' := 78) k175_76 rfl rfl ?_
          refine me_iload_n (p' := 79) k175_78 rfl rfl ?_
          refine me_iadd (p' := 80) k175_79 rfl (v := nI (29 + k96)) (mI_add _ _) ?_
          refine me_aload_n (p' := 81) k175_80 rfl rfl ?_
          refine me_gfr (p' := 84) k175_81 rfl (by decide) rfl (b := 131) rfl ?_
          refine me_iload (p' := 86) k175_84 rfl rfl ?_
          refine me_iload_n (p' := 87) k175_86 rfl rfl ?_
          refine me_iadd (p' := 88) k175_87 rfl (v := nI (29 + k93)) (mI_add _ _) ?_
          refine me_iald (p' := 89) k175_88 rfl (by decide) rfl (j := 29 + k93) rfl (by omega) (by decide) rfl ?_
          refine me_iast (p' := 90) k175_89 rfl (by decide) rfl (j := 29 + k96) rfl (by omega) (by decide) rfl ?_
          refine me_iinc (p' := 93) k175_90 rfl rfl rfl (v := nI (41)) (by decide) rfl ?_
          refine me_goto k175_93 ?_
          refine me_iload (p' := 49) k175_47 rfl rfl ?_
          refine me_bipush (p' := 51) k175_49 rfl (v := nI 41) (by decide) ?_
          refine me_ic_gt (p' := 54) k175_51 rfl (fun h => absurd h (by decide)) (fun _ => ?_)
          refine me_aload_n (p' := 55) k175_54 rfl rfl ?_
          refine me_gfr (p' := 58) k175_55 rfl (by decide) rfl (b := 128) rfl ?_
          refine me_iload (p' := 60) k175_58 rfl rfl ?_
          refine me_iload_n (p' := 61) k175_60 rfl rfl ?_
          refine me_iadd (p' := 62) k175_61 rfl (v := nI (41 + k93)) (mI_add _ _) ?_
          refine me_aload_n (p' := 63) k175_62 rfl rfl ?_
          refine me_gfr (p' := 66) k175_63 rfl (by decide) rfl (b := 131) rfl ?_
          refine me_iload (p' := 68) k175_66 rfl rfl ?_
          refine me_iload_n (p' := 69) k175_68 rfl rfl ?_
          refine me_iadd (p' := 70) k175_69 rfl (v := nI (41 + k96)) (mI_add _ _) ?_
          refine me_iald (p' := 71) k175_70 rfl (by decide) rfl (j := 41 + k96) rfl (by omega) (by decide) rfl ?_
          refine me_iast (p' := 72) k175_71 rfl (by decide) rfl (j := 41 + k93) rfl (by omega) (by decide) rfl ?_
          refine me_aload_n (p' := 73) k175_72 rfl rfl ?_
          refine me_gfr (p' := 76) k175_73 rfl (by decide) rfl (b := 128) rfl ?_
          refine me_iload (p' := 78) k175_76 rfl rfl ?_
          refine me_iload_n (p' := 79) k175_78 rfl rfl ?_
          refine me_iadd (p' := 80) k175_79 rfl (v := nI (41 + k96)) (mI_add _ _) ?_
          refine me_aload_n (p' := 81) k175_80 rfl rfl ?_
          refine me_gfr (p' := 84) k175_81 rfl (by decide) rfl (b := 131) rfl ?_
          refine me_iload (p' := 86) k175_84 rfl rfl ?_
          refine me_iload_n (p' := 87) k175_86 rfl rfl ?_
          refine me_iadd (p' := 88) k175_87 rfl (v := nI (41 + k93)) (mI_add _ _) ?_
          refine me_iald (p' := 89) k175_88 rfl (by decide) rfl (j := 41 + k93) rfl (by omega) (by decide) rfl ?_
          refine me_iast (p' := 90) k175_89 rfl (by decide) rfl (j := 41 + k96) rfl (by omega) (by decide) rfl ?_
          refine me_iinc (p' := 93) k175_90 rfl rfl rfl (v := nI (53)) (by decide) rfl ?_
          refine me_goto k175_93 ?_
          refine me_iload (p' := 49) k175_47 rfl rfl ?_
          refine me_bipush (p' := 51) k175_49 rfl (v := nI 41) (by decide) ?_
          refine me_ic_gt (p' := 54) k175_51 rfl (fun _ => ?_) (fun h => absurd (by decide) h)
          have hsw : (mg_u (mg_u (mg_u (mg_u K 128 (29 + k93) (K 131 (29 + k96))) 128 (29 + k96) ((mg_u K 128 (29 + k93) (K 131 (29 + k96))) 131 (29 + k93))) 128 (41 + k93) ((mg_u (mg_u K 128 (29 + k93) (K 131 (29 + k96))) 128 (29 + k96) ((mg_u K 128 (29 + k93) (K 131 (29 + k96))) 131 (29 + k93))) 131 (41 + k96))) 128 (41 + k96) ((mg_u (mg_u (mg_u K 128 (29 + k93) (K 131 (29 + k96))) 128 (29 + k96) ((mg_u K 128 (29 + k93) (K 131 (29 + k96))) 131 (29 + k93))) 128 (41 + k93) ((mg_u (mg_u K 128 (29 + k93) (K 131 (29 + k96))) 128 (29 + k96) ((mg_u K 128 (29 + k93) (K 131 (29 + k96))) 131 (29 + k93))) 131 (41 + k96))) 131 (41 + k93))) 128 = sp_swap (I 128) k93 k96 := by
            simp only [mg_ui]
            rw [hK3]
            simp only [mg_un1 (show (131 : Nat) ≠ 128 by decide)]
            rw [hK.2 _ (by omega), hK.2 _ (by omega), hK.2 _ (by omega), hK.2 _ (by omega)]
            rfl
          refine me_aload_n (p' := 97) k175_96 rfl rfl ?_
          refine me_iload_n (p' := 98) k175_97 rfl rfl ?_
          refine me_cv (p' := 101) k175_98 rfl rfl (by decide) rfl (by decide) (by decide) dp_176 rfl rfl (cl_le mx_176 rfl) (by decide) (cl_sum rfl) (ct_screamsBehind (s0 := I 128) (T := T) (n := n) (by omega) ((hK.tx hx).kp (fun j hj => by rw [mg_une (by omega), mg_une (by omega), mg_une (by omega), mg_une (by omega)])) (by rw [hsw]; exact hk.swap (by omega) (by omega)) (fun j hj => by rw [mg_un1 (by decide), mg_un1 (by decide), mg_un1 (by decide), mg_un1 (by decide)]; exact hK.2 j hj) (fun j hj => by rw [mg_une (by omega), mg_une (by omega), mg_une (by omega), mg_une (by omega), hK3]) (fun K2 hK21 hK22 hK23 => ?_))
          rw [show (mg_u (mg_u (mg_u (mg_u K 128 (29 + k93) (K 131 (29 + k96))) 128 (29 + k96) ((mg_u K 128 (29 + k93) (K 131 (29 + k96))) 131 (29 + k93))) 128 (41 + k93) ((mg_u (mg_u K 128 (29 + k93) (K 131 (29 + k96))) 128 (29 + k96) ((mg_u K 128 (29 + k93) (K 131 (29 + k96))) 131 (29 + k93))) 131 (41 + k96))) 128 (41 + k96) ((mg_u (mg_u (mg_u K 128 (29 + k93) (K 131 (29 + k96))) 128 (29 + k96) ((mg_u K 128 (29 + k93) (K 131 (29 + k96))) 131 (29 + k93))) 128 (41 + k93) ((mg_u (mg_u K 128 (29 + k93) (K 131 (29 + k96))) 128 (29 + k96) ((mg_u K 128 (29 + k93) (K 131 (29 + k96))) 131 (29 + k93))) 131 (41 + k96))) 131 (41 + k93))) 127 4 = -1 from by rw [mg_un1 (by decide), mg_un1 (by decide), mg_un1 (by decide), mg_un1 (by decide), hK.e127, haw], hsw]
          have hK2 : mTh I K2 := hK.sb haw (((mFr.up (by decide)).tr ((mFr.up (by decide)).tr ((mFr.up (by decide)).tr (mFr.up (by decide))))).tr hK21) (fun k hk => by rw [hK22, up_ne hk, mg_un (by decide), mg_un (by decide), mg_un (by decide), mg_un (by decide)]) (by rw [hK22, up_eq]) hK23
          show mj_Ev _ _ _ _ (.int (sp_scm T (sp_swap (I 128) k93 k96) (-1) n m) :: _) _ _
          refine me_iload (p' := 103) k175_101 rfl rfl ?_
          refine me_isub (p' := 104) k175_103 rfl rfl ?_
          refine me_reti k175_104 rt_175 rfl ?_
          simp only [sp_moved, sp_rg_s hk94 (by omega), sp_rg_s hk97 (by omega), if_pos e99, nI_clamp (show m < 2 ^ 31 by omega), c1, if_true, if_false] at hQ
          exact hQ _ hK2.1
        · skip
          refine me_if_ne (p' := 29) k175_26 rfl (fun _ => ?_) (fun h => absurd (by decide) h)
          refine me_ldc (p' := 31) k175_29 rfl (v := (-1000000001)) (by decide) ?_
          refine me_reti k175_31 rt_175 rfl ?_
          simp only [sp_moved, sp_rg_s hk94 (by omega), sp_rg_s hk97 (by omega), if_neg e99, c1, if_true, if_false] at hQ
          exact hQ _ mFr.rf
    · skip
      refine me_if_eq (p' := 14) k175_11 rfl (fun _ => ?_) (fun h => absurd (by decide) h)
      refine me_ldc (p' := 31) k175_29 rfl (v := (-1000000001)) (by decide) ?_
      refine me_reti k175_31 rt_175 rfl ?_
      simp only [sp_moved, sp_rg_s hk94 (by omega), sp_rg_n (by omega) hz98, if_true, if_false] at hQ
      exact hQ _ mFr.rf
  · skip
    refine me_if_eq (p' := 7) k175_4 rfl (fun _ => ?_) (fun h => absurd (by decide) h)
    refine me_ldc (p' := 31) k175_29 rfl (v := (-1000000001)) (by decide) ?_
    refine me_reti k175_31 rt_175 rfl ?_
    simp only [sp_moved, sp_rg_n (by omega) hz95, if_true, if_false] at hQ
    exact hQ _ mFr.rf
theorem lp_brake {d L : Nat} {xs : Nat → Int32} {I : Nat → Nat → Int32} {Q : Option Value → mj_H → Prop} {T : mT} {n p m wh : Nat} (hx : mTx I T) (hk : mOk (I 128) n) (haw : I 127 4 = -1) (hp : p < 12) (hm : m ≤ 100) (hwh : wh < 2) (hE0 : wh = 0 → ∀ J, mTh I J → Q (some (.int (sp_b1 (sp_brk T (I 128) n p m) 10))) (mg_h L xs J)) (hE1 : ¬ wh = 0 → ∀ J, mTh I J → Q (some (.int (sp_b2 (nI 0) (sp_brk T (I 128) n p m) 10))) (mg_h L xs J)) : ∀ k : Nat, k ≤ 10 → ∀ J, mTh I J → ∀ u7 : Value, mj_Ev (d + 6) 174 42 [.ref 127, .int (nI p), .int (nI m), .int (nI wh), .int (sp_b1 (sp_brk T (I 128) n p m) k), .int (sp_b2 (nI 0) (sp_brk T (I 128) n p m) k), .int (nI k), u7] [] (mg_h L xs J) Q := by
  have hn8 := hk.hn.2
  refine loop_ind (n := 10) (fun k hkn ih => ?_)
  intro J hJ u7
  refine me_iload (p' := 44) k174_42 rfl rfl ?_
  refine me_bipush (p' := 46) k174_44 rfl (v := nI 10) (by decide) ?_
  refine me_ic_ge (p' := 49) k174_46 rfl (fun c1 => ?_) (fun c1 => ?_)
  · skip
    rw [cI_le (a := 10) (b := k) (by omega) (by omega)] at c1
    refine me_iload_n (p' := 109) k174_108 rfl rfl ?_
    refine me_if_ne (p' := 112) k174_109 rfl (fun c2 => ?_) (fun c2 => ?_)
    · skip
      rw [cI_eq0 (a := wh) (by omega)] at c2
      refine me_iload (p' := 114) k174_112 rfl rfl ?_
      refine me_goto k174_114 ?_
      refine me_reti k174_119 rt_174 rfl ?_
      have e8 : k = 10 := by omega
      subst e8
      exact hE0 c2 J hJ
    · skip
      rw [cI_eq0 (a := wh) (by omega)] at c2
      refine me_iload (p' := 119) k174_117 rfl rfl ?_
      refine me_reti k174_119 rt_174 rfl ?_
      have e8 : k = 10 := by omega
      subst e8
      exact hE1 c2 J hJ
  · skip
    rw [cI_le (a := 10) (b := k) (by omega) (by omega)] at c1
    refine me_aload_n (p' := 50) k174_49 rfl rfl ?_
    refine me_gfr (p' := 53) k174_50 rfl (by decide) rfl (b := 128) rfl ?_
    refine me_bipush (p' := 55) k174_53 rfl (v := nI 17) (by decide) ?_
    refine me_iload_n (p' := 56) k174_55 rfl rfl ?_
    refine me_iadd (p' := 57) k174_56 rfl (v := nI (17 + p)) (mI_add _ _) ?_
    refine me_iload (p' := 59) k174_57 rfl rfl ?_
    refine me_iast (p' := 60) k174_59 rfl (by decide) rfl (j := 17 + p) rfl (by omega) (by decide) rfl ?_
    refine me_aload_n (p' := 61) k174_60 rfl rfl ?_
    refine me_iload_n (p' := 62) k174_61 rfl rfl ?_
    refine me_cv (p' := 65) k174_62 rfl rfl (by decide) rfl (by decide) (by decide) dp_162 rfl rfl (cl_le mx_162 rfl) (by decide) (cl_sum rfl) (ct_goesOn (n := n) (T := T) (by omega) ((hJ.tx hx).kp (fun j hj => by rw [mg_une (by omega)])) (by rw [mg_ui, hJ.e128]; exact hk.upX (by omega) (by omega) (by omega)) (fun I1 hI1 hI2 => ?_))
    rw [mg_ui, hJ.e128, mg_un1 (by decide), hJ.e127, haw] at hI2
    have h1 : mOk (I1 128) n := by rw [hI2]; exact (hk.upX (by omega) (by omega) (by omega)).secs _
    have ha1 : I1 127 4 = -1 := (hI1 127 4 (by decide)).trans (by rw [mg_un1 (by decide), hJ.e127, haw])
    have hJ2 : mTh I (mg_u (mw I1 128 (fun j => if j < 109 then I1 131 j else I1 128 j)) 127 4 (-1)) := hJ.back haw (((mFr.up (by decide)).tr (hI1.mono (by simp))) ) (fun k _ => by rw [hI1 127 k (by decide), mg_un1 (by decide)]) (fun j hj => by rw [hI2, sp_secs_kp (hk.upX (by omega) (by omega) (by omega)) (by unfold mTd; omega), up_ne (by omega), hJ.e128])
    refine me_aload_n (p' := 66) k174_65 rfl rfl ?_
    refine me_iconst (p' := 67) k174_66 rfl (v := nI 3) (by decide) ?_
    refine me_cv (p' := 70) k174_67 rfl rfl (by decide) rfl (by decide) (by decide) dp_161 rfl rfl (cl_le mx_161 rfl) (by decide) (cl_sum rfl) (ct_sumOf h1.hn (by omega) ?_)
    rw [hI2, ha1]
    refine me_aload_n (p' := 71) k174_70 rfl rfl ?_
    refine me_iconst (p' := 72) k174_71 rfl (v := nI 5) (by decide) ?_
    refine me_cv (p' := 75) k174_72 rfl rfl (by decide) rfl (by decide) (by decide) dp_161 rfl rfl (cl_le mx_161 rfl) (by decide) (cl_sum rfl) (ct_sumOf h1.hn (by omega) ?_)
    rw [hI2, ha1]
    refine me_isub (p' := 76) k174_75 rfl rfl ?_
    show mj_Ev _ _ _ _ (.int ((sp_brk T (I 128) n p m) k) :: _) _ _
    refine me_istore (p' := 78) k174_76 rfl ⟨Nat.le_of_ble_eq_true rfl, rfl⟩ rfl ?_
    refine me_aload_n (p' := 79) k174_78 rfl rfl ?_
    refine me_cv (p' := 82) k174_79 rfl rfl (by decide) rfl (by decide) (by decide) dp_172 rfl rfl (cl_le mx_172 rfl) (by decide) (cl_sum rfl) (ct_putsBack ?_)
    refine me_iload (p' := 84) k174_82 rfl rfl ?_
    refine me_if_lt (p' := 87) k174_84 rfl (fun c3 => ?_) (fun c3 => ?_)
    · skip
      refine me_iload (p' := 96) k174_94 rfl rfl ?_
      refine me_istore (p' := 98) k174_96 rfl ⟨Nat.le_of_ble_eq_true rfl, rfl⟩ rfl ?_
      refine me_iload (p' := 100) k174_98 rfl rfl ?_
      refine me_istore (p' := 102) k174_100 rfl ⟨Nat.le_of_ble_eq_true rfl, rfl⟩ rfl ?_
      refine me_iinc (p' := 105) k174_102 rfl rfl rfl (v := nI (k + 1)) (mI_inc (by decide)) rfl ?_
      refine me_goto k174_105 ?_
      rw [(sp_b_hit (z := nI 0) (f := (sp_brk T (I 128) n p m)) (by omega) (Or.inl c3)).1, (sp_b_hit (z := nI 0) (f := (sp_brk T (I 128) n p m)) (by omega) (Or.inl c3)).2]
      exact ih (by omega) _ hJ2 _
    · skip
      refine me_iload (p' := 89) k174_87 rfl rfl ?_
      refine me_iload (p' := 91) k174_89 rfl rfl ?_
      refine me_ic_le (p' := 94) k174_91 rfl (fun c4 => ?_) (fun c4 => ?_)
      · skip
        refine me_iinc (p' := 105) k174_102 rfl rfl rfl (v := nI (k + 1)) (mI_inc (by decide)) rfl ?_
        refine me_goto k174_105 ?_
        rw [(sp_b_miss (z := nI 0) (f := (sp_brk T (I 128) n p m)) (by omega) c3 (Int32.not_lt.mpr c4)).1, (sp_b_miss (z := nI 0) (f := (sp_brk T (I 128) n p m)) (by omega) c3 (Int32.not_lt.mpr c4)).2]
        exact ih (by omega) _ hJ2 _
      · skip
        refine me_iload (p' := 96) k174_94 rfl rfl ?_
        refine me_istore (p' := 98) k174_96 rfl ⟨Nat.le_of_ble_eq_true rfl, rfl⟩ rfl ?_
        refine me_iload (p' := 100) k174_98 rfl rfl ?_
        refine me_istore (p' := 102) k174_100 rfl ⟨Nat.le_of_ble_eq_true rfl, rfl⟩ rfl ?_
        refine me_iinc (p' := 105) k174_102 rfl rfl rfl (v := nI (k + 1)) (mI_inc (by decide)) rfl ?_
        refine me_goto k174_105 ?_
        rw [(sp_b_hit (z := nI 0) (f := (sp_brk T (I 128) n p m)) (by omega) (Or.inr (Int32.not_le.mp c4))).1, (sp_b_hit (z := nI 0) (f := (sp_brk T (I 128) n p m)) (by omega) (Or.inr (Int32.not_le.mp c4))).2]
        exact ih (by omega) _ hJ2 _
theorem ct_Mbrake {d L : Nat} {xs : Nat → Int32} {I : Nat → Nat → Int32} {Q : Option Value → mj_H → Prop} {T : mT} {n : Nat} (hx : mTx I T) (hk : mOk (I 128) n) (haw : I 127 4 = -1) {pt v wh : Int32} (hQ : ∀ I2, mFr [131, 138, 139] I I2 → Q (some (.int (sp_brake T (I 128) n pt v wh))) (mg_h L xs I2)) : mj_Cl (d + 6) 174 [.ref 127, .int pt, .int v, .int wh] (mg_h L xs I) Q := by
  have hn8 := hk.hn.2
  refine cl_start mx_174 (ls := [.ref 127, .int pt, .int v, .int wh, mj_no, mj_no, mj_no, mj_no]) rfl ?_
  refine me_iload_n (p' := 1) k174_0 rfl rfl ?_
  refine me_cs (p' := 4) k174_1 rfl rfl rfl rfl rfl (cl_le mx_138 rfl) (by decide) (cl_sum rfl) (ct_MisPart (fun k100 hk101 he => ?_) (fun hz102 => ?_))
  · skip
    subst he
    refine me_if_eq (p' := 7) k174_4 rfl (fun h => absurd h (by decide)) (fun _ => ?_)
    refine me_iload_n (p' := 8) k174_7 rfl rfl ?_
    refine me_iconst (p' := 9) k174_8 rfl (v := nI 1) (by decide) ?_
    refine me_bipush (p' := 11) k174_9 rfl (v := nI 100) (by decide) ?_
    refine me_cs (p' := 14) k174_11 rfl rfl rfl rfl rfl (cl_le mx_134 rfl) (by decide) (cl_sum rfl) (ct_in (fun e103 => ?_) (fun e103 => ?_))
    · skip
      refine me_if_eq (p' := 17) k174_14 rfl (fun h => absurd h (by decide)) (fun _ => ?_)
      refine me_iload_n (p' := 18) k174_17 rfl rfl ?_
      refine me_iconst (p' := 19) k174_18 rfl (v := nI 0) (by decide) ?_
      refine me_iconst (p' := 20) k174_19 rfl (v := nI 1) (by decide) ?_
      refine me_cs (p' := 23) k174_20 rfl rfl rfl rfl rfl (cl_le mx_134 rfl) (by decide) (cl_sum rfl) (ct_in (fun e104 => ?_) (fun e104 => ?_))
      · skip
        obtain ⟨k105, hk106, rfl⟩ := mI_in1 (n := 1) (by omega) e104
        have hk106 : k105 < 2 := by omega
        refine me_if_ne (p' := 26) k174_23 rfl (fun h => absurd h (by decide)) (fun _ => ?_)
        obtain ⟨m, rfl, hm⟩ : ∃ m : Nat, v = nI m ∧ m ≤ 100 ∧ 1 ≤ m := by
          obtain ⟨m, rfl, hm⟩ := mI_of (Int32.le_trans (nI_pos' (show 1 < 2 ^ 31 by omega)) e103.1)
          exact ⟨m, rfl, (cI_le hm (by decide)).mp e103.2, (cI_le (by decide) hm).mp e103.1⟩
        refine me_aload_n (p' := 30) k174_29 rfl rfl ?_
        refine me_cv (p' := 33) k174_30 rfl rfl (by decide) rfl (by decide) (by decide) dp_171 rfl rfl (cl_le mx_171 rfl) (by decide) (cl_sum rfl) (ct_thinks ?_)
        generalize hJe : mw I 131 (fun j => if j < 109 then I 128 j else I 131 j) = J
        have hJ : mTh I J := by rw [← hJe]; exact mTh.thinks
        refine me_iconst (p' := 34) k174_33 rfl (v := (-1)) (by decide) ?_
        refine me_istore (p' := 36) k174_34 rfl ⟨Nat.le_of_ble_eq_true rfl, rfl⟩ rfl ?_
        refine me_iconst (p' := 37) k174_36 rfl (v := nI 0) (by decide) ?_
        refine me_istore (p' := 39) k174_37 rfl ⟨Nat.le_of_ble_eq_true rfl, rfl⟩ rfl ?_
        refine me_iconst (p' := 40) k174_39 rfl (v := nI 0) (by decide) ?_
        refine me_istore (p' := 42) k174_40 rfl ⟨Nat.le_of_ble_eq_true rfl, rfl⟩ rfl ?_
        simp only [sp_brake, sp_rg_s hk101 (by omega), if_pos e103, sp_rg_s (m := 2) hk106 (by omega), nI_clamp (show m < 2 ^ 31 by omega), if_true, if_false] at hQ
        refine lp_brake hx hk haw (by omega) (by omega) (by omega) (fun e J hJ => ?_) (fun e J hJ => ?_) 0 (Nat.zero_le _) J hJ _
        · simp only [e, if_true] at hQ
          exact hQ _ hJ.1
        · simp only [e, if_false] at hQ
          exact hQ _ hJ.1
      · skip
        have hz107 : ∀ k : Nat, k < 2 → wh ≠ nI k := fun k hk => mI_in0 (n := 1) (by omega) e104 (by omega)
        refine me_if_ne (p' := 26) k174_23 rfl (fun _ => ?_) (fun h => absurd (by decide) h)
        refine me_ldc (p' := 28) k174_26 rfl (v := (-1000000001)) (by decide) ?_
        refine me_reti k174_28 rt_174 rfl ?_
        simp only [sp_brake, sp_rg_s hk101 (by omega), if_pos e103, sp_rg_n (m := 2) (by omega) hz107, if_true, if_false] at hQ
        exact hQ _ mFr.rf
    · skip
      refine me_if_eq (p' := 17) k174_14 rfl (fun _ => ?_) (fun h => absurd (by decide) h)
      refine me_ldc (p' := 28) k174_26 rfl (v := (-1000000001)) (by decide) ?_
      refine me_reti k174_28 rt_174 rfl ?_
      simp only [sp_brake, sp_rg_s hk101 (by omega), if_neg e103, if_true, if_false] at hQ
      exact hQ _ mFr.rf
  · skip
    refine me_if_eq (p' := 7) k174_4 rfl (fun _ => ?_) (fun h => absurd (by decide) h)
    refine me_ldc (p' := 28) k174_26 rfl (v := (-1000000001)) (by decide) ?_
    refine me_reti k174_28 rt_174 rfl ?_
    simp only [sp_brake, sp_rg_n (by omega) hz102, if_true, if_false] at hQ
    exact hQ _ mFr.rf
