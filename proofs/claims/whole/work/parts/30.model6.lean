/-! ===== the model: seconds ===== -/
/-- what a second may change -/
def mTd (k : Nat) : Prop := k = 2 ∨ (41 ≤ k ∧ k < 109 ∧ ¬ (53 ≤ k ∧ ((k - 53) % 7 = 0 ∨ (k - 53) % 7 = 2)))
theorem sp_enter_at {s : Nat → Int32} {c p k : Nat} (h1 : k ≠ 53 + 7 * c + 4) (h2 : k ≠ 53 + 7 * c + 3) (h3 : k ≠ 41 + p) : sp_enter s c p k = s k := by
  unfold sp_enter
  split
  · rfl
  · split
    · rw [up_ne h1]
    · rw [up_ne h3, up_ne h2]
theorem sp_go1_kp {s : Nat → Int32} {c F b k : Nat} (h1 : k ≠ 53 + 7 * c + 6) (h2 : k ≠ 53 + 7 * c + 1) (h3 : k ≠ 53 + 7 * c + 5) : sp_go1 s c F b k = s k := by
  rw [sp_go1_at, if_neg h1, if_neg h2, if_neg h3]
theorem sp_goes_kp {T : mT} {s : Nat → Int32} {aw : Int32} {n c k : Nat} (hF : sF s c < 240) (hc : c < 8) (h : ¬ mTd k) : sp_goes T s aw n c k = s k := by
  unfold mTd at h
  have hb : sp_by T s aw n c ≤ 20 := sp_by_eq.2
  unfold sp_goes
  split
  · exact sp_go1_kp (by omega) (by omega) (by omega)
  · rw [sp_enter_at (by omega) (by omega) (by omega)]
    exact sp_go1_kp (by omega) (by omega) (by omega)
theorem sp_dim_kp {s : Nat → Int32} {k : Nat} (h : ¬ mTd k) : sp_dim s 12 k = s k := by
  unfold mTd at h
  unfold sp_dim
  rw [if_neg (by omega)]
theorem sF_of {s : Nat → Int32} {c f : Nat} (h : s (53 + 7 * c + 1) = nI f) (hf : f < 240) : sF s c = f := by
  unfold sF
  rw [h, nI_clamp (by omega)]
theorem sQ_of {s : Nat → Int32} {c q : Nat} (h : s (53 + 7 * c + 0) = nI q) (hq : q < 6) : sQ s c = q := by
  unfold sQ
  rw [h, nI_clamp (by omega)]
theorem mOk.mk {s : Nat → Int32} {n : Nat} (h1 : mN s n) (h2 : ∀ c : Nat, c < n → ∃ q : Nat, s (53 + 7 * c + 0) = nI q ∧ q < 6) (h3 : ∀ c : Nat, c < n → ∃ f : Nat, s (53 + 7 * c + 1) = nI f ∧ f < 240)
    (h4 : ∀ c : Nat, c < n → ∃ w : Nat, s (53 + 7 * c + 2) = nI w ∧ 1 ≤ w ∧ w ≤ 99) (h5 : ∀ p : Nat, p < 12 → ∃ v : Nat, s (29 + p) = nI v ∧ v ≤ 60)
    (h6 : ∀ p : Nat, p < 12 → ∃ v : Nat, s (41 + p) = nI v ∧ v ≤ 60) (h7 : ∃ v : Nat, s 3 = nI v ∧ 1 ≤ v ∧ v ≤ 60) : mOk s n := by
  refine ⟨h1, fun c hc => ?_, fun c hc => ?_, h4, h5, h6, h7⟩
  · obtain ⟨q, e, hq⟩ := h2 c hc
    rw [sQ_of e hq]
    exact ⟨e, hq⟩
  · obtain ⟨q, e, hq⟩ := h3 c hc
    rw [sF_of e hq]
    exact ⟨e, hq⟩
theorem mOk.kd' {s : Nat → Int32} {n : Nat} (h : mOk s n) : ∀ c : Nat, c < n → ∃ q : Nat, s (53 + 7 * c + 0) = nI q ∧ q < 6 := fun c hc => ⟨_, h.kd c hc⟩
theorem mOk.ft' {s : Nat → Int32} {n : Nat} (h : mOk s n) : ∀ c : Nat, c < n → ∃ f : Nat, s (53 + 7 * c + 1) = nI f ∧ f < 240 := fun c hc => ⟨_, h.ft c hc⟩
/-- where feet and SET lie right, and the rest is untouched -/
theorem mOk.kp {s s' : Nat → Int32} {n : Nat} (h : mOk s n) (hk : ∀ k, ¬ mTd k → s' k = s k) (h3 : ∀ c : Nat, c < n → ∃ f : Nat, s' (53 + 7 * c + 1) = nI f ∧ f < 240) (h6 : ∀ p : Nat, p < 12 → ∃ v : Nat, s' (41 + p) = nI v ∧ v ≤ 60) : mOk s' n := by
  have hn8 := h.hn.2
  refine mOk.mk ⟨?_, hn8⟩ ?_ h3 ?_ ?_ h6 ?_
  · rw [hk 1 (by unfold mTd; omega)]; exact h.hn.1
  · intro c hc
    rw [hk _ (by unfold mTd; omega)]; exact h.kd' c hc
  · intro c hc
    rw [hk _ (by unfold mTd; omega)]; exact h.wt c hc
  · intro p hp
    rw [hk _ (by unfold mTd; omega)]; exact h.sc p hp
  · rw [hk 3 (by unfold mTd; omega)]; exact h.gp
theorem mOk.enter {s : Nat → Int32} {n c p : Nat} (h : mOk s n) (hc : c < 8) (hp : p < 12) : mOk (sp_enter s c p) n := by
  have hn8 := h.hn.2
  refine h.kp (fun k hk => ?_) (fun c' hc' => ?_) (fun p' hp' => ?_)
  · unfold mTd at hk
    exact sp_enter_at (by omega) (by omega) (by omega)
  · rw [sp_enter_at (by omega) (by omega) (by omega)]; exact h.ft' c' hc'
  · unfold sp_enter
    split
    · exact h.se p' hp'
    · split
      · rw [up_ne (by omega)]; exact h.se p' hp'
      · by_cases e : p' = p
        · subst e; rw [up_eq]; exact h.sc p' hp'
        · rw [up_ne (by omega), up_ne (by omega)]; exact h.se p' hp'
theorem mOk.go1 {s : Nat → Int32} {n c F b : Nat} (h : mOk s n) (hc : c < 8) : mOk (sp_go1 s c F b) n := by
  have hn8 := h.hn.2
  refine h.kp (fun k hk => ?_) (fun c' hc' => ?_) (fun p' hp' => ?_)
  · unfold mTd at hk
    exact sp_go1_kp (by omega) (by omega) (by omega)
  · by_cases e : c' = c
    · subst e
      rw [sp_go1_at, if_neg (by omega), if_pos rfl]
      exact ⟨_, rfl, Nat.mod_lt _ (by decide)⟩
    · rw [sp_go1_kp (by omega) (by omega) (by omega)]; exact h.ft' c' hc'
  · rw [sp_go1_kp (by omega) (by omega) (by omega)]; exact h.se p' hp'
theorem mOk.goes {T : mT} {s : Nat → Int32} {aw : Int32} {n c : Nat} (h : mOk s n) (hc : c < 8) : mOk (sp_goes T s aw n c) n := by
  unfold sp_goes
  split
  · exact h.go1 hc
  · exact (h.go1 hc).enter hc (Nat.mod_lt _ (by decide))
theorem mOk.dim {s : Nat → Int32} {n : Nat} (h : mOk s n) : mOk (sp_dim s 12) n := by
  have hn8 := h.hn.2
  refine h.kp (fun k hk => sp_dim_kp hk) (fun c' hc' => ?_) (fun p' hp' => ?_)
  · unfold sp_dim
    rw [if_neg (by omega)]; exact h.ft' c' hc'
  · obtain ⟨v, hv, hv2⟩ := h.se p' hp'
    unfold sp_dim
    rw [if_pos (by omega), hv]
    by_cases e : 0 < nI v
    · rw [if_pos e]
      rw [cI_gt0 (by omega)] at e
      exact ⟨v - 1, mI_sub (by omega), by omega⟩
    · rw [if_neg e]
      exact ⟨v, rfl, hv2⟩
theorem mOk.cars {T : mT} {s : Nat → Int32} {aw : Int32} {n : Nat} (h : mOk s n) : ∀ k : Nat, k ≤ n → mOk (sp_cars T s aw n k) n
  | 0, _ => h
  | k + 1, hk => by
    have hn8 := h.hn.2
    unfold sp_cars
    split
    · exact mOk.cars h k (by omega)
    · exact (mOk.cars h k (by omega)).goes (by omega)
theorem mOk.second {T : mT} {s : Nat → Int32} {aw : Int32} {n : Nat} (h : mOk s n) : mOk (sp_second T s aw n) n := by
  have hn8 := h.hn.2
  have h2 := h.dim.cars (T := T) (aw := aw) n (Nat.le_refl _)
  unfold sp_second
  refine h2.kp (fun k hk => ?_) (fun c' hc' => ?_) (fun p' hp' => ?_)
  · unfold mTd at hk
    exact up_ne (by omega)
  · rw [up_ne (by omega)]; exact h2.ft' c' hc'
  · rw [up_ne (by omega)]; exact h2.se p' hp'
theorem mOk.secs {T : mT} {s : Nat → Int32} {aw : Int32} {n : Nat} (h : mOk s n) : ∀ k : Nat, mOk (sp_secs T s aw n k) n
  | 0 => h
  | k + 1 => (mOk.secs h k).second
theorem sp_cars_kp {T : mT} {s : Nat → Int32} {aw : Int32} {n : Nat} (h : mOk s n) {j : Nat} (hj : ¬ mTd j) : ∀ k : Nat, k ≤ n → sp_cars T s aw n k j = s j
  | 0, _ => rfl
  | k + 1, hk => by
    have hn8 := h.hn.2
    unfold sp_cars
    split
    · exact sp_cars_kp h hj k (by omega)
    · rw [sp_goes_kp ((h.cars k (by omega)).ft k (by omega)).2 (by omega) hj]
      exact sp_cars_kp h hj k (by omega)
theorem sp_second_kp {T : mT} {s : Nat → Int32} {aw : Int32} {n : Nat} (h : mOk s n) {j : Nat} (hj : ¬ mTd j) : sp_second T s aw n j = s j := by
  unfold sp_second
  rw [up_ne (by unfold mTd at hj; omega), sp_cars_kp h.dim hj n (Nat.le_refl _), sp_dim_kp hj]
theorem sp_secs_kp {T : mT} {s : Nat → Int32} {aw : Int32} {n : Nat} (h : mOk s n) {j : Nat} (hj : ¬ mTd j) : ∀ k : Nat, sp_secs T s aw n k j = s j
  | 0 => rfl
  | k + 1 => by
    rw [sp_secs, sp_second_kp (h.secs k) hj]
    exact sp_secs_kp h hj k
theorem mTx.kp {I I' : Nat → Nat → Int32} {T : mT} (h : mTx I T) (hk : ∀ k, k = 4 ∨ 109 ≤ k → I' 128 k = I 128 k) : mTx I' T := by
  refine ⟨(hk 4 (Or.inl rfl)).trans h.1, h.2.1, fun t ht => ?_⟩
  obtain ⟨h1, h2, h3, h4, h5, h6⟩ := h.2.2 t ht
  exact ⟨h1, h2, h3, (hk _ (Or.inr (by omega))).trans h4, (hk _ (Or.inr (by omega))).trans h5, fun j hj => (hk _ (Or.inr (by omega))).trans (h6.1 j hj), h6.2⟩
theorem mTx.td {I I' : Nat → Nat → Int32} {T : mT} (h : mTx I T) (hk : ∀ k, ¬ mTd k → I' 128 k = I 128 k) : mTx I' T := h.kp (fun k hk' => hk k (by unfold mTd; omega))
/-- one cell's numbers otherwise -/
def mw (I : Nat → Nat → Int32) (i : Nat) (s : Nat → Int32) : Nat → Nat → Int32 := fun a k => if a = i then s k else I a k
theorem mw_eq {I : Nat → Nat → Int32} {i k : Nat} {s : Nat → Int32} : mw I i s i k = s k := by simp [mw]
theorem mw_eqf {I : Nat → Nat → Int32} {i : Nat} {s : Nat → Int32} : mw I i s i = s := funext fun _ => mw_eq
theorem mw_ne {I : Nat → Nat → Int32} {i a k : Nat} {s : Nat → Int32} (h : a ≠ i) : mw I i s a k = I a k := by simp [mw, h]
theorem mw_u {I : Nat → Nat → Int32} {i k : Nat} {v : Int32} {s : Nat → Int32} : mg_u (mw I i s) i k v = mw I i (up s k v) := by
  funext a j
  by_cases e : a = i
  · subst e
    rw [mw_eqf, mg_ui, mw_eqf]
  · rw [mg_un1 e, mw_ne e, mw_ne e]
theorem mw_id {I : Nat → Nat → Int32} {i : Nat} : mw I i (I i) = I := by
  funext a j
  by_cases e : a = i
  · subst e; rw [mw_eq]
  · rw [mw_ne e]
theorem mFr.w {S : List Nat} {I : Nat → Nat → Int32} {i : Nat} {s : Nat → Int32} (h : i ∈ S) : mFr S I (mw I i s) := fun a k ha => mw_ne (fun z => ha (z ▸ h))
theorem sp_dim_up {s : Nat → Int32} {p : Nat} {v : Int32} (hv : v = if 0 < s (41 + p) then nI 1 else nI 0) : up (sp_dim s p) (41 + p) (s (41 + p) - v) = sp_dim s (p + 1) := by
  funext j
  unfold up sp_dim
  by_cases e : j = 41 + p
  · subst e
    rw [if_pos rfl, if_pos (by omega), hv]
    split
    · rfl
    · show s (41 + p) - 0 = _
      simp
  · rw [if_neg e]
    by_cases e2 : 41 ≤ j ∧ j < 41 + p
    · rw [if_pos e2, if_pos (show 41 ≤ j ∧ j < 41 + (p + 1) by omega)]
    · rw [if_neg e2, if_neg (show ¬ (41 ≤ j ∧ j < 41 + (p + 1)) by omega)]
theorem lp_second1 {d L : Nat} {xs : Nat → Int32} {I : Nat → Nat → Int32} {Q : Option Value → mj_H → Prop} (hQ : mj_Ev (d + 4) 163 43 [.ref 127, .int (nI 12)] [] (mg_h L xs (mw I 128 (sp_dim (I 128) 12))) Q) : ∀ p : Nat, p ≤ 12 → mj_Ev (d + 4) 163 2 [.ref 127, .int (nI p)] [] (mg_h L xs (mw I 128 (sp_dim (I 128) p))) Q := by
  refine loop_ind (n := 12) (fun p hp ih => ?_)
  refine me_iload_n (p' := 3) k163_2 rfl rfl ?_
  refine me_bipush (p' := 5) k163_3 rfl (v := nI 12) (by decide) ?_
  refine me_ic_ge (p' := 8) k163_5 rfl (fun c1 => ?_) (fun c1 => ?_)
  · skip
    rw [cI_le (a := 12) (b := p) (by omega) (by omega)] at c1
    have e8 : p = 12 := by omega
    subst e8
    exact hQ
  · skip
    rw [cI_le (a := 12) (b := p) (by omega) (by omega)] at c1
    refine me_aload_n (p' := 9) k163_8 rfl rfl ?_
    refine me_gfr (p' := 12) k163_9 rfl (by decide) rfl (b := 128) rfl ?_
    refine me_bipush (p' := 14) k163_12 rfl (v := nI 41) (by decide) ?_
    refine me_iload_n (p' := 15) k163_14 rfl rfl ?_
    refine me_iadd (p' := 16) k163_15 rfl (v := nI (41 + p)) (mI_add _ _) ?_
    refine me_dup2 (p' := 17) k163_16 rfl rfl ?_
    refine me_iald (p' := 18) k163_17 rfl (by decide) rfl (j := 41 + p) rfl (by omega) (by decide) rfl ?_
    rw [show (mw I 128 (sp_dim (I 128) p)) 128 (41 + p) = I 128 (41 + p) from by rw [mw_eq]; unfold sp_dim; rw [if_neg (by omega)]]
    refine me_aload_n (p' := 19) k163_18 rfl rfl ?_
    refine me_gfr (p' := 22) k163_19 rfl (by decide) rfl (b := 128) rfl ?_
    refine me_bipush (p' := 24) k163_22 rfl (v := nI 41) (by decide) ?_
    refine me_iload_n (p' := 25) k163_24 rfl rfl ?_
    refine me_iadd (p' := 26) k163_25 rfl (v := nI (41 + p)) (mI_add _ _) ?_
    refine me_iald (p' := 27) k163_26 rfl (by decide) rfl (j := 41 + p) rfl (by omega) (by decide) rfl ?_
    rw [show (mw I 128 (sp_dim (I 128) p)) 128 (41 + p) = I 128 (41 + p) from by rw [mw_eq]; unfold sp_dim; rw [if_neg (by omega)]]
    refine me_if_le (p' := 30) k163_27 rfl (fun c2 => ?_) (fun c2 => ?_)
    · skip
      refine me_iconst (p' := 35) k163_34 rfl (v := nI 0) (by decide) ?_
      refine me_isub (p' := 36) k163_35 rfl rfl ?_
      refine me_iast (p' := 37) k163_36 rfl (by decide) rfl (j := 41 + p) rfl (by omega) (by decide) rfl ?_
      refine me_iinc (p' := 40) k163_37 rfl rfl rfl (v := nI (p + 1)) (mI_inc (by decide)) rfl ?_
      refine me_goto k163_40 ?_
      rw [mw_u, sp_dim_up (v := nI 0) (by rw [if_neg (Int32.not_lt.mpr c2)])]
      exact ih (by omega)
    · skip
      refine me_iconst (p' := 31) k163_30 rfl (v := nI 1) (by decide) ?_
      refine me_goto k163_31 ?_
      refine me_isub (p' := 36) k163_35 rfl rfl ?_
      refine me_iast (p' := 37) k163_36 rfl (by decide) rfl (j := 41 + p) rfl (by omega) (by decide) rfl ?_
      refine me_iinc (p' := 40) k163_37 rfl rfl rfl (v := nI (p + 1)) (mI_inc (by decide)) rfl ?_
      refine me_goto k163_40 ?_
      rw [mw_u, sp_dim_up (v := nI 1) (by rw [if_pos (Int32.not_le.mp c2)])]
      exact ih (by omega)
theorem lp_second2 {d L : Nat} {xs : Nat → Int32} {I : Nat → Nat → Int32} {Q : Option Value → mj_H → Prop} {T : mT} {n : Nat} {s : Nat → Int32} (hx : mTx (mw I 128 s) T) (hk : mOk s n) (hQ : ∀ I2, mFr [128, 138, 139] I I2 → I2 128 = up (sp_cars T s (I 127 4) n n) 2 (sp_cars T s (I 127 4) n n 2 + nI 1) → Q none (mg_h L xs I2)) : ∀ k : Nat, k ≤ n → ∀ I1, mFr [128, 138, 139] I I1 → I1 128 = sp_cars T s (I 127 4) n k → mj_Ev (d + 4) 163 45 [.ref 127, .int (nI k)] [] (mg_h L xs I1) Q := by
  refine loop_ind (n := n) (fun k hkn ih => ?_)
  intro I1 hfr e1
  have hn8 := hk.hn.2
  have h1 : mOk (I1 128) n := by rw [e1]; exact hk.cars k hkn
  have ha : I1 127 4 = I 127 4 := hfr 127 4 (by decide)
  have hx : mTx I1 T := hx.td (fun j hj => by rw [e1, mw_eq, sp_cars_kp hk hj k hkn])
  refine me_iload_n (p' := 46) k163_45 rfl rfl ?_
  refine me_aload_n (p' := 47) k163_46 rfl rfl ?_
  refine me_gfr (p' := 50) k163_47 rfl (by decide) rfl (b := 128) rfl ?_
  refine me_iconst (p' := 51) k163_50 rfl (v := nI 1) (by decide) ?_
  refine me_iald (p' := 52) k163_51 rfl (by decide) rfl (j := 1) rfl (by omega) (by decide) rfl ?_
  rw [h1.hn.1]
  refine me_ic_ge (p' := 55) k163_52 rfl (fun c1 => ?_) (fun c1 => ?_)
  · skip
    rw [cI_le (a := n) (b := k) (by omega) (by omega)] at c1
    refine me_aload_n (p' := 75) k163_74 rfl rfl ?_
    refine me_gfr (p' := 78) k163_75 rfl (by decide) rfl (b := 128) rfl ?_
    refine me_iconst (p' := 79) k163_78 rfl (v := nI 2) (by decide) ?_
    refine me_dup2 (p' := 80) k163_79 rfl rfl ?_
    refine me_iald (p' := 81) k163_80 rfl (by decide) rfl (j := 2) rfl (by omega) (by decide) rfl ?_
    refine me_iconst (p' := 82) k163_81 rfl (v := nI 1) (by decide) ?_
    refine me_iadd (p' := 83) k163_82 rfl rfl ?_
    refine me_iast (p' := 84) k163_83 rfl (by decide) rfl (j := 2) rfl (by omega) (by decide) rfl ?_
    refine me_retv k163_84 rt_163 ?_
    refine hQ _ (hfr.tr (mFr.up (by decide))) ?_
    have e8 : k = n := by omega
    subst e8
    rw [mg_ui, e1]
  · skip
    rw [cI_le (a := n) (b := k) (by omega) (by omega)] at c1
    refine me_iload_n (p' := 56) k163_55 rfl rfl ?_
    refine me_aload_n (p' := 57) k163_56 rfl rfl ?_
    refine me_gfi (p' := 60) k163_57 rfl (by decide) rfl rfl ?_
    refine me_ic_eq (p' := 63) k163_60 rfl (fun c2 => ?_) (fun c2 => ?_)
    · skip
      refine me_iinc (p' := 71) k163_68 rfl rfl rfl (v := nI (k + 1)) (mI_inc (by decide)) rfl ?_
      refine me_goto k163_71 ?_
      refine ih (by omega) I1 hfr ?_
      rw [e1, sp_cars, if_pos (c2.trans ha)]
    · skip
      refine me_aload_n (p' := 64) k163_63 rfl rfl ?_
      refine me_iload_n (p' := 65) k163_64 rfl rfl ?_
      refine me_cv (p' := 68) k163_65 rfl rfl (by decide) rfl (by decide) (by decide) dp_164 rfl rfl (cl_le mx_164 rfl) (by decide) (cl_sum rfl) (ct_goes hx h1 (by omega) (fun I2 hI2 hI3 => ?_))
      refine me_iinc (p' := 71) k163_68 rfl rfl rfl (v := nI (k + 1)) (mI_inc (by decide)) rfl ?_
      refine me_goto k163_71 ?_
      refine ih (by omega) I2 (hfr.tr hI2) ?_
      rw [hI3, e1, ha, sp_cars, if_neg (fun z => c2 (z.trans ha.symm))]
theorem ct_second {d L : Nat} {xs : Nat → Int32} {I : Nat → Nat → Int32} {Q : Option Value → mj_H → Prop} {T : mT} {n : Nat} (hx : mTx I T) (hk : mOk (I 128) n) (hQ : ∀ I2, mFr [128, 138, 139] I I2 → I2 128 = sp_second T (I 128) (I 127 4) n → Q none (mg_h L xs I2)) : mj_Cl (d + 4) 163 [.ref 127] (mg_h L xs I) Q := by
  refine cl_start mx_163 (ls := [.ref 127, mj_no]) rfl ?_
  refine me_iconst (p' := 1) k163_0 rfl (v := nI 0) (by decide) ?_
  refine me_istore_n (p' := 2) k163_1 rfl ⟨Nat.le_of_ble_eq_true rfl, rfl⟩ rfl ?_
  have h0 := lp_second1 (I := I) (Q := Q) (L := L) (xs := xs) (d := d) ?_ 0 (Nat.zero_le _)
  · rw [show sp_dim (I 128) 0 = I 128 from funext fun k => by unfold sp_dim; rw [if_neg (by omega)]] at h0
    rw [mw_id] at h0
    exact h0
  refine me_iconst (p' := 44) k163_43 rfl (v := nI 0) (by decide) ?_
  refine me_istore_n (p' := 45) k163_44 rfl ⟨Nat.le_of_ble_eq_true rfl, rfl⟩ rfl ?_
  exact lp_second2 (I := mw I 128 (sp_dim (I 128) 12)) (s := sp_dim (I 128) 12) (hx.td (fun j hj => by rw [mw_eqf, sp_dim_kp hj])) hk.dim (fun I2 h2 h3 => hQ I2 ((mFr.w (by decide)).tr h2) (by rw [h3, mw_ne (by decide)]; rfl)) 0 (Nat.zero_le _) _ mFr.rf mw_eqf
theorem lp_goesOn {d L : Nat} {xs : Nat → Int32} {I : Nat → Nat → Int32} {Q : Option Value → mj_H → Prop} {T : mT} {n m : Nat} (hm : m < 100000) (hx : mTx I T) (hk : mOk (I 128) n) (hQ : ∀ I2, mFr [128, 138, 139] I I2 → I2 128 = sp_secs T (I 128) (I 127 4) n m → Q none (mg_h L xs I2)) : ∀ k : Nat, k ≤ m → ∀ I1, mFr [128, 138, 139] I I1 → I1 128 = sp_secs T (I 128) (I 127 4) n k → mj_Ev (d + 5) 162 2 [.ref 127, .int (nI m), .int (nI k)] [] (mg_h L xs I1) Q := by
  refine loop_ind (n := m) (fun k hkn ih => ?_)
  intro I1 hfr e1
  have h1 : mOk (I1 128) n := by rw [e1]; exact hk.secs k
  have hx1 : mTx I1 T := hx.td (fun j hj => by rw [e1, sp_secs_kp hk hj k])
  refine me_iload_n (p' := 3) k162_2 rfl rfl ?_
  refine me_iload_n (p' := 4) k162_3 rfl rfl ?_
  refine me_ic_ge (p' := 7) k162_4 rfl (fun c1 => ?_) (fun c1 => ?_)
  · skip
    rw [cI_le (a := m) (b := k) (by omega) (by omega)] at c1
    refine me_retv k162_17 rt_162 ?_
    have e8 : k = m := by omega
    subst e8
    exact hQ _ hfr e1
  · skip
    rw [cI_le (a := m) (b := k) (by omega) (by omega)] at c1
    refine me_aload_n (p' := 8) k162_7 rfl rfl ?_
    refine me_cv (p' := 11) k162_8 rfl rfl (by decide) rfl (by decide) (by decide) dp_163 rfl rfl (cl_le mx_163 rfl) (by decide) (cl_sum rfl) (ct_second hx1 h1 (fun I2 hI2 hI3 => ?_))
    refine me_iinc (p' := 14) k162_11 rfl rfl rfl (v := nI (k + 1)) (mI_inc (by decide)) rfl ?_
    refine me_goto k162_14 ?_
    refine ih (by omega) I2 (hfr.tr hI2) ?_
    rw [hI3, e1, hfr 127 4 (by decide), sp_secs]
theorem ct_goesOn {d L : Nat} {xs : Nat → Int32} {I : Nat → Nat → Int32} {Q : Option Value → mj_H → Prop} {T : mT} {n m : Nat} (hm : m < 100000) (hx : mTx I T) (hk : mOk (I 128) n) (hQ : ∀ I2, mFr [128, 138, 139] I I2 → I2 128 = sp_secs T (I 128) (I 127 4) n m → Q none (mg_h L xs I2)) : mj_Cl (d + 5) 162 [.ref 127, .int (nI m)] (mg_h L xs I) Q := by
  refine cl_start mx_162 (ls := [.ref 127, .int (nI m), mj_no]) rfl ?_
  refine me_iconst (p' := 1) k162_0 rfl (v := nI 0) (by decide) ?_
  refine me_istore_n (p' := 2) k162_1 rfl ⟨Nat.le_of_ble_eq_true rfl, rfl⟩ rfl ?_
  exact lp_goesOn hm hx hk hQ 0 (Nat.zero_le _) I mFr.rf rfl
