/-! ===== the model: a second ===== -/
abbrev mT := Nat × (Nat → Nat) × (Nat → List Nat) × (Nat → Nat)
def mT.nt (T : mT) : Nat := T.1
def mT.kf (T : mT) : Nat → Nat := T.2.1
def mT.tk (T : mT) : Nat → List Nat := T.2.2.1
def mT.na (T : mT) : Nat → Nat := T.2.2.2
def mTx (I : Nat → Nat → Int32) (T : mT) : Prop := mTxs I T.nt T.kf T.tk T.na
def up (s : Nat → Int32) (k : Nat) (v : Int32) : Nat → Int32 := fun j => if j = k then v else s j
theorem mg_ui {I : Nat → Nat → Int32} {i k : Nat} {v : Int32} : mg_u I i k v i = up (I i) k v := by
  funext j
  simp [mg_u, up]
theorem mg_un {I : Nat → Nat → Int32} {i k a : Nat} {v : Int32} (h : a ≠ i) : mg_u I i k v a = I a := by
  funext j
  exact mg_un1 h
theorem up_eq {s : Nat → Int32} {k : Nat} {v : Int32} : up s k v k = v := by simp [up]
theorem up_ne {s : Nat → Int32} {k j : Nat} {v : Int32} (h : j ≠ k) : up s k v j = s j := by simp [up, h]
def sQ (s : Nat → Int32) (c : Nat) : Nat := (s (53 + 7 * c + 0)).toNatClampNeg
/-- what is always so of a state that an IMAGE keeps; n CARS -/
def mOk (s : Nat → Int32) (n : Nat) : Prop := mN s n ∧ (∀ c : Nat, c < n → s (53 + 7 * c + 0) = nI (sQ s c) ∧ sQ s c < 6) ∧ mFt s n ∧
  (∀ c : Nat, c < n → ∃ w : Nat, s (53 + 7 * c + 2) = nI w ∧ 1 ≤ w ∧ w ≤ 99) ∧ (∀ p : Nat, p < 12 → ∃ v : Nat, s (29 + p) = nI v ∧ v ≤ 60) ∧
  (∀ p : Nat, p < 12 → ∃ v : Nat, s (41 + p) = nI v ∧ v ≤ 60) ∧ ∃ v : Nat, s 3 = nI v ∧ 1 ≤ v ∧ v ≤ 60
theorem mOk.hn {s : Nat → Int32} {n : Nat} (h : mOk s n) : mN s n := h.1
theorem mOk.kd {s : Nat → Int32} {n : Nat} (h : mOk s n) : ∀ c : Nat, c < n → s (53 + 7 * c + 0) = nI (sQ s c) ∧ sQ s c < 6 := h.2.1
theorem mOk.ft {s : Nat → Int32} {n : Nat} (h : mOk s n) : mFt s n := h.2.2.1
theorem mOk.wt {s : Nat → Int32} {n : Nat} (h : mOk s n) : ∀ c : Nat, c < n → ∃ w : Nat, s (53 + 7 * c + 2) = nI w ∧ 1 ≤ w ∧ w ≤ 99 := h.2.2.2.1
theorem mOk.sc {s : Nat → Int32} {n : Nat} (h : mOk s n) : ∀ p : Nat, p < 12 → ∃ v : Nat, s (29 + p) = nI v ∧ v ≤ 60 := h.2.2.2.2.1
theorem mOk.se {s : Nat → Int32} {n : Nat} (h : mOk s n) : ∀ p : Nat, p < 12 → ∃ v : Nat, s (41 + p) = nI v ∧ v ≤ 60 := h.2.2.2.2.2.1
theorem mOk.gp {s : Nat → Int32} {n : Nat} (h : mOk s n) : ∃ v : Nat, s 3 = nI v ∧ 1 ≤ v ∧ v ≤ 60 := h.2.2.2.2.2.2
def sp_pc (T : mT) (s : Nat → Int32) (c p : Nat) : Int32 := sp_pace T.nt T.kf T.tk s c p (sQ s c)
def sp_byI (T : mT) (s : Nat → Int32) (aw : Int32) (n c : Nat) : Int32 := sp_within (sp_room s aw c n) (nI 0) (sp_pc T s c (sF s c / 20))
def sp_by (T : mT) (s : Nat → Int32) (aw : Int32) (n c : Nat) : Nat := (sp_byI T s aw n c).toNatClampNeg
def sp_enter (s : Nat → Int32) (c p : Nat) : Nat → Int32 :=
  if s (29 + p) = 0 then s else if 0 < s (41 + p) then up s (53 + 7 * c + 4) (s (53 + 7 * c + 4) + nI 1)
  else up (up s (53 + 7 * c + 3) (s (53 + 7 * c + 3) + nI (sp_loud (sQ s c)))) (41 + p) (s (29 + p))
def sp_go1 (s : Nat → Int32) (c F b : Nat) : Nat → Int32 :=
  up (up (up s (53 + 7 * c + 5) (s (53 + 7 * c + 5) + if b = 0 then nI 1 else nI 0)) (53 + 7 * c + 1) (nI ((F + b) % 240))) (53 + 7 * c + 6) (s (53 + 7 * c + 6) + if 240 ≤ F + b then nI 1 else nI 0)
def sp_goes (T : mT) (s : Nat → Int32) (aw : Int32) (n c : Nat) : Nat → Int32 :=
  if (sF s c + sp_by T s aw n c) / 20 = sF s c / 20 then sp_go1 s c (sF s c) (sp_by T s aw n c)
  else sp_enter (sp_go1 s c (sF s c) (sp_by T s aw n c)) c ((sF s c + sp_by T s aw n c) / 20 % 12)
def sp_dim (s : Nat → Int32) (m : Nat) : Nat → Int32 := fun k => if 41 ≤ k ∧ k < 41 + m then (if 0 < s k then s k - nI 1 else s k) else s k
def sp_cars (T : mT) (s : Nat → Int32) (aw : Int32) (n : Nat) : Nat → Nat → Int32
  | 0 => s
  | k + 1 => if nI k = aw then sp_cars T s aw n k else sp_goes T (sp_cars T s aw n k) aw n k
def sp_second (T : mT) (s : Nat → Int32) (aw : Int32) (n : Nat) : Nat → Int32 :=
  up (sp_cars T (sp_dim s 12) aw n n) 2 (sp_cars T (sp_dim s 12) aw n n 2 + nI 1)
def sp_secs (T : mT) (s : Nat → Int32) (aw : Int32) (n : Nat) : Nat → Nat → Int32
  | 0 => s
  | k + 1 => sp_second T (sp_secs T s aw n k) aw n
theorem sp_within_rng {v : Int32} {a b : Nat} (hb : b < 2 ^ 31) (h : a ≤ b) : ∃ k, sp_within v (nI a) (nI b) = nI k ∧ a ≤ k ∧ k ≤ b := by
  unfold sp_within
  by_cases h1 : nI a ≤ v
  · rw [if_pos h1]
    by_cases h2 : v ≤ nI b
    · rw [if_pos h2]
      obtain ⟨k, rfl, hk⟩ := mI_of (Int32.le_trans (nI_pos' (show a < 2 ^ 31 by omega)) h1)
      exact ⟨k, rfl, (cI_le (by omega) hk).mp h1, (cI_le hk hb).mp h2⟩
    · rw [if_neg h2]
      exact ⟨b, rfl, h, Nat.le_refl _⟩
  · rw [if_neg h1]
    exact ⟨a, rfl, Nat.le_refl _, h⟩
theorem sp_gain_rng {q : Nat} {g r b : Int32} : ∃ k, sp_gain q (sp_within g (nI 1) (nI 20)) r b = nI k ∧ 1 ≤ k ∧ k ≤ 20 := by
  have w : ∀ v : Int32, ∃ k, sp_within v (nI 1) (nI 20) = nI k ∧ 1 ≤ k ∧ k ≤ 20 := fun v => sp_within_rng (by decide) (by decide)
  match q with
  | 0 => exact w _
  | 1 => exact w _
  | 2 => exact w _
  | 3 => exact w _
  | 4 =>
    show ∃ k, (if b < nI 5 then sp_light (sp_within g (nI 1) (nI 20)) else nI 1) = nI k ∧ 1 ≤ k ∧ k ≤ 20
    by_cases h : b < nI 5
    · rw [if_pos h]
      exact w _
    · rw [if_neg h]
      exact ⟨1, rfl, by decide, by decide⟩
  | _ + 5 => exact ⟨7, rfl, by decide, by decide⟩
theorem sp_by_eq {T : mT} {s : Nat → Int32} {aw : Int32} {n c : Nat} : sp_byI T s aw n c = nI (sp_by T s aw n c) ∧ sp_by T s aw n c ≤ 20 := by
  have h : ∃ k, sp_byI T s aw n c = nI k ∧ k ≤ 20 := by
    obtain ⟨p, hp, hp1, hp2⟩ : ∃ k, sp_pc T s c (sF s c / 20) = nI k ∧ 1 ≤ k ∧ k ≤ 20 := sp_gain_rng
    unfold sp_byI
    rw [hp]
    obtain ⟨k, hk, -, hk2⟩ := sp_within_rng (v := sp_room s aw c n) (a := 0) (b := p) (by omega) (by omega)
    exact ⟨k, hk, by omega⟩
  obtain ⟨k, hk, hk2⟩ := h
  unfold sp_by
  rw [hk, nI_clamp (by omega)]
  exact ⟨rfl, hk2⟩
theorem ct_enters {d L : Nat} {xs : Nat → Int32} {I : Nat → Nat → Int32} {Q : Option Value → mj_H → Prop} {c p : Nat} (hc : c < 8) (hp : p < 12) (hq : I 128 (53 + 7 * c + 0) = nI (sQ (I 128) c) ∧ sQ (I 128) c < 6) (hQ : ∀ I2, mFr [128] I I2 → I2 128 = sp_enter (I 128) c p → Q none (mg_h L xs I2)) : mj_Cl (d + 2) 166 [.ref 127, .int (nI c), .int (nI p)] (mg_h L xs I) Q := by
  refine cl_start mx_166 (ls := [.ref 127, .int (nI c), .int (nI p)]) rfl ?_
  refine me_aload_n (p' := 1) k166_0 rfl rfl ?_
  refine me_gfr (p' := 4) k166_1 rfl (by decide) rfl (b := 128) rfl ?_
  refine me_bipush (p' := 6) k166_4 rfl (v := nI 29) (by decide) ?_
  refine me_iload_n (p' := 7) k166_6 rfl rfl ?_
  refine me_iadd (p' := 8) k166_7 rfl (v := nI (29 + p)) (mI_add _ _) ?_
  refine me_iald (p' := 9) k166_8 rfl (by decide) rfl (j := 29 + p) rfl (by omega) (by decide) rfl ?_
  refine me_if_ne (p' := 12) k166_9 rfl (fun c1 => ?_) (fun c1 => ?_)
  · skip
    refine me_retv k166_12 rt_166 ?_
    refine hQ _ mFr.rf ?_
    rw [sp_enter, if_pos c1]
  · skip
    refine me_aload_n (p' := 14) k166_13 rfl rfl ?_
    refine me_gfr (p' := 17) k166_14 rfl (by decide) rfl (b := 128) rfl ?_
    refine me_bipush (p' := 19) k166_17 rfl (v := nI 41) (by decide) ?_
    refine me_iload_n (p' := 20) k166_19 rfl rfl ?_
    refine me_iadd (p' := 21) k166_20 rfl (v := nI (41 + p)) (mI_add _ _) ?_
    refine me_iald (p' := 22) k166_21 rfl (by decide) rfl (j := 41 + p) rfl (by omega) (by decide) rfl ?_
    refine me_if_le (p' := 25) k166_22 rfl (fun c2 => ?_) (fun c2 => ?_)
    · skip
      refine me_aload_n (p' := 36) k166_35 rfl rfl ?_
      refine me_iload_n (p' := 37) k166_36 rfl rfl ?_
      refine me_iconst (p' := 38) k166_37 rfl (v := nI 3) (by decide) ?_
      refine me_aload_n (p' := 39) k166_38 rfl rfl ?_
      refine me_iload_n (p' := 40) k166_39 rfl rfl ?_
      refine me_cv (p' := 43) k166_40 rfl rfl (by decide) rfl (by decide) (by decide) dp_147 rfl rfl (cl_le mx_147 rfl) (by decide) (cl_sum rfl) (ct_loudOf hc hq.1 hq.2 ?_)
      refine me_cv (p' := 46) k166_43 rfl rfl (by decide) rfl (by decide) (by decide) dp_165 rfl rfl (cl_le mx_165 rfl) (by decide) (cl_sum rfl) (ct_adds (by omega) ?_)
      refine me_aload_n (p' := 47) k166_46 rfl rfl ?_
      refine me_gfr (p' := 50) k166_47 rfl (by decide) rfl (b := 128) rfl ?_
      refine me_bipush (p' := 52) k166_50 rfl (v := nI 41) (by decide) ?_
      refine me_iload_n (p' := 53) k166_52 rfl rfl ?_
      refine me_iadd (p' := 54) k166_53 rfl (v := nI (41 + p)) (mI_add _ _) ?_
      refine me_aload_n (p' := 55) k166_54 rfl rfl ?_
      refine me_gfr (p' := 58) k166_55 rfl (by decide) rfl (b := 128) rfl ?_
      refine me_bipush (p' := 60) k166_58 rfl (v := nI 29) (by decide) ?_
      refine me_iload_n (p' := 61) k166_60 rfl rfl ?_
      refine me_iadd (p' := 62) k166_61 rfl (v := nI (29 + p)) (mI_add _ _) ?_
      refine me_iald (p' := 63) k166_62 rfl (by decide) rfl (j := 29 + p) rfl (by omega) (by decide) rfl ?_
      rw [show mg_u I 128 (53 + 7 * c + 3) (I 128 (53 + 7 * c + 3) + nI (sp_loud (sQ (I 128) c))) 128 (29 + p) = I 128 (29 + p) from mg_une (by omega)]
      refine me_iast (p' := 64) k166_63 rfl (by decide) rfl (j := 41 + p) rfl (by omega) (by decide) rfl ?_
      refine me_retv k166_64 rt_166 ?_
      refine hQ _ ((mFr.up (by decide)).tr (mFr.up (by decide))) ?_
      rw [sp_enter, if_neg c1, if_neg (Int32.not_lt.mpr c2), mg_ui, mg_ui]
    · skip
      refine me_aload_n (p' := 26) k166_25 rfl rfl ?_
      refine me_iload_n (p' := 27) k166_26 rfl rfl ?_
      refine me_iconst (p' := 28) k166_27 rfl (v := nI 4) (by decide) ?_
      refine me_iconst (p' := 29) k166_28 rfl (v := nI 1) (by decide) ?_
      refine me_cv (p' := 32) k166_29 rfl rfl (by decide) rfl (by decide) (by decide) dp_165 rfl rfl (cl_le mx_165 rfl) (by decide) (cl_sum rfl) (ct_adds (by omega) ?_)
      refine me_goto k166_32 ?_
      refine me_retv k166_64 rt_166 ?_
      refine hQ _ (mFr.up (by decide)) ?_
      rw [sp_enter, if_neg c1, if_pos (Int32.not_le.mp c2), mg_ui]
theorem sp_go1_at {s : Nat → Int32} {c F b j : Nat} : sp_go1 s c F b j = if j = 53 + 7 * c + 6 then s (53 + 7 * c + 6) + (if 240 ≤ F + b then nI 1 else nI 0) else if j = 53 + 7 * c + 1 then nI ((F + b) % 240) else if j = 53 + 7 * c + 5 then s (53 + 7 * c + 5) + (if b = 0 then nI 1 else nI 0) else s j := rfl
theorem mI_z (v : Int32) : v + nI 0 = v := by
  show v + 0 = v
  simp
/-- the state on the way: over I1, three of a CAR's numbers written -/
theorem sp_gw1 {J : Nat → Nat → Int32} {s : Nat → Int32} {c F b : Nat} (hJ : J 128 = s) (hf : s (53 + 7 * c + 1) = nI F) (h2 : F + b < 240) :
    (mg_u (mg_u J 128 (53 + 7 * c + 5) (J 128 (53 + 7 * c + 5) + if b = 0 then nI 1 else nI 0)) 128 (53 + 7 * c + 1) (mg_u J 128 (53 + 7 * c + 5) (J 128 (53 + 7 * c + 5) + if b = 0 then nI 1 else nI 0) 128 (53 + 7 * c + 1) + nI b)) 128 = sp_go1 s c F b := by
  rw [mg_ui, mg_ui, hJ, up_ne (by omega), hf, mI_add]
  funext j
  rw [sp_go1_at, if_neg (show ¬ 240 ≤ F + b by omega), Nat.mod_eq_of_lt h2, mI_z]
  unfold up
  by_cases e1 : j = 53 + 7 * c + 6
  · subst e1; simp
  · rw [if_neg e1]
theorem sp_gw2 {J : Nat → Nat → Int32} {s : Nat → Int32} {c F b : Nat} (hJ : J 128 = s) (hf : s (53 + 7 * c + 1) = nI F) (h2 : 240 ≤ F + b) (h3 : F + b < 480) {J1 J2 J3 : Nat → Nat → Int32}
    (h4 : J1 = mg_u J 128 (53 + 7 * c + 5) (J 128 (53 + 7 * c + 5) + if b = 0 then nI 1 else nI 0)) (h5 : J2 = mg_u J1 128 (53 + 7 * c + 1) (J1 128 (53 + 7 * c + 1) + nI b))
    (h6 : J3 = mg_u J2 128 (53 + 7 * c + 1) (J2 128 (53 + 7 * c + 1) + (-240))) : (mg_u J3 128 (53 + 7 * c + 6) (J3 128 (53 + 7 * c + 6) + nI 1)) 128 = sp_go1 s c F b := by
  subst h4 h5 h6
  have e0 : nI (F + b) + (-240) = nI ((F + b) % 240) := by
    rw [show (F + b) % 240 = F + b - 240 by omega, ← mI_sub h2, Int32.sub_eq_add_neg]
    rfl
  simp only [mg_ui, hJ, up_eq]
  rw [up_ne (show 53 + 7 * c + 1 ≠ 53 + 7 * c + 5 by omega), hf, mI_add, e0]
  funext j
  rw [sp_go1_at, if_pos h2]
  unfold up
  by_cases e1 : j = 53 + 7 * c + 6
  · subst e1; simp
  · rw [if_neg e1, if_neg e1]
    by_cases e2 : j = 53 + 7 * c + 1
    · subst e2; simp
    · rw [if_neg e2, if_neg e2, if_neg e2]
theorem ct_goes {d L : Nat} {xs : Nat → Int32} {I : Nat → Nat → Int32} {Q : Option Value → mj_H → Prop} {T : mT} {n c : Nat} (hx : mTx I T) (hk : mOk (I 128) n) (hc : c < n) (hQ : ∀ I2, mFr [128, 138, 139] I I2 → I2 128 = sp_goes T (I 128) (I 127 4) n c → Q none (mg_h L xs I2)) : mj_Cl (d + 3) 164 [.ref 127, .int (nI c)] (mg_h L xs I) Q := by
  have hn8 := hk.hn.2
  refine cl_start mx_164 (ls := [.ref 127, .int (nI c), mj_no, mj_no, mj_no]) rfl ?_
  refine me_aload_n (p' := 1) k164_0 rfl rfl ?_
  refine me_iload_n (p' := 2) k164_1 rfl rfl ?_
  refine me_iconst (p' := 3) k164_2 rfl (v := nI 1) (by decide) ?_
  refine me_cv (p' := 6) k164_3 rfl rfl (by decide) rfl (by decide) (by decide) dp_141 rfl rfl (cl_le mx_141 rfl) (by decide) (cl_sum rfl) (ct_of (by omega) ?_)
  have hF0 := (hk.ft c hc).2
  rw [(hk.ft c hc).1]
  refine me_bipush (p' := 8) k164_6 rfl (v := nI 20) (by decide) ?_
  refine me_idiv (p' := 9) k164_8 rfl (nI_ne0 (by omega) (by omega)) (v := nI ((sF (I 128) c) / 20)) (mI_div (by omega) (by omega)) ?_
  refine me_istore_n (p' := 10) k164_9 rfl ⟨Nat.le_of_ble_eq_true rfl, rfl⟩ rfl ?_
  refine me_aload_n (p' := 11) k164_10 rfl rfl ?_
  refine me_iload_n (p' := 12) k164_11 rfl rfl ?_
  refine me_cv (p' := 15) k164_12 rfl rfl (by decide) rfl (by decide) (by decide) dp_146 rfl rfl (cl_le mx_146 rfl) (by decide) (cl_sum rfl) (ct_roomOf hk.hn hk.ft hc ?_)
  refine me_iconst (p' := 16) k164_15 rfl (v := nI 0) (by decide) ?_
  refine me_aload_n (p' := 17) k164_16 rfl rfl ?_
  refine me_iload_n (p' := 18) k164_17 rfl rfl ?_
  refine me_iload_n (p' := 19) k164_18 rfl rfl ?_
  refine me_cv (p' := 22) k164_19 rfl rfl (by decide) rfl (by decide) (by decide) dp_139 rfl rfl (cl_le mx_139 rfl) (by decide) (cl_sum rfl) (ct_paceIn hx (by omega) (by have := (hk.ft c hc).2; omega) (hk.kd c hc).1 (hk.kd c hc).2 (fun I1 hI1 => ?_))
  have e1 : I1 128 = I 128 := funext fun k => hI1 128 k (by decide)
  show mj_Ev _ _ _ _ (.int (sp_pc T (I 128) c (sF (I 128) c / 20)) :: _) _ _
  refine me_cs (p' := 25) k164_22 rfl rfl rfl rfl rfl (cl_le mx_144 rfl) (by decide) (cl_sum rfl) (ct_within ?_)
  rw [show sp_within (sp_room (I 128) (I 127 4) c n) (nI 0) (sp_pc T (I 128) c (sF (I 128) c / 20)) = nI (sp_by T (I 128) (I 127 4) n c) from sp_by_eq.1]
  have hF := (hk.ft c hc).2
  have hB : sp_by T (I 128) (I 127 4) n c ≤ 20 := sp_by_eq.2
  generalize hbe : sp_by T (I 128) (I 127 4) n c = b at *
  generalize hFe : sF (I 128) c = F at *
  refine me_istore_n (p' := 26) k164_25 rfl ⟨Nat.le_of_ble_eq_true rfl, rfl⟩ rfl ?_
  have hFv : (I 128) (53 + 7 * c + 1) = nI F := by rw [← hFe]; exact (hk.ft c hc).1
  have hI3 : mFr [128, 138, 139] I I1 := hI1.mono (by simp)
  have rest2 : ∀ J : Nat → Nat → Int32, mFr [128, 138, 139] I1 J → J 128 = sp_go1 (I 128) c F b → mj_Ev (d + 3) 164 77 [.ref 127, .int (nI c), .int (nI (F / 20)), .int (nI b), mj_no] [] (mg_h L xs J) Q := by
    intro J hJ1 hJ
    refine me_aload_n (p' := 78) k164_77 rfl rfl ?_
    refine me_iload_n (p' := 79) k164_78 rfl rfl ?_
    refine me_iconst (p' := 80) k164_79 rfl (v := nI 1) (by decide) ?_
    refine me_cv (p' := 83) k164_80 rfl rfl (by decide) rfl (by decide) (by decide) dp_141 rfl rfl (cl_le mx_141 rfl) (by decide) (cl_sum rfl) (ct_of (by omega) ?_)
    rw [hJ, sp_go1_at, if_neg (by omega), if_pos rfl]
    refine me_bipush (p' := 85) k164_83 rfl (v := nI 20) (by decide) ?_
    refine me_idiv (p' := 86) k164_85 rfl (nI_ne0 (by omega) (by omega)) (v := nI (((F + b) % 240) / 20)) (mI_div (by omega) (by omega)) ?_
    refine me_istore (p' := 88) k164_86 rfl ⟨Nat.le_of_ble_eq_true rfl, rfl⟩ rfl ?_
    refine me_iload (p' := 90) k164_88 rfl rfl ?_
    refine me_iload_n (p' := 91) k164_90 rfl rfl ?_
    refine me_ic_eq (p' := 94) k164_91 rfl (fun c1 => ?_) (fun c1 => ?_)
    · skip
      rw [cI_eq (a := ((F + b) % 240) / 20) (b := F / 20) (by omega) (by omega)] at c1
      refine me_retv k164_101 rt_164 ?_
      refine hQ _ (hI3.tr hJ1) ?_
      unfold sp_goes
      rw [hbe, hFe, if_pos (by omega)]
      exact hJ
    · skip
      rw [cI_eq (a := ((F + b) % 240) / 20) (b := F / 20) (by omega) (by omega)] at c1
      refine me_aload_n (p' := 95) k164_94 rfl rfl ?_
      refine me_iload_n (p' := 96) k164_95 rfl rfl ?_
      refine me_iload (p' := 98) k164_96 rfl rfl ?_
      refine me_cv (p' := 101) k164_98 rfl rfl (by decide) rfl (by decide) (by decide) dp_166 rfl rfl (cl_le mx_166 rfl) (by decide) (cl_sum rfl) (ct_enters (by omega) (by omega) (by rw [sQ, hJ, sp_go1_at, if_neg (by omega), if_neg (by omega), if_neg (by omega)]; exact hk.kd c hc) (fun J2 hJ2 hJ3 => ?_))
      refine me_retv k164_101 rt_164 ?_
      refine hQ _ ((hI3.tr hJ1).tr (hJ2.mono (by simp))) ?_
      unfold sp_goes
      rw [hbe, hFe, if_neg (by omega), hJ3, hJ, show (F + b) / 20 % 12 = (F + b) % 240 / 20 by omega]
  have rest : mj_Ev (d + 3) 164 38 [.ref 127, .int (nI c), .int (nI (F / 20)), .int (nI b), mj_no] [.int (if b = 0 then nI 1 else nI 0), .int (nI 5), .int (nI c), .ref 127] (mg_h L xs I1) Q := by
    refine me_cv (p' := 41) k164_38 rfl rfl (by decide) rfl (by decide) (by decide) dp_165 rfl rfl (cl_le mx_165 rfl) (by decide) (cl_sum rfl) (ct_adds (by omega) ?_)
    refine me_aload_n (p' := 42) k164_41 rfl rfl ?_
    refine me_iload_n (p' := 43) k164_42 rfl rfl ?_
    refine me_iconst (p' := 44) k164_43 rfl (v := nI 1) (by decide) ?_
    refine me_iload_n (p' := 45) k164_44 rfl rfl ?_
    refine me_cv (p' := 48) k164_45 rfl rfl (by decide) rfl (by decide) (by decide) dp_165 rfl rfl (cl_le mx_165 rfl) (by decide) (cl_sum rfl) (ct_adds (by omega) ?_)
    refine me_aload_n (p' := 49) k164_48 rfl rfl ?_
    refine me_iload_n (p' := 50) k164_49 rfl rfl ?_
    refine me_iconst (p' := 51) k164_50 rfl (v := nI 1) (by decide) ?_
    refine me_cv (p' := 54) k164_51 rfl rfl (by decide) rfl (by decide) (by decide) dp_141 rfl rfl (cl_le mx_141 rfl) (by decide) (cl_sum rfl) (ct_of (by omega) ?_)
    rw [show (mg_u (mg_u I1 128 (53 + 7 * c + 5) (I1 128 (53 + 7 * c + 5) + (if b = 0 then nI 1 else nI 0))) 128 (53 + 7 * c + 1) ((mg_u I1 128 (53 + 7 * c + 5) (I1 128 (53 + 7 * c + 5) + (if b = 0 then nI 1 else nI 0))) 128 (53 + 7 * c + 1) + (nI b))) 128 (53 + 7 * c + 1) = nI (F + b) from by rw [mg_ueq, mg_une (by omega), e1, hFv, mI_add]]
    refine me_sipush (p' := 57) k164_54 rfl (v := nI 240) (by decide) ?_
    refine me_ic_lt (p' := 60) k164_57 rfl (fun c1 => ?_) (fun c1 => ?_)
    · skip
      rw [cI_lt (a := F + b) (b := 240) (by omega) (by omega)] at c1
      refine rest2 _ ?_ ?_
      · exact (mFr.up (by decide)).tr (mFr.up (by decide))
      · exact sp_gw1 e1 hFv (by omega)
    · skip
      rw [cI_lt (a := F + b) (b := 240) (by omega) (by omega)] at c1
      refine me_aload_n (p' := 61) k164_60 rfl rfl ?_
      refine me_iload_n (p' := 62) k164_61 rfl rfl ?_
      refine me_iconst (p' := 63) k164_62 rfl (v := nI 1) (by decide) ?_
      refine me_sipush (p' := 66) k164_63 rfl (v := (-240)) (by decide) ?_
      refine me_cv (p' := 69) k164_66 rfl rfl (by decide) rfl (by decide) (by decide) dp_165 rfl rfl (cl_le mx_165 rfl) (by decide) (cl_sum rfl) (ct_adds (by omega) ?_)
      refine me_aload_n (p' := 70) k164_69 rfl rfl ?_
      refine me_iload_n (p' := 71) k164_70 rfl rfl ?_
      refine me_bipush (p' := 73) k164_71 rfl (v := nI 6) (by decide) ?_
      refine me_iconst (p' := 74) k164_73 rfl (v := nI 1) (by decide) ?_
      refine me_cv (p' := 77) k164_74 rfl rfl (by decide) rfl (by decide) (by decide) dp_165 rfl rfl (cl_le mx_165 rfl) (by decide) (cl_sum rfl) (ct_adds (by omega) ?_)
      refine rest2 _ ?_ ?_
      · exact ((mFr.up (by decide)).tr (mFr.up (by decide))).tr ((mFr.up (by decide)).tr (mFr.up (by decide)))
      · exact sp_gw2 e1 hFv (by omega) (by omega) rfl rfl rfl
  refine me_aload_n (p' := 27) k164_26 rfl rfl ?_
  refine me_iload_n (p' := 28) k164_27 rfl rfl ?_
  refine me_iconst (p' := 29) k164_28 rfl (v := nI 5) (by decide) ?_
  refine me_iload_n (p' := 30) k164_29 rfl rfl ?_
  refine me_if_ne (p' := 33) k164_30 rfl (fun c1 => ?_) (fun c1 => ?_)
  · skip
    rw [cI_eq0 (a := b) (by omega)] at c1
    refine me_iconst (p' := 34) k164_33 rfl (v := nI 1) (by decide) ?_
    refine me_goto k164_34 ?_
    rw [show nI 1 = (if b = 0 then nI 1 else nI 0) from by rw [if_pos c1]]
    exact rest
  · skip
    rw [cI_eq0 (a := b) (by omega)] at c1
    refine me_iconst (p' := 38) k164_37 rfl (v := nI 0) (by decide) ?_
    rw [show nI 0 = (if b = 0 then nI 1 else nI 0) from by rw [if_neg c1]]
    exact rest
