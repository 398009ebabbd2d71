/-! ===== the model: check ===== -/
/-- two states that are alike but for TEXTS -/
def mAg (s s' : Nat → Int32) : Prop := ∀ k : Nat, k < 109 → s' k = s k
theorem mAg.uq {s s' : Nat → Int32} {k : Nat} {v v' : Int32} (h : mAg s s') (hv : v' = v) : mAg (up s k v) (up s' k v') := fun j hj => by
  subst hv
  unfold up
  rw [h j hj]
theorem mAg.eF {s s' : Nat → Int32} {c : Nat} (h : mAg s s') (hc : c < 8) : sF s' c = sF s c := by
  show (s' (53 + 7 * c + 1)).toNatClampNeg = _
  rw [h _ (by omega)]
  rfl
theorem mAg.eQ {s s' : Nat → Int32} {c : Nat} (h : mAg s s') (hc : c < 8) : sQ s' c = sQ s c := by
  show (s' (53 + 7 * c + 0)).toNatClampNeg = _
  rw [h _ (by omega)]
  rfl
theorem mAg.ml {s s' : Nat → Int32} {aw : Int32} {c : Nat} (h : mAg s s') (hc : c < 8) : ∀ k : Nat, k ≤ 8 → sp_ml s' aw c k = sp_ml s aw c k
  | 0, _ => rfl
  | k + 1, hk => by
    have e : sp_feet s' c k = sp_feet s c k := by
      unfold sp_feet
      rw [h.eF hc, h.eF (show k < 8 by omega)]
    unfold sp_ml
    rw [mAg.ml h hc k (by omega), e]
theorem mAg.by {T : mT} {s s' : Nat → Int32} {aw : Int32} {n c : Nat} (h : mAg s s') (hc : c < 8) (hn : n ≤ 8) (hF : sF s c < 240) : sp_by T s' aw n c = sp_by T s aw n c := by
  unfold sp_by sp_byI sp_room sp_pc sp_pace
  rw [h.ml hc n hn, h.eF hc, h.eQ hc, h 3 (by omega), h (53 + 7 * c + 2) (by omega), h (5 + sF s c / 20) (by omega), h (17 + sF s c / 20) (by omega)]
theorem mAg.goes {T : mT} {s s' : Nat → Int32} {aw : Int32} {n c : Nat} (h : mAg s s') (hc : c < 8) (hn : n ≤ 8) (hF : sF s c < 240) : mAg (sp_goes T s aw n c) (sp_goes T s' aw n c) := by
  unfold sp_goes
  rw [h.by (T := T) (aw := aw) hc hn hF, h.eF hc]
  generalize sp_by T s aw n c = b
  generalize sF s c = F
  have g1 : mAg (sp_go1 s c F b) (sp_go1 s' c F b) := by
    unfold sp_go1
    exact ((h.uq (by rw [h _ (by omega)])).uq rfl).uq (by rw [h _ (by omega)])
  by_cases e : (F + b) / 20 = F / 20
  · rw [if_pos e, if_pos e]
    exact g1
  · rw [if_neg e, if_neg e]
    have hp : (F + b) / 20 % 12 < 12 := Nat.mod_lt _ (by decide)
    generalize (F + b) / 20 % 12 = p at hp
    generalize sp_go1 s' c F b = d1 at g1
    generalize sp_go1 s c F b = s1 at g1
    unfold sp_enter
    rw [g1 (29 + p) (by omega), g1 (41 + p) (by omega), g1 (53 + 7 * c + 3) (by omega), g1 (53 + 7 * c + 4) (by omega), g1.eQ hc]
    split
    · exact g1
    · split
      · exact g1.uq rfl
      · exact (g1.uq rfl).uq rfl
theorem mAg.dim {s s' : Nat → Int32} (h : mAg s s') : mAg (sp_dim s 12) (sp_dim s' 12) := fun k hk => by
  unfold sp_dim
  rw [h k hk]
theorem mOk.ag {s s' : Nat → Int32} {n : Nat} (h : mOk s n) (ha : mAg s s') : mOk s' n := by
  have hn8 := h.hn.2
  refine mOk.mk ⟨?_, hn8⟩ (fun c hc => ?_) (fun c hc => ?_) (fun c hc => ?_) (fun p hp => ?_) (fun p hp => ?_) ?_
  · rw [ha 1 (by omega)]; exact h.hn.1
  · rw [ha _ (by omega)]; exact h.kd' c hc
  · rw [ha _ (by omega)]; exact h.ft' c hc
  · rw [ha _ (by omega)]; exact h.wt c hc
  · rw [ha _ (by omega)]; exact h.sc p hp
  · rw [ha _ (by omega)]; exact h.se p hp
  · rw [ha 3 (by omega)]; exact h.gp
theorem mAg.cars {T : mT} {s s' : Nat → Int32} {aw : Int32} {n : Nat} (h : mAg s s') (hk : mOk s n) : ∀ k : Nat, k ≤ n → mAg (sp_cars T s aw n k) (sp_cars T s' aw n k)
  | 0, _ => h
  | k + 1, hkn => by
    have hn8 := hk.hn.2
    have ih := mAg.cars (T := T) (aw := aw) h hk k (by omega)
    unfold sp_cars
    split
    · exact ih
    · exact ih.goes (by omega) hn8 ((hk.cars k (by omega)).ft k (by omega)).2
theorem mAg.second {T : mT} {s s' : Nat → Int32} {aw : Int32} {n : Nat} (h : mAg s s') (hk : mOk s n) : mAg (sp_second T s aw n) (sp_second T s' aw n) := by
  have := h.dim.cars (T := T) (aw := aw) hk.dim n (Nat.le_refl _)
  unfold sp_second
  exact this.uq (by rw [this 2 (by omega)])
theorem mAg.secs {T : mT} {s s' : Nat → Int32} {aw : Int32} {n : Nat} (h : mAg s s') (hk : mOk s n) : ∀ k : Nat, mAg (sp_secs T s aw n k) (sp_secs T s' aw n k)
  | 0 => h
  | k + 1 => (mAg.secs h hk k).second (hk.secs k)
theorem mAg.sum {s s' : Nat → Int32} {aw : Int32} {w : Nat} (h : mAg s s') (hw : w < 7) : ∀ k : Nat, k ≤ 8 → sp_sum s' aw w k = sp_sum s aw w k
  | 0, _ => rfl
  | k + 1, hk => by rw [sp_sum, sp_sum, mAg.sum h hw k (by omega), h _ (by omega)]
theorem mTx.kp2 {I I' : Nat → Nat → Int32} {T : mT} (h : mTx I T) (hk : ∀ k, k < 1481 → I' 128 k = I 128 k) : mTx I' T := by
  have hnt := h.2.1
  refine ⟨(hk 4 (by omega)).trans h.1, h.2.1, fun t ht => ?_⟩
  obtain ⟨h1, h2, h3, h4, h5, h6⟩ := h.2.2 t ht
  have ht14 : t < 14 := Nat.lt_of_lt_of_le ht hnt
  exact ⟨h1, h2, h3, (hk _ (by omega)).trans h4, (hk _ (by omega)).trans h5, fun j hj => (hk _ (by omega)).trans (h6.1 j hj), h6.2⟩
/-- THE SECONDS TOLD -/
def sp_tld (T : mT) (s : Nat → Int32) (n i : Nat) : Int32 := if i % 2 = 0 then sp_sum (sp_secs T s (-1) n (i / 2 + 1)) (-1) 1 n else sp_sum (sp_secs T s (-1) n (i / 2 + 1)) (-1) 3 n
theorem sp_tld_0 {T : mT} {s : Nat → Int32} {n k : Nat} : sp_tld T s n (2 * k) = sp_sum (sp_secs T s (-1) n (k + 1)) (-1) 1 n := by
  unfold sp_tld
  rw [if_pos (by omega), show 2 * k / 2 = k by omega]
theorem sp_tld_1 {T : mT} {s : Nat → Int32} {n k : Nat} : sp_tld T s n (2 * k + 1) = sp_sum (sp_secs T s (-1) n (k + 1)) (-1) 3 n := by
  unfold sp_tld
  rw [if_neg (by omega), show (2 * k + 1) / 2 = k by omega]
def sp_chk (g : Nat → Int32) (w : Nat) (t : Nat → Int32) (due : Nat) : Nat → Int32
  | 0 => if due < w then nI (1 + due) else nI 0
  | m + 1 => if due - (m + 1) < w then (if t (due - (m + 1)) = g (due - (m + 1)) then sp_chk g w t due m else nI (1 + (due - (m + 1)))) else nI (1 + (due - (m + 1)))
def sp_check (has : Int32) (T : mT) (s : Nat → Int32) (n w : Nat) (t : Nat → Int32) (v : Int32) : Int32 := if nI 1 ≤ v ∧ v ≤ nI 30 then (if has = 0 then (-1000000002) else sp_chk (sp_tld T s n) w t (2 * min v.toNatClampNeg (9999 - (s 2).toNatClampNeg)) (2 * min v.toNatClampNeg (9999 - (s 2).toNatClampNeg))) else (-1000000001)
theorem lp_checkE {d L : Nat} {xs : Nat → Int32} {I : Nat → Nat → Int32} {Q : Option Value → mj_H → Prop} {m w due r k : Nat} (hw : w ≤ 60) (hd : due ≤ 60) (hr : r ≤ 60) (hQ : ∀ K, mFr [128, 130, 138, 139] I K → K 128 = I 128 → Q (some (.int (if r = w ∧ r = due then nI 0 else nI (1 + r)))) (mg_h L xs K)) (I1 : Nat → Nat → Int32) (h1 : mFr [128, 130, 138, 139] I I1) (h2 : ∀ j, j < 1481 → I1 130 j = I 128 j) (h3 : ∀ j, 1481 ≤ j → I1 128 j = I 128 j) : mj_Ev (d + 5) 213 179 [.ref 127, .int (nI m), .int (nI w), .int (nI due), .int (nI r), .int (nI k)] [] (mg_h L xs I1) Q := by
  have hK1 : mFr [128, 130, 138, 139] I (mw I1 128 (fun j => if j < 1481 then I1 130 j else I1 128 j)) := h1.tr (mFr.w (by decide))
  have hK2 : (mw I1 128 (fun j => if j < 1481 then I1 130 j else I1 128 j)) 128 = I 128 := by
    rw [mw_eqf]
    funext j
    by_cases e : j < 1481
    · rw [if_pos e, h2 j e]
    · rw [if_neg e, h3 j (by omega)]
  refine me_aload_n (p' := 180) k213_179 rfl rfl ?_
  refine me_gfr (p' := 183) k213_180 rfl (by decide) rfl (b := 130) rfl ?_
  refine me_aload_n (p' := 184) k213_183 rfl rfl ?_
  refine me_gfr (p' := 187) k213_184 rfl (by decide) rfl (b := 128) rfl ?_
  refine me_cs (p' := 190) k213_187 rfl rfl rfl rfl rfl (cl_le mx_214 rfl) (by decide) (cl_sum rfl) (ct_copyAll (by decide) (by decide) rfl rfl (fun k => rfl) (fun k => rfl) (by decide) ?_)
  refine me_iload (p' := 192) k213_190 rfl rfl ?_
  refine me_iload_n (p' := 193) k213_192 rfl rfl ?_
  refine me_ic_ne (p' := 196) k213_193 rfl (fun c1 => ?_) (fun c1 => ?_)
  · skip
    rw [cI_eq (a := r) (b := w) (by omega) (by omega)] at c1
    refine me_iload (p' := 198) k213_196 rfl rfl ?_
    refine me_iload_n (p' := 199) k213_198 rfl rfl ?_
    refine me_ic_ne (p' := 202) k213_199 rfl (fun c2 => ?_) (fun c2 => ?_)
    · skip
      rw [cI_eq (a := r) (b := due) (by omega) (by omega)] at c2
      refine me_iconst (p' := 203) k213_202 rfl (v := nI 0) (by decide) ?_
      refine me_goto k213_203 ?_
      refine me_reti k213_210 rt_213 rfl ?_
      rw [if_pos ⟨by omega, by omega⟩] at hQ
      exact hQ _ hK1 hK2
    · skip
      rw [cI_eq (a := r) (b := due) (by omega) (by omega)] at c2
      refine me_iconst (p' := 207) k213_206 rfl (v := nI 1) (by decide) ?_
      refine me_iload (p' := 209) k213_207 rfl rfl ?_
      refine me_iadd (p' := 210) k213_209 rfl (v := nI (1 + r)) (mI_add _ _) ?_
      refine me_reti k213_210 rt_213 rfl ?_
      rw [if_neg (by omega)] at hQ
      exact hQ _ hK1 hK2
  · skip
    rw [cI_eq (a := r) (b := w) (by omega) (by omega)] at c1
    refine me_iconst (p' := 207) k213_206 rfl (v := nI 1) (by decide) ?_
    refine me_iload (p' := 209) k213_207 rfl rfl ?_
    refine me_iadd (p' := 210) k213_209 rfl (v := nI (1 + r)) (mI_add _ _) ?_
    refine me_reti k213_210 rt_213 rfl ?_
    rw [if_neg (by omega)] at hQ
    exact hQ _ hK1 hK2
theorem sp_chk2 {g : Nat → Int32} {w : Nat} {t : Nat → Int32} {D k : Nat} (h : k < D) : sp_chk g w t (2 * D) (2 * (D - k)) = if 2 * k < w then (if t (2 * k) = g (2 * k) then (if 2 * k + 1 < w then (if t (2 * k + 1) = g (2 * k + 1) then sp_chk g w t (2 * D) (2 * (D - (k + 1))) else nI (1 + (2 * k + 1))) else nI (1 + (2 * k + 1))) else nI (1 + 2 * k)) else nI (1 + 2 * k) := by
  rw [show 2 * (D - k) = 2 * (D - (k + 1)) + 1 + 1 by omega, sp_chk, sp_chk, show 2 * D - (2 * (D - (k + 1)) + 1 + 1) = 2 * k by omega, show 2 * D - (2 * (D - (k + 1)) + 1) = 2 * k + 1 by omega]
theorem lp_checkX {d L : Nat} {xs : Nat → Int32} {I : Nat → Nat → Int32} {Q : Option Value → mj_H → Prop} {m w D r k : Nat} (hw : w ≤ 60) (hD : D ≤ 30) (hr : r < 2 * (k + 1) ∧ r < 2 * D) (hQ : ∀ K, mFr [128, 130, 138, 139] I K → K 128 = I 128 → Q (some (.int (nI (1 + r)))) (mg_h L xs K)) (I2 : Nat → Nat → Int32) (h1 : mFr [128, 130, 138, 139] I I2) (h2 : ∀ j, j < 1481 → I2 130 j = I 128 j) (h3 : ∀ j, 1481 ≤ j → I2 128 j = I 128 j) (hkk : k ≤ 1000) : mj_Ev (d + 5) 213 79 [.ref 127, .int (nI m), .int (nI w), .int (nI (2 * D)), .int (nI r), .int (nI (k + 1))] [] (mg_h L xs I2) Q := by
  refine me_iconst (p' := 80) k213_79 rfl (v := nI 2) (by decide) ?_
  refine me_iload (p' := 82) k213_80 rfl rfl ?_
  refine me_imul (p' := 83) k213_82 rfl (v := nI (2 * (k + 1))) (mI_mul _ _) ?_
  refine me_iload_n (p' := 84) k213_83 rfl rfl ?_
  refine me_ic_ge (p' := 87) k213_84 rfl (fun c1 => ?_) (fun c1 => ?_)
  · skip
    rw [cI_le (a := 2 * D) (b := 2 * (k + 1)) (by omega) (by omega)] at c1
    exact lp_checkE (due := 2 * D) hw (by omega) (by omega) (fun K a b => by have := hQ K a b; rw [if_neg (by omega)]; exact this) I2 h1 h2 h3
  · skip
    rw [cI_le (a := 2 * D) (b := 2 * (k + 1)) (by omega) (by omega)] at c1
    refine me_iload (p' := 89) k213_87 rfl rfl ?_
    refine me_iconst (p' := 90) k213_89 rfl (v := nI 2) (by decide) ?_
    refine me_iload (p' := 92) k213_90 rfl rfl ?_
    refine me_imul (p' := 93) k213_92 rfl (v := nI (2 * (k + 1))) (mI_mul _ _) ?_
    refine me_ic_ne (p' := 96) k213_93 rfl (fun c2 => ?_) (fun c2 => ?_)
    · skip
      rw [cI_eq (a := r) (b := 2 * (k + 1)) (by omega) (by omega)] at c2
      exfalso
      omega
    · skip
      rw [cI_eq (a := r) (b := 2 * (k + 1)) (by omega) (by omega)] at c2
      exact lp_checkE (due := 2 * D) hw (by omega) (by omega) (fun K a b => by have := hQ K a b; rw [if_neg (by omega)]; exact this) I2 h1 h2 h3
theorem lp_checkL {d L : Nat} {xs : Nat → Int32} {I : Nat → Nat → Int32} {Q : Option Value → mj_H → Prop} {T : mT} {s : Nat → Int32} {n m w D : Nat} (hk : mOk s n) (hw : w ≤ 60) (hD : D ≤ 30) (hs3 : ∀ j, 1481 ≤ j → s j = I 128 j) (hx : ∀ I1 : Nat → Nat → Int32, (∀ j, ¬ mTd j → I1 128 j = s j) → mTx I1 T) (haw : I 127 4 = -1) : ∀ k : Nat, k ≤ D → (hQ : ∀ K, mFr [128, 130, 138, 139] I K → K 128 = I 128 → Q (some (.int (sp_chk (sp_tld T s n) w (I 148) (2 * D) (2 * (D - k))))) (mg_h L xs K)) → 2 * k ≤ w ∨ k = 0 → ∀ I1, mFr [128, 130, 138, 139] I I1 → I1 128 = sp_secs T s (-1) n k → (∀ j, j < 1481 → I1 130 j = I 128 j) → mj_Ev (d + 5) 213 79 [.ref 127, .int (nI m), .int (nI w), .int (nI (2 * D)), .int (nI (2 * k)), .int (nI k)] [] (mg_h L xs I1) Q := by
  have hn8 := hk.hn.2
  refine loop_ind (n := D) (fun k hkn ih => ?_)
  intro hQ h2k I1 hfr e1 hb1
  have h1 : mOk (I1 128) n := by rw [e1]; exact hk.secs _
  have ha1 : I1 127 4 = -1 := (hfr 127 4 (by decide)).trans haw
  have hx1 : mTx I1 T := hx I1 (fun j hj => by rw [e1, sp_secs_kp hk hj])
  refine me_iconst (p' := 80) k213_79 rfl (v := nI 2) (by decide) ?_
  refine me_iload (p' := 82) k213_80 rfl rfl ?_
  refine me_imul (p' := 83) k213_82 rfl (v := nI (2 * k)) (mI_mul _ _) ?_
  refine me_iload_n (p' := 84) k213_83 rfl rfl ?_
  refine me_ic_ge (p' := 87) k213_84 rfl (fun c1 => ?_) (fun c1 => ?_)
  · skip
    rw [cI_le (a := 2 * D) (b := 2 * k) (by omega) (by omega)] at c1
    obtain rfl : k = D := by omega
    refine lp_checkE (due := 2 * k) hw (by omega) (by omega) (fun K a b => ?_) I1 hfr hb1 (fun j hj => by rw [e1, sp_secs_kp hk (by unfold mTd; omega)]; exact hs3 j hj)
    have := hQ K a b
    rw [Nat.sub_self] at this
    unfold sp_chk at this
    by_cases e : 2 * k = w
    · rw [if_pos ⟨e, rfl⟩]
      rw [if_neg (by omega)] at this
      exact this
    · rw [if_neg (fun z => e z.1)]
      rw [if_pos (by omega)] at this
      exact this
  · skip
    rw [cI_le (a := 2 * D) (b := 2 * k) (by omega) (by omega)] at c1
    refine me_iload (p' := 89) k213_87 rfl rfl ?_
    refine me_iconst (p' := 90) k213_89 rfl (v := nI 2) (by decide) ?_
    refine me_iload (p' := 92) k213_90 rfl rfl ?_
    refine me_imul (p' := 93) k213_92 rfl (v := nI (2 * k)) (mI_mul _ _) ?_
    refine me_ic_ne (p' := 96) k213_93 rfl (fun c2 => ?_) (fun c2 => ?_)
    · skip
      rw [cI_eq (a := 2 * k) (b := 2 * k) (by omega) (by omega)] at c2
      refine me_aload_n (p' := 97) k213_96 rfl rfl ?_
      refine me_cv (p' := 100) k213_97 rfl rfl (by decide) rfl (by decide) (by decide) dp_163 rfl rfl (cl_le mx_163 rfl) (by decide) (cl_sum rfl) (ct_second hx1 h1 (fun I2 hI2 hI3 => ?_))
      have e2 : I2 128 = sp_secs T s (-1) n (k + 1) := by rw [hI3, e1, ha1]; rfl
      have h2 : mOk (I2 128) n := by rw [e2]; exact hk.secs _
      have ha2 : I2 127 4 = -1 := (hI2 127 4 (by decide)).trans ha1
      refine me_iload (p' := 102) k213_100 rfl rfl ?_
      refine me_iload (p' := 104) k213_102 rfl rfl ?_
      refine me_iload_n (p' := 105) k213_104 rfl rfl ?_
      by_cases h2w : 2 * k < w
      · skip
        refine me_ic_ge (p' := 108) k213_105 rfl (fun c3 => ?_) (fun c3 => ?_)
        · skip
          rw [cI_le (a := w) (b := 2 * k) (by omega) (by omega)] at c3
          exact absurd c3 (by omega)
        · skip
          rw [cI_le (a := w) (b := 2 * k) (by omega) (by omega)] at c3
          refine me_aload_n (p' := 109) k213_108 rfl rfl ?_
          refine me_gfr (p' := 112) k213_109 rfl (by decide) rfl (b := 148) rfl ?_
          refine me_iload (p' := 114) k213_112 rfl rfl ?_
          refine me_iald (p' := 115) k213_114 rfl (by decide) rfl (j := 2 * k) rfl (by omega) (by decide) rfl ?_
          rw [show I2 148 (2 * k) = I 148 (2 * k) from (hI2 148 _ (by decide)).trans (hfr 148 _ (by decide))]
          refine me_aload_n (p' := 116) k213_115 rfl rfl ?_
          refine me_iconst (p' := 117) k213_116 rfl (v := nI 1) (by decide) ?_
          refine me_cv (p' := 120) k213_117 rfl rfl (by decide) rfl (by decide) (by decide) dp_161 rfl rfl (cl_le mx_161 rfl) (by decide) (cl_sum rfl) (ct_sumOf h2.hn (by omega) ?_)
          rw [ha2, e2, ← sp_tld_0]
          by_cases h2t : I 148 (2 * k) = (sp_tld T s n) (2 * k)
          · skip
            refine me_ic_ne (p' := 123) k213_120 rfl (fun c4 => ?_) (fun c4 => ?_)
            · skip
              refine me_iconst (p' := 124) k213_123 rfl (v := nI 1) (by decide) ?_
              refine me_goto k213_124 ?_
              refine me_iadd (p' := 129) k213_128 rfl (v := nI ((2 * k) + 1)) (mI_add _ _) ?_
              refine me_istore (p' := 131) k213_129 rfl ⟨Nat.le_of_ble_eq_true rfl, rfl⟩ rfl ?_
              rw [show nI ((2 * k) + 1) = nI (2 * k + 1) from by congr 1]
              refine me_iload (p' := 133) k213_131 rfl rfl ?_
              refine me_iload (p' := 135) k213_133 rfl rfl ?_
              refine me_iconst (p' := 136) k213_135 rfl (v := nI 2) (by decide) ?_
              refine me_iload (p' := 138) k213_136 rfl rfl ?_
              refine me_imul (p' := 139) k213_138 rfl (v := nI (2 * k)) (mI_mul _ _) ?_
              refine me_iconst (p' := 140) k213_139 rfl (v := nI 1) (by decide) ?_
              refine me_iadd (p' := 141) k213_140 rfl (v := nI ((2 * k) + 1)) (mI_add _ _) ?_
              refine me_ic_ne (p' := 144) k213_141 rfl (fun c5 => ?_) (fun c5 => ?_)
              · skip
                rw [cI_eq (a := 2 * k + 1) (b := (2 * k) + 1) (by omega) (by omega)] at c5
                refine me_iload (p' := 146) k213_144 rfl rfl ?_
                refine me_iload_n (p' := 147) k213_146 rfl rfl ?_
                by_cases h3w : 2 * k + 1 < w
                · skip
                  refine me_ic_ge (p' := 150) k213_147 rfl (fun c6 => ?_) (fun c6 => ?_)
                  · skip
                    rw [cI_le (a := w) (b := 2 * k + 1) (by omega) (by omega)] at c6
                    exact absurd c6 (by omega)
                  · skip
                    rw [cI_le (a := w) (b := 2 * k + 1) (by omega) (by omega)] at c6
                    refine me_aload_n (p' := 151) k213_150 rfl rfl ?_
                    refine me_gfr (p' := 154) k213_151 rfl (by decide) rfl (b := 148) rfl ?_
                    refine me_iload (p' := 156) k213_154 rfl rfl ?_
                    refine me_iald (p' := 157) k213_156 rfl (by decide) rfl (j := 2 * k + 1) rfl (by omega) (by decide) rfl ?_
                    rw [show I2 148 (2 * k + 1) = I 148 (2 * k + 1) from (hI2 148 _ (by decide)).trans (hfr 148 _ (by decide))]
                    refine me_aload_n (p' := 158) k213_157 rfl rfl ?_
                    refine me_iconst (p' := 159) k213_158 rfl (v := nI 3) (by decide) ?_
                    refine me_cv (p' := 162) k213_159 rfl rfl (by decide) rfl (by decide) (by decide) dp_161 rfl rfl (cl_le mx_161 rfl) (by decide) (cl_sum rfl) (ct_sumOf h2.hn (by omega) ?_)
                    rw [ha2, e2, ← sp_tld_1]
                    by_cases h3t : I 148 (2 * k + 1) = (sp_tld T s n) (2 * k + 1)
                    · skip
                      refine me_ic_ne (p' := 165) k213_162 rfl (fun c7 => ?_) (fun c7 => ?_)
                      · skip
                        refine me_iconst (p' := 166) k213_165 rfl (v := nI 1) (by decide) ?_
                        refine me_goto k213_166 ?_
                        refine me_iadd (p' := 171) k213_170 rfl (v := nI ((2 * k + 1) + 1)) (mI_add _ _) ?_
                        refine me_istore (p' := 173) k213_171 rfl ⟨Nat.le_of_ble_eq_true rfl, rfl⟩ rfl ?_
                        refine me_iinc (p' := 176) k213_173 rfl rfl rfl (v := nI (k + 1)) (mI_inc (by decide)) rfl ?_
                        refine me_goto k213_176 ?_
                        have hfr2 : mFr [128, 130, 138, 139] I I2 := hfr.tr (hI2.mono (by simp))
                        have hb2 : ∀ j, j < 1481 → I2 130 j = I 128 j := fun j hj => (hI2 130 j (by decide)).trans (hb1 j hj)
                        have hb3 : ∀ j, 1481 ≤ j → I2 128 j = I 128 j := fun j hj => by rw [e2, sp_secs_kp hk (by unfold mTd; omega)]; exact hs3 j hj
                        rw [sp_chk2 (show k < D by omega), if_pos h2w, if_pos h2t, if_pos h3w, if_pos h3t] at hQ
                        rw [show nI ((2 * k + 1) + 1) = nI (2 * (k + 1)) from by congr 1]
                        exact ih (by omega) hQ (by omega) _ hfr2 e2 hb2
                      · skip
                        exact absurd h3t c7
                    · skip
                      refine me_ic_ne (p' := 165) k213_162 rfl (fun c8 => ?_) (fun c8 => ?_)
                      · skip
                        exact absurd c8 h3t
                      · skip
                        refine me_iconst (p' := 170) k213_169 rfl (v := nI 0) (by decide) ?_
                        refine me_iadd (p' := 171) k213_170 rfl (v := nI ((2 * k + 1) + 0)) (mI_add _ _) ?_
                        refine me_istore (p' := 173) k213_171 rfl ⟨Nat.le_of_ble_eq_true rfl, rfl⟩ rfl ?_
                        refine me_iinc (p' := 176) k213_173 rfl rfl rfl (v := nI (k + 1)) (mI_inc (by decide)) rfl ?_
                        refine me_goto k213_176 ?_
                        have hfr2 : mFr [128, 130, 138, 139] I I2 := hfr.tr (hI2.mono (by simp))
                        have hb2 : ∀ j, j < 1481 → I2 130 j = I 128 j := fun j hj => (hI2 130 j (by decide)).trans (hb1 j hj)
                        have hb3 : ∀ j, 1481 ≤ j → I2 128 j = I 128 j := fun j hj => by rw [e2, sp_secs_kp hk (by unfold mTd; omega)]; exact hs3 j hj
                        rw [show nI ((2 * k + 1) + 0) = nI (2 * k + 1) from by congr 1]
                        exact lp_checkX hw hD (by omega) (fun K hK1 hK2 => by rw [sp_chk2 (show k < D by omega), if_pos h2w, if_pos h2t, if_pos h3w, if_neg h3t] at hQ; exact hQ K hK1 hK2) I2 hfr2 hb2 hb3 (by omega)
                · skip
                  refine me_ic_ge (p' := 150) k213_147 rfl (fun c9 => ?_) (fun c9 => ?_)
                  · skip
                    rw [cI_le (a := w) (b := 2 * k + 1) (by omega) (by omega)] at c9
                    refine me_iconst (p' := 170) k213_169 rfl (v := nI 0) (by decide) ?_
                    refine me_iadd (p' := 171) k213_170 rfl (v := nI ((2 * k + 1) + 0)) (mI_add _ _) ?_
                    refine me_istore (p' := 173) k213_171 rfl ⟨Nat.le_of_ble_eq_true rfl, rfl⟩ rfl ?_
                    refine me_iinc (p' := 176) k213_173 rfl rfl rfl (v := nI (k + 1)) (mI_inc (by decide)) rfl ?_
                    refine me_goto k213_176 ?_
                    have hfr2 : mFr [128, 130, 138, 139] I I2 := hfr.tr (hI2.mono (by simp))
                    have hb2 : ∀ j, j < 1481 → I2 130 j = I 128 j := fun j hj => (hI2 130 j (by decide)).trans (hb1 j hj)
                    have hb3 : ∀ j, 1481 ≤ j → I2 128 j = I 128 j := fun j hj => by rw [e2, sp_secs_kp hk (by unfold mTd; omega)]; exact hs3 j hj
                    rw [show nI ((2 * k + 1) + 0) = nI (2 * k + 1) from by congr 1]
                    exact lp_checkX hw hD (by omega) (fun K hK1 hK2 => by rw [sp_chk2 (show k < D by omega), if_pos h2w, if_pos h2t, if_neg h3w] at hQ; exact hQ K hK1 hK2) I2 hfr2 hb2 hb3 (by omega)
                  · skip
                    rw [cI_le (a := w) (b := 2 * k + 1) (by omega) (by omega)] at c9
                    exact absurd (by omega) c9
              · skip
                rw [cI_eq (a := 2 * k + 1) (b := (2 * k) + 1) (by omega) (by omega)] at c5
                exfalso
                omega
            · skip
              exact absurd h2t c4
          · skip
            refine me_ic_ne (p' := 123) k213_120 rfl (fun c10 => ?_) (fun c10 => ?_)
            · skip
              exact absurd c10 h2t
            · skip
              refine me_iconst (p' := 128) k213_127 rfl (v := nI 0) (by decide) ?_
              refine me_iadd (p' := 129) k213_128 rfl (v := nI ((2 * k) + 0)) (mI_add _ _) ?_
              refine me_istore (p' := 131) k213_129 rfl ⟨Nat.le_of_ble_eq_true rfl, rfl⟩ rfl ?_
              rw [show nI ((2 * k) + 0) = nI (2 * k) from by congr 1]
              refine me_iload (p' := 133) k213_131 rfl rfl ?_
              refine me_iload (p' := 135) k213_133 rfl rfl ?_
              refine me_iconst (p' := 136) k213_135 rfl (v := nI 2) (by decide) ?_
              refine me_iload (p' := 138) k213_136 rfl rfl ?_
              refine me_imul (p' := 139) k213_138 rfl (v := nI (2 * k)) (mI_mul _ _) ?_
              refine me_iconst (p' := 140) k213_139 rfl (v := nI 1) (by decide) ?_
              refine me_iadd (p' := 141) k213_140 rfl (v := nI ((2 * k) + 1)) (mI_add _ _) ?_
              refine me_ic_ne (p' := 144) k213_141 rfl (fun c11 => ?_) (fun c11 => ?_)
              · skip
                rw [cI_eq (a := 2 * k) (b := (2 * k) + 1) (by omega) (by omega)] at c11
                exfalso
                omega
              · skip
                rw [cI_eq (a := 2 * k) (b := (2 * k) + 1) (by omega) (by omega)] at c11
                refine me_iconst (p' := 170) k213_169 rfl (v := nI 0) (by decide) ?_
                refine me_iadd (p' := 171) k213_170 rfl (v := nI ((2 * k) + 0)) (mI_add _ _) ?_
                refine me_istore (p' := 173) k213_171 rfl ⟨Nat.le_of_ble_eq_true rfl, rfl⟩ rfl ?_
                refine me_iinc (p' := 176) k213_173 rfl rfl rfl (v := nI (k + 1)) (mI_inc (by decide)) rfl ?_
                refine me_goto k213_176 ?_
                have hfr2 : mFr [128, 130, 138, 139] I I2 := hfr.tr (hI2.mono (by simp))
                have hb2 : ∀ j, j < 1481 → I2 130 j = I 128 j := fun j hj => (hI2 130 j (by decide)).trans (hb1 j hj)
                have hb3 : ∀ j, 1481 ≤ j → I2 128 j = I 128 j := fun j hj => by rw [e2, sp_secs_kp hk (by unfold mTd; omega)]; exact hs3 j hj
                rw [show nI ((2 * k) + 0) = nI (2 * k) from by congr 1]
                exact lp_checkX hw hD (by omega) (fun K hK1 hK2 => by rw [sp_chk2 (show k < D by omega), if_pos h2w, if_neg h2t] at hQ; exact hQ K hK1 hK2) I2 hfr2 hb2 hb3 (by omega)
      · skip
        refine me_ic_ge (p' := 108) k213_105 rfl (fun c12 => ?_) (fun c12 => ?_)
        · skip
          rw [cI_le (a := w) (b := 2 * k) (by omega) (by omega)] at c12
          refine me_iconst (p' := 128) k213_127 rfl (v := nI 0) (by decide) ?_
          refine me_iadd (p' := 129) k213_128 rfl (v := nI ((2 * k) + 0)) (mI_add _ _) ?_
          refine me_istore (p' := 131) k213_129 rfl ⟨Nat.le_of_ble_eq_true rfl, rfl⟩ rfl ?_
          rw [show nI ((2 * k) + 0) = nI (2 * k) from by congr 1]
          refine me_iload (p' := 133) k213_131 rfl rfl ?_
          refine me_iload (p' := 135) k213_133 rfl rfl ?_
          refine me_iconst (p' := 136) k213_135 rfl (v := nI 2) (by decide) ?_
          refine me_iload (p' := 138) k213_136 rfl rfl ?_
          refine me_imul (p' := 139) k213_138 rfl (v := nI (2 * k)) (mI_mul _ _) ?_
          refine me_iconst (p' := 140) k213_139 rfl (v := nI 1) (by decide) ?_
          refine me_iadd (p' := 141) k213_140 rfl (v := nI ((2 * k) + 1)) (mI_add _ _) ?_
          refine me_ic_ne (p' := 144) k213_141 rfl (fun c13 => ?_) (fun c13 => ?_)
          · skip
            rw [cI_eq (a := 2 * k) (b := (2 * k) + 1) (by omega) (by omega)] at c13
            exfalso
            omega
          · skip
            rw [cI_eq (a := 2 * k) (b := (2 * k) + 1) (by omega) (by omega)] at c13
            refine me_iconst (p' := 170) k213_169 rfl (v := nI 0) (by decide) ?_
            refine me_iadd (p' := 171) k213_170 rfl (v := nI ((2 * k) + 0)) (mI_add _ _) ?_
            refine me_istore (p' := 173) k213_171 rfl ⟨Nat.le_of_ble_eq_true rfl, rfl⟩ rfl ?_
            refine me_iinc (p' := 176) k213_173 rfl rfl rfl (v := nI (k + 1)) (mI_inc (by decide)) rfl ?_
            refine me_goto k213_176 ?_
            have hfr2 : mFr [128, 130, 138, 139] I I2 := hfr.tr (hI2.mono (by simp))
            have hb2 : ∀ j, j < 1481 → I2 130 j = I 128 j := fun j hj => (hI2 130 j (by decide)).trans (hb1 j hj)
            have hb3 : ∀ j, 1481 ≤ j → I2 128 j = I 128 j := fun j hj => by rw [e2, sp_secs_kp hk (by unfold mTd; omega)]; exact hs3 j hj
            rw [show nI ((2 * k) + 0) = nI (2 * k) from by congr 1]
            exact lp_checkX hw hD (by omega) (fun K hK1 hK2 => by rw [sp_chk2 (show k < D by omega), if_neg h2w] at hQ; exact hQ K hK1 hK2) I2 hfr2 hb2 hb3 (by omega)
        · skip
          rw [cI_le (a := w) (b := 2 * k) (by omega) (by omega)] at c12
          exact absurd (by omega) c12
    · skip
      rw [cI_eq (a := 2 * k) (b := 2 * k) (by omega) (by omega)] at c2
      exfalso
      omega
