/-! ===== text, on both sides ===== -/
theorem sp_counts_cg {kf kf' : Nat → Nat} {key : Nat} : ∀ {n : Nat}, (∀ t, t < n → kf' t = kf t) → sp_counts kf' key n = sp_counts kf key n
  | 0, _ => rfl
  | n + 1, h => by
    unfold sp_counts
    rw [h n (by omega), sp_counts_cg (n := n) fun t ht => h t (by omega)]
theorem mSok.u4 {s : Nat → Int32} {n t : Nat} {v : Int32} (h : mSok s n t) : mSok (up s 4 v) n t := h.uq (h.1.upX (by omega) (by omega) (by omega)) (by omega) (fun c hc => by omega)
theorem mTpe.none {J : Nat → Nat → Int32} (h9 : J 9 1 = nI 0) (h7 : J 127 7 = nI 0) : mTpe J := ⟨fun _ => 0, 0, ⟨h9, by omega, fun k hk => absurd hk (by omega)⟩, ⟨h7, by omega, fun k hk => absurd hk (by omega)⟩⟩
theorem cFt.mx {t0 : Nat} {I K : Nat → Nat → Int32} (h : cFt t0 I K) (ht : t0 < 15) : mFr (9 :: mTX) I K := h.1.mono fun x hx => by
  have m := mTX_m t0 ht
  simp only [List.mem_cons, List.not_mem_nil, or_false] at hx
  rcases hx with rfl | rfl | rfl
  · exact List.mem_cons_self
  · exact List.mem_cons_of_mem _ m.1
  · exact List.mem_cons_of_mem _ m.2
/-- no TEXT is added -/
theorem mRelD.tx0 {I K J : Nat → Nat → Int32} {n t : Nat} {T : mT} (h : mRelD I n t T) (h14 : T.nt ≤ 14) (hf : cFt T.nt I K) (hx : mXf [127, 135, 136, 137] (mg_u K 9 1 (nI 0)) J) (h7 : J 127 7 = nI 0) : mRel J := by
  obtain ⟨hN, hI, hT, hW, hw, hK⟩ := h
  have h0 := hf.mx (by omega)
  have hg : mFr (9 :: 127 :: 135 :: 136 :: 137 :: mTX) I J := (h0.sub (by decide)).tr ((mFr.up (by decide)).tr (hx.1.sub (by decide)))
  have eT : ∀ t : Nat, t < T.nt → ∀ k, J (59 + 3 * t) k = I (59 + 3 * t) k ∧ J (60 + 3 * t) k = I (60 + 3 * t) k := fun t ht k =>
    ⟨(hx.1 _ _ (by simp; omega)).trans ((mg_une (by omega)).trans (hf.1 _ _ (by simp; omega))), (hx.1 _ _ (by simp; omega)).trans ((mg_une (by omega)).trans (hf.1 _ _ (by simp; omega)))⟩
  have h127 : ∀ k, k = 3 ∨ k = 4 ∨ k = 33 → J 127 k = I 127 k := fun k hk => (hx.2 k (by omega) (by omega) (by omega) (by omega) (by omega) (by omega) (by omega) (by omega) (by omega) (by omega)).trans ((mg_une (by omega)).trans (h0 _ _ (by decide)))
  have e128 : J 128 = I 128 := funext fun k => hg 128 k (by decide)
  exact ⟨n, t, T, ⟨(sg_fr hg (by decide)).trans (hN.e.trans e128.symm), by rw [e128]; exact hN.sok, hN.mx.kp fun k _ => by rw [e128], hN.cx.ot eT, hN.cg.fr hg (by decide), (h127 4 (by decide)).trans hN.aw⟩, hI.fr hg (by decide) (by decide) (fun T2 hn h => h.ot fun t ht => eT t (by omega)) (Nat.le_refl _) (h127 3 (by decide)) (hg _ _ (by decide)), mTpe.none ((hx.1 _ _ (by decide)).trans mg_ueq) h7, hW.fr hg (by decide) (by decide), hw.fr hg (by decide) (hg _ _ (by decide)) (h127 33 (by decide)), hK.fr2 hg (by decide)⟩
def mTa (T : mT) (key : Nat) (o : List Nat) : mT := (T.nt + 1, fun t => if t = T.nt then key else T.kf t, fun t => if t = T.nt then o else T.tk t, fun t => if t = T.nt then tNa o else T.na t)
/-- one TEXT more -/
theorem mRelD.tx1 {I K J : Nat → Nat → Int32} {n t key : Nat} {o : List Nat} {T : mT} (h : mRelD I n t T) (h14 : T.nt < 14) (hf : cFt T.nt I K) (ho : cTo K T.nt key o) (hkey : key < 3) (hexp : mExp o) (hl : o.length ≤ 96) (hno : key ≠ 0 → 10002 ∉ o)
    (hx : mXf [127, 128, 135, 136, 137] (mg_u (mg_u (mg_u K 9 1 (nI 0)) 25 key (nI T.nt)) 11 9 (nI (T.nt + 1))) J) (h7 : J 127 7 = nI 0)
    (h128 : ∀ k, J 128 k = if k = 4 then nI (T.nt + 1) else if 137 + 96 * T.nt ≤ k ∧ k < 137 + 96 * T.nt + o.length then sp_mc (o.getD (k - (137 + 96 * T.nt)) 0) else if k = 109 + 2 * T.nt then nI (1000 * key + o.length) else if k = 109 + 2 * T.nt + 1 then nI (tNa o) else (mg_u (mg_u (mg_u K 9 1 (nI 0)) 25 key (nI T.nt)) 11 9 (nI (T.nt + 1))) 128 k) : mRel J := by
  obtain ⟨hN, hI, hT, hW, hw, hK⟩ := h
  have h0 := hf.mx (by omega)
  have hu : mFr [9, 11, 25] K (mg_u (mg_u (mg_u K 9 1 (nI 0)) 25 key (nI T.nt)) 11 9 (nI (T.nt + 1))) := ((mFr.up (by decide)).tr (mFr.up (by decide))).tr (mFr.up (by decide))
  have hKu : mFr [9, 25] K (mg_u (mg_u K 9 1 (nI 0)) 25 key (nI T.nt)) := (mFr.up (by decide)).tr (mFr.up (by decide))
  have hg : mFr (9 :: 11 :: 25 :: 127 :: 128 :: 135 :: 136 :: 137 :: mTX) I J := (h0.sub (by decide)).tr ((hu.sub (by decide)).tr (hx.1.sub (by decide)))
  have eTJ : ∀ i k, 59 ≤ i → i < 104 → J i k = K i k := fun i k h1 h2 => (hx.1 _ _ (by simp; omega)).trans (hu _ _ (by simp; omega))
  have eT : ∀ t : Nat, t < T.nt → ∀ k, J (59 + 3 * t) k = I (59 + 3 * t) k ∧ J (60 + 3 * t) k = I (60 + 3 * t) k := fun t ht k =>
    ⟨(eTJ _ _ (by omega) (by omega)).trans (hf.1 _ _ (by simp; omega)), (eTJ _ _ (by omega) (by omega)).trans (hf.1 _ _ (by simp; omega))⟩
  have h127 : ∀ k, k = 3 ∨ k = 4 ∨ k = 33 → J 127 k = I 127 k := fun k hk => (hx.2 k (by omega) (by omega) (by omega) (by omega) (by omega) (by omega) (by omega) (by omega) (by omega) (by omega)).trans ((hu _ _ (by decide)).trans (h0 _ _ (by decide)))
  have e128 : ∀ k, (mg_u (mg_u (mg_u K 9 1 (nI 0)) 25 key (nI T.nt)) 11 9 (nI (T.nt + 1))) 128 k = I 128 k := fun k => (hu _ _ (by decide)).trans (h0 _ _ (by decide))
  have hlo : ∀ k, k < 109 → J 128 k = up (I 128) 4 (nI (T.nt + 1)) k := fun k hk => by
    rw [h128 k, e128]
    unfold up
    by_cases z : k = 4
    · rw [if_pos z, if_pos z]
    · rw [if_neg z, if_neg z, if_neg (by omega), if_neg (by omega), if_neg (by omega)]
  have hold : ∀ k, k ≠ 4 → ¬ (137 + 96 * T.nt ≤ k ∧ k < 137 + 96 * T.nt + o.length) → k ≠ 109 + 2 * T.nt → k ≠ 109 + 2 * T.nt + 1 → J 128 k = I 128 k := fun k z1 z2 z3 z4 => by
    rw [h128 k, if_neg z1, if_neg z2, if_neg z3, if_neg z4, e128]
  have hsg : mSg 11 128 J = J 128 := by
    funext k
    rcases Nat.lt_or_ge k 109 with z | z
    · rw [hlo k z]
      have s1 : mSg 11 128 J k = mSg 11 128 (mg_u (mg_u (mg_u K 9 1 (nI 0)) 25 key (nI T.nt)) 11 9 (nI (T.nt + 1))) k := sg_low (fun i hi j => hx.1 i j (by revert hi; revert i; decide)) z
      rw [s1, sg_upF (r := 11) (b := 128) (f := 9) (j := 4) (by decide) rfl (by decide), sg_fr hKu (by decide), sg_fr h0 (by decide), hN.e]
    · exact sg_far z
  have hmx : mTx J (mTa T key o) := by
    refine ⟨by rw [h128, if_pos rfl]; rfl, (show T.nt + 1 ≤ 14 by omega), fun t ht => ?_⟩
    have ht : t < T.nt + 1 := ht
    by_cases z : t = T.nt
    · subst z
      have a1 : (mTa T key o).kf T.nt = key := if_pos rfl
      have a2 : (mTa T key o).tk T.nt = o := if_pos rfl
      have a3 : (mTa T key o).na T.nt = tNa o := if_pos rfl
      rw [a1, a2, a3]
      refine ⟨hkey, hl, hexp.ok hl, ?_, ?_, fun j hj => ?_, fun hk x hxo => fun e => hno hk (e ▸ hxo)⟩
      · rw [h128, if_neg (by omega), if_neg (by omega), if_pos rfl]
      · rw [h128, if_neg (by omega), if_neg (by omega), if_neg (by omega), if_pos rfl]
      · rw [h128, if_neg (by omega), if_pos (by omega), Nat.add_sub_cancel_left]
    · have a1 : (mTa T key o).kf t = T.kf t := if_neg z
      have a2 : (mTa T key o).tk t = T.tk t := if_neg z
      have a3 : (mTa T key o).na t = T.na t := if_neg z
      rw [a1, a2, a3]
      obtain ⟨g1, g2, g3, g4, g5, g6, g7⟩ := hN.mx.2.2 t (show t < T.nt by omega)
      exact ⟨g1, g2, g3, (hold _ (by omega) (by omega) (by omega) (by omega)).trans g4, (hold _ (by omega) (by omega) (by omega) (by omega)).trans g5, fun j hj => (hold _ (by omega) (by omega) (by omega) (by omega)).trans (g6 j hj), g7⟩
  have hcx : cTx J (mTa T key o) := by
    refine ⟨(show T.nt + 1 ≤ 14 by omega), fun t ht => ?_⟩
    have ht : t < T.nt + 1 := ht
    by_cases z : t = T.nt
    · subst z
      have a1 : (mTa T key o).kf T.nt = key := if_pos rfl
      have a2 : (mTa T key o).tk T.nt = o := if_pos rfl
      have a3 : (mTa T key o).na T.nt = tNa o := if_pos rfl
      rw [a1, a2, a3]
      exact ⟨hkey, hl, hexp.ok hl, (eTJ _ _ (by omega) (by omega)).trans ho.1, (eTJ _ _ (by omega) (by omega)).trans ho.2.1, (eTJ _ _ (by omega) (by omega)).trans ho.2.2.1, fun j hj => (eTJ _ _ (by omega) (by omega)).trans (ho.2.2.2 j hj), fun hk x hxo => fun e => hno hk (e ▸ hxo)⟩
    · have a1 : (mTa T key o).kf t = T.kf t := if_neg z
      have a2 : (mTa T key o).tk t = T.tk t := if_neg z
      have a3 : (mTa T key o).na t = T.na t := if_neg z
      rw [a1, a2, a3]
      have e := eT t (show t < T.nt by omega)
      obtain ⟨g1, g2, g3, g4, g5, g6, g7, g8⟩ := hN.cx.2 t (show t < T.nt by omega)
      exact ⟨g1, g2, g3, (e _).1.trans g4, (e _).1.trans g5, (e _).1.trans g6, fun j hj => (e _).2.trans (g7 j hj), g8⟩
  have hcg : cCg J 11 (mTa T key o) := fun k hk => by
    show J 25 k = oI (sp_counts (fun t => if t = T.nt then key else T.kf t) k (T.nt + 1))
    have e1 : J 25 k = mg_u K 25 key (nI T.nt) 25 k := by
      rw [hx.1 _ _ (by decide), mg_une (by omega)]
      unfold mg_u
      by_cases z : k = key
      · rw [if_pos ⟨rfl, z⟩, if_pos ⟨rfl, z⟩]
      · rw [if_neg (by omega), if_neg (by omega), if_neg (by omega)]
    rw [e1]
    unfold sp_counts
    rw [if_pos rfl]
    by_cases z : key = k
    · subst z; rw [mg_ueq, if_pos rfl]; rfl
    · rw [mg_une (by omega), if_neg z, sp_counts_cg (kf := T.kf) (fun t ht => if_neg (by omega))]
      exact (h0 _ _ (by decide)).trans (hN.cg k hk)
  exact ⟨n, t, mTa T key o, ⟨hsg, (hN.sok.u4 (v := nI (T.nt + 1))).ag hlo, hmx, hcx, hcg, (h127 4 (by decide)).trans hN.aw⟩, hI.fr hg (by decide) (by decide) (fun T2 hn h => h.ot fun t ht => eT t (by omega)) (show T.nt ≤ T.nt + 1 by omega) (h127 3 (by decide)) (hg _ _ (by decide)), mTpe.none ((hx.1 _ _ (by decide)).trans ((mg_une (by omega)).trans ((mg_une (by omega)).trans mg_ueq))) h7, hW.fr hg (by decide) (by decide), hw.fr hg (by decide) (hg _ _ (by decide)) (h127 33 (by decide)), hK.fr2 hg (by decide)⟩
theorem b_text {L : Nat} {xs : Nat → Int32} {I : Nat → Nat → Int32} (hR : mRel I) : mBo L xs I 93 188 [] := by
  intro Q hQ
  obtain ⟨n, t, T, hD⟩ := hR
  obtain ⟨hN, hI, hT, hW, hw, hK⟩ := id hD
  obtain ⟨B, tl, hc, hm⟩ := hT
  have h14 : T.nt ≤ 14 := hN.mx.2.1
  have hnt : I 128 4 = nI T.nt := hN.mx.1
  refine ct_Ctext hc hN.nt h14 (fun K p hf hout => ?_) (fun h1 K p key o hf hl hout => ?_) (fun h1 K p key o hf hto hkey hexp hl hno hout => ?_)
  · refine hQ _ _ (fun Q2 h2 => ?_)
    have h0 : mFr (9 :: mTX) I (mg_u K 9 1 (nI 0)) := (hf.mx (by omega)).tr (mFr.up (by decide))
    refine ct_Mtext (nt := T.nt) (r0 := (p, none)) ⟨(h0 _ _ (by decide)).trans hm.1, hm.2.1, fun k hk => ⟨(h0 _ _ (by decide)).trans (hm.2.2 k hk).1, (hm.2.2 k hk).2⟩⟩ (hK.fr2 h0 (by decide)) ((h0 _ _ (by decide)).trans hnt) h14 hout (fun _ _ _ e => by cases e) (fun p' e J hx h7 => ?_) (fun _ _ _ _ e => by cases e) (fun _ _ _ _ e => by cases e)
    cases e
    exact h2 J (hD.tx0 h14 hf hx h7)
  · refine hQ _ _ (fun Q2 h2 => ?_)
    have h0 : mFr (9 :: mTX) I (mg_u K 9 1 (nI 0)) := (hf.mx (by omega)).tr (mFr.up (by decide))
    refine ct_Mtext (nt := T.nt) (r0 := (p, some (key, o))) ⟨(h0 _ _ (by decide)).trans hm.1, hm.2.1, fun k hk => ⟨(h0 _ _ (by decide)).trans (hm.2.2 k hk).1, (hm.2.2 k hk).2⟩⟩ (hK.fr2 h0 (by decide)) ((h0 _ _ (by decide)).trans hnt) h14 hout (fun p' key' o' e => ?_) (fun _ e => by cases e) (fun _ p' key' o' e J hx h7 => h2 J (hD.tx0 h14 hf hx h7)) (fun hlt => absurd hlt (by omega))
    cases e
    exact hl
  · refine hQ _ _ (fun Q2 h2 => ?_)
    have h0 : mFr (9 :: 11 :: 25 :: mTX) I (mg_u (mg_u (mg_u K 9 1 (nI 0)) 25 key (nI T.nt)) 11 9 (nI (T.nt + 1))) := ((hf.mx (by omega)).sub (by decide)).tr (((mFr.up (by decide)).tr (mFr.up (by decide))).tr (mFr.up (by decide)))
    refine ct_Mtext (nt := T.nt) (r0 := (p, some (key, o))) ⟨(h0 _ _ (by decide)).trans hm.1, hm.2.1, fun k hk => ⟨(h0 _ _ (by decide)).trans (hm.2.2 k hk).1, (hm.2.2 k hk).2⟩⟩ (hK.fr2 h0 (by decide)) ((h0 _ _ (by decide)).trans hnt) h14 hout (fun p' key' o' e => ?_) (fun _ e => by cases e) (fun hlt => absurd hlt (by omega)) (fun _ p' key' o' e J hx h7 h128 => ?_)
    · cases e; exact hl
    · cases e; exact h2 J (hD.tx1 h1 hf hto hkey hexp hl hno hx h7 h128)
