/-! ===== the relation of both sides ===== -/
def mTX : List Nat := [59, 60, 62, 63, 65, 66, 68, 69, 71, 72, 74, 75, 77, 78, 80, 81, 83, 84, 86, 87, 89, 90, 92, 93, 95, 96, 98, 99, 101, 102]
theorem mTX_m : ∀ t : Nat, t < 15 → 59 + 3 * t ∈ mTX ∧ 60 + 3 * t ∈ mTX := by decide
/-- the ring of now and its TEXTS -/
def mNow (I : Nat → Nat → Int32) (n t : Nat) (T : mT) : Prop := mSg 11 128 I = I 128 ∧ mSok (I 128) n t ∧ mTx I T ∧ cTx I T ∧ cCg I 11 T ∧ I 127 4 = -1
theorem mNow.e {I : Nat → Nat → Int32} {n t : Nat} {T : mT} (h : mNow I n t T) : mSg 11 128 I = I 128 := h.1
theorem mNow.sok {I : Nat → Nat → Int32} {n t : Nat} {T : mT} (h : mNow I n t T) : mSok (I 128) n t := h.2.1
theorem mNow.ok {I : Nat → Nat → Int32} {n t : Nat} {T : mT} (h : mNow I n t T) : mOk (I 128) n := h.2.1.1
theorem mNow.ok1 {I : Nat → Nat → Int32} {n t : Nat} {T : mT} (h : mNow I n t T) : mOk (mSg 11 128 I) n := by rw [h.1]; exact h.2.1.1
theorem mNow.st {I : Nat → Nat → Int32} {n t : Nat} {T : mT} (h : mNow I n t T) : mSt 5 (mSg 11 128 I) n 9999 := by
  rw [h.1]
  intro c hc
  obtain ⟨a, e, ha⟩ := h.2.1.2.2.2.1 c hc
  exact ⟨a, e, by have := h.2.1.2.2.1; omega⟩
theorem mNow.mx {I : Nat → Nat → Int32} {n t : Nat} {T : mT} (h : mNow I n t T) : mTx I T := h.2.2.1
theorem mNow.cx {I : Nat → Nat → Int32} {n t : Nat} {T : mT} (h : mNow I n t T) : cTx I T := h.2.2.2.1
theorem mNow.cg {I : Nat → Nat → Int32} {n t : Nat} {T : mT} (h : mNow I n t T) : cCg I 11 T := h.2.2.2.2.1
theorem mNow.aw {I : Nat → Nat → Int32} {n t : Nat} {T : mT} (h : mNow I n t T) : I 127 4 = -1 := h.2.2.2.2.2
theorem mNow.nt {I : Nat → Nat → Int32} {n t : Nat} {T : mT} (h : mNow I n t T) : I 11 9 = nI T.nt := by
  have := congrFun h.1 4
  exact this.trans h.mx.1
theorem cTx.ot {I J : Nat → Nat → Int32} {T : mT} (h : cTx I T) (e : ∀ t : Nat, t < T.nt → ∀ k, J (59 + 3 * t) k = I (59 + 3 * t) k ∧ J (60 + 3 * t) k = I (60 + 3 * t) k) : cTx J T := by
  refine ⟨h.1, fun t ht => ?_⟩
  obtain ⟨h1, h2, h3, h4, h5, h6, h7, h8⟩ := h.2 t ht
  exact ⟨h1, h2, h3, (e t ht _).1.trans h4, (e t ht _).1.trans h5, (e t ht _).1.trans h6, fun j hj => (e t ht j).2.trans (h7 j hj), h8⟩
theorem cTx.fx {S : List Nat} {I J : Nat → Nat → Int32} {T : mT} (h : cTx I T) (hf : mFr S I J) (hd : ∀ i ∈ mTX, i ∉ S) : cTx J T :=
  h.ot fun t ht k => ⟨hf _ _ (hd _ (mTX_m t (by have := h.1; omega)).1), hf _ _ (hd _ (mTX_m t (by have := h.1; omega)).2)⟩
theorem mNow.fr {S : List Nat} {I J : Nat → Nat → Int32} {n t : Nat} {T : mT} (h : mNow I n t T) (hf : mFr S I J) (hd : ∀ i ∈ mRl 11 128, i ∉ S) (h25 : 25 ∉ S) (hx : ∀ i ∈ mTX, i ∉ S) (h4 : J 127 4 = I 127 4) : mNow J n t T := by
  have e : J 128 = I 128 := funext fun k => hf 128 k (hd 128 (by decide))
  refine ⟨(sg_fr hf hd).trans (h.1.trans e.symm), by rw [e]; exact h.sok, h.mx.kp fun k _ => by rw [e], h.cx.fx hf hx, h.cg.fr hf h25, h4.trans h.aw⟩
/-- the image -/
def mImg (I : Nat → Nat → Int32) (T : mT) : Prop := I 127 3 = I 0 6 ∧ (¬ I 0 6 = 0 → ∃ n t T2, mSg 41 129 I = I 129 ∧ mSok (I 129) n t ∧ mTx (mw I 128 (I 129)) T2 ∧ cTx I T2 ∧ cCg I 41 T2 ∧ T2.nt ≤ T.nt)
theorem mImg.fr {S : List Nat} {I J : Nat → Nat → Int32} {T T' : mT} (h : mImg I T) (hf : mFr S I J) (hd : ∀ i ∈ mRl 41 129, i ∉ S) (h55 : 55 ∉ S) (hx : ∀ T2 : mT, T2.nt ≤ T.nt → cTx I T2 → cTx J T2) (hn : T.nt ≤ T'.nt) (h3 : J 127 3 = I 127 3) (h6 : J 0 6 = I 0 6) : mImg J T' := by
  have e : J 129 = I 129 := funext fun k => hf 129 k (hd 129 (by decide))
  refine ⟨h3.trans (h.1.trans h6.symm), fun hz => ?_⟩
  obtain ⟨n, t, T2, g1, g2, g3, g4, g5, g6⟩ := h.2 (by rw [← h6]; exact hz)
  exact ⟨n, t, T2, (sg_fr hf hd).trans (g1.trans e.symm), by rw [e]; exact g2, g3.kp fun k _ => by rw [mw_eq, mw_eq, e], hx T2 g6 g4, g5.fr hf h55, Nat.le_trans g6 hn⟩
/-- THE TAPE -/
def mTpe (I : Nat → Nat → Int32) : Prop := ∃ B tl, cTp I B tl ∧ mTp I B tl
theorem mTpe.fr {S : List Nat} {I J : Nat → Nat → Int32} (h : mTpe I) (hf : mFr S I J) (hd : ∀ i ∈ [9, 10, 132], i ∉ S) (h7 : J 127 7 = I 127 7) : mTpe J := by
  obtain ⟨B, tl, h1, h2⟩ := h
  exact ⟨B, tl, ⟨(hf _ _ (hd 9 (by decide))).trans h1.1, h1.2.1, fun k hk => ⟨(hf _ _ (hd 10 (by decide))).trans (h1.2.2 k hk).1, (h1.2.2 k hk).2⟩⟩, ⟨h7.trans h2.1, h2.2.1, fun k hk => ⟨(hf _ _ (hd 132 (by decide))).trans (h2.2.2 k hk).1, (h2.2.2 k hk).2⟩⟩⟩
/-- SHEETS and SLOTS -/
def mWS (I : Nat → Nat → Int32) : Prop := mWk (mW I) ∧ cW I (mW I)
theorem mW_fr2 {S : List Nat} {I J : Nat → Nat → Int32} (hf : mFr S I J) (hd : ∀ i ∈ [140, 141, 142, 143, 144, 145, 146], i ∉ S) : mW J = mW I := by
  funext i k
  unfold mW
  by_cases h : i < 7
  · rw [if_pos h, if_pos h]
    exact hf _ _ (hd _ (by rcases (show i = 0 ∨ i = 1 ∨ i = 2 ∨ i = 3 ∨ i = 4 ∨ i = 5 ∨ i = 6 by omega) with rfl | rfl | rfl | rfl | rfl | rfl | rfl <;> decide))
  · rw [if_neg h, if_neg h]
theorem mWS.fr {S : List Nat} {I J : Nat → Nat → Int32} (h : mWS I) (hf : mFr S I J) (hd : ∀ i ∈ [140, 141, 142, 143, 144, 145, 146], i ∉ S) (hd2 : ∀ i ∈ mShL, i ∉ S) : mWS J := by
  unfold mWS
  rw [mW_fr2 hf hd]
  exact ⟨h.1, h.2.fr hf hd2⟩
/-- what is told and not yet checked -/
def mWt (I : Nat → Nat → Int32) : Prop := ∃ w : Nat, I 0 10 = nI w ∧ I 127 33 = nI w ∧ w ≤ 60 ∧ I 58 = I 148
theorem mWt.fr {S : List Nat} {I J : Nat → Nat → Int32} (h : mWt I) (hf : mFr S I J) (hd : ∀ i ∈ [58, 148], i ∉ S) (h0 : J 0 10 = I 0 10) (h1 : J 127 33 = I 127 33) : mWt J := by
  obtain ⟨w, a, b, c, e⟩ := h
  exact ⟨w, h0.trans a, h1.trans b, c, funext fun k => (hf _ _ (hd 58 (by decide))).trans ((congrFun e k).trans (hf _ _ (hd 148 (by decide))).symm)⟩
theorem mKy.fr2 {S : List Nat} {I J : Nat → Nat → Int32} (h : mKy I) (hf : mFr S I J) (hd : ∀ i ∈ [133, 134], i ∉ S) : mKy J := ⟨fun j hj => (hf _ _ (hd 133 (by decide))).trans (h.1 j hj), fun j hj => (hf _ _ (hd 134 (by decide))).trans (h.2 j hj)⟩
def mRelD (I : Nat → Nat → Int32) (n t : Nat) (T : mT) : Prop := mNow I n t T ∧ mImg I T ∧ mTpe I ∧ mWS I ∧ mWt I ∧ mKy I
def mRel (I : Nat → Nat → Int32) : Prop := ∃ n t T, mRelD I n t T
def mScr : List Nat := mRc 26 ++ mSk ++ [130, 131, 138, 139]
theorem mRel.fr {I J : Nat → Nat → Int32} (h : mRel I) (hf : mFr mScr I J) : mRel J := by
  obtain ⟨n, t, T, h1, h2, h3, h4, h5, h6⟩ := h
  exact ⟨n, t, T, h1.fr hf (by decide) (by decide) (by decide) (hf _ _ (by decide)), h2.fr hf (by decide) (by decide) (fun T2 _ h => h.fx hf (by decide)) (Nat.le_refl _) (hf _ _ (by decide)) (hf _ _ (by decide)), h3.fr hf (by decide) (hf _ _ (by decide)), h4.fr hf (by decide) (by decide), h5.fr hf (by decide) (hf _ _ (by decide)) (hf _ _ (by decide)), h6.fr2 hf (by decide)⟩
def mScr2 : List Nat := mRg 11 ++ mSk ++ [128, 131, 138, 139]
theorem sg_low {r b b' k : Nat} {I J : Nat → Nat → Int32} (h : ∀ i ∈ mRg r, ∀ j, J i j = I i j) (hk : k < 109) : mSg r b J k = mSg r b' I k := by
  rcases (show k = 0 ∨ k = 1 ∨ k = 2 ∨ k = 3 ∨ k = 4 ∨ (5 ≤ k ∧ k < 53) ∨ 53 ≤ k by omega) with rfl | rfl | rfl | rfl | rfl | z | z
  · exact h r (by simp [mRg]) 8
  · exact h r (by simp [mRg]) 5
  · exact h r (by simp [mRg]) 7
  · exact h r (by simp [mRg]) 6
  · exact h r (by simp [mRg]) 9
  · obtain ⟨j, p, hj, hp, rfl⟩ : ∃ j p, j < 4 ∧ p < 12 ∧ k = 5 + 12 * j + p := ⟨(k - 5) / 12, (k - 5) % 12, by omega, by omega, by omega⟩
    rw [sg_part hj hp, sg_part hj hp]
    refine h _ ?_ p
    rcases (show j = 0 ∨ j = 1 ∨ j = 2 ∨ j = 3 by omega) with rfl | rfl | rfl | rfl <;> simp [mRg]
  · obtain ⟨w, c, hw, hc, rfl⟩ : ∃ w c, w < 7 ∧ c < 8 ∧ k = 53 + 7 * c + w := ⟨(k - 53) % 7, (k - 53) / 7, by omega, by omega, by omega⟩
    rw [sg_car hw hc, sg_car hw hc]
    refine h _ ?_ c
    rcases (show w = 0 ∨ w = 1 ∨ w = 2 ∨ w = 3 ∨ w = 4 ∨ w = 5 ∨ w = 6 by omega) with rfl | rfl | rfl | rfl | rfl | rfl | rfl <;> simp [mRg]
theorem mRelD.st {I I1 I2 : Nat → Nat → Int32} {n t n' t' : Nat} {T : mT} {s : Nat → Int32} (h : mRelD I n t T) (hf : mFr (mRg 11 ++ mSk) I I1) (hs : mSg 11 128 I1 = s) (hf2 : mFr [128, 131, 138, 139] I1 I2) (hs2 : I2 128 = s) (hok : mSok s n' t') (hkp : mKp (I 128) s) : mRel I2 := by
  obtain ⟨h1, h2, h3, h4, h5, h6⟩ := h
  have hg : mFr mScr2 I I2 := (hf.sub (by decide)).tr (hf2.sub (by decide))
  have e : mSg 11 128 I2 = I2 128 := by
    rw [hs2]
    funext k
    by_cases hk : 109 ≤ k
    · rw [sg_far hk, hs2]
    · rw [← hs]
      exact sg_low (fun i hi j => hf2 i j (by revert hi; revert i; decide)) (by omega)
  refine ⟨n', t', T, ⟨e, by rw [hs2]; exact hok, h1.mx.kp fun k hk => by rw [hs2]; exact hkp k hk, h1.cx.fx hg (by decide), h1.cg.fr hg (by decide), (hg _ _ (by decide)).trans h1.aw⟩, h2.fr hg (by decide) (by decide) (fun T2 _ h => h.fx hg (by decide)) (Nat.le_refl _) (hg _ _ (by decide)) (hg _ _ (by decide)), h3.fr hg (by decide) (hg _ _ (by decide)), h4.fr hg (by decide) (by decide), h5.fr hg (by decide) (hg _ _ (by decide)) (hg _ _ (by decide)), h6.fr2 hg (by decide)⟩
/-- a call on both sides: the answers are the same, and all stays related -/
def mBo (L : Nat) (xs : Nat → Int32) (I : Nat → Nat → Int32) (yC yM : Nat) (as : List Value) : Prop := ∀ Q : Option Value → mj_H → Prop, (∀ (I1 : Nat → Nat → Int32) (v : Int32), (∀ Q2 : Option Value → mj_H → Prop, (∀ I2, mRel I2 → Q2 (some (.int v)) (mg_h L xs I2)) → mj_Cl 95 yM (.ref 127 :: as) (mg_h L xs I1) Q2) → Q (some (.int v)) (mg_h L xs I1)) → mj_Cl 95 yC (.ref 0 :: as) (mg_h L xs I) Q
theorem b_told {L : Nat} {xs : Nat → Int32} {I : Nat → Nat → Int32} {car wh : Int32} (hR : mRel I) : mBo L xs I 18 145 [.int car, .int wh] := by
  intro Q hQ
  obtain ⟨n, t, T, hN, hI, hT, hW, hw, hK⟩ := id hR
  refine ct_Ctold hN.cx hN.cg hN.ok1 (fun I1 hf => ?_)
  have hR1 : mRel I1 := hR.fr (hf.sub (by decide))
  have hN1 : mNow I1 n t T := hN.fr hf (by decide) (by decide) (by decide) (hf _ _ (by decide))
  have e1 : I1 128 = I 128 := funext fun k => hf 128 k (by decide)
  have eW : mW I1 = mW I := mW_fr2 hf (by decide)
  rw [hN.e]
  refine hQ I1 _ (fun Q2 h2 => ?_)
  refine ct_Mtold hN1.mx hN1.ok hN1.aw (fun I2 hf2 => ?_)
  rw [e1]
  exact h2 I2 (hR1.fr (hf2.sub (by decide)))
theorem b_pace {L : Nat} {xs : Nat → Int32} {I : Nat → Nat → Int32} {car pt : Int32} (hR : mRel I) : mBo L xs I 44 136 [.int car, .int pt] := by
  intro Q hQ
  obtain ⟨n, t, T, hN, hI, hT, hW, hw, hK⟩ := id hR
  refine ct_Cpace hN.cx hN.cg hN.ok1 (fun I1 hf => ?_)
  have hR1 : mRel I1 := hR.fr (hf.sub (by decide))
  have hN1 : mNow I1 n t T := hN.fr hf (by decide) (by decide) (by decide) (hf _ _ (by decide))
  have e1 : I1 128 = I 128 := funext fun k => hf 128 k (by decide)
  have eW : mW I1 = mW I := mW_fr2 hf (by decide)
  rw [hN.e]
  refine hQ I1 _ (fun Q2 h2 => ?_)
  refine ct_Mpace hN1.mx hN1.ok (fun I2 hf2 => ?_)
  rw [e1]
  exact h2 I2 (hR1.fr (hf2.sub (by decide)))
theorem b_as {L : Nat} {xs : Nat → Int32} {I : Nat → Nat → Int32} {car kd : Int32} (hR : mRel I) : mBo L xs I 46 149 [.int car, .int kd] := by
  intro Q hQ
  obtain ⟨n, t, T, hN, hI, hT, hW, hw, hK⟩ := id hR
  refine ct_Cas hN.ok1 ?_
  have eW : mW I = mW I := rfl
  rw [hN.e]
  refine hQ I _ (fun Q2 h2 => ?_)
  refine ct_Mas hN.ok ?_
  exact h2 I hR
theorem b_part {L : Nat} {xs : Nat → Int32} {I : Nat → Nat → Int32} {pt wh : Int32} (hR : mRel I) : mBo L xs I 55 154 [.int pt, .int wh] := by
  intro Q hQ
  obtain ⟨n, t, T, hN, hI, hT, hW, hw, hK⟩ := id hR
  refine ct_Cpart  ?_
  have eW : mW I = mW I := rfl
  rw [hN.e]
  refine hQ I _ (fun Q2 h2 => ?_)
  refine ct_Mpart  ?_
  exact h2 I hR
theorem b_ride {L : Nat} {xs : Nat → Int32} {I : Nat → Nat → Int32} {v : Int32} (hR : mRel I) : mBo L xs I 66 167 [.int v] := by
  intro Q hQ
  obtain ⟨n, t, T, hN, hI, hT, hW, hw, hK⟩ := id hR
  refine ct_Cride hN.ok1 ?_
  have eW : mW I = mW I := rfl
  rw [hN.e]
  refine hQ I _ (fun Q2 h2 => ?_)
  refine ct_Mride hN.ok hN.aw ?_
  exact h2 I hR
theorem b_lamps {L : Nat} {xs : Nat → Int32} {I : Nat → Nat → Int32}  (hR : mRel I) : mBo L xs I 68 169 [] := by
  intro Q hQ
  obtain ⟨n, t, T, hN, hI, hT, hW, hw, hK⟩ := id hR
  refine ct_Clamps hN.ok1 ?_
  have eW : mW I = mW I := rfl
  rw [hN.e]
  refine hQ I _ (fun Q2 h2 => ?_)
  refine ct_Mlamps hN.ok ?_
  exact h2 I hR
theorem b_behind {L : Nat} {xs : Nat → Int32} {I : Nat → Nat → Int32} {v wh : Int32} (hR : mRel I) : mBo L xs I 69 170 [.int v, .int wh] := by
  intro Q hQ
  obtain ⟨n, t, T, hN, hI, hT, hW, hw, hK⟩ := id hR
  refine ct_Cbehind hN.cx hN.cg hN.ok1 (fun I1 hf => ?_)
  have hR1 : mRel I1 := hR.fr (hf.sub (by decide))
  have hN1 : mNow I1 n t T := hN.fr hf (by decide) (by decide) (by decide) (hf _ _ (by decide))
  have e1 : I1 128 = I 128 := funext fun k => hf 128 k (by decide)
  have eW : mW I1 = mW I := mW_fr2 hf (by decide)
  rw [hN.e]
  refine hQ I1 _ (fun Q2 h2 => ?_)
  refine ct_Mbehind hN1.mx hN1.ok hN1.aw (fun I2 hf2 => ?_)
  rw [e1]
  exact h2 I2 (hR1.fr (hf2.sub (by decide)))
theorem b_stands {L : Nat} {xs : Nat → Int32} {I : Nat → Nat → Int32}  (hR : mRel I) : mBo L xs I 71 173 [] := by
  intro Q hQ
  obtain ⟨n, t, T, hN, hI, hT, hW, hw, hK⟩ := id hR
  refine ct_Cstands hN.cx hN.cg hN.ok1 hN.st (fun I1 hf => ?_)
  have hR1 : mRel I1 := hR.fr (hf.sub (by decide))
  have hN1 : mNow I1 n t T := hN.fr hf (by decide) (by decide) (by decide) (hf _ _ (by decide))
  have e1 : I1 128 = I 128 := funext fun k => hf 128 k (by decide)
  have eW : mW I1 = mW I := mW_fr2 hf (by decide)
  rw [hN.e]
  refine hQ I1 _ (fun Q2 h2 => ?_)
  refine ct_Mstands hN1.mx hN1.ok hN1.aw (fun I2 hf2 => ?_)
  rw [e1]
  exact h2 I2 (hR1.fr (hf2.sub (by decide)))
theorem b_brake {L : Nat} {xs : Nat → Int32} {I : Nat → Nat → Int32} {pt v wh : Int32} (hR : mRel I) : mBo L xs I 72 174 [.int pt, .int v, .int wh] := by
  intro Q hQ
  obtain ⟨n, t, T, hN, hI, hT, hW, hw, hK⟩ := id hR
  refine ct_Cbrake hN.cx hN.cg hN.ok1 (fun I1 hf => ?_)
  have hR1 : mRel I1 := hR.fr (hf.sub (by decide))
  have hN1 : mNow I1 n t T := hN.fr hf (by decide) (by decide) (by decide) (hf _ _ (by decide))
  have e1 : I1 128 = I 128 := funext fun k => hf 128 k (by decide)
  have eW : mW I1 = mW I := mW_fr2 hf (by decide)
  rw [hN.e]
  refine hQ I1 _ (fun Q2 h2 => ?_)
  refine ct_Mbrake hN1.mx hN1.ok hN1.aw (fun I2 hf2 => ?_)
  rw [e1]
  exact h2 I2 (hR1.fr (hf2.sub (by decide)))
theorem b_moved {L : Nat} {xs : Nat → Int32} {I : Nat → Nat → Int32} {pt ot v : Int32} (hR : mRel I) : mBo L xs I 75 175 [.int pt, .int ot, .int v] := by
  intro Q hQ
  obtain ⟨n, t, T, hN, hI, hT, hW, hw, hK⟩ := id hR
  refine ct_Cmoved hN.cx hN.cg hN.ok1 (fun I1 hf => ?_)
  have hR1 : mRel I1 := hR.fr (hf.sub (by decide))
  have hN1 : mNow I1 n t T := hN.fr hf (by decide) (by decide) (by decide) (hf _ _ (by decide))
  have e1 : I1 128 = I 128 := funext fun k => hf 128 k (by decide)
  have eW : mW I1 = mW I := mW_fr2 hf (by decide)
  rw [hN.e]
  refine hQ I1 _ (fun Q2 h2 => ?_)
  refine ct_Mmoved hN1.mx hN1.ok hN1.aw (fun I2 hf2 => ?_)
  rw [e1]
  exact h2 I2 (hR1.fr (hf2.sub (by decide)))
theorem b_off {L : Nat} {xs : Nat → Int32} {I : Nat → Nat → Int32} {v wh : Int32} (hR : mRel I) : mBo L xs I 77 177 [.int v, .int wh] := by
  intro Q hQ
  obtain ⟨n, t, T, hN, hI, hT, hW, hw, hK⟩ := id hR
  refine ct_Coff hN.cx hN.cg hN.ok1 (fun I1 hf => ?_)
  have hR1 : mRel I1 := hR.fr (hf.sub (by decide))
  have hN1 : mNow I1 n t T := hN.fr hf (by decide) (by decide) (by decide) (hf _ _ (by decide))
  have e1 : I1 128 = I 128 := funext fun k => hf 128 k (by decide)
  have eW : mW I1 = mW I := mW_fr2 hf (by decide)
  rw [hN.e]
  refine hQ I1 _ (fun Q2 h2 => ?_)
  refine ct_Moff hN1.mx hN1.ok hN1.aw (fun I2 hf2 => ?_)
  rw [e1]
  exact h2 I2 (hR1.fr (hf2.sub (by decide)))
theorem b_kind {L : Nat} {xs : Nat → Int32} {I : Nat → Nat → Int32} {car v wh : Int32} (hR : mRel I) : mBo L xs I 79 178 [.int car, .int v, .int wh] := by
  intro Q hQ
  obtain ⟨n, t, T, hN, hI, hT, hW, hw, hK⟩ := id hR
  refine ct_Ckind hN.cx hN.cg hN.ok1 (fun I1 hf => ?_)
  have hR1 : mRel I1 := hR.fr (hf.sub (by decide))
  have hN1 : mNow I1 n t T := hN.fr hf (by decide) (by decide) (by decide) (hf _ _ (by decide))
  have e1 : I1 128 = I 128 := funext fun k => hf 128 k (by decide)
  have eW : mW I1 = mW I := mW_fr2 hf (by decide)
  rw [hN.e]
  refine hQ I1 _ (fun Q2 h2 => ?_)
  refine ct_Mkind hN1.mx hN1.ok hN1.aw (fun c m q hc hq hm => sp_kndF_0 hN1.sok hc hq hm) (fun I2 hf2 => ?_)
  rw [e1]
  exact h2 I2 (hR1.fr (hf2.sub (by decide)))
theorem b_kiss {L : Nat} {xs : Nat → Int32} {I : Nat → Nat → Int32} {pt v : Int32} (hR : mRel I) : mBo L xs I 80 179 [.int pt, .int v] := by
  intro Q hQ
  obtain ⟨n, t, T, hN, hI, hT, hW, hw, hK⟩ := id hR
  refine ct_Ckiss hN.cx hN.cg hN.ok1 (fun I1 hf => ?_)
  have hR1 : mRel I1 := hR.fr (hf.sub (by decide))
  have hN1 : mNow I1 n t T := hN.fr hf (by decide) (by decide) (by decide) (hf _ _ (by decide))
  have e1 : I1 128 = I 128 := funext fun k => hf 128 k (by decide)
  have eW : mW I1 = mW I := mW_fr2 hf (by decide)
  rw [hN.e]
  refine hQ I1 _ (fun Q2 h2 => ?_)
  refine ct_Mkiss hN1.mx hN1.ok hN1.aw (fun I2 hf2 => ?_)
  rw [e1]
  exact h2 I2 (hR1.fr (hf2.sub (by decide)))
theorem b_gaps {L : Nat} {xs : Nat → Int32} {I : Nat → Nat → Int32} {v : Int32} (hR : mRel I) : mBo L xs I 81 180 [.int v] := by
  intro Q hQ
  obtain ⟨n, t, T, hN, hI, hT, hW, hw, hK⟩ := id hR
  refine ct_Cgaps hN.cx hN.cg hN.ok1 hN.st (fun I1 hf => ?_)
  have hR1 : mRel I1 := hR.fr (hf.sub (by decide))
  have hN1 : mNow I1 n t T := hN.fr hf (by decide) (by decide) (by decide) (hf _ _ (by decide))
  have e1 : I1 128 = I 128 := funext fun k => hf 128 k (by decide)
  have eW : mW I1 = mW I := mW_fr2 hf (by decide)
  rw [hN.e]
  refine hQ I1 _ (fun Q2 h2 => ?_)
  refine ct_Mgaps hN1.mx hN1.ok hN1.aw (fun I2 hf2 => ?_)
  rw [e1]
  exact h2 I2 (hR1.fr (hf2.sub (by decide)))
theorem b_weighed {L : Nat} {xs : Nat → Int32} {I : Nat → Nat → Int32} {a car wh : Int32} (hR : mRel I) : mBo L xs I 83 181 [.int a, .int car, .int wh] := by
  intro Q hQ
  obtain ⟨n, t, T, hN, hI, hT, hW, hw, hK⟩ := id hR
  refine ct_Cweighed hN.cx hN.cg hN.ok1 hW.2 hW.1 (fun I1 hf => ?_)
  have hR1 : mRel I1 := hR.fr (hf.sub (by decide))
  have hN1 : mNow I1 n t T := hN.fr hf (by decide) (by decide) (by decide) (hf _ _ (by decide))
  have e1 : I1 128 = I 128 := funext fun k => hf 128 k (by decide)
  have eW : mW I1 = mW I := mW_fr2 hf (by decide)
  rw [hN.e]
  refine hQ I1 _ (fun Q2 h2 => ?_)
  refine ct_Mweighed hN1.mx hN1.ok hN1.aw eW hW.1 (fun I2 hf2 => ?_)
  rw [e1]
  exact h2 I2 (hR1.fr (hf2.sub (by decide)))
theorem b_fee {L : Nat} {xs : Nat → Int32} {I : Nat → Nat → Int32}  (hR : mRel I) : mBo L xs I 88 184 [] := by
  intro Q hQ
  obtain ⟨n, t, T, hN, hI, hT, hW, hw, hK⟩ := id hR
  refine ct_Cfee hN.cx hN.cg hN.ok1 (fun I1 hf => ?_)
  have hR1 : mRel I1 := hR.fr (hf.sub (by decide))
  have hN1 : mNow I1 n t T := hN.fr hf (by decide) (by decide) (by decide) (hf _ _ (by decide))
  have e1 : I1 128 = I 128 := funext fun k => hf 128 k (by decide)
  have eW : mW I1 = mW I := mW_fr2 hf (by decide)
  rw [hN.e]
  refine hQ I1 _ (fun Q2 h2 => ?_)
  refine ct_Mfee hN1.mx hN1.ok hN1.aw (fun I2 hf2 => ?_)
  rw [e1]
  exact h2 I2 (hR1.fr (hf2.sub (by decide)))
theorem b_fine {L : Nat} {xs : Nat → Int32} {I : Nat → Nat → Int32} {car : Int32} (hR : mRel I) : mBo L xs I 89 185 [.int car] := by
  intro Q hQ
  obtain ⟨n, t, T, hN, hI, hT, hW, hw, hK⟩ := id hR
  refine ct_Cfine hN.cx hN.cg hN.ok1 (fun I1 hf => ?_)
  have hR1 : mRel I1 := hR.fr (hf.sub (by decide))
  have hN1 : mNow I1 n t T := hN.fr hf (by decide) (by decide) (by decide) (hf _ _ (by decide))
  have e1 : I1 128 = I 128 := funext fun k => hf 128 k (by decide)
  have eW : mW I1 = mW I := mW_fr2 hf (by decide)
  rw [hN.e]
  refine hQ I1 _ (fun Q2 h2 => ?_)
  refine ct_Mfine hN1.mx hN1.ok (fun I2 hf2 => ?_)
  rw [e1]
  exact h2 I2 (hR1.fr (hf2.sub (by decide)))
theorem b_textTold {L : Nat} {xs : Nat → Int32} {I : Nat → Nat → Int32} {t wh : Int32} (hR : mRel I) : mBo L xs I 111 200 [.int t, .int wh] := by
  intro Q hQ
  obtain ⟨n, t, T, hN, hI, hT, hW, hw, hK⟩ := id hR
  refine ct_CtextTold hN.cx hN.nt ?_
  have eW : mW I = mW I := rfl
  refine hQ I _ (fun Q2 h2 => ?_)
  refine ct_MtextTold hN.mx ?_
  exact h2 I hR
theorem b_why {L : Nat} {xs : Nat → Int32} {I : Nat → Nat → Int32} {v : Int32} (hR : mRel I) : mBo L xs I 112 201 [.int v] := by
  intro Q hQ
  obtain ⟨n, t, T, hN, hI, hT, hW, hw, hK⟩ := id hR
  refine ct_Cwhy hN.cg ?_
  have eW : mW I = mW I := rfl
  refine hQ I _ (fun Q2 h2 => ?_)
  refine ct_Mwhy hN.mx ?_
  exact h2 I hR
theorem b_reads {L : Nat} {xs : Nat → Int32} {I : Nat → Nat → Int32} {a : Int32} (hR : mRel I) : mBo L xs I 118 205 [.int a] := by
  intro Q hQ
  obtain ⟨n, t, T, hN, hI, hT, hW, hw, hK⟩ := id hR
  refine ct_Creads hW.2 hW.1 hN.ok1 ?_
  have eW : mW I = mW I := rfl
  rw [hN.e]
  refine hQ I _ (fun Q2 h2 => ?_)
  refine ct_Mreads eW hW.1 hN.ok ?_
  exact h2 I hR
theorem b_ask {L : Nat} {xs : Nat → Int32} {I : Nat → Nat → Int32} {sl kd : Int32} (hR : mRel I) : mBo L xs I 123 209 [.int sl, .int kd] := by
  intro Q hQ
  obtain ⟨n, t, T, hN, hI, hT, hW, hw, hK⟩ := id hR
  refine ct_Cask hW.2 hW.1 ?_
  have eW : mW I = mW I := rfl
  refine hQ I _ (fun Q2 h2 => ?_)
  refine ct_Mask eW hW.1 ?_
  exact h2 I hR
theorem b_item {L : Nat} {xs : Nat → Int32} {I : Nat → Nat → Int32} {sl pl : Int32} (hR : mRel I) : mBo L xs I 124 210 [.int sl, .int pl] := by
  intro Q hQ
  obtain ⟨n, t, T, hN, hI, hT, hW, hw, hK⟩ := id hR
  refine ct_Citem hW.2 hW.1 ?_
  have eW : mW I = mW I := rfl
  refine hQ I _ (fun Q2 h2 => ?_)
  refine ct_Mitem eW hW.1 ?_
  exact h2 I hR
theorem b_rest {L : Nat} {xs : Nat → Int32} {I : Nat → Nat → Int32} {sl v : Int32} (hR : mRel I) : mBo L xs I 125 211 [.int sl, .int v] := by
  intro Q hQ
  obtain ⟨n, t, T, hN, hI, hT, hW, hw, hK⟩ := id hR
  refine ct_Crest hW.2 hW.1 ?_
  have eW : mW I = mW I := rfl
  refine hQ I _ (fun Q2 h2 => ?_)
  refine ct_Mrest eW hW.1 ?_
  exact h2 I hR
