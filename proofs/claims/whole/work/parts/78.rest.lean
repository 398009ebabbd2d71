/-! ===== tell count trim feed check keep back, on both sides ===== -/
theorem b_tell {L : Nat} {xs : Nat → Int32} {I : Nat → Nat → Int32} {v : Int32} (hR : mRel I) : mBo L xs I 126 212 [.int v] := by
  intro Q hQ
  obtain ⟨n, t, T, hD⟩ := hR
  obtain ⟨hN, hI, hT, hW, hw, hK⟩ := id hD
  obtain ⟨w, hw0, hw1, hw60, hwe⟩ := hw
  refine ct_Ctell ⟨hw0, hw60⟩ (fun e => ?_) (fun e => ?_)
  · refine hQ I _ (fun Q2 h2 => ?_)
    exact ct_Mtell ⟨hw1, hw60⟩ (fun _ => h2 I ⟨n, t, T, hD⟩) (fun z => absurd e z)
  · refine hQ _ _ (fun Q2 h2 => ?_)
    refine ct_Mtell (w := w) ⟨?_, hw60⟩ (fun z => absurd z e) (fun _ => h2 _ ?_)
    · rw [mg_une (by omega), mg_une (by omega)]; exact hw1
    · have hf : mFr [0, 58, 127, 148] I (mg_u (mg_u (mg_u (mg_u I 58 w v) 0 10 (nI (w + 1))) 148 w v) 127 33 (nI (w + 1))) := (((mFr.up (by decide)).tr (mFr.up (by decide))).tr (mFr.up (by decide))).tr (mFr.up (by decide))
      have h127 : ∀ k, k ≠ 33 → mg_u (mg_u (mg_u (mg_u I 58 w v) 0 10 (nI (w + 1))) 148 w v) 127 33 (nI (w + 1)) 127 k = I 127 k := fun k hk => by rw [mg_une (by omega), mg_une (by omega), mg_une (by omega), mg_une (by omega)]
      have h0 : mg_u (mg_u (mg_u (mg_u I 58 w v) 0 10 (nI (w + 1))) 148 w v) 127 33 (nI (w + 1)) 0 6 = I 0 6 := by rw [mg_une (by omega), mg_une (by omega), mg_une (by omega), mg_une (by omega)]
      refine ⟨n, t, T, hN.fr hf (by decide) (by decide) (by decide) (h127 4 (by decide)), hI.fr hf (by decide) (by decide) (fun T2 _ h => h.fx hf (by decide)) (Nat.le_refl _) (h127 3 (by decide)) h0, hT.fr hf (by decide) (h127 7 (by decide)), hW.fr hf (by decide) (by decide), ⟨w + 1, ?_, mg_ueq, by omega, funext fun k => ?_⟩, hK.fr2 hf (by decide)⟩
      · rw [mg_une (by omega), mg_une (by omega), mg_ueq]
      · rw [mg_une (by omega), mg_une (by omega), mg_une (by omega), mg_une (a := 148) (i := 127) (by omega)]
        by_cases z : k = w
        · subst z; rw [mg_ueq, mg_ueq]
        · rw [mg_une (by omega), mg_une (by omega), mg_une (by omega), mg_une (by omega)]; exact congrFun hwe k
theorem b_count {L : Nat} {xs : Nat → Int32} {I : Nat → Nat → Int32} {v : Int32} (hR : mRel I) : mBo L xs I 130 217 [.int v] := by
  intro Q hQ
  obtain ⟨n, t, T, hN, hI, hT, hW, hw, hK⟩ := id hR
  obtain ⟨w, hw0, hw1, hw60, hwe⟩ := hw
  obtain ⟨B, tl, hc, hm⟩ := hT
  refine ct_Ccount ?_
  rw [hN.e, hw0, hc.1]
  refine hQ I _ (fun Q2 h2 => ?_)
  refine ct_Mcount ?_
  rw [hw1, hm.1]
  exact h2 I hR
theorem b_trim {L : Nat} {xs : Nat → Int32} {I : Nat → Nat → Int32} {v : Int32} (hR : mRel I) : mBo L xs I 92 187 [.int v] := by
  intro Q hQ
  obtain ⟨n, t, T, hN, hI, hT, hW, hw, hK⟩ := id hR
  obtain ⟨B, tl, hc, hm⟩ := hT
  have h96 := hc.2.1
  refine ct_Ctrim ⟨hc.1, hc.2.1⟩ (fun h0 => ?_) (fun k hk e => ?_)
  · refine hQ I _ (fun Q2 h2 => ?_)
    exact ct_Mtrim ⟨hm.1, hm.2.1⟩ (fun _ => h2 I hR) (fun k hk e => absurd e (h0 k hk))
  · refine hQ _ _ (fun Q2 h2 => ?_)
    refine ct_Mtrim (tl := tl) ⟨(mg_une (by omega)).trans hm.1, hm.2.1⟩ (fun h0 => absurd e (h0 k hk)) (fun k2 hk2 e2 => ?_)
    obtain rfl : k2 = k := (cI_eq (by omega) (by omega)).mp (e2.symm.trans e)
    have hf : mFr [9, 127] I (mg_u (mg_u I 9 1 (nI k2)) 127 7 (nI k2)) := (mFr.up (by decide)).tr (mFr.up (by decide))
    have h127 : ∀ k, k ≠ 7 → mg_u (mg_u I 9 1 (nI k2)) 127 7 (nI k2) 127 k = I 127 k := fun k hk => by rw [mg_une (by omega), mg_une (by omega)]
    exact h2 _ ⟨n, t, T, hN.fr hf (by decide) (by decide) (by decide) (h127 4 (by decide)), hI.fr hf (by decide) (by decide) (fun T2 _ h => h.fx hf (by decide)) (Nat.le_refl _) (h127 3 (by decide)) (hf _ _ (by decide)), ⟨B, k2, ⟨(mg_une (by omega)).trans mg_ueq, by omega, fun q hq => ⟨(hf _ _ (by decide)).trans (hc.2.2 q (by omega)).1, (hc.2.2 q (by omega)).2⟩⟩, ⟨mg_ueq, by omega, fun q hq => ⟨(hf _ _ (by decide)).trans (hm.2.2 q (by omega)).1, (hm.2.2 q (by omega)).2⟩⟩⟩, hW.fr hf (by decide) (by decide), hw.fr hf (by decide) (hf _ _ (by decide)) (h127 33 (by decide)), hK.fr2 hf (by decide)⟩
theorem sp_fd_lt {a b c : Int32} {k : Nat} : sp_fd a b c k < 256 := Nat.mod_lt _ (by decide)
theorem b_feed {L : Nat} {xs : Nat → Int32} {I : Nat → Nat → Int32} {a b c : Int32} (hR : mRel I) : mBo L xs I 90 186 [.int a, .int b, .int c] := by
  intro Q hQ
  obtain ⟨n, t, T, hN, hI, hT, hW, hw, hK⟩ := id hR
  obtain ⟨B, tl, hc, hm⟩ := hT
  have h96 := hc.2.1
  refine ct_Cfeed ⟨hc.1, hc.2.1⟩ (fun h0 => ?_) (fun h1 I1 hf1 h9 h91 h10 => ?_)
  · refine hQ I _ (fun Q2 h2 => ?_)
    exact ct_Mfeed ⟨hm.1, hm.2.1⟩ (fun _ => h2 I hR) (fun z => absurd z h0)
  · refine hQ _ _ (fun Q2 h2 => ?_)
    refine ct_Mfeed (tl := tl) ⟨(hf1 _ _ (by decide)).trans hm.1, hm.2.1⟩ (fun h0 => absurd h1 h0) (fun _ => ?_)
    generalize hJe : mg_u (mw I1 132 (fun q => if tl ≤ q ∧ q < tl + 12 then nI (sp_fd a b c (q - tl)) else I1 132 q)) 127 7 (nI (tl + 12)) = J
    have hf2 : mFr [127, 132] I1 J := by rw [← hJe]; exact (mFr.w (by decide)).tr (mFr.up (by decide))
    have hf : mFr [9, 10, 127, 132] I J := (hf1.sub (by decide)).tr (hf2.sub (by decide))
    have h127 : ∀ k, k ≠ 7 → J 127 k = I 127 k := fun k hk => by rw [← hJe, mg_une (by omega), mw_ne (by decide)]; exact hf1 _ _ (by decide)
    have h132 : ∀ q, J 132 q = if tl ≤ q ∧ q < tl + 12 then nI (sp_fd a b c (q - tl)) else I1 132 q := fun q => by rw [← hJe, mg_une (by omega), mw_eq]
    refine h2 _ ⟨n, t, T, hN.fr hf (by decide) (by decide) (by decide) (h127 4 (by decide)), hI.fr hf (by decide) (by decide) (fun T2 _ h => h.fx hf (by decide)) (Nat.le_refl _) (h127 3 (by decide)) (hf _ _ (by decide)), ⟨fun q => if q < tl then B q else sp_fd a b c (q - tl), tl + 12, ⟨(hf2 _ _ (by decide)).trans h91, by omega, fun q hq => ?_⟩, ⟨by rw [← hJe, mg_ueq], by omega, fun q hq => ?_⟩⟩, hW.fr hf (by decide) (by decide), hw.fr hf (by decide) (hf _ _ (by decide)) (h127 33 (by decide)), hK.fr2 hf (by decide)⟩
    · rw [hf2 _ _ (by decide), h10 q hq]
      by_cases z : q < tl
      · rw [if_pos z]; dsimp only; rw [if_pos z]; exact hc.2.2 q z
      · rw [if_neg z]; dsimp only; rw [if_neg z]; exact ⟨rfl, sp_fd_lt⟩
    · rw [h132]
      by_cases z : q < tl
      · rw [if_neg (by omega), hf1 _ _ (by decide)]; dsimp only; rw [if_pos z]; exact hm.2.2 q z
      · rw [if_pos (by omega)]; dsimp only; rw [if_neg z]; exact ⟨rfl, sp_fd_lt⟩
theorem b_check {L : Nat} {xs : Nat → Int32} {I : Nat → Nat → Int32} {v : Int32} (hR : mRel I) : mBo L xs I 127 213 [.int v] := by
  intro Q hQ
  obtain ⟨n, t, T, hN, hI, hT, hW, hw, hK⟩ := id hR
  obtain ⟨w, hw0, hw1, hw60, hwe⟩ := hw
  obtain ⟨n2, T2, hg⟩ : ∃ (n2 : Nat) (T2 : mT), ¬ I 0 6 = 0 → mSg 41 129 I = I 129 ∧ mOk (I 129) n2 ∧ (∃ t, I 129 2 = nI t ∧ t ≤ 9999) ∧ mTx (mw I 128 (I 129)) T2 ∧ cTx I T2 ∧ cCg I 41 T2 := by
    by_cases z : I 0 6 = 0
    · exact ⟨0, (0, fun _ => 0, fun _ => [], fun _ => 0), fun h => absurd z h⟩
    · obtain ⟨a, b, c, g1, g2, g3, g4, g5, g6⟩ := hI.2 z
      exact ⟨a, c, fun _ => ⟨g1, g2.1, ⟨b, g2.2.1, g2.2.2.1⟩, g3, g4, g5⟩⟩
  refine ct_Ccheck (n := n2) (T := T2) ⟨hw0, hw60⟩ (fun z => ?_) (fun K hf => ?_)
  · obtain ⟨g1, g2, g3, g4, g5, g6⟩ := hg z
    rw [g1]
    exact ⟨g5, g6, g2, g3⟩
  have hfI : mFr (0 :: (mRc 26 ++ mSk)) I K := (mFr.up (by decide)).tr (hf.sub (by decide))
  have e129 : K 129 = I 129 := funext fun k => hfI 129 k (by decide)
  have e148 : K 148 = I 58 := funext fun k => (hfI 148 k (by decide)).trans (congrFun hwe k).symm
  have e3 : K 127 3 = I 0 6 := (hfI 127 3 (by decide)).trans hI.1
  refine hQ K _ (fun Q2 h2 => ?_)
  refine ct_Mcheck (n := n2) (w := w) (T := T2) ⟨(hfI 127 33 (by decide)).trans hw1, hw60⟩ ((hfI _ _ (by decide)).trans hN.aw) (fun z => ?_) (fun K2 hf2 he2 => ?_)
  · obtain ⟨g1, g2, g3, g4, g5, g6⟩ := hg (by rw [← e3]; exact z)
    rw [e129]
    exact ⟨g4.kp fun k _ => by rw [mw_eq, mw_eq], g2, g3⟩
  have ev : sp_check (K 127 3) T2 (K 129) n2 w (K 148) v = sp_check (I 0 6) T2 (mSg 41 129 I) n2 w (I 58) v := by
    rw [e3, e148, e129]
    by_cases z : I 0 6 = 0
    · unfold sp_check
      rw [if_pos z, if_pos z]
    · rw [(hg z).1]
  rw [ev]
  have hf3 : mFr [127, 130, 138, 139] K K2 := fun i k hi => by
    by_cases e : i = 128
    · subst e; exact congrFun he2 k
    · exact (hf2 i k (by simp only [List.mem_cons, List.not_mem_nil, or_false] at hi ⊢; omega)).trans (mg_une (by simp only [List.mem_cons, List.not_mem_nil, or_false] at hi; omega))
  have hg2 : mFr (0 :: 127 :: (mRc 26 ++ mSk ++ [130, 138, 139])) I K2 := (hfI.sub (by decide)).tr (hf3.sub (by decide))
  have h127 : ∀ k, k ≠ 33 → K2 127 k = I 127 k := fun k hk => (hf2 127 k (by decide)).trans ((mg_une (by omega)).trans (hfI 127 k (by decide)))
  have h0 : ∀ k, k ≠ 10 → K2 0 k = I 0 k := fun k hk => (hf3 0 k (by decide)).trans ((hf 0 k (by decide)).trans (mg_une (by omega)))
  exact h2 K2 ⟨n, t, T, hN.fr hg2 (by decide) (by decide) (by decide) (h127 4 (by decide)), hI.fr hg2 (by decide) (by decide) (fun T2 _ h => h.fx hg2 (by decide)) (Nat.le_refl _) (h127 3 (by decide)) (h0 6 (by decide)), hT.fr hg2 (by decide) (h127 7 (by decide)), hW.fr hg2 (by decide) (by decide), ⟨0, (hf3 0 10 (by decide)).trans ((hf 0 10 (by decide)).trans mg_ueq), (hf2 127 33 (by decide)).trans mg_ueq, by omega, funext fun k => (hg2 58 k (by decide)).trans ((congrFun hwe k).trans (hg2 148 k (by decide)).symm)⟩, hK.fr2 hg2 (by decide)⟩
theorem b_keep {L : Nat} {xs : Nat → Int32} {I : Nat → Nat → Int32} (hR : mRel I) : mBo L xs I 128 215 [] := by
  intro Q hQ
  obtain ⟨n, t, T, hN, hI, hT, hW, hw, hK⟩ := id hR
  refine ct_Ckeep (fun K hf hs hg => ?_)
  have e1 : I 11 5 = I 128 1 := congrFun hN.e 1
  rw [e1]
  refine hQ _ _ (fun Q2 h2 => ?_)
  have e128 : (mg_u K 0 6 (nI 1)) 128 = I 128 := funext fun k => (mg_une (by omega)).trans (hf 128 k (by decide))
  refine ct_Mkeep ?_
  rw [e128]
  generalize hJe : mg_u (mw (mg_u K 0 6 (nI 1)) 129 (fun j => if j < 1481 then I 128 j else mg_u K 0 6 (nI 1) 129 j)) 127 3 (nI 1) = J
  have hf2 : mFr [0, 127, 129] K J := by rw [← hJe]; exact (((mFr.up (by decide)).tr (mFr.w (by decide))).tr (mFr.up (by decide)))
  have hf3 : mFr (0 :: 127 :: 129 :: mRc 41) I J := (hf.sub (by decide)).tr (hf2.sub (by decide))
  have h127 : ∀ k, k ≠ 3 → J 127 k = I 127 k := fun k hk => by rw [← hJe, mg_une (by omega), mw_ne (by decide), mg_une (by omega)]; exact hf _ _ (by decide)
  have h0 : ∀ k, k ≠ 6 → J 0 k = I 0 k := fun k hk => by rw [← hJe, mg_une (by omega), mw_ne (by decide), mg_une (by omega)]; exact hf _ _ (by decide)
  have h129 : ∀ k, k < 1481 → J 129 k = I 128 k := fun k hk => by rw [← hJe, mg_une (by omega), mw_eq, if_pos hk]
  have hag : mAg (I 128) (J 129) := fun k hk => h129 k (by omega)
  refine h2 J ⟨n, t, T, hN.fr hf3 (by decide) (by decide) (by decide) (h127 4 (by decide)), ⟨?_, fun _ => ⟨n, t, T, funext fun k => ?_, hN.sok.ag hag, hN.mx.kp3 fun k hk => ?_, hN.cx.fx hf3 (by decide), fun k hk => ?_, Nat.le_refl _⟩⟩, hT.fr hf3 (by decide) (h127 7 (by decide)), hW.fr hf3 (by decide) (by decide), hw.fr hf3 (by decide) (h0 10 (by decide)) (h127 33 (by decide)), hK.fr2 hf3 (by decide)⟩
  · rw [← hJe, mg_ueq, mg_une (by omega), mw_ne (by decide), mg_ueq]
  · rcases Nat.lt_or_ge k 109 with z | z
    · rw [h129 k (by omega), ← hN.e, ← hs k z]
      exact sg_low (fun i hi j => hf2 i j (by revert hi; revert i; decide)) z
    · exact sg_far z
  · rw [mw_eq]; exact h129 k (by omega)
  · exact (hf2 _ _ (by decide)).trans ((hg k hk).trans (hN.cg k hk))
theorem b_back {L : Nat} {xs : Nat → Int32} {I : Nat → Nat → Int32} (hR : mRel I) : mBo L xs I 129 216 [] := by
  intro Q hQ
  obtain ⟨n, t, T, hN, hI, hT, hW, hw, hK⟩ := id hR
  refine ct_Cback (fun z => ?_) (fun z K hf hs hg => ?_)
  · refine hQ I _ (fun Q2 h2 => ?_)
    exact ct_Mback (fun _ => h2 I hR) (fun y => absurd (hI.1.trans z) y)
  · obtain ⟨n2, t2, T2, g1, g2, g3, g4, g5, g6⟩ := hI.2 z
    have e129 : K 129 = I 129 := funext fun k => hf 129 k (by decide)
    have e5 : K 11 5 = I 129 1 := (hs 1 (by decide)).trans (congrFun g1 1)
    rw [e5]
    refine hQ K _ (fun Q2 h2 => ?_)
    refine ct_Mback (fun y => absurd (((hf 127 3 (by decide)).trans hI.1).symm.trans y) z) (fun _ => ?_)
    rw [e129]
    generalize hJe : mw K 128 (fun j => if j < 1481 then I 129 j else K 128 j) = J
    have hf2 : mFr [128] K J := by rw [← hJe]; exact mFr.w (by decide)
    have hf3 : mFr (128 :: mRc 11) I J := (hf.sub (by decide)).tr (hf2.sub (by decide))
    have h128 : ∀ k, k < 1481 → J 128 k = I 129 k := fun k hk => by rw [← hJe, mw_eq, if_pos hk]
    have hag : mAg (I 129) (J 128) := fun k hk => h128 k (by omega)
    refine h2 J ⟨n2, t2, T2, ⟨funext fun k => ?_, g2.ag hag, ?_, g4.fx hf3 (by decide), fun k hk => ?_, (hf3 _ _ (by decide)).trans hN.aw⟩, ⟨(hf3 _ _ (by decide)).trans (hI.1.trans (hf3 _ _ (by decide)).symm), fun _ => ⟨n2, t2, T2, ?_, ?_, ?_, g4.fx hf3 (by decide), g5.fr hf3 (by decide), Nat.le_refl _⟩⟩, hT.fr hf3 (by decide) (hf3 _ _ (by decide)), hW.fr hf3 (by decide) (by decide), hw.fr hf3 (by decide) (hf3 _ _ (by decide)) (hf3 _ _ (by decide)), hK.fr2 hf3 (by decide)⟩
    · rcases Nat.lt_or_ge k 109 with y | y
      · rw [h128 k (by omega), ← g1, ← hs k y]
        exact sg_low (fun i hi j => hf2 i j (by revert hi; revert i; decide)) y
      · exact sg_far y
    · exact g3.kp3 fun k hk => by rw [mw_eq]; exact h128 k (by omega)
    · exact (hf2 _ _ (by decide)).trans ((hg k hk).trans (g5 k hk))
    · exact (sg_fr hf3 (by decide)).trans (g1.trans (funext fun k => (hf3 129 k (by decide)).symm))
    · rw [show J 129 = I 129 from funext fun k => hf3 129 k (by decide)]; exact g2
    · rw [show J 129 = I 129 from funext fun k => hf3 129 k (by decide)]; exact g3.kp fun k _ => by rw [mw_eq, mw_eq]
