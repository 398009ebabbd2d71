/-! ===== calls that change the ring, the SHEETS, the SLOTS, what waits, THE TAPE ===== -/
theorem b_car {L : Nat} {xs : Nat → Int32} {I : Nat → Nat → Int32} {q f w : Int32} (hR : mRel I) : mBo L xs I 12 133 [.int q, .int f, .int w] := by
  intro Q hQ
  obtain ⟨n, t, T, hD⟩ := hR
  obtain ⟨hN, hI, hT, hW, hw, hK⟩ := id hD
  refine ct_Ccar hN.ok1 (fun I1 hf hs => ?_)
  rw [hN.e] at hs ⊢
  have e1 : I1 128 = I 128 := funext fun k => hf 128 k (by decide)
  have hN1ok : mOk (I1 128) n := by rw [e1]; exact hN.ok
  have hx1 : mTx I1 T := hN.mx.kp fun k _ => by rw [e1]
  have eW : mW I1 = mW I := mW_fr2 hf (by decide)
  refine hQ I1 _ (fun Q2 h2 => ?_)
  refine ct_Mcar hN1ok (fun I2 hf2 hs2 => ?_)
  rw [e1] at hs2 ⊢
  obtain ⟨n', h', hkp⟩ := hN.sok.car q f w
  exact h2 I2 (hD.st (hf.sub (by decide)) hs (hf2.sub (by decide)) hs2 h' hkp)
theorem b_turns {L : Nat} {xs : Nat → Int32} {I : Nat → Nat → Int32} {car kd : Int32} (hR : mRel I) : mBo L xs I 53 151 [.int car, .int kd] := by
  intro Q hQ
  obtain ⟨n, t, T, hD⟩ := hR
  obtain ⟨hN, hI, hT, hW, hw, hK⟩ := id hD
  refine ct_Cturns hN.ok1 (fun I1 hf hs => ?_)
  rw [hN.e] at hs ⊢
  have e1 : I1 128 = I 128 := funext fun k => hf 128 k (by decide)
  have hN1ok : mOk (I1 128) n := by rw [e1]; exact hN.ok
  have hx1 : mTx I1 T := hN.mx.kp fun k _ => by rw [e1]
  have eW : mW I1 = mW I := mW_fr2 hf (by decide)
  refine hQ I1 _ (fun Q2 h2 => ?_)
  refine ct_Mturns hN1ok (fun I2 hf2 hs2 => ?_)
  rw [e1] at hs2 ⊢
  obtain ⟨h', hkp⟩ := hN.sok.turns car kd
  exact h2 I2 (hD.st (hf.sub (by decide)) hs (hf2.sub (by decide)) hs2 h' hkp)
theorem b_set {L : Nat} {xs : Nat → Int32} {I : Nat → Nat → Int32} {car wh v : Int32} (hR : mRel I) : mBo L xs I 54 153 [.int car, .int wh, .int v] := by
  intro Q hQ
  obtain ⟨n, t, T, hD⟩ := hR
  obtain ⟨hN, hI, hT, hW, hw, hK⟩ := id hD
  refine ct_Cset hN.ok1 (fun I1 hf hs => ?_)
  rw [hN.e] at hs ⊢
  have e1 : I1 128 = I 128 := funext fun k => hf 128 k (by decide)
  have hN1ok : mOk (I1 128) n := by rw [e1]; exact hN.ok
  have hx1 : mTx I1 T := hN.mx.kp fun k _ => by rw [e1]
  have eW : mW I1 = mW I := mW_fr2 hf (by decide)
  refine hQ I1 _ (fun Q2 h2 => ?_)
  refine ct_Mset hN1ok (fun I2 hf2 hs2 => ?_)
  rw [e1] at hs2 ⊢
  obtain ⟨h', hkp⟩ := hN.sok.set car wh v
  exact h2 I2 (hD.st (hf.sub (by decide)) hs (hf2.sub (by decide)) hs2 h' hkp)
theorem b_lays {L : Nat} {xs : Nat → Int32} {I : Nat → Nat → Int32} {pt wh v : Int32} (hR : mRel I) : mBo L xs I 56 155 [.int pt, .int wh, .int v] := by
  intro Q hQ
  obtain ⟨n, t, T, hD⟩ := hR
  obtain ⟨hN, hI, hT, hW, hw, hK⟩ := id hD
  refine ct_Clays  (fun I1 hf hs => ?_)
  rw [hN.e] at hs ⊢
  have e1 : I1 128 = I 128 := funext fun k => hf 128 k (by decide)
  have hN1ok : mOk (I1 128) n := by rw [e1]; exact hN.ok
  have hx1 : mTx I1 T := hN.mx.kp fun k _ => by rw [e1]
  have eW : mW I1 = mW I := mW_fr2 hf (by decide)
  refine hQ I1 _ (fun Q2 h2 => ?_)
  refine ct_Mlays  (fun I2 hf2 hs2 => ?_)
  rw [e1] at hs2 ⊢
  obtain ⟨h', hkp⟩ := hN.sok.lays pt wh v
  exact h2 I2 (hD.st (hf.sub (by decide)) hs (hf2.sub (by decide)) hs2 h' hkp)
theorem b_gap {L : Nat} {xs : Nat → Int32} {I : Nat → Nat → Int32} {v : Int32} (hR : mRel I) : mBo L xs I 57 156 [.int v] := by
  intro Q hQ
  obtain ⟨n, t, T, hD⟩ := hR
  obtain ⟨hN, hI, hT, hW, hw, hK⟩ := id hD
  refine ct_Cgap  (fun I1 hf hs => ?_)
  rw [hN.e] at hs ⊢
  have e1 : I1 128 = I 128 := funext fun k => hf 128 k (by decide)
  have hN1ok : mOk (I1 128) n := by rw [e1]; exact hN.ok
  have hx1 : mTx I1 T := hN.mx.kp fun k _ => by rw [e1]
  have eW : mW I1 = mW I := mW_fr2 hf (by decide)
  refine hQ I1 _ (fun Q2 h2 => ?_)
  refine ct_Mgap  (fun I2 hf2 hs2 => ?_)
  rw [e1] at hs2 ⊢
  obtain ⟨h', hkp⟩ := hN.sok.gap v
  exact h2 I2 (hD.st (hf.sub (by decide)) hs (hf2.sub (by decide)) hs2 h' hkp)
theorem b_seed {L : Nat} {xs : Nat → Int32} {I : Nat → Nat → Int32} {v : Int32} (hR : mRel I) : mBo L xs I 60 159 [.int v] := by
  intro Q hQ
  obtain ⟨n, t, T, hD⟩ := hR
  obtain ⟨hN, hI, hT, hW, hw, hK⟩ := id hD
  refine ct_Cseed  (fun I1 hf hs => ?_)
  rw [hN.e] at hs ⊢
  have e1 : I1 128 = I 128 := funext fun k => hf 128 k (by decide)
  have hN1ok : mOk (I1 128) n := by rw [e1]; exact hN.ok
  have hx1 : mTx I1 T := hN.mx.kp fun k _ => by rw [e1]
  have eW : mW I1 = mW I := mW_fr2 hf (by decide)
  refine hQ I1 _ (fun Q2 h2 => ?_)
  refine ct_Mseed  (fun I2 hf2 hs2 => ?_)
  rw [e1] at hs2 ⊢
  obtain ⟨h', hkp⟩ := hN.sok.seed v
  exact h2 I2 (hD.st (hf.sub (by decide)) hs (hf2.sub (by decide)) hs2 h' hkp)
theorem b_deal {L : Nat} {xs : Nat → Int32} {I : Nat → Nat → Int32} {v : Int32} (hR : mRel I) : mBo L xs I 58 157 [.int v] := by
  intro Q hQ
  obtain ⟨n, t, T, hD⟩ := hR
  obtain ⟨hN, hI, hT, hW, hw, hK⟩ := id hD
  refine ct_Cdeal hN.ok1 (fun I1 hf hs => ?_)
  rw [hN.e] at hs ⊢
  have e1 : I1 128 = I 128 := funext fun k => hf 128 k (by decide)
  have hN1ok : mOk (I1 128) n := by rw [e1]; exact hN.ok
  have hx1 : mTx I1 T := hN.mx.kp fun k _ => by rw [e1]
  have eW : mW I1 = mW I := mW_fr2 hf (by decide)
  refine hQ I1 _ (fun Q2 h2 => ?_)
  refine ct_Mdeal hN1ok (fun I2 hf2 hs2 => ?_)
  rw [e1] at hs2 ⊢
  obtain ⟨n', h', hkp⟩ := hN.sok.deal v
  exact h2 I2 (hD.st (hf.sub (by decide)) hs (hf2.sub (by decide)) hs2 h' hkp)
theorem b_seconds {L : Nat} {xs : Nat → Int32} {I : Nat → Nat → Int32} {v : Int32} (hR : mRel I) : mBo L xs I 61 160 [.int v] := by
  intro Q hQ
  obtain ⟨n, t, T, hD⟩ := hR
  obtain ⟨hN, hI, hT, hW, hw, hK⟩ := id hD
  refine ct_Cseconds hN.cx hN.cg hN.ok1 (by rw [hN.e]; exact ⟨hN.sok.2.1, hN.sok.2.2.1⟩) (fun I1 hf hs => ?_)
  rw [hN.e] at hs ⊢
  have e1 : I1 128 = I 128 := funext fun k => hf 128 k (by decide)
  have hN1ok : mOk (I1 128) n := by rw [e1]; exact hN.ok
  have hx1 : mTx I1 T := hN.mx.kp fun k _ => by rw [e1]
  have eW : mW I1 = mW I := mW_fr2 hf (by decide)
  refine hQ I1 _ (fun Q2 h2 => ?_)
  refine ct_Mseconds hx1 hN1ok ((hf 127 4 (by decide)).trans hN.aw) (by rw [e1]; exact ⟨hN.sok.2.1, hN.sok.2.2.1⟩) (fun I2 hf2 hs2 => ?_)
  rw [e1] at hs2 ⊢
  obtain ⟨t', h', hkp⟩ := hN.sok.seconds (T := T) v
  exact h2 I2 (hD.st (hf.sub (by decide)) hs (hf2.sub (by decide)) hs2 h' hkp)
theorem b_pour {L : Nat} {xs : Nat → Int32} {I : Nat → Nat → Int32} {a : Int32} (hR : mRel I) : mBo L xs I 117 204 [.int a] := by
  intro Q hQ
  obtain ⟨n, t, T, hD⟩ := hR
  obtain ⟨hN, hI, hT, hW, hw, hK⟩ := id hD
  refine ct_Cpour hW.2 hW.1 (fun I1 hf hs => ?_)
  rw [hN.e] at hs ⊢
  have e1 : I1 128 = I 128 := funext fun k => hf 128 k (by decide)
  have hN1ok : mOk (I1 128) n := by rw [e1]; exact hN.ok
  have hx1 : mTx I1 T := hN.mx.kp fun k _ => by rw [e1]
  have eW : mW I1 = mW I := mW_fr2 hf (by decide)
  refine hQ I1 _ (fun Q2 h2 => ?_)
  refine ct_Mpour eW hW.1 (fun I2 hf2 hs2 => ?_)
  rw [e1] at hs2 ⊢
  obtain ⟨h', hkp⟩ := hN.sok.pour (W := mW I) a
  exact h2 I2 (hD.st (hf.sub (by decide)) hs (hf2.sub (by decide)) hs2 h' hkp)
theorem mWk.shW {W : Nat → Nat → Int32} {j N : Nat} {so : Int32} (h : mWk W) (hj : j < 4) (hN : N ≤ 24) (hso : so = -1 ∨ so = nI 0 ∨ so = nI 1) : mWk (sp_shW W j so (nI N)) := by
  refine ⟨fun i hi => ?_, fun i hi => ?_⟩
  · by_cases e : i = j
    · subst e
      have e1 : sp_shW W i so (nI N) 1 i = nI N := by unfold sp_shW; rw [mw_ne (by decide), mg_ueq]
      have e2 : sN (sp_shW W i so (nI N)) i = N := by unfold sN; rw [e1, nI_clamp (by omega)]
      refine ⟨by rw [e2]; exact e1, by rw [e2]; exact hN, ?_, fun k hk => Or.inr ?_⟩
      · have e0 : sp_shW W i so (nI N) 0 i = so := by unfold sp_shW; rw [mw_ne (by decide), mg_une (by omega), mg_ueq]
        rw [e0]; exact hso
      · rw [e2] at hk
        have e3 : sp_shW W i so (nI N) 2 (24 * i + k) = nI 0 := by unfold sp_shW; rw [mw_eq, if_pos (by omega)]
        rw [e3]; decide
    · have e1 : sp_shW W j so (nI N) 1 i = W 1 i := by unfold sp_shW; rw [mw_ne (by decide), mg_une (by omega), mg_une (by omega)]
      have e2 : sN (sp_shW W j so (nI N)) i = sN W i := by unfold sN; rw [e1]
      have e0 : sp_shW W j so (nI N) 0 i = W 0 i := by unfold sp_shW; rw [mw_ne (by decide), mg_une (by omega), mg_une (by omega)]
      obtain ⟨g1, g2, g3, g4⟩ := h.1 i hi
      refine ⟨by rw [e2, e1]; exact g1, by rw [e2]; exact g2, by rw [e0]; exact g3, fun k hk => ?_⟩
      rw [e2] at hk
      have e3 : sp_shW W j so (nI N) 2 (24 * i + k) = W 2 (24 * i + k) := by unfold sp_shW; rw [mw_eq, if_neg (by omega)]
      rw [e3]; exact g4 k hk
  · have e3 : sp_shW W j so (nI N) 3 i = W 3 i := by unfold sp_shW; rw [mw_ne (by decide), mg_une (by omega), mg_une (by omega)]
    have e4 : sp_shW W j so (nI N) 4 i = W 4 i := by unfold sp_shW; rw [mw_ne (by decide), mg_une (by omega), mg_une (by omega)]
    have e5 : sN2 (sp_shW W j so (nI N)) i = sN2 W i := by unfold sN2; rw [e4]
    rw [e3, e4, e5]
    exact h.2 i hi
theorem so_of {so : Int32} (h : (-1) ≤ so ∧ so ≤ nI 1) : so = -1 ∨ so = nI 0 ∨ so = nI 1 := by
  have h1 := Int32.le_iff_toInt_le.mp h.1
  have h2 := Int32.le_iff_toInt_le.mp h.2
  rw [show (-1 : Int32).toInt = -1 by decide] at h1
  rw [show (nI 1).toInt = 1 by decide] at h2
  rcases (show so.toInt = -1 ∨ so.toInt = 0 ∨ so.toInt = 1 by omega) with z | z | z
  · exact Or.inl (Int32.toInt_inj.mp z)
  · exact Or.inr (Or.inl (Int32.toInt_inj.mp z))
  · exact Or.inr (Or.inr (Int32.toInt_inj.mp z))
theorem mWk.sheet {W : Nat → Nat → Int32} (h : mWk W) (a so m : Int32) : mWk (sp_sheet W a so m).2 := by
  unfold sp_sheet
  split
  · exact h
  · rename_i j hj
    have hj := (sp_rg_i hj (by decide)).1
    split
    · rename_i hs
      split
      · exact h.shW hj (by decide) (so_of hs)
      · split
        · rename_i hm
          split
          · rename_i hm0
            obtain ⟨N, rfl, hN⟩ := mI_of hm0
            exact h.shW hj ((cI_le hN (by decide)).mp hm) (so_of hs)
          · exact h
        · exact h
    · exact h
theorem mWk.upd {W : Nat → Nat → Int32} {j p : Nat} {v : Int32} (h : mWk W) (hv : v = (-1000000005) ∨ (-99999 ≤ v ∧ v ≤ nI 99999)) : mWk (mg_u W 2 (24 * j + p) v) := by
  refine ⟨fun i hi => ?_, fun i hi => ?_⟩
  · obtain ⟨g1, g2, g3, g4⟩ := h.1 i hi
    have e1 : mg_u W 2 (24 * j + p) v 1 i = W 1 i := mg_une (by omega)
    have e2 : sN (mg_u W 2 (24 * j + p) v) i = sN W i := by unfold sN; rw [e1]
    have e0 : mg_u W 2 (24 * j + p) v 0 i = W 0 i := mg_une (by omega)
    refine ⟨by rw [e2, e1]; exact g1, by rw [e2]; exact g2, by rw [e0]; exact g3, fun k hk => ?_⟩
    rw [e2] at hk
    by_cases z : 24 * i + k = 24 * j + p
    · rw [z, mg_ueq]; exact hv
    · rw [mg_une (by omega)]; exact g4 k hk
  · have e4 : mg_u W 2 (24 * j + p) v 4 i = W 4 i := mg_une (by omega)
    have e5 : sN2 (mg_u W 2 (24 * j + p) v) i = sN2 W i := by unfold sN2; rw [e4]
    rw [e4, e5, mg_une (by omega)]
    exact h.2 i hi
theorem i16_rng (v : Int32) : (-99999) ≤ v.toInt16.toInt32 ∧ v.toInt16.toInt32 ≤ nI 99999 := by
  have e : v.toInt16.toInt32.toInt = v.toInt16.toInt := Int16.toInt_toInt32 _
  have h1 := Int16.le_toInt v.toInt16
  have h2 := Int16.toInt_lt v.toInt16
  rw [Int32.le_iff_toInt_le, Int32.le_iff_toInt_le, e, show (-99999 : Int32).toInt = -99999 by decide, show (nI 99999).toInt = 99999 by decide]
  omega
theorem mWk.mark {W : Nat → Nat → Int32} (h : mWk W) (a pl v : Int32) : mWk (sp_mark W a pl v).2 := by
  unfold sp_mark
  split
  · exact h
  · split
    · exact h
    · split
      · exact h
      · split
        · split
          · exact h
          · exact h.upd (Or.inr (i16_rng v))
        · split
          · rename_i e; exact h.upd (Or.inl e)
          · split
            · rename_i e; exact h.upd (Or.inr e)
            · exact h
theorem mWk.copy {W : Nat → Nat → Int32} (h : mWk W) (f pl t at_ m : Int32) : mWk (sp_copy W f pl t at_ m).2 := by
  unfold sp_copy
  split
  · exact h
  · rename_i j hj
    have hj := (sp_rg_i hj (by decide)).1
    split
    · exact h
    · rename_i i hi
      have hi := (sp_rg_i hi (by decide)).1
      split
      · exact h
      · split
        · exact h
        · split
          · split
            · rename_i hp
              obtain ⟨⟨_, _, hp⟩, _, hq⟩ := hp
              have hj24 := h.le hj
              have hi24 := h.le hi
              refine ⟨fun i' hi' => ?_, fun i' hi' => ?_⟩
              · obtain ⟨g1, g2, g3, g4⟩ := h.1 i' hi'
                refine ⟨g1, g2, g3, fun k hk => ?_⟩
                have hk : k < sN W i' := hk
                unfold sp_cpW
                dsimp only
                rw [mw_eq]
                split
                · rename_i hc
                  have := g4
                  rw [Nat.add_assoc]
                  exact h.vl hj (by omega)
                · exact g4 k hk
              · exact h.2 i' hi'
            · exact h
          · exact h
theorem mWk.lyW {W : Nat → Nat → Int32} {l t : Nat} {A B : Int32} (h : mWk W) (ht : t < 4) (h1 : t = 1 → ∃ q : Nat, A = nI q ∧ q < 6) (h2 : t = 2 → ∃ q : Nat, A = nI q ∧ q ≤ 24) : mWk (sp_lyW W l (nI t) A B) := by
  refine ⟨fun i hi => ?_, fun i hi => ?_⟩
  · have e : ∀ a k, a < 3 → sp_lyW W l (nI t) A B a k = W a k := fun a k ha => by unfold sp_lyW; rw [mg_une (by omega), mg_une (by omega), mg_une (by omega)]
    obtain ⟨g1, g2, g3, g4⟩ := h.1 i hi
    have e2 : sN (sp_lyW W l (nI t) A B) i = sN W i := by unfold sN; rw [e 1 i (by decide)]
    refine ⟨by rw [e2, e 1 i (by decide)]; exact g1, by rw [e2]; exact g2, by rw [e 0 i (by decide)]; exact g3, fun k hk => ?_⟩
    rw [e2] at hk
    rw [e 2 _ (by decide)]
    exact g4 k hk
  · by_cases z : i = l
    · subst z
      have e3 : sp_lyW W i (nI t) A B 3 i = nI t := by unfold sp_lyW; rw [mg_une (by omega), mg_une (by omega), mg_ueq]
      have e4 : sp_lyW W i (nI t) A B 4 i = A := by unfold sp_lyW; rw [mg_une (by omega), mg_ueq]
      refine ⟨t, e3, ht, fun z => ?_, fun z => ?_⟩
      · obtain ⟨q, rfl, hq⟩ := h1 z
        have e5 : sN2 (sp_lyW W i (nI t) (nI q) B) i = q := by unfold sN2; rw [e4, nI_clamp (by omega)]
        rw [e4, e5]
        exact ⟨rfl, hq⟩
      · obtain ⟨q, rfl, hq⟩ := h2 z
        have e5 : sN2 (sp_lyW W i (nI t) (nI q) B) i = q := by unfold sN2; rw [e4, nI_clamp (by omega)]
        rw [e4, e5]
        exact ⟨rfl, hq⟩
    · have e3 : sp_lyW W l (nI t) A B 3 i = W 3 i := by unfold sp_lyW; rw [mg_une (by omega), mg_une (by omega), mg_une (by omega)]
      have e4 : sp_lyW W l (nI t) A B 4 i = W 4 i := by unfold sp_lyW; rw [mg_une (by omega), mg_une (by omega), mg_une (by omega)]
      have e5 : sN2 (sp_lyW W l (nI t) A B) i = sN2 W i := by unfold sN2; rw [e4]
      rw [e3, e4, e5]
      exact h.2 i hi
theorem mWk.w6 {W : Nat → Nat → Int32} {f : Nat → Int32} (h : mWk W) : mWk (mw W 6 f) := h
theorem mWk.lay {W : Nat → Nat → Int32} {s : Nat → Int32} {n : Nat} (h : mWk W) (hk : mOk s n) (sl th k : Int32) : mWk (sp_lay W s n sl th k).2 := by
  have hn8 := hk.hn.2
  unfold sp_lay
  split
  · exact h
  · split
    · exact h
    · split
      · exact h
      · rename_i c hc
        have hc := (sp_rg_i hc (by omega)).1
        exact h.lyW (by decide) (fun _ => ⟨_, (hk.kd c hc).1, (hk.kd c hc).2⟩) (fun z => absurd z (by decide))
    · split
      · exact h
      · rename_i j hj
        have hj := (sp_rg_i hj (by omega)).1
        split
        · exact h
        · exact (h.lyW (t := 2) (by decide) (fun z => absurd z (by decide)) (fun _ => ⟨_, h.sz hj, h.le hj⟩)).w6
    · rename_i t n1 n2 ht
      have ht := (sp_rg_i ht (by decide)).1
      exact h.lyW ht (fun z => absurd z (by first | exact n1 | exact n2)) (fun z => absurd z (by first | exact n2 | exact n1))
theorem mRelD.ws {I I1 I2 W : Nat → Nat → Int32} {n t : Nat} {T : mT} (h : mRelD I n t T) (hf : mFr mShL I I1) (hc : cW I1 W) (hf2 : mFr [140, 141, 142, 143, 144, 145, 146, 147] I1 I2) (hw : mW I2 = W) (hk : mWk W) : mRel I2 := by
  obtain ⟨h1, h2, h3, h4, h5, h6⟩ := h
  have hg : mFr (mShL ++ [140, 141, 142, 143, 144, 145, 146, 147]) I I2 := (hf.sub (by decide)).tr (hf2.sub (by decide))
  exact ⟨n, t, T, h1.fr hg (by decide) (by decide) (by decide) (hg _ _ (by decide)), h2.fr hg (by decide) (by decide) (fun T2 _ h => h.fx hg (by decide)) (Nat.le_refl _) (hg _ _ (by decide)) (hg _ _ (by decide)), h3.fr hg (by decide) (hg _ _ (by decide)), by unfold mWS; rw [hw]; exact ⟨hk, hc.fr hf2 (by decide)⟩, h5.fr hg (by decide) (hg _ _ (by decide)) (hg _ _ (by decide)), h6.fr2 hg (by decide)⟩
theorem b_sheet {L : Nat} {xs : Nat → Int32} {I : Nat → Nat → Int32} {a so m : Int32} (hR : mRel I) : mBo L xs I 113 202 [.int a, .int so, .int m] := by
  intro Q hQ
  obtain ⟨n, t0, T, hD⟩ := hR
  obtain ⟨hN, hI, hT, hW, hw, hK⟩ := id hD
  refine ct_Csheet hW.2 hW.1 (fun I1 hf hc => ?_)
  have eW : mW I1 = mW I := mW_fr2 hf (by decide)
  have hN1 : mNow I1 n t0 T := hN.fr hf (by decide) (by decide) (by decide) (hf _ _ (by decide))
  have e1 : I1 128 = I 128 := funext fun k => hf 128 k (by decide)
  refine hQ I1 _ (fun Q2 h2 => ?_)
  refine ct_Msheet eW hW.1 (fun I2 hf2 hw2 => ?_)
  exact h2 I2 (hD.ws hf hc (hf2.sub (by decide)) hw2 (hW.1.sheet a so m))
theorem b_mark {L : Nat} {xs : Nat → Int32} {I : Nat → Nat → Int32} {a pl v : Int32} (hR : mRel I) : mBo L xs I 115 203 [.int a, .int pl, .int v] := by
  intro Q hQ
  obtain ⟨n, t0, T, hD⟩ := hR
  obtain ⟨hN, hI, hT, hW, hw, hK⟩ := id hD
  refine ct_Cmark hW.2 hW.1 (fun I1 hf hc => ?_)
  have eW : mW I1 = mW I := mW_fr2 hf (by decide)
  have hN1 : mNow I1 n t0 T := hN.fr hf (by decide) (by decide) (by decide) (hf _ _ (by decide))
  have e1 : I1 128 = I 128 := funext fun k => hf 128 k (by decide)
  refine hQ I1 _ (fun Q2 h2 => ?_)
  refine ct_Mmark eW hW.1 (fun I2 hf2 hw2 => ?_)
  exact h2 I2 (hD.ws hf hc (hf2.sub (by decide)) hw2 (hW.1.mark a pl v))
theorem b_copy {L : Nat} {xs : Nat → Int32} {I : Nat → Nat → Int32} {f pl t at_ m : Int32} (hR : mRel I) : mBo L xs I 119 206 [.int f, .int pl, .int t, .int at_, .int m] := by
  intro Q hQ
  obtain ⟨n, t0, T, hD⟩ := hR
  obtain ⟨hN, hI, hT, hW, hw, hK⟩ := id hD
  refine ct_Ccopy hW.2 hW.1 (fun I1 hf hc => ?_)
  have eW : mW I1 = mW I := mW_fr2 hf (by decide)
  have hN1 : mNow I1 n t0 T := hN.fr hf (by decide) (by decide) (by decide) (hf _ _ (by decide))
  have e1 : I1 128 = I 128 := funext fun k => hf 128 k (by decide)
  refine hQ I1 _ (fun Q2 h2 => ?_)
  refine ct_Mcopy eW hW.1 (fun I2 hf2 hw2 => ?_)
  exact h2 I2 (hD.ws hf hc (hf2.sub (by decide)) hw2 (hW.1.copy f pl t at_ m))
theorem b_lay {L : Nat} {xs : Nat → Int32} {I : Nat → Nat → Int32} {sl th k : Int32} (hR : mRel I) : mBo L xs I 120 207 [.int sl, .int th, .int k] := by
  intro Q hQ
  obtain ⟨n, t0, T, hD⟩ := hR
  obtain ⟨hN, hI, hT, hW, hw, hK⟩ := id hD
  refine ct_Clay hW.2 hW.1 hN.ok1 (fun I1 hf hc => ?_)
  have eW : mW I1 = mW I := mW_fr2 hf (by decide)
  have hN1 : mNow I1 n t0 T := hN.fr hf (by decide) (by decide) (by decide) (hf _ _ (by decide))
  have e1 : I1 128 = I 128 := funext fun k => hf 128 k (by decide)
  rw [hN.e] at hc ⊢
  refine hQ I1 _ (fun Q2 h2 => ?_)
  refine ct_Mlay eW hW.1 hN1.ok (fun I2 hf2 hw2 => ?_)
  rw [e1] at hw2 ⊢
  exact h2 I2 (hD.ws hf hc (hf2.sub (by decide)) hw2 (hW.1.lay hN.ok sl th k))
