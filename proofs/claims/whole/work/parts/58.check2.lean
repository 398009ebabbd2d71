/-! ===== the model: check (2); the class: tell, feed, trim, keep, back, count ===== -/
theorem mTx.kp3 {I I' : Nat → Nat → Int32} {T : mT} (h : mTx I T) (hk : ∀ k, k = 4 ∨ (109 ≤ k ∧ k < 1481) → I' 128 k = I 128 k) : mTx I' T := by
  have hnt := h.2.1
  refine ⟨(hk 4 (Or.inl rfl)).trans h.1, h.2.1, fun t ht => ?_⟩
  obtain ⟨h1, h2, h3, h4, h5, h6⟩ := h.2.2 t ht
  have ht14 : t < 14 := Nat.lt_of_lt_of_le ht hnt
  exact ⟨h1, h2, h3, (hk _ (Or.inr (by omega))).trans h4, (hk _ (Or.inr (by omega))).trans h5, fun j hj => (hk _ (Or.inr (by omega))).trans (h6.1 j hj), h6.2⟩
theorem sp_tld_ag {T : mT} {s s' : Nat → Int32} {n : Nat} (h : mAg s s') (hk : mOk s n) : sp_tld T s' n = sp_tld T s n := by
  have hn8 := hk.hn.2
  funext i
  unfold sp_tld
  rw [(h.secs (T := T) (aw := -1) hk _).sum (by decide) n hn8, (h.secs (T := T) (aw := -1) hk _).sum (by decide) n hn8]
theorem ct_Mcheck {d L : Nat} {xs : Nat → Int32} {I : Nat → Nat → Int32} {Q : Option Value → mj_H → Prop} {T : mT} {n w : Nat} (hw : I 127 33 = nI w ∧ w ≤ 60) (haw : I 127 4 = -1) (hi : ¬ I 127 3 = 0 → mTx (mw I 128 (I 129)) T ∧ mOk (I 129) n ∧ ∃ t, I 129 2 = nI t ∧ t ≤ 9999) {v : Int32} (hQ : ∀ K, mFr [128, 130, 138, 139] (mg_u I 127 33 (nI 0)) K → K 128 = I 128 → Q (some (.int (sp_check (I 127 3) T (I 129) n w (I 148) v))) (mg_h L xs K)) : mj_Cl (d + 5) 213 [.ref 127, .int v] (mg_h L xs I) Q := by
  refine cl_start mx_213 (ls := [.ref 127, .int v, mj_no, mj_no, mj_no, mj_no]) rfl ?_
  refine me_aload_n (p' := 1) k213_0 rfl rfl ?_
  refine me_gfi (p' := 4) k213_1 rfl (by decide) rfl rfl ?_
  rw [hw.1]
  refine me_istore_n (p' := 5) k213_4 rfl ⟨Nat.le_of_ble_eq_true rfl, rfl⟩ rfl ?_
  refine me_aload_n (p' := 6) k213_5 rfl rfl ?_
  refine me_iconst (p' := 7) k213_6 rfl (v := nI 0) (by decide) ?_
  refine me_pfi (p' := 10) k213_7 rfl (by decide) rfl rfl rfl rfl ?_
  refine me_iload_n (p' := 11) k213_10 rfl rfl ?_
  refine me_iconst (p' := 12) k213_11 rfl (v := nI 1) (by decide) ?_
  refine me_bipush (p' := 14) k213_12 rfl (v := nI 30) (by decide) ?_
  refine me_cs (p' := 17) k213_14 rfl rfl rfl rfl rfl (cl_le mx_134 rfl) (by decide) (cl_sum rfl) (ct_in (fun e392 => ?_) (fun e392 => ?_))
  · skip
    refine me_if_ne (p' := 20) k213_17 rfl (fun h => absurd h (by decide)) (fun _ => ?_)
    obtain ⟨m, rfl, hm⟩ : ∃ m : Nat, v = nI m ∧ m ≤ 30 ∧ 1 ≤ m := by
      obtain ⟨m, rfl, hm⟩ := mI_of (Int32.le_trans (nI_pos' (show 1 < 2 ^ 31 by omega)) e392.1)
      exact ⟨m, rfl, (cI_le hm (by decide)).mp e392.2, (cI_le (by decide) hm).mp e392.1⟩
    refine me_aload_n (p' := 24) k213_23 rfl rfl ?_
    refine me_gfi (p' := 27) k213_24 rfl (by decide) rfl rfl ?_
    rw [mg_une (by decide)]
    refine me_if_ne (p' := 30) k213_27 rfl (fun c1 => ?_) (fun c1 => ?_)
    · skip
      refine me_ldc (p' := 32) k213_30 rfl (v := (-1000000002)) (by decide) ?_
      refine me_reti k213_32 rt_213 rfl ?_
      simp only [sp_check, if_pos e392, nI_clamp (show m < 2 ^ 31 by omega), (eq_true c1), if_true, if_false, true_and, and_true, and_self] at hQ
      exact hQ _ mFr.rf (mg_un (by decide))
    · skip
      obtain ⟨hxI, hkI, t, ht, ht2⟩ := hi c1
      have hhas := c1
      refine me_aload_n (p' := 34) k213_33 rfl rfl ?_
      refine me_gfr (p' := 37) k213_34 rfl (by decide) rfl (b := 128) rfl ?_
      refine me_aload_n (p' := 38) k213_37 rfl rfl ?_
      refine me_gfr (p' := 41) k213_38 rfl (by decide) rfl (b := 130) rfl ?_
      refine me_cs (p' := 44) k213_41 rfl rfl rfl rfl rfl (cl_le mx_214 rfl) (by decide) (cl_sum rfl) (ct_copyAll (by decide) (by decide) rfl rfl (fun k => rfl) (fun k => rfl) (by decide) ?_)
      refine me_aload_n (p' := 45) k213_44 rfl rfl ?_
      refine me_gfr (p' := 48) k213_45 rfl (by decide) rfl (b := 129) rfl ?_
      refine me_aload_n (p' := 49) k213_48 rfl rfl ?_
      refine me_gfr (p' := 52) k213_49 rfl (by decide) rfl (b := 128) rfl ?_
      refine me_cs (p' := 55) k213_52 rfl rfl rfl rfl rfl (cl_le mx_214 rfl) (by decide) (cl_sum rfl) (ct_copyAll (by decide) (by decide) rfl rfl (fun k => rfl) (fun k => rfl) (by decide) ?_)
      refine me_iconst (p' := 56) k213_55 rfl (v := nI 2) (by decide) ?_
      refine me_sipush (p' := 59) k213_56 rfl (v := nI 9999) (by decide) ?_
      refine me_aload_n (p' := 60) k213_59 rfl rfl ?_
      refine me_gfr (p' := 63) k213_60 rfl (by decide) rfl (b := 128) rfl ?_
      refine me_iconst (p' := 64) k213_63 rfl (v := nI 2) (by decide) ?_
      refine me_iald (p' := 65) k213_64 rfl (by decide) rfl (j := 2) rfl (by omega) (by decide) rfl ?_
      rw [show (mw (mw (mg_u I 127 33 (nI 0)) 130 (fun j => if j < 1481 then (mg_u I 127 33 (nI 0)) 128 j else (mg_u I 127 33 (nI 0)) 130 j)) 128 (fun j => if j < 1481 then (mw (mg_u I 127 33 (nI 0)) 130 (fun j => if j < 1481 then (mg_u I 127 33 (nI 0)) 128 j else (mg_u I 127 33 (nI 0)) 130 j)) 129 j else (mw (mg_u I 127 33 (nI 0)) 130 (fun j => if j < 1481 then (mg_u I 127 33 (nI 0)) 128 j else (mg_u I 127 33 (nI 0)) 130 j)) 128 j)) 128 2 = nI t from by rw [mw_eq, if_pos (by decide), mw_ne (by decide), mg_un1 (by decide), ht]]
      have hag : ∀ j, j < 1481 → (mw (mw (mg_u I 127 33 (nI 0)) 130 (fun j => if j < 1481 then (mg_u I 127 33 (nI 0)) 128 j else (mg_u I 127 33 (nI 0)) 130 j)) 128 (fun j => if j < 1481 then (mw (mg_u I 127 33 (nI 0)) 130 (fun j => if j < 1481 then (mg_u I 127 33 (nI 0)) 128 j else (mg_u I 127 33 (nI 0)) 130 j)) 129 j else (mw (mg_u I 127 33 (nI 0)) 130 (fun j => if j < 1481 then (mg_u I 127 33 (nI 0)) 128 j else (mg_u I 127 33 (nI 0)) 130 j)) 128 j)) 128 j = I 129 j := fun j hj => by rw [mw_eq, if_pos hj, mw_ne (by decide), mg_un1 (by decide)]
      have hag3 : ∀ j, 1481 ≤ j → (mw (mw (mg_u I 127 33 (nI 0)) 130 (fun j => if j < 1481 then (mg_u I 127 33 (nI 0)) 128 j else (mg_u I 127 33 (nI 0)) 130 j)) 128 (fun j => if j < 1481 then (mw (mg_u I 127 33 (nI 0)) 130 (fun j => if j < 1481 then (mg_u I 127 33 (nI 0)) 128 j else (mg_u I 127 33 (nI 0)) 130 j)) 129 j else (mw (mg_u I 127 33 (nI 0)) 130 (fun j => if j < 1481 then (mg_u I 127 33 (nI 0)) 128 j else (mg_u I 127 33 (nI 0)) 130 j)) 128 j)) 128 j = (mg_u I 127 33 (nI 0)) 128 j := fun j hj => by rw [mw_eq, if_neg (by omega), mw_ne (by decide)]
      have hb1 : ∀ j, j < 1481 → (mw (mw (mg_u I 127 33 (nI 0)) 130 (fun j => if j < 1481 then (mg_u I 127 33 (nI 0)) 128 j else (mg_u I 127 33 (nI 0)) 130 j)) 128 (fun j => if j < 1481 then (mw (mg_u I 127 33 (nI 0)) 130 (fun j => if j < 1481 then (mg_u I 127 33 (nI 0)) 128 j else (mg_u I 127 33 (nI 0)) 130 j)) 129 j else (mw (mg_u I 127 33 (nI 0)) 130 (fun j => if j < 1481 then (mg_u I 127 33 (nI 0)) 128 j else (mg_u I 127 33 (nI 0)) 130 j)) 128 j)) 130 j = (mg_u I 127 33 (nI 0)) 128 j := fun j hj => by rw [mw_ne (by decide), mw_eq, if_pos hj]
      have hfr1 : mFr [128, 130, 138, 139] (mg_u I 127 33 (nI 0)) (mw (mw (mg_u I 127 33 (nI 0)) 130 (fun j => if j < 1481 then (mg_u I 127 33 (nI 0)) 128 j else (mg_u I 127 33 (nI 0)) 130 j)) 128 (fun j => if j < 1481 then (mw (mg_u I 127 33 (nI 0)) 130 (fun j => if j < 1481 then (mg_u I 127 33 (nI 0)) 128 j else (mg_u I 127 33 (nI 0)) 130 j)) 129 j else (mw (mg_u I 127 33 (nI 0)) 130 (fun j => if j < 1481 then (mg_u I 127 33 (nI 0)) 128 j else (mg_u I 127 33 (nI 0)) 130 j)) 128 j)) := (mFr.w (by decide)).tr (mFr.w (by decide))
      refine me_isub (p' := 66) k213_65 rfl rfl ?_
      refine me_iconst (p' := 67) k213_66 rfl (v := nI 0) (by decide) ?_
      refine me_iload_n (p' := 68) k213_67 rfl rfl ?_
      refine me_cs (p' := 71) k213_68 rfl rfl rfl rfl rfl (cl_le mx_144 rfl) (by decide) (cl_sum rfl) (ct_within ?_)
      rw [mI_wmin ht2 (by omega)]
      refine me_imul (p' := 72) k213_71 rfl (v := nI (2 * (min m (9999 - t)))) (mI_mul _ _) ?_
      refine me_istore_n (p' := 73) k213_72 rfl ⟨Nat.le_of_ble_eq_true rfl, rfl⟩ rfl ?_
      refine me_iconst (p' := 74) k213_73 rfl (v := nI 0) (by decide) ?_
      refine me_istore (p' := 76) k213_74 rfl ⟨Nat.le_of_ble_eq_true rfl, rfl⟩ rfl ?_
      refine me_iconst (p' := 77) k213_76 rfl (v := nI 0) (by decide) ?_
      refine me_istore (p' := 79) k213_77 rfl ⟨Nat.le_of_ble_eq_true rfl, rfl⟩ rfl ?_
      have hD : min m (9999 - t) ≤ 30 := by omega
      have hkB : mOk ((mw (mw (mg_u I 127 33 (nI 0)) 130 (fun j => if j < 1481 then (mg_u I 127 33 (nI 0)) 128 j else (mg_u I 127 33 (nI 0)) 130 j)) 128 (fun j => if j < 1481 then (mw (mg_u I 127 33 (nI 0)) 130 (fun j => if j < 1481 then (mg_u I 127 33 (nI 0)) 128 j else (mg_u I 127 33 (nI 0)) 130 j)) 129 j else (mw (mg_u I 127 33 (nI 0)) 130 (fun j => if j < 1481 then (mg_u I 127 33 (nI 0)) 128 j else (mg_u I 127 33 (nI 0)) 130 j)) 128 j)) 128) n := hkI.ag (fun j hj => hag j (by omega))
      have hE := lp_checkL (d := d) (L := L) (xs := xs) (Q := Q) (I := (mg_u I 127 33 (nI 0))) (T := T) (s := (mw (mw (mg_u I 127 33 (nI 0)) 130 (fun j => if j < 1481 then (mg_u I 127 33 (nI 0)) 128 j else (mg_u I 127 33 (nI 0)) 130 j)) 128 (fun j => if j < 1481 then (mw (mg_u I 127 33 (nI 0)) 130 (fun j => if j < 1481 then (mg_u I 127 33 (nI 0)) 128 j else (mg_u I 127 33 (nI 0)) 130 j)) 129 j else (mw (mg_u I 127 33 (nI 0)) 130 (fun j => if j < 1481 then (mg_u I 127 33 (nI 0)) 128 j else (mg_u I 127 33 (nI 0)) 130 j)) 128 j)) 128) (n := n) (m := m) (w := w) (D := min m (9999 - t)) hkB hw.2 hD hag3 (fun I1 h1 => hxI.kp3 (fun k hk => by rw [h1 k (by unfold mTd; omega), hag k (by omega), mw_eq])) (by rw [mg_une (by decide)]; exact haw) 0 (Nat.zero_le _) (fun K hK1 hK2 => ?_) (Or.inr rfl) _ hfr1 rfl hb1
      · exact hE
      · have := hQ K hK1 (hK2.trans (mg_un (by decide)))
        rw [sp_check, if_pos e392, if_neg hhas, nI_clamp (show m < 2 ^ 31 by omega), ht, nI_clamp (show t < 2 ^ 31 by omega)] at this
        rw [Nat.sub_zero, sp_tld_ag (s := I 129) (fun j hj => hag j (by omega)) hkI, show (mg_u I 127 33 (nI 0)) 148 = I 148 from mg_un (by decide)]
        exact this
  · skip
    refine me_if_ne (p' := 20) k213_17 rfl (fun _ => ?_) (fun h => absurd (by decide) h)
    refine me_ldc (p' := 22) k213_20 rfl (v := (-1000000001)) (by decide) ?_
    refine me_reti k213_22 rt_213 rfl ?_
    simp only [sp_check, if_neg e392, if_true, if_false, true_and, and_true, and_self] at hQ
    exact hQ _ mFr.rf (mg_un (by decide))
