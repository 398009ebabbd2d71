/-! ===== from the law's entry to its end ===== -/
theorem law_start {p : Program} {e : Env} {s : State} {m : MethodId} {below : List Frame} {meth : Method} {c : Code} (l : Launch) {b L : Nat} {xs : Nat → Int32} (hL : L ≤ 3072) (C0 : lw_At p s m meth c b L xs) {Z : State → Prop} {tc : Nat → Nat} (hZ : mj_ZZ (s.heap.size, b, tc) Z) (hTX : ∀ K, mj_TX l (s.heap.size, b, tc) K Z) (hz : Z s) (hall : ∀ y, y < 220 → mj_mok y = true) : W p l e room_1 s m #[Value.ref b] below meth c s.heap [] 0 0 (lw_Z below #[Value.ref b] s) (entryFrame m ([Value.ref b] : List Value).toArray 4) := by
  obtain ⟨hx, hb, hr, hml, hown, hts, hX, hbl, hlocks, hgv⟩ := id C0
  have hT : ∀ w ∈ mj_T, w.before #[Value.ref b] s = true := fun w hw => hts w (List.mem_filter.mp hw).1
  have hO : va_AO "GhostTrain$CarKind" s ∧ va_AO "GhostTrain$Text" s ∧ va_AO "GhostTrain$Sheet" s ∧ va_AO "GhostTrain$Slot" s := ⟨va_AO.of (hts _ mj_AO_in.1), va_AO.of (hts _ mj_AO_in.2.1), va_AO.of (hts _ mj_AO_in.2.2.1), va_AO.of (hts _ mj_AO_in.2.2.2.1)⟩
  have hA : mj_AOA .int s := hts _ mj_AO_in.2.2.2.2
  obtain ⟨ka, hka⟩ := mj_arrs hts hT hA hO
  obtain ⟨D, hD⟩ := mj_clss hT
  have hF : mj_F (s.heap.size, b, tc) (D, ka, L, xs) Z s := by
    refine ⟨⟨hD, fun k q hk => ?_⟩, fun w hw => va_tabs (mj_nw_in hw).2 rfl (hts w (mj_nw_in hw).1), ⟨hO.1, hO.2.1, hO.2.2.1, hO.2.2.2, hA⟩, hX, hbl, hz⟩
    have hk8 : k < 8 := by
      have := (List.getElem?_eq_some_iff.mp hk).1
      unfold mj_tys at this
      rw [List.length_map, List.length_range] at this
      exact this
    unfold mj_tys at hk
    rw [List.getElem?_map, List.getElem?_range hk8] at hk
    cases hk
    exact hka k hk8
  have hCx : mj_Cx l (s.heap.size, b, tc) (D, ka, L, xs) Z 219 p s m #[Value.ref b] meth c := ⟨hx, hb, by rw [mx_219]; exact hml, by rw [mj_own_law]; exact hown, hT, hF, fun h => absurd (mj_nm_law.symm.trans h) (by decide)⟩
  have E : mE L xs hC0 (0, 0, fun i => if i = mj_X then (20, L) else (99, 0), fun i k => if i = mj_X then .int (xs k) else .int 0) := ⟨rfl, rfl, Nat.zero_le _, fun i hi => absurd hi (Nat.not_lt_zero i), by dsimp only; rw [if_pos rfl], fun k => by dsimp only; rw [if_pos rfl], Or.inl rfl⟩
  have hWh : mj_Wh (s.heap.size, b, tc) (D, ka, L, xs) (0, 0, fun i => if i = mj_X then (20, L) else (99, 0), fun i k => if i = mj_X then .int (xs k) else .int 0) s.heap := ⟨rfl, Nat.zero_le _, ⟨by dsimp only; rw [if_pos rfl], fun j _ => by dsimp only; rw [if_pos rfl]⟩, fun i hi => absurd hi (Nat.not_lt_zero i)⟩
  obtain ⟨k, r, h1, hrun, hr1, hn1, hs1⟩ := law_ev hL E
  subst hr1
  have hl := lv_entry ([.ref b]) (n := 4) (Nat.le_of_ble_eq_true rfl)
  rw [lg_entry_eq]
  generalize (lg_sl ([.ref b]) ++ List.replicate (4 - (lg_sl ([.ref b])).length) Slot.unset).toArray = lsr at hl ⊢
  have hl : lv_has lsr 4 [(0, .ref b)] := hl
  have hlok : mj_lok (s.heap.size, b, tc) lsr [.ref mj_X, mj_no, mj_no, mj_no] := by
    refine ⟨hl.1, hl.2.1, fun i v hv hn => ?_⟩
    match i, hv with
    | 0, hv => cases hv; rw [mj_adX]; exact hl.2.2 (0, .ref b) List.mem_cons_self
    | 1, hv => cases hv; cases hn
    | 2, hv => cases hv; cases hn
    | 3, hv => cases hv; cases hn
    | i + 4, hv => cases hv
  refine mj_run_ok hZ (mj_MA_ok l _ _ Z) (hTX _) hall k 96 219 0 _ [] _ _ h1 hrun (by decide) (by rw [mx_219]; rfl) p e room_1 s m #[Value.ref b] below meth c s.heap [] 0 0 _ lsr hCx hlok hWh (fun _ _ => rfl) (fun x hx => absurd hx List.not_mem_nil) (by decide) (by decide) (by rw [hn1]; dsimp only; decide) (by rw [hs1]; dsimp only; decide) (fun pc' lsr' st' H' locs' he hW' hlow hlo => ?_)
  obtain ⟨en, e1, e2⟩ := he
  obtain ⟨hd, hk⟩ := mj_at (hall 219 (by decide)) e1
  obtain ⟨ins, ln, ea, eb⟩ := en
  have hin : ins = .ireturn ∧ st' = [.int (nI 1)] := by
    rw [rt_219] at e2
    unfold mj_ret at e2
    dsimp only at e2
    split at e2
    · split at e2
      · split at e2
        · rename_i v t _ _
          cases e2
          exact ⟨rfl, rfl⟩
        · cases e2
      · cases e2
    · split at e2
      · rename_i hh; cases hh
      · cases e2
    · split at e2
      · cases e2
      · cases e2
      · cases e2
    · split at e2
      · rename_i hh; cases hh
      · cases e2
    · cases e2
  obtain ⟨rfl, rfl⟩ := hin
  obtain rfl : ln = 1 := by simpa [mj_chk] using hk
  refine W.widen (k := 600000) (n := 7302250) (by rw [hn1]; dsimp only; decide) (by rw [hs1]; dsimp only; decide) ?_
  refine va_forget hlo ?_
  exact lw_ret hx hb hr hlocks hd
