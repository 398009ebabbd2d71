/-! ===== the JDK's text members: canEncode ===== -/
def jw_enc : List Cond := [.code yJ1_canEncode_9a6ad cJ1_canEncode_9a6ad 1 (some .boolean)]
theorem jd_enc_0 : decode cJ1_canEncode_9a6ad 0 = .ok (.iload_n 0, 1) := by decide +kernel
theorem jd_enc_1 : decode cJ1_canEncode_9a6ad 1 = .ok (.ifCond .lt 14, 3) := by decide +kernel
theorem jd_enc_4 : decode cJ1_canEncode_9a6ad 4 = .ok (.iload_n 0, 1) := by decide +kernel
theorem jd_enc_5 : decode cJ1_canEncode_9a6ad 5 = .ok (.sipush 255, 3) := by decide +kernel
theorem jd_enc_8 : decode cJ1_canEncode_9a6ad 8 = .ok (.if_icmp .gt 7, 3) := by decide +kernel
theorem jd_enc_11 : decode cJ1_canEncode_9a6ad 11 = .ok (.iconst 1, 1) := by decide +kernel
theorem jd_enc_12 : decode cJ1_canEncode_9a6ad 12 = .ok (.goto 4, 3) := by decide +kernel
theorem jd_enc_15 : decode cJ1_canEncode_9a6ad 15 = .ok (.iconst 0, 1) := by decide +kernel
theorem jd_enc_16 : decode cJ1_canEncode_9a6ad 16 = .ok (.ireturn, 1) := by decide +kernel
set_option maxHeartbeats 4000000 in
set_option maxRecDepth 100000 in
theorem jc_enc (l : Launch) (g : mj_G) (x : Int32) : Met l yJ1_canEncode_9a6ad jw_enc ({ frames := 0, cells := 0, slots := 0, locals := 0 }) (va_Pc [.int x] (fun _ => True)) (va_Qi (fun (r : Int32) (_ : Unit) => r = if ¬ x < 0 ∧ ¬ (255 : Int32) < x then 1 else 0) (fun _ _ => True) (jA g)) 0 0 (jA g) := by
  refine Met.ofW (cc := cJ1_canEncode_9a6ad) (maxL := 1) (ret := (some .boolean)) (by decide) rfl ?_
  intro p e s m args below meth c s₁ B hml hv
  obtain ⟨rfl, -⟩ := hv
  have hx := B.exec
  have hb := B.bytes
  have hr := B.returns
  have hlocks := B.notSynchronized
  have hS : va_S (jA g) s.heap s.heap [] := va_S.rf
  have hl := lv_entry ([.int x]) (n := 1) (Nat.le_of_ble_eq_true rfl)
  rw [lg_entry_eq]
  generalize (lg_sl ([.int x]) ++ List.replicate (1 - (lg_sl ([.int x])).length) Slot.unset).toArray = ls at hl ⊢
  have hl : lv_has ls 1 [(0, .int x)] := hl
  refine lv_iload_n hx hb jd_enc_0 rfl (lv_at hl 0 rfl) ?_
  refine lv_if_lt (tgt := 15) hx hb jd_enc_1 (by decide) (fun h1 => ?_) (fun h1 => ?_)
  · refine lv_iconst (v := 0) hx hb jd_enc_15 (by decide) ?_
    exact W.zret (v := 0) hx hb hr (by decide) (fun t ht hW => ⟨⟨_, (), rfl, (if_neg (fun z => z.1 h1)).symm, trivial⟩, hS.F ht⟩) hS.2.2 jd_enc_16 hlocks
  refine lv_iload_n hx hb jd_enc_4 rfl (lv_at hl 0 rfl) ?_
  refine lv_sipush (v := 255) hx hb jd_enc_5 (by decide) ?_
  refine lv_icmp_gt (tgt := 15) hx hb jd_enc_8 (by decide) (fun h2 => ?_) (fun h2 => ?_)
  · refine lv_iconst (v := 0) hx hb jd_enc_15 (by decide) ?_
    exact W.zret (v := 0) hx hb hr (by decide) (fun t ht hW => ⟨⟨_, (), rfl, (if_neg (fun z => z.2 h2)).symm, trivial⟩, hS.F ht⟩) hS.2.2 jd_enc_16 hlocks
  refine lv_iconst (v := 1) hx hb jd_enc_11 (by decide) ?_
  refine lv_goto (tgt := 16) hx hb jd_enc_12 (by decide) ?_
  exact W.zret (v := 1) hx hb hr (by decide) (fun t ht hW => ⟨⟨_, (), rfl, (if_pos ⟨h1, h2⟩).symm, trivial⟩, hS.F ht⟩) hS.2.2 jd_enc_16 hlocks
