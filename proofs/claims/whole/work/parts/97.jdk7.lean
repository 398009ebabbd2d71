/-! ===== the JDK's text members: String.indexOf ===== -/
def jw_ix2 : List Cond := [.code yJ0_indexOf_7cf53 cJ0_indexOf_7cf53 3 (some .int), .fieldLink "java/lang/String" 9 "java/lang/String" "value" "[B"] ++ wsV "java/lang/String" 492 "java/lang/String" yJ0_isLatin1_aae02 jw_isLatin1 ++ wsV "java/lang/String" 505 "java/lang/String" yJ0_length_8abf5 jw_length ++ va_wsS "java/lang/String" 637 yJ1_indexOf_4cfef jw_lio
theorem jg_ix21 : GoodIn jw_ix2 (wsV "java/lang/String" 492 "java/lang/String" yJ0_isLatin1_aae02 jw_isLatin1) := goodIn_p _ [6] rfl (by decide +kernel)
theorem jg_ix22 : GoodIn jw_ix2 (wsV "java/lang/String" 505 "java/lang/String" yJ0_length_8abf5 jw_length) := goodIn_p _ [13, 19] rfl (by decide +kernel)
theorem jg_ix23 : GoodIn jw_ix2 (va_wsS "java/lang/String" 637 yJ1_indexOf_4cfef jw_lio) := goodIn_p _ [25, 29, 33, 37, 41] rfl (by decide +kernel)
theorem jd_ix2_0 : decode cJ0_indexOf_7cf53 0 = .ok (.aload_n 0, 1) := by decide +kernel
theorem jd_ix2_1 : decode cJ0_indexOf_7cf53 1 = .ok (.invokevirtual 492, 3) := by decide +kernel
theorem jd_ix2_4 : decode cJ0_indexOf_7cf53 4 = .ok (.ifCond .eq 19, 3) := by decide +kernel
theorem jd_ix2_7 : decode cJ0_indexOf_7cf53 7 = .ok (.aload_n 0, 1) := by decide +kernel
theorem jd_ix2_8 : decode cJ0_indexOf_7cf53 8 = .ok (.getfield 9, 3) := by decide +kernel
theorem jd_ix2_11 : decode cJ0_indexOf_7cf53 11 = .ok (.iload_n 1, 1) := by decide +kernel
theorem jd_ix2_12 : decode cJ0_indexOf_7cf53 12 = .ok (.iload_n 2, 1) := by decide +kernel
theorem jd_ix2_13 : decode cJ0_indexOf_7cf53 13 = .ok (.aload_n 0, 1) := by decide +kernel
theorem jd_ix2_14 : decode cJ0_indexOf_7cf53 14 = .ok (.invokevirtual 505, 3) := by decide +kernel
theorem jd_ix2_17 : decode cJ0_indexOf_7cf53 17 = .ok (.invokestatic 637, 3) := by decide +kernel
theorem jd_ix2_20 : decode cJ0_indexOf_7cf53 20 = .ok (.goto 16, 3) := by decide +kernel
theorem jd_ix2_36 : decode cJ0_indexOf_7cf53 36 = .ok (.ireturn, 1) := by decide +kernel
set_option maxHeartbeats 4000000 in
set_option maxRecDepth 100000 in
theorem jc_ix2 (l : Launch) (g : mj_G) (adV : Nat → Nat) (fm : Value) (Hf : Heap) (i : Nat) (hi : i < 14) (x : Int32) : Met l yJ0_indexOf_7cf53 jw_ix2 ({ frames := 2, cells := 0, slots := 0, locals := 48 }) (va_Pc [.ref (g.2.2 i), .int x, .int 0] (jP g adV fm Hf)) (va_Qi (fun (r : Int32) (_ : Unit) => r = mj_find x (mj_txt.getD i []) 0) (fun _ t => t.heap = Hf) jN) 0 0 jN := by
  refine Met.ofW (cc := cJ0_indexOf_7cf53) (maxL := 3) (ret := (some .int)) (by decide) rfl ?_
  intro p e s m args below meth c s₁ B hml hv
  obtain ⟨rfl, hP⟩ := hv
  have hz := hP.1
  have hH := hP.2
  have hx := B.exec
  have hb := B.bytes
  have hr := B.returns
  have hts := atoms_spec (ws := jw_ix2) B.pre
  have hown : s.vm.findClass "java/lang/String" = some m.cls := findClass_of_methodNamed B.named
  have hlocks := B.notSynchronized
  have hS : va_S (jA g) s.heap s.heap [] := va_S.rf
  have hN : va_S jN s.heap s.heap [] := va_S.rf
  have hl := lv_entry ([.ref (g.2.2 i), .int x, .int 0]) (n := 3) (Nat.le_of_ble_eq_true rfl)
  rw [lg_entry_eq]
  generalize (lg_sl ([.ref (g.2.2 i), .int x, .int 0]) ++ List.replicate (3 - (lg_sl ([.ref (g.2.2 i), .int x, .int 0])).length) Slot.unset).toArray = ls at hl ⊢
  have hl : lv_has ls 3 [(0, .ref (g.2.2 i)), (1, .int x), (2, .int 0)] := hl
  refine lv_aload_n hx hb jd_ix2_0 rfl (lv_at hl 0 rfl) ?_
  refine j_calli (va_runV (As := []) (rest := []) ⟨hx, hb, hml, hown, hts⟩ (jc_isLatin1 l g adV fm Hf i hi) (cwV 0 hts jg_ix21 rfl rfl rfl (by decide +kernel) ⟨Nat.le_of_ble_eq_true rfl, Nat.le_of_ble_eq_true rfl⟩) ⟨fun a U g' mk q => ⟨q.1, q.2.calling rfl rfl⟩, vk_recv hz.1 hi hS, fun U hU hW => ⟨rfl, hP.at hU hW⟩⟩ rfl rfl hl.1 rfl (lv_room (Nat.le_of_ble_eq_true rfl)) jd_ix2_1 ⟨Nat.le_refl _, Nat.le_refl _⟩) hH.symm (fun r _ hw => ?_)
  subst hw
  refine lv_if_eq (tgt := 23) hx hb jd_ix2_4 (by decide) (fun h => absurd h (by decide)) (fun _ => ?_)
  refine lv_aload_n hx hb jd_ix2_7 rfl (lv_at hl 0 rfl) ?_
  refine vk_getf (A := jA g) hx hb (hz.1.1 i hi).2.2.1 hS hown (hts (.fieldLink "java/lang/String" 9 "java/lang/String" "value" "[B") (by decide +kernel)) (fun _ h => h) jd_ix2_8 ?_
  refine lv_iload_n hx hb jd_ix2_11 rfl (lv_at hl 1 rfl) ?_
  refine lv_iload_n hx hb jd_ix2_12 rfl (lv_at hl 2 rfl) ?_
  refine lv_aload_n hx hb jd_ix2_13 rfl (lv_at hl 0 rfl) ?_
  refine j_calli (va_runV (As := []) (rest := [.int 0, .int x, .ref (adV i)]) ⟨hx, hb, hml, hown, hts⟩ (jc_length l g adV fm Hf i hi) (cwV 0 hts jg_ix22 rfl rfl rfl (by decide +kernel) ⟨Nat.le_of_ble_eq_true rfl, Nat.le_of_ble_eq_true rfl⟩) ⟨fun a U g' mk q => ⟨q.1, q.2.calling rfl rfl⟩, vk_recv hz.1 hi hS, fun U hU hW => ⟨rfl, hP.at hU hW⟩⟩ rfl rfl hl.1 rfl (lv_room (Nat.le_of_ble_eq_true rfl)) jd_ix2_14 ⟨Nat.le_refl _, Nat.le_refl _⟩) hH.symm (fun r _ hw => ?_)
  subst hw
  refine j_calli (va_runS (As := [.ref (adV i), .int x, .int 0, .int (nI (tLen.getD i 0))]) (rest := []) ⟨hx, hb, hml, hown, hts⟩ (jc_lio l g adV fm Hf i hi x) (va_cwS 4 hts jg_ix23 rfl rfl rfl (by decide +kernel) ⟨Nat.le_of_ble_eq_true rfl, Nat.le_of_ble_eq_true rfl⟩) ⟨fun a U g' mk q => ⟨q.1, q.2.calling rfl rfl⟩, fun U hU hW => ⟨rfl, hP.at hU hW⟩⟩ rfl rfl hl.1 rfl (lv_room (Nat.le_of_ble_eq_true rfl)) jd_ix2_17 ⟨Nat.le_refl _, Nat.le_refl _⟩) hH.symm (fun r _ hw => ?_)
  subst hw
  refine lv_goto (tgt := 36) hx hb jd_ix2_20 (by decide) ?_
  exact W.iret hx hb hr (fun t ht hW => ⟨⟨_, (), rfl, rfl, ht.trans hH⟩, hN.F ht⟩) hN.2.2 jd_ix2_36
def jw_ix1 : List Cond := [.code yJ0_indexOf_0f7a4 cJ0_indexOf_0f7a4 2 (some .int)] ++ wsV "java/lang/String" 633 "java/lang/String" yJ0_indexOf_7cf53 jw_ix2
theorem jg_ix1 : GoodIn jw_ix1 (wsV "java/lang/String" 633 "java/lang/String" yJ0_indexOf_7cf53 jw_ix2) := goodIn_p _ [5, 11, 18, 24, 30, 34, 38, 42, 46] rfl (by decide +kernel)
theorem jd_ix1_0 : decode cJ0_indexOf_0f7a4 0 = .ok (.aload_n 0, 1) := by decide +kernel
theorem jd_ix1_1 : decode cJ0_indexOf_0f7a4 1 = .ok (.iload_n 1, 1) := by decide +kernel
theorem jd_ix1_2 : decode cJ0_indexOf_0f7a4 2 = .ok (.iconst 0, 1) := by decide +kernel
theorem jd_ix1_3 : decode cJ0_indexOf_0f7a4 3 = .ok (.invokevirtual 633, 3) := by decide +kernel
theorem jd_ix1_6 : decode cJ0_indexOf_0f7a4 6 = .ok (.ireturn, 1) := by decide +kernel
set_option maxHeartbeats 4000000 in
set_option maxRecDepth 100000 in
theorem jc_ix1 (l : Launch) (g : mj_G) (adV : Nat → Nat) (fm : Value) (Hf : Heap) (i : Nat) (hi : i < 14) (x : Int32) : Met l yJ0_indexOf_0f7a4 jw_ix1 ({ frames := 3, cells := 0, slots := 0, locals := 70 }) (va_Pc [.ref (g.2.2 i), .int x] (jP g adV fm Hf)) (va_Qi (fun (r : Int32) (_ : Unit) => r = mj_find x (mj_txt.getD i []) 0) (fun _ t => t.heap = Hf) jN) 0 0 jN := by
  refine Met.ofW (cc := cJ0_indexOf_0f7a4) (maxL := 2) (ret := (some .int)) (by decide) rfl ?_
  intro p e s m args below meth c s₁ B hml hv
  obtain ⟨rfl, hP⟩ := hv
  have hz := hP.1
  have hH := hP.2
  have hx := B.exec
  have hb := B.bytes
  have hr := B.returns
  have hts := atoms_spec (ws := jw_ix1) B.pre
  have hown : s.vm.findClass "java/lang/String" = some m.cls := findClass_of_methodNamed B.named
  have hlocks := B.notSynchronized
  have hS : va_S (jA g) s.heap s.heap [] := va_S.rf
  have hN : va_S jN s.heap s.heap [] := va_S.rf
  have hl := lv_entry ([.ref (g.2.2 i), .int x]) (n := 2) (Nat.le_of_ble_eq_true rfl)
  rw [lg_entry_eq]
  generalize (lg_sl ([.ref (g.2.2 i), .int x]) ++ List.replicate (2 - (lg_sl ([.ref (g.2.2 i), .int x])).length) Slot.unset).toArray = ls at hl ⊢
  have hl : lv_has ls 2 [(0, .ref (g.2.2 i)), (1, .int x)] := hl
  refine lv_aload_n hx hb jd_ix1_0 rfl (lv_at hl 0 rfl) ?_
  refine lv_iload_n hx hb jd_ix1_1 rfl (lv_at hl 1 rfl) ?_
  refine lv_iconst (v := 0) hx hb jd_ix1_2 (by decide) ?_
  refine j_calli (va_runV (As := [.int x, .int 0]) (rest := []) ⟨hx, hb, hml, hown, hts⟩ (jc_ix2 l g adV fm Hf i hi x) (cwV 2 hts jg_ix1 rfl rfl rfl (by decide +kernel) ⟨Nat.le_of_ble_eq_true rfl, Nat.le_of_ble_eq_true rfl⟩) ⟨fun a U g' mk q => ⟨q.1, q.2.calling rfl rfl⟩, vk_recv hz.1 hi hS, fun U hU hW => ⟨rfl, hP.at hU hW⟩⟩ rfl rfl hl.1 rfl (lv_room (Nat.le_of_ble_eq_true rfl)) jd_ix1_3 ⟨Nat.le_refl _, Nat.le_refl _⟩) hH.symm (fun r _ hw => ?_)
  subst hw
  exact W.iret hx hb hr (fun t ht hW => ⟨⟨_, (), rfl, rfl, ht.trans hH⟩, hN.F ht⟩) hN.2.2 jd_ix1_6
