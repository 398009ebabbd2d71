/-! ===== the JDK's text members: checkIndex ===== -/
def jw_pci : List Cond := [.code yJ3_checkIndex_8e157 cJ3_checkIndex_8e157 3 (some .int)]
theorem jd_pci_0 : decode cJ3_checkIndex_8e157 0 = .ok (.iload_n 0, 1) := by decide +kernel
theorem jd_pci_1 : decode cJ3_checkIndex_8e157 1 = .ok (.ifCond .lt 8, 3) := by decide +kernel
theorem jd_pci_4 : decode cJ3_checkIndex_8e157 4 = .ok (.iload_n 0, 1) := by decide +kernel
theorem jd_pci_5 : decode cJ3_checkIndex_8e157 5 = .ok (.iload_n 1, 1) := by decide +kernel
theorem jd_pci_6 : decode cJ3_checkIndex_8e157 6 = .ok (.if_icmp .lt 10, 3) := by decide +kernel
theorem jd_pci_16 : decode cJ3_checkIndex_8e157 16 = .ok (.iload_n 0, 1) := by decide +kernel
theorem jd_pci_17 : decode cJ3_checkIndex_8e157 17 = .ok (.ireturn, 1) := by decide +kernel
set_option maxHeartbeats 4000000 in
set_option maxRecDepth 100000 in
theorem jc_pci_n (l : Launch) (g : mj_G) (Hf : Heap) (k n : Nat) (hk : k < n) (hn : n < 2 ^ 31) : Met l yJ3_checkIndex_8e157 jw_pci ({ frames := 0, cells := 0, slots := 0, locals := 0 }) (va_Pc [.int (nI k), .int (nI n), .null] (fun U : State => U.heap = Hf)) (va_Qi (fun (r : Int32) (_ : Unit) => r = nI k) (fun _ t => t.heap = Hf) jN) 0 0 jN := by
  refine Met.ofW (cc := cJ3_checkIndex_8e157) (maxL := 3) (ret := (some .int)) (by decide) rfl ?_
  intro p e s m args below meth c s₁ B hml hv
  obtain ⟨rfl, hH⟩ := hv
  have hx := B.exec
  have hb := B.bytes
  have hr := B.returns
  have hlocks := B.notSynchronized
  have hS : va_S (jA g) s.heap s.heap [] := va_S.rf
  have hN : va_S jN s.heap s.heap [] := va_S.rf
  have hl := lv_entry ([.int (nI k), .int (nI n), .null]) (n := 3) (Nat.le_of_ble_eq_true rfl)
  rw [lg_entry_eq]
  generalize (lg_sl ([.int (nI k), .int (nI n), .null]) ++ List.replicate (3 - (lg_sl ([.int (nI k), .int (nI n), .null])).length) Slot.unset).toArray = ls at hl ⊢
  have hl : lv_has ls 3 [(0, .int (nI k)), (1, .int (nI n)), (2, .null)] := hl
  refine lv_iload_n hx hb jd_pci_0 rfl (lv_at hl 0 rfl) ?_
  refine lv_if_lt (tgt := 9) hx hb jd_pci_1 (by decide) (fun h => absurd h (nI_pos (by omega))) (fun _ => ?_)
  refine lv_iload_n hx hb jd_pci_4 rfl (lv_at hl 0 rfl) ?_
  refine lv_iload_n hx hb jd_pci_5 rfl (lv_at hl 1 rfl) ?_
  refine lv_icmp_lt (tgt := 16) hx hb jd_pci_6 (by decide) (fun _ => ?_) (fun h => absurd ((cI_lt (by omega) hn).mpr hk) h)
  refine lv_iload_n hx hb jd_pci_16 rfl (lv_at hl 0 rfl) ?_
  exact W.iret (v := nI k) hx hb hr (fun t ht hW => ⟨⟨_, (), rfl, rfl, ht.trans hH⟩, hN.F ht⟩) hN.2.2 jd_pci_17
set_option maxHeartbeats 4000000 in
set_option maxRecDepth 100000 in
theorem jc_pci_r (l : Launch) (g : mj_G) (Hf : Heap) (f : Nat) (k n : Nat) (hk : k < n) (hn : n < 2 ^ 31) : Met l yJ3_checkIndex_8e157 jw_pci ({ frames := 0, cells := 0, slots := 0, locals := 0 }) (va_Pc [.int (nI k), .int (nI n), .ref f] (fun U : State => U.heap = Hf)) (va_Qi (fun (r : Int32) (_ : Unit) => r = nI k) (fun _ t => t.heap = Hf) jN) 0 0 jN := by
  refine Met.ofW (cc := cJ3_checkIndex_8e157) (maxL := 3) (ret := (some .int)) (by decide) rfl ?_
  intro p e s m args below meth c s₁ B hml hv
  obtain ⟨rfl, hH⟩ := hv
  have hx := B.exec
  have hb := B.bytes
  have hr := B.returns
  have hlocks := B.notSynchronized
  have hS : va_S (jA g) s.heap s.heap [] := va_S.rf
  have hN : va_S jN s.heap s.heap [] := va_S.rf
  have hl := lv_entry ([.int (nI k), .int (nI n), .ref f]) (n := 3) (Nat.le_of_ble_eq_true rfl)
  rw [lg_entry_eq]
  generalize (lg_sl ([.int (nI k), .int (nI n), .ref f]) ++ List.replicate (3 - (lg_sl ([.int (nI k), .int (nI n), .ref f])).length) Slot.unset).toArray = ls at hl ⊢
  have hl : lv_has ls 3 [(0, .int (nI k)), (1, .int (nI n)), (2, .ref f)] := hl
  refine lv_iload_n hx hb jd_pci_0 rfl (lv_at hl 0 rfl) ?_
  refine lv_if_lt (tgt := 9) hx hb jd_pci_1 (by decide) (fun h => absurd h (nI_pos (by omega))) (fun _ => ?_)
  refine lv_iload_n hx hb jd_pci_4 rfl (lv_at hl 0 rfl) ?_
  refine lv_iload_n hx hb jd_pci_5 rfl (lv_at hl 1 rfl) ?_
  refine lv_icmp_lt (tgt := 16) hx hb jd_pci_6 (by decide) (fun _ => ?_) (fun h => absurd ((cI_lt (by omega) hn).mpr hk) h)
  refine lv_iload_n hx hb jd_pci_16 rfl (lv_at hl 0 rfl) ?_
  exact W.iret (v := nI k) hx hb hr (fun t ht hW => ⟨⟨_, (), rfl, rfl, ht.trans hH⟩, hN.F ht⟩) hN.2.2 jd_pci_17
def jw_sci : List Cond := [.code yJ0_checkIndex_df160 cJ0_checkIndex_df160 2 none, .fieldLink "java/lang/String" 1053 "jdk/internal/util/Preconditions" "SIOOBE_FORMATTER" "Ljava/util/function/BiFunction;"] ++ va_wsS "java/lang/String" 1059 yJ3_checkIndex_8e157 jw_pci
theorem jg_sci : GoodIn jw_sci (va_wsS "java/lang/String" 1059 yJ3_checkIndex_8e157 jw_pci) := goodIn_p _ [5] rfl (by decide +kernel)
theorem jd_sci_0 : decode cJ0_checkIndex_df160 0 = .ok (.iload_n 0, 1) := by decide +kernel
theorem jd_sci_1 : decode cJ0_checkIndex_df160 1 = .ok (.iload_n 1, 1) := by decide +kernel
theorem jd_sci_2 : decode cJ0_checkIndex_df160 2 = .ok (.getstatic 1053, 3) := by decide +kernel
theorem jd_sci_5 : decode cJ0_checkIndex_df160 5 = .ok (.invokestatic 1059, 3) := by decide +kernel
theorem jd_sci_8 : decode cJ0_checkIndex_df160 8 = .ok (.pop, 1) := by decide +kernel
theorem jd_sci_9 : decode cJ0_checkIndex_df160 9 = .ok (.return_, 1) := by decide +kernel
set_option maxHeartbeats 4000000 in
set_option maxRecDepth 100000 in
theorem jc_sci_n (l : Launch) (g : mj_G) (adV : Nat → Nat) (Hf : Heap) (k n : Nat) (hk : k < n) (hn : n < 2 ^ 31) : Met l yJ0_checkIndex_df160 jw_sci ({ frames := 1, cells := 0, slots := 0, locals := 22 }) (va_Pc [.int (nI k), .int (nI n)] (jP g adV (.null) Hf)) (va_Qv (fun (_ : Unit) => True) (fun _ t => t.heap = Hf) jN) 0 0 jN := by
  refine Met.ofW (cc := cJ0_checkIndex_df160) (maxL := 2) (ret := none) (by decide) rfl ?_
  intro p e s m args below meth c s₁ B hml hv
  obtain ⟨rfl, hP⟩ := hv
  have hz := hP.1
  have hH := hP.2
  have hx := B.exec
  have hb := B.bytes
  have hr := B.returns
  have hts := atoms_spec (ws := jw_sci) B.pre
  have hown : s.vm.findClass "java/lang/String" = some m.cls := findClass_of_methodNamed B.named
  have hlocks := B.notSynchronized
  have hS : va_S (jA g) s.heap s.heap [] := va_S.rf
  have hN : va_S jN s.heap s.heap [] := va_S.rf
  have hl := lv_entry ([.int (nI k), .int (nI n)]) (n := 2) (Nat.le_of_ble_eq_true rfl)
  rw [lg_entry_eq]
  generalize (lg_sl ([.int (nI k), .int (nI n)]) ++ List.replicate (2 - (lg_sl ([.int (nI k), .int (nI n)])).length) Slot.unset).toArray = ls at hl ⊢
  have hl : lv_has ls 2 [(0, .int (nI k)), (1, .int (nI n))] := hl
  refine lv_iload_n hx hb jd_sci_0 rfl (lv_at hl 0 rfl) ?_
  refine lv_iload_n hx hb jd_sci_1 rfl (lv_at hl 1 rfl) ?_
  refine va_gets (A := jA g) hx hb hz.2.2.2 hS hown (hts (.fieldLink "java/lang/String" 1053 "jdk/internal/util/Preconditions" "SIOOBE_FORMATTER" "Ljava/util/function/BiFunction;") (by decide +kernel)) (fun _ h => h) jd_sci_2 ?_
  refine j_calli (va_runS (As := [.int (nI k), .int (nI n), .null]) (rest := []) ⟨hx, hb, hml, hown, hts⟩ (jc_pci_n l g Hf k n hk hn) (va_cwS 3 hts jg_sci rfl rfl rfl (by decide +kernel) ⟨Nat.le_of_ble_eq_true rfl, Nat.le_of_ble_eq_true rfl⟩) ⟨fun a U g' mk q => ⟨q.1, q.2⟩, fun U hU hW => ⟨rfl, hU.trans hH⟩⟩ rfl rfl hl.1 rfl (lv_room (Nat.le_of_ble_eq_true rfl)) jd_sci_5 ⟨Nat.le_refl _, Nat.le_refl _⟩) hH.symm (fun r _ hw => ?_)
  refine lv_pop hx hb jd_sci_8 rfl ?_
  exact W.vret hx hb hr (fun t ht hW => ⟨⟨(), rfl, trivial, ht.trans hH⟩, hN.F ht⟩) hN.2.2 jd_sci_9
set_option maxHeartbeats 4000000 in
set_option maxRecDepth 100000 in
theorem jc_sci_r (l : Launch) (g : mj_G) (adV : Nat → Nat) (Hf : Heap) (f : Nat) (k n : Nat) (hk : k < n) (hn : n < 2 ^ 31) : Met l yJ0_checkIndex_df160 jw_sci ({ frames := 1, cells := 0, slots := 0, locals := 22 }) (va_Pc [.int (nI k), .int (nI n)] (jP g adV (.ref f) Hf)) (va_Qv (fun (_ : Unit) => True) (fun _ t => t.heap = Hf) jN) 0 0 jN := by
  refine Met.ofW (cc := cJ0_checkIndex_df160) (maxL := 2) (ret := none) (by decide) rfl ?_
  intro p e s m args below meth c s₁ B hml hv
  obtain ⟨rfl, hP⟩ := hv
  have hz := hP.1
  have hH := hP.2
  have hx := B.exec
  have hb := B.bytes
  have hr := B.returns
  have hts := atoms_spec (ws := jw_sci) B.pre
  have hown : s.vm.findClass "java/lang/String" = some m.cls := findClass_of_methodNamed B.named
  have hlocks := B.notSynchronized
  have hS : va_S (jA g) s.heap s.heap [] := va_S.rf
  have hN : va_S jN s.heap s.heap [] := va_S.rf
  have hl := lv_entry ([.int (nI k), .int (nI n)]) (n := 2) (Nat.le_of_ble_eq_true rfl)
  rw [lg_entry_eq]
  generalize (lg_sl ([.int (nI k), .int (nI n)]) ++ List.replicate (2 - (lg_sl ([.int (nI k), .int (nI n)])).length) Slot.unset).toArray = ls at hl ⊢
  have hl : lv_has ls 2 [(0, .int (nI k)), (1, .int (nI n))] := hl
  refine lv_iload_n hx hb jd_sci_0 rfl (lv_at hl 0 rfl) ?_
  refine lv_iload_n hx hb jd_sci_1 rfl (lv_at hl 1 rfl) ?_
  refine va_gets (A := jA g) hx hb hz.2.2.2 hS hown (hts (.fieldLink "java/lang/String" 1053 "jdk/internal/util/Preconditions" "SIOOBE_FORMATTER" "Ljava/util/function/BiFunction;") (by decide +kernel)) (fun _ h => h) jd_sci_2 ?_
  refine j_calli (va_runS (As := [.int (nI k), .int (nI n), .ref f]) (rest := []) ⟨hx, hb, hml, hown, hts⟩ (jc_pci_r l g Hf f k n hk hn) (va_cwS 3 hts jg_sci rfl rfl rfl (by decide +kernel) ⟨Nat.le_of_ble_eq_true rfl, Nat.le_of_ble_eq_true rfl⟩) ⟨fun a U g' mk q => ⟨q.1, q.2⟩, fun U hU hW => ⟨rfl, hU.trans hH⟩⟩ rfl rfl hl.1 rfl (lv_room (Nat.le_of_ble_eq_true rfl)) jd_sci_5 ⟨Nat.le_refl _, Nat.le_refl _⟩) hH.symm (fun r _ hw => ?_)
  refine lv_pop hx hb jd_sci_8 rfl ?_
  exact W.vret hx hb hr (fun t ht hW => ⟨⟨(), rfl, trivial, ht.trans hH⟩, hN.F ht⟩) hN.2.2 jd_sci_9
theorem jc_sci (l : Launch) (g : mj_G) (adV : Nat → Nat) (fm : Value) (Hf : Heap) (hfm : fm = .null ∨ ∃ f : Nat, fm = .ref f) (k n : Nat) (hk : k < n) (hn : n < 2 ^ 31) : Met l yJ0_checkIndex_df160 jw_sci ({ frames := 1, cells := 0, slots := 0, locals := 22 }) (va_Pc [.int (nI k), .int (nI n)] (jP g adV fm Hf)) (va_Qv (fun (_ : Unit) => True) (fun _ t => t.heap = Hf) jN) 0 0 jN := by
  rcases hfm with rfl | ⟨f, rfl⟩
  · exact jc_sci_n l g adV Hf k n hk hn
  · exact jc_sci_r l g adV Hf f k n hk hn
