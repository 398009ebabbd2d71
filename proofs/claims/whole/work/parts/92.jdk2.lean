/-! ===== the JDK's text members: length ===== -/
def jw_length : List Cond := [.code yJ0_length_8abf5 cJ0_length_8abf5 1 (some .int), .fieldLink "java/lang/String" 9 "java/lang/String" "value" "[B"] ++ wsV "java/lang/String" 335 "java/lang/String" yJ0_coder_7d493 jw_coder
theorem jg_length : GoodIn jw_length (wsV "java/lang/String" 335 "java/lang/String" yJ0_coder_7d493 jw_coder) := goodIn_p _ [6] rfl (by decide +kernel)
theorem jd_length_0 : decode cJ0_length_8abf5 0 = .ok (.aload_n 0, 1) := by decide +kernel
theorem jd_length_1 : decode cJ0_length_8abf5 1 = .ok (.getfield 9, 3) := by decide +kernel
theorem jd_length_4 : decode cJ0_length_8abf5 4 = .ok (.arraylength, 1) := by decide +kernel
theorem jd_length_5 : decode cJ0_length_8abf5 5 = .ok (.aload_n 0, 1) := by decide +kernel
theorem jd_length_6 : decode cJ0_length_8abf5 6 = .ok (.invokevirtual 335, 3) := by decide +kernel
theorem jd_length_9 : decode cJ0_length_8abf5 9 = .ok (.ishr, 1) := by decide +kernel
theorem jd_length_10 : decode cJ0_length_8abf5 10 = .ok (.ireturn, 1) := by decide +kernel
theorem jl_shr : ∀ i, i < 14 → (Int32.ofNat (tLen.getD i 0) >>> ((0 : Int32) &&& 31)) = Int32.ofNat (tLen.getD i 0) := by decide
set_option maxHeartbeats 4000000 in
set_option maxRecDepth 100000 in
theorem jc_length (l : Launch) (g : mj_G) (adV : Nat → Nat) (fm : Value) (Hf : Heap) (i : Nat) (hi : i < 14) : Met l yJ0_length_8abf5 jw_length ({ frames := 1, cells := 0, slots := 0, locals := 20 }) (va_Pc [.ref (g.2.2 i)] (jP g adV fm Hf)) (va_Qi (fun (r : Int32) (_ : Unit) => r = nI (tLen.getD i 0)) (fun _ t => t.heap = Hf) jN) 0 0 jN := by
  refine Met.ofW (cc := cJ0_length_8abf5) (maxL := 1) (ret := (some .int)) (by decide) rfl ?_
  intro p e s m args below meth c s₁ B hml hv
  obtain ⟨rfl, hP⟩ := hv
  have hz := hP.1
  have hH := hP.2
  have hx := B.exec
  have hb := B.bytes
  have hr := B.returns
  have hts := atoms_spec (ws := jw_length) B.pre
  have hown : s.vm.findClass "java/lang/String" = some m.cls := findClass_of_methodNamed B.named
  have hlocks := B.notSynchronized
  have hS : va_S (jA g) s.heap s.heap [] := va_S.rf
  have hN : va_S jN s.heap s.heap [] := va_S.rf
  have hl := lv_entry ([.ref (g.2.2 i)]) (n := 1) (Nat.le_of_ble_eq_true rfl)
  rw [lg_entry_eq]
  generalize (lg_sl ([.ref (g.2.2 i)]) ++ List.replicate (1 - (lg_sl ([.ref (g.2.2 i)])).length) Slot.unset).toArray = ls at hl ⊢
  have hl : lv_has ls 1 [(0, .ref (g.2.2 i))] := hl
  refine lv_aload_n hx hb jd_length_0 rfl (lv_at hl 0 rfl) ?_
  refine vk_getf (A := jA g) hx hb (hz.1.1 i hi).2.2.1 hS hown (hts (.fieldLink "java/lang/String" 9 "java/lang/String" "value" "[B") (by decide +kernel)) (fun _ h => h) jd_length_1 ?_
  refine va_tlen (A := jA g) hx hb (hz.1.1 i hi).2.2.2 hS (v := Int32.ofNat (tLen.getD i 0)) rfl jd_length_4 ?_
  refine lv_aload_n hx hb jd_length_5 rfl (lv_at hl 0 rfl) ?_
  refine j_calli (va_runV (As := []) (rest := [.int (Int32.ofNat (tLen.getD i 0))]) ⟨hx, hb, hml, hown, hts⟩ (jc_coder l g adV fm Hf i hi) (cwV 0 hts jg_length rfl rfl rfl (by decide +kernel) ⟨Nat.le_of_ble_eq_true rfl, Nat.le_of_ble_eq_true rfl⟩) ⟨fun a U g' mk q => ⟨q.1, q.2.calling rfl rfl⟩, vk_recv hz.1 hi hS, fun U hU hW => ⟨rfl, hP.at hU hW⟩⟩ rfl rfl hl.1 rfl (lv_room (Nat.le_of_ble_eq_true rfl)) jd_length_6 ⟨Nat.le_refl _, Nat.le_refl _⟩) hH.symm (fun r _ hw => ?_)
  subst hw
  refine lv_ishr hx hb jd_length_9 ?_
  rw [jl_shr i hi]
  exact W.iret (v := Int32.ofNat (tLen.getD i 0)) hx hb hr (fun t ht hW => ⟨⟨_, (), rfl, rfl, ht.trans hH⟩, hN.F ht⟩) hN.2.2 jd_length_10
