/-! ===== the JDK's text members: StringLatin1.indexOf ===== -/
def jw_lio : List Cond := [.code yJ1_indexOf_4cfef cJ1_indexOf_4cfef 4 (some .int)] ++ va_wsS "java/lang/StringLatin1" 88 yJ1_canEncode_9a6ad jw_enc ++ [.methodLink "java/lang/StringLatin1" 92 Lib.Math.max.name, .static Lib.Math.max.name, .initialized "java/lang/Math", .code Lib.Math.max.name Lib.Math.max.code 2 (some .int)] ++ [.methodLink "java/lang/StringLatin1" 38 Lib.Math.min.name, .static Lib.Math.min.name, .initialized "java/lang/Math", .code Lib.Math.min.name Lib.Math.min.code 2 (some .int)] ++ va_wsS "java/lang/StringLatin1" 95 yJ1_indexOfChar_4cfef jw_ioc
theorem jg_lio1 : GoodIn jw_lio (va_wsS "java/lang/StringLatin1" 88 yJ1_canEncode_9a6ad jw_enc) := goodIn_p _ [4] rfl (by decide +kernel)
theorem jg_lio2 : GoodIn jw_lio (va_wsS "java/lang/StringLatin1" 95 yJ1_indexOfChar_4cfef jw_ioc) := goodIn_p _ [16] rfl (by decide +kernel)
theorem jd_lio_0 : decode cJ1_indexOf_4cfef 0 = .ok (.iload_n 1, 1) := by decide +kernel
theorem jd_lio_1 : decode cJ1_indexOf_4cfef 1 = .ok (.invokestatic 88, 3) := by decide +kernel
theorem jd_lio_4 : decode cJ1_indexOf_4cfef 4 = .ok (.ifCond .ne 5, 3) := by decide +kernel
theorem jd_lio_7 : decode cJ1_indexOf_4cfef 7 = .ok (.iconst (-1), 1) := by decide +kernel
theorem jd_lio_8 : decode cJ1_indexOf_4cfef 8 = .ok (.ireturn, 1) := by decide +kernel
theorem jd_lio_9 : decode cJ1_indexOf_4cfef 9 = .ok (.iload_n 2, 1) := by decide +kernel
theorem jd_lio_10 : decode cJ1_indexOf_4cfef 10 = .ok (.iconst 0, 1) := by decide +kernel
theorem jd_lio_11 : decode cJ1_indexOf_4cfef 11 = .ok (.invokestatic 92, 3) := by decide +kernel
theorem jd_lio_14 : decode cJ1_indexOf_4cfef 14 = .ok (.istore_n 2, 1) := by decide +kernel
theorem jd_lio_15 : decode cJ1_indexOf_4cfef 15 = .ok (.iload_n 3, 1) := by decide +kernel
theorem jd_lio_16 : decode cJ1_indexOf_4cfef 16 = .ok (.aload_n 0, 1) := by decide +kernel
theorem jd_lio_17 : decode cJ1_indexOf_4cfef 17 = .ok (.arraylength, 1) := by decide +kernel
theorem jd_lio_18 : decode cJ1_indexOf_4cfef 18 = .ok (.invokestatic 38, 3) := by decide +kernel
theorem jd_lio_21 : decode cJ1_indexOf_4cfef 21 = .ok (.istore_n 3, 1) := by decide +kernel
theorem jd_lio_22 : decode cJ1_indexOf_4cfef 22 = .ok (.iload_n 2, 1) := by decide +kernel
theorem jd_lio_23 : decode cJ1_indexOf_4cfef 23 = .ok (.iload_n 3, 1) := by decide +kernel
theorem jd_lio_24 : decode cJ1_indexOf_4cfef 24 = .ok (.if_icmp .lt 5, 3) := by decide +kernel
theorem jd_lio_29 : decode cJ1_indexOf_4cfef 29 = .ok (.aload_n 0, 1) := by decide +kernel
theorem jd_lio_30 : decode cJ1_indexOf_4cfef 30 = .ok (.iload_n 1, 1) := by decide +kernel
theorem jd_lio_31 : decode cJ1_indexOf_4cfef 31 = .ok (.iload_n 2, 1) := by decide +kernel
theorem jd_lio_32 : decode cJ1_indexOf_4cfef 32 = .ok (.iload_n 3, 1) := by decide +kernel
theorem jd_lio_33 : decode cJ1_indexOf_4cfef 33 = .ok (.invokestatic 95, 3) := by decide +kernel
theorem jd_lio_36 : decode cJ1_indexOf_4cfef 36 = .ok (.ireturn, 1) := by decide +kernel
set_option maxHeartbeats 4000000 in
set_option maxRecDepth 100000 in
theorem jc_lio (l : Launch) (g : mj_G) (adV : Nat → Nat) (fm : Value) (Hf : Heap) (i : Nat) (hi : i < 14) (x : Int32) : Met l yJ1_indexOf_4cfef jw_lio ({ frames := 1, cells := 0, slots := 0, locals := 25 }) (va_Pc [.ref (adV i), .int x, .int 0, .int (nI (tLen.getD i 0))] (jP g adV fm Hf)) (va_Qi (fun (r : Int32) (_ : Unit) => r = mj_find x (mj_txt.getD i []) 0) (fun _ t => t.heap = Hf) jN) 0 0 jN := by
  have hsm := jl_sm i hi
  refine Met.ofW (cc := cJ1_indexOf_4cfef) (maxL := 4) (ret := (some .int)) (by decide) rfl ?_
  intro p e s m args below meth c s₁ B hml hv
  obtain ⟨rfl, hP⟩ := hv
  have hz := hP.1
  have hH := hP.2
  have hx := B.exec
  have hb := B.bytes
  have hr := B.returns
  have hts := atoms_spec (ws := jw_lio) B.pre
  have hown : s.vm.findClass "java/lang/StringLatin1" = some m.cls := findClass_of_methodNamed B.named
  have hlocks := B.notSynchronized
  have hS : va_S (jA g) s.heap s.heap [] := va_S.rf
  have hN : va_S jN s.heap s.heap [] := va_S.rf
  have hl := lv_entry ([.ref (adV i), .int x, .int 0, .int (nI (tLen.getD i 0))]) (n := 4) (Nat.le_of_ble_eq_true rfl)
  rw [lg_entry_eq]
  generalize (lg_sl ([.ref (adV i), .int x, .int 0, .int (nI (tLen.getD i 0))]) ++ List.replicate (4 - (lg_sl ([.ref (adV i), .int x, .int 0, .int (nI (tLen.getD i 0))])).length) Slot.unset).toArray = ls at hl ⊢
  have hl : lv_has ls 4 [(0, .ref (adV i)), (1, .int x), (2, .int 0), (3, .int (nI (tLen.getD i 0)))] := hl
  refine lv_iload_n hx hb jd_lio_0 rfl (lv_at hl 1 rfl) ?_
  refine j_calli (va_runS (As := [.int x]) (rest := []) ⟨hx, hb, hml, hown, hts⟩ (jc_enc l g Hf x) (va_cwS 1 hts jg_lio1 rfl rfl rfl (by decide +kernel) ⟨Nat.le_of_ble_eq_true rfl, Nat.le_of_ble_eq_true rfl⟩) ⟨fun a U g' mk q => ⟨q.1, q.2⟩, fun U hU hW => ⟨rfl, hU.trans hH⟩⟩ rfl rfl hl.1 rfl (lv_room (Nat.le_of_ble_eq_true rfl)) jd_lio_1 ⟨Nat.le_refl _, Nat.le_refl _⟩) hH.symm (fun r _ hw => ?_)
  subst hw
  by_cases hin : ¬ x < 0 ∧ ¬ (255 : Int32) < x
  · rw [if_pos hin]
    refine lv_if_ne (tgt := 9) hx hb jd_lio_4 (by decide) (fun _ => ?_) (fun h => absurd h (by decide))
    refine lv_iload_n hx hb jd_lio_9 rfl (lv_at hl 2 rfl) ?_
    refine lv_iconst (v := 0) hx hb jd_lio_10 (by decide) ?_
    refine va_mmax (rest := []) hx hb (hml.trans hl.1.symm) hown (hts (.methodLink "java/lang/StringLatin1" 92 Lib.Math.max.name) (List.mem_of_getElem? (i := 5) rfl)) (hts (.static Lib.Math.max.name) (List.mem_of_getElem? (i := 6) rfl)) (hts (.initialized "java/lang/Math") (List.mem_of_getElem? (i := 7) rfl)) (hts (.code Lib.Math.max.name Lib.Math.max.code 2 (some .int)) (List.mem_of_getElem? (i := 8) rfl)) (Nat.le_of_ble_eq_true rfl) (Nat.le_of_ble_eq_true rfl) (Nat.le_refl _) (Nat.le_refl _) jd_lio_11 ?_
    rw [ite_self]
    refine lv_istore_n (i := 2) hx hb jd_lio_14 rfl hl (by decide) rfl (fun ls1 hl1 => ?_)
    have hl1 : lv_has ls1 4 [(2, .int 0), (0, .ref (adV i)), (1, .int x), (3, .int (nI (tLen.getD i 0)))] := hl1
    refine lv_iload_n hx hb jd_lio_15 rfl (lv_at hl1 3 rfl) ?_
    refine lv_aload_n hx hb jd_lio_16 rfl (lv_at hl1 1 rfl) ?_
    refine va_tlen (A := jA g) hx hb (hz.1.1 i hi).2.2.2 hS (v := nI (tLen.getD i 0)) rfl jd_lio_17 ?_
    refine va_mmin (rest := []) hx hb (hml.trans hl1.1.symm) hown (hts (.methodLink "java/lang/StringLatin1" 38 Lib.Math.min.name) (List.mem_of_getElem? (i := 9) rfl)) (hts (.static Lib.Math.min.name) (List.mem_of_getElem? (i := 10) rfl)) (hts (.initialized "java/lang/Math") (List.mem_of_getElem? (i := 11) rfl)) (hts (.code Lib.Math.min.name Lib.Math.min.code 2 (some .int)) (List.mem_of_getElem? (i := 12) rfl)) (Nat.le_of_ble_eq_true rfl) (Nat.le_of_ble_eq_true rfl) (Nat.le_refl _) (Nat.le_refl _) jd_lio_18 ?_
    rw [ite_self]
    refine lv_istore_n (i := 3) hx hb jd_lio_21 rfl hl1 (by decide) rfl (fun ls2 hl2 => ?_)
    have hl2 : lv_has ls2 4 [(3, .int (nI (tLen.getD i 0))), (2, .int 0), (0, .ref (adV i)), (1, .int x)] := hl2
    refine lv_iload_n hx hb jd_lio_22 rfl (lv_at hl2 1 rfl) ?_
    refine lv_iload_n hx hb jd_lio_23 rfl (lv_at hl2 0 rfl) ?_
    refine lv_icmp_lt (tgt := 29) hx hb jd_lio_24 (by decide) (fun _ => ?_) (fun h => absurd ((cI_gt0 (by omega)).mpr hsm.2) h)
    refine lv_aload_n hx hb jd_lio_29 rfl (lv_at hl2 2 rfl) ?_
    refine lv_iload_n hx hb jd_lio_30 rfl (lv_at hl2 3 rfl) ?_
    refine lv_iload_n hx hb jd_lio_31 rfl (lv_at hl2 1 rfl) ?_
    refine lv_iload_n hx hb jd_lio_32 rfl (lv_at hl2 0 rfl) ?_
    obtain ⟨n, hn, rfl⟩ := nI_of hin.1
    have h256 : n < 256 := by
      rcases Nat.lt_or_ge n 256 with q | q
      · exact q
      · exact absurd (nI_lt (a := 255) (b := n) (by omega) hn) hin.2
    refine j_calli (va_runS (As := [.ref (adV i), .int (nI n), .int 0, .int (nI (tLen.getD i 0))]) (rest := []) ⟨hx, hb, hml, hown, hts⟩ (jc_ioc l g adV fm Hf i n hi h256) (va_cwS 4 hts jg_lio2 rfl rfl rfl (by decide +kernel) ⟨Nat.le_of_ble_eq_true rfl, Nat.le_of_ble_eq_true rfl⟩) ⟨fun a U g' mk q => ⟨q.1, q.2.calling rfl rfl⟩, fun U hU hW => ⟨rfl, hP.at hU hW⟩⟩ rfl rfl hl2.1 rfl (lv_room (Nat.le_of_ble_eq_true rfl)) jd_lio_33 ⟨Nat.le_refl _, Nat.le_refl _⟩) hH.symm (fun r _ hw => ?_)
    subst hw
    exact W.iret hx hb hr (fun t ht hW => ⟨⟨_, (), rfl, rfl, ht.trans hH⟩, hN.F ht⟩) hN.2.2 jd_lio_36
  · rw [if_neg hin]
    refine lv_if_ne (tgt := 9) hx hb jd_lio_4 (by decide) (fun h => absurd rfl h) (fun _ => ?_)
    refine lv_iconst (v := -1) hx hb jd_lio_7 (by decide) ?_
    exact W.iret (v := -1) hx hb hr (fun t ht hW => ⟨⟨_, (), rfl, (jf_out hin _ 0 (jl_128 i hi)).symm, ht.trans hH⟩, hN.F ht⟩) hN.2.2 jd_lio_8
