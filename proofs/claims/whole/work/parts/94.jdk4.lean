/-! ===== the JDK's text members: charAt ===== -/
def jw_lca : List Cond := [.code yJ1_charAt_3b067 cJ1_charAt_3b067 2 (some .char)] ++ va_wsS "java/lang/StringLatin1" 9 yJ0_checkIndex_df160 jw_sci
theorem jg_lca : GoodIn jw_lca (va_wsS "java/lang/StringLatin1" 9 yJ0_checkIndex_df160 jw_sci) := goodIn_p _ [4, 9] rfl (by decide +kernel)
theorem jd_lca_0 : decode cJ1_charAt_3b067 0 = .ok (.iload_n 1, 1) := by decide +kernel
theorem jd_lca_1 : decode cJ1_charAt_3b067 1 = .ok (.aload_n 0, 1) := by decide +kernel
theorem jd_lca_2 : decode cJ1_charAt_3b067 2 = .ok (.arraylength, 1) := by decide +kernel
theorem jd_lca_3 : decode cJ1_charAt_3b067 3 = .ok (.invokestatic 9, 3) := by decide +kernel
theorem jd_lca_6 : decode cJ1_charAt_3b067 6 = .ok (.aload_n 0, 1) := by decide +kernel
theorem jd_lca_7 : decode cJ1_charAt_3b067 7 = .ok (.iload_n 1, 1) := by decide +kernel
theorem jd_lca_8 : decode cJ1_charAt_3b067 8 = .ok (.baload, 1) := by decide +kernel
theorem jd_lca_9 : decode cJ1_charAt_3b067 9 = .ok (.sipush 255, 3) := by decide +kernel
theorem jd_lca_12 : decode cJ1_charAt_3b067 12 = .ok (.iand, 1) := by decide +kernel
theorem jd_lca_13 : decode cJ1_charAt_3b067 13 = .ok (.i2c, 1) := by decide +kernel
theorem jd_lca_14 : decode cJ1_charAt_3b067 14 = .ok (.ireturn, 1) := by decide +kernel
theorem jl_ch : ∀ i, i < 14 → ∀ k, k < tLen.getD i 0 → (((tByt.getD i []).getD k 0 &&& 255).toUInt32 % 65536).toInt32 = nI ((mj_txt.getD i []).getD k 0) ∧ narrow .char (.int (nI ((mj_txt.getD i []).getD k 0))) = .int (nI ((mj_txt.getD i []).getD k 0)) := by decide
theorem jl_sm : ∀ i, i < 14 → tLen.getD i 0 < 100 ∧ 0 < tLen.getD i 0 := by decide
set_option maxHeartbeats 4000000 in
set_option maxRecDepth 100000 in
theorem jc_lca (l : Launch) (g : mj_G) (adV : Nat → Nat) (fm : Value) (Hf : Heap) (hfm : fm = .null ∨ ∃ f : Nat, fm = .ref f) (i k : Nat) (hi : i < 14) (hk : k < tLen.getD i 0) : Met l yJ1_charAt_3b067 jw_lca ({ frames := 2, cells := 0, slots := 0, locals := 43 }) (va_Pc [.ref (adV i), .int (nI k)] (jP g adV fm Hf)) (va_Qi (fun (r : Int32) (_ : Unit) => r = nI ((mj_txt.getD i []).getD k 0)) (fun _ t => t.heap = Hf) jN) 0 0 jN := by
  have hsm := (jl_sm i hi).1
  refine Met.ofW (cc := cJ1_charAt_3b067) (maxL := 2) (ret := (some .char)) (by decide) rfl ?_
  intro p e s m args below meth c s₁ B hml hv
  obtain ⟨rfl, hP⟩ := hv
  have hz := hP.1
  have hH := hP.2
  have hx := B.exec
  have hb := B.bytes
  have hr := B.returns
  have hts := atoms_spec (ws := jw_lca) B.pre
  have hown : s.vm.findClass "java/lang/StringLatin1" = some m.cls := findClass_of_methodNamed B.named
  have hlocks := B.notSynchronized
  have hS : va_S (jA g) s.heap s.heap [] := va_S.rf
  have hN : va_S jN s.heap s.heap [] := va_S.rf
  have hl := lv_entry ([.ref (adV i), .int (nI k)]) (n := 2) (Nat.le_of_ble_eq_true rfl)
  rw [lg_entry_eq]
  generalize (lg_sl ([.ref (adV i), .int (nI k)]) ++ List.replicate (2 - (lg_sl ([.ref (adV i), .int (nI k)])).length) Slot.unset).toArray = ls at hl ⊢
  have hl : lv_has ls 2 [(0, .ref (adV i)), (1, .int (nI k))] := hl
  refine lv_iload_n hx hb jd_lca_0 rfl (lv_at hl 1 rfl) ?_
  refine lv_aload_n hx hb jd_lca_1 rfl (lv_at hl 0 rfl) ?_
  refine va_tlen (A := jA g) hx hb (hz.1.1 i hi).2.2.2 hS (v := nI (tLen.getD i 0)) rfl jd_lca_2 ?_
  refine j_callv (va_runS (As := [.int (nI k), .int (nI (tLen.getD i 0))]) (rest := []) ⟨hx, hb, hml, hown, hts⟩ (jc_sci l g adV fm Hf hfm k (tLen.getD i 0) hk (by omega)) (va_cwS 2 hts jg_lca rfl rfl rfl (by decide +kernel) ⟨Nat.le_of_ble_eq_true rfl, Nat.le_of_ble_eq_true rfl⟩) ⟨fun a U g' mk q => ⟨q.1, q.2.calling rfl rfl⟩, fun U hU hW => ⟨rfl, hP.at hU hW⟩⟩ rfl rfl hl.1 rfl (lv_room (Nat.le_of_ble_eq_true rfl)) jd_lca_3 ⟨Nat.le_refl _, Nat.le_refl _⟩) hH.symm (fun _ => ?_)
  refine lv_aload_n hx hb jd_lca_6 rfl (lv_at hl 0 rfl) ?_
  refine lv_iload_n hx hb jd_lca_7 rfl (lv_at hl 1 rfl) ?_
  refine va_tb (A := jA g) hx hb (hz.1.1 i hi).2.2.2 hS (i := nI k) (fun z => z.elim (nI_pos (by omega)) (fun z => by rw [nI_clamp (by omega)] at z; omega)) (v := .int ((tByt.getD i []).getD k 0)) (by rw [nI_clamp (by omega)]) jd_lca_8 ?_
  refine lv_sipush (v := 255) hx hb jd_lca_9 (by decide) ?_
  refine lv_iand hx hb jd_lca_12 ?_
  refine lv_i2c (v := nI ((mj_txt.getD i []).getD k 0)) hx hb jd_lca_13 (jl_ch i hi k hk).1 ?_
  exact W.zret (v := nI ((mj_txt.getD i []).getD k 0)) hx hb hr (jl_ch i hi k hk).2 (fun t ht hW => ⟨⟨_, (), rfl, rfl, ht.trans hH⟩, hN.F ht⟩) hN.2.2 jd_lca_14 hlocks
def jw_cat : List Cond := [.code yJ0_charAt_5068e cJ0_charAt_5068e 2 (some .char), .fieldLink "java/lang/String" 9 "java/lang/String" "value" "[B"] ++ wsV "java/lang/String" 492 "java/lang/String" yJ0_isLatin1_aae02 jw_isLatin1 ++ va_wsS "java/lang/String" 495 yJ1_charAt_3b067 jw_lca
theorem jg_cat1 : GoodIn jw_cat (wsV "java/lang/String" 492 "java/lang/String" yJ0_isLatin1_aae02 jw_isLatin1) := goodIn_p _ [6] rfl (by decide +kernel)
theorem jg_cat2 : GoodIn jw_cat (va_wsS "java/lang/String" 495 yJ1_charAt_3b067 jw_lca) := goodIn_p _ [12, 16, 21] rfl (by decide +kernel)
theorem jd_cat_0 : decode cJ0_charAt_5068e 0 = .ok (.aload_n 0, 1) := by decide +kernel
theorem jd_cat_1 : decode cJ0_charAt_5068e 1 = .ok (.invokevirtual 492, 3) := by decide +kernel
theorem jd_cat_4 : decode cJ0_charAt_5068e 4 = .ok (.ifCond .eq 12, 3) := by decide +kernel
theorem jd_cat_7 : decode cJ0_charAt_5068e 7 = .ok (.aload_n 0, 1) := by decide +kernel
theorem jd_cat_8 : decode cJ0_charAt_5068e 8 = .ok (.getfield 9, 3) := by decide +kernel
theorem jd_cat_11 : decode cJ0_charAt_5068e 11 = .ok (.iload_n 1, 1) := by decide +kernel
theorem jd_cat_12 : decode cJ0_charAt_5068e 12 = .ok (.invokestatic 495, 3) := by decide +kernel
theorem jd_cat_15 : decode cJ0_charAt_5068e 15 = .ok (.ireturn, 1) := by decide +kernel
set_option maxHeartbeats 4000000 in
set_option maxRecDepth 100000 in
theorem jc_cat (l : Launch) (g : mj_G) (adV : Nat → Nat) (fm : Value) (Hf : Heap) (hfm : fm = .null ∨ ∃ f : Nat, fm = .ref f) (i k : Nat) (hi : i < 14) (hk : k < tLen.getD i 0) : Met l yJ0_charAt_5068e jw_cat ({ frames := 3, cells := 0, slots := 0, locals := 64 }) (va_Pc [.ref (g.2.2 i), .int (nI k)] (jP g adV fm Hf)) (va_Qi (fun (r : Int32) (_ : Unit) => r = nI ((mj_txt.getD i []).getD k 0)) (fun _ t => t.heap = Hf) jN) 0 0 jN := by
  refine Met.ofW (cc := cJ0_charAt_5068e) (maxL := 2) (ret := (some .char)) (by decide) rfl ?_
  intro p e s m args below meth c s₁ B hml hv
  obtain ⟨rfl, hP⟩ := hv
  have hz := hP.1
  have hH := hP.2
  have hx := B.exec
  have hb := B.bytes
  have hr := B.returns
  have hts := atoms_spec (ws := jw_cat) B.pre
  have hown : s.vm.findClass "java/lang/String" = some m.cls := findClass_of_methodNamed B.named
  have hlocks := B.notSynchronized
  have hS : va_S (jA g) s.heap s.heap [] := va_S.rf
  have hN : va_S jN s.heap s.heap [] := va_S.rf
  have hl := lv_entry ([.ref (g.2.2 i), .int (nI k)]) (n := 2) (Nat.le_of_ble_eq_true rfl)
  rw [lg_entry_eq]
  generalize (lg_sl ([.ref (g.2.2 i), .int (nI k)]) ++ List.replicate (2 - (lg_sl ([.ref (g.2.2 i), .int (nI k)])).length) Slot.unset).toArray = ls at hl ⊢
  have hl : lv_has ls 2 [(0, .ref (g.2.2 i)), (1, .int (nI k))] := hl
  refine lv_aload_n hx hb jd_cat_0 rfl (lv_at hl 0 rfl) ?_
  refine j_calli (va_runV (As := []) (rest := []) ⟨hx, hb, hml, hown, hts⟩ (jc_isLatin1 l g adV fm Hf i hi) (cwV 0 hts jg_cat1 rfl rfl rfl (by decide +kernel) ⟨Nat.le_of_ble_eq_true rfl, Nat.le_of_ble_eq_true rfl⟩) ⟨fun a U g' mk q => ⟨q.1, q.2.calling rfl rfl⟩, vk_recv hz.1 hi hS, fun U hU hW => ⟨rfl, hP.at hU hW⟩⟩ rfl rfl hl.1 rfl (lv_room (Nat.le_of_ble_eq_true rfl)) jd_cat_1 ⟨Nat.le_refl _, Nat.le_refl _⟩) hH.symm (fun r _ hw => ?_)
  subst hw
  refine lv_if_eq (tgt := 16) hx hb jd_cat_4 (by decide) (fun h => absurd h (by decide)) (fun _ => ?_)
  refine lv_aload_n hx hb jd_cat_7 rfl (lv_at hl 0 rfl) ?_
  refine vk_getf (A := jA g) hx hb (hz.1.1 i hi).2.2.1 hS hown (hts (.fieldLink "java/lang/String" 9 "java/lang/String" "value" "[B") (by decide +kernel)) (fun _ h => h) jd_cat_8 ?_
  refine lv_iload_n hx hb jd_cat_11 rfl (lv_at hl 1 rfl) ?_
  refine j_calli (va_runS (As := [.ref (adV i), .int (nI k)]) (rest := []) ⟨hx, hb, hml, hown, hts⟩ (jc_lca l g adV fm Hf hfm i k hi hk) (va_cwS 2 hts jg_cat2 rfl rfl rfl (by decide +kernel) ⟨Nat.le_of_ble_eq_true rfl, Nat.le_of_ble_eq_true rfl⟩) ⟨fun a U g' mk q => ⟨q.1, q.2.calling rfl rfl⟩, fun U hU hW => ⟨rfl, hP.at hU hW⟩⟩ rfl rfl hl.1 rfl (lv_room (Nat.le_of_ble_eq_true rfl)) jd_cat_12 ⟨Nat.le_refl _, Nat.le_refl _⟩) hH.symm (fun r _ hw => ?_)
  subst hw
  exact W.zret (v := nI ((mj_txt.getD i []).getD k 0)) hx hb hr (jl_ch i hi k hk).2 (fun t ht hW => ⟨⟨_, (), rfl, rfl, ht.trans hH⟩, hN.F ht⟩) hN.2.2 jd_cat_15 hlocks
