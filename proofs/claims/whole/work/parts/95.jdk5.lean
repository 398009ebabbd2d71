/-! ===== the JDK's text members: String.charAt ===== -/
def jw_cat : List Cond := [.code yJ0_charAt_5068e cJ0_charAt_5068e 2 (some .char), .fieldLink "java/lang/String" 9 "java/lang/String" "value" "[B"] ++ wsV "java/lang/String" 492 "java/lang/String" yJ0_isLatin1_aae02 jw_isLatin1 ++ va_wsS "java/lang/String" 495 yJ1_charAt_3b067 jw_lca
theorem jg_cat1 : GoodIn jw_cat (wsV "java/lang/String" 492 "java/lang/String" yJ0_isLatin1_aae02 jw_isLatin1) := goodIn_p _ [6] rfl (by decide +kernel)
theorem jg_cat2 : GoodIn jw_cat (va_wsS "java/lang/String" 495 yJ1_charAt_3b067 jw_lca) := goodIn_p _ [12, 16, 21] rfl (by decide +kernel)
theorem jd_cat_0 : decode cJ0_charAt_5068e 0 = .ok (.aload_n 0, 1) := by decide +kernel
theorem jd_cat_1 : decode cJ0_charAt_5068e 1 = .ok (.invokevirtual 492, 3) := by decide +kernel
theorem jd_cat_4 : decode cJ0_charAt_5068e 4 = .ok (.ifCond .eq 12, 3) := by decide +kernel
theorem jd_cat_7 : decode cJ0_charAt_5068e 7 = .ok (.aload_n 0, 1) := by decide +kernel
theorem jd_cat_8 : decode cJ0_charAt_5068e 8 = .ok (.getfield 9, 3) := by decide +kernel
theorem jd_cat_11 : decode cJ0_charAt_5068e 11 = .ok (.iload_n 1, 1) := by decide +kernel
theorem jd_cat_12 : decode cJ0_charAt_5068e 12 = .ok (.invokestatic 495, 3) := by decide +kernel
theorem jd_cat_15 : decode cJ0_charAt_5068e 15 = .ok (.ireturn, 1) := by decide +kernel
set_option maxHeartbeats 4000000 in
set_option maxRecDepth 100000 in
theorem jc_cat (l : Launch) (g : mj_G) (adV : Nat → Nat) (f i k : Nat) (hi : i < 14) (hk : k < tLen.getD i 0) : Met l yJ0_charAt_5068e jw_cat ({ frames := 3, cells := 0, slots := 0, locals := 64 }) (va_Pc [.ref (g.2.2 i), .int (nI k)] (jPre g adV (.ref f))) (va_Qi (fun (r : Int32) (_ : Unit) => r = nI ((mj_txt.getD i []).getD k 0)) (fun _ _ => True) (jA g)) 0 0 (jA g) := by
  refine Met.ofW (cc := cJ0_charAt_5068e) (maxL := 2) (ret := (some .char)) (by decide) rfl ?_
  intro p e s m args below meth c s₁ B hml hv
  obtain ⟨rfl, hP⟩ := hv
  have hz := hP.1
  have hx := B.exec
  have hb := B.bytes
  have hr := B.returns
  have hts := atoms_spec (ws := jw_cat) B.pre
  have hown : s.vm.findClass "java/lang/String" = some m.cls := findClass_of_methodNamed B.named
  have hlocks := B.notSynchronized
  have hS : va_S (jA g) s.heap s.heap [] := va_S.rf
  have hl := lv_entry ([.ref (g.2.2 i), .int (nI k)]) (n := 2) (Nat.le_of_ble_eq_true rfl)
  rw [lg_entry_eq]
  generalize (lg_sl ([.ref (g.2.2 i), .int (nI k)]) ++ List.replicate (2 - (lg_sl ([.ref (g.2.2 i), .int (nI k)])).length) Slot.unset).toArray = ls at hl ⊢
  have hl : lv_has ls 2 [(0, .ref (g.2.2 i)), (1, .int (nI k))] := hl
  refine lv_aload_n hx hb jd_cat_0 rfl (lv_at hl 0 rfl) ?_
  refine va_calli (va_runV (As := []) (rest := []) ⟨hx, hb, hml, hown, hts⟩ (jc_isLatin1 l g adV (.ref f) i hi) (cwV 0 hts jg_cat1 rfl rfl rfl (by decide +kernel) ⟨Nat.le_of_ble_eq_true rfl, Nat.le_of_ble_eq_true rfl⟩) ⟨fun a U g' mk q => ⟨q.1, q.2.calling rfl rfl⟩, vk_recv hz.1 hi hS, fun U hU hW => ⟨rfl, hP.at hS hU hW⟩⟩ rfl rfl hl.1 rfl (lv_room (Nat.le_of_ble_eq_true rfl)) jd_cat_1 ⟨Nat.le_refl _, Nat.le_refl _⟩) hS (fun q _ h => h) (fun q h => h) (fun r u t H1 locs ht hvm hw hB hz1 hk1 hS => ?_)
  subst hw
  refine lv_if_eq (tgt := 16) hx hb jd_cat_4 (by decide) (fun h => absurd h (by decide)) (fun _ => ?_)
  refine lv_aload_n hx hb jd_cat_7 rfl (lv_at hl 0 rfl) ?_
  refine vk_getf (A := jA g) hx hb (hz.1.1 i hi).2.2.1 hS hown (hts (.fieldLink "java/lang/String" 9 "java/lang/String" "value" "[B") (by decide +kernel)) (fun _ h => h) jd_cat_8 ?_
  refine lv_iload_n hx hb jd_cat_11 rfl (lv_at hl 1 rfl) ?_
  refine va_calli (va_runS (As := [.ref (adV i), .int (nI k)]) (rest := []) ⟨hx, hb, hml, hown, hts⟩ (jc_lca l g adV f i k hi hk) (va_cwS 2 hts jg_cat2 rfl rfl rfl (by decide +kernel) ⟨Nat.le_of_ble_eq_true rfl, Nat.le_of_ble_eq_true rfl⟩) ⟨fun a U g' mk q => ⟨q.1, q.2.calling rfl rfl⟩, fun U hU hW => ⟨rfl, hP.at hS hU hW⟩⟩ rfl rfl hl.1 rfl (lv_room (Nat.le_of_ble_eq_true rfl)) jd_cat_12 ⟨Nat.le_refl _, Nat.le_refl _⟩) hS (fun q _ h => h) (fun q h => h) (fun r u t H1 locs ht hvm hw hB hz1 hk1 hS => ?_)
  subst hw
  exact W.zret (v := nI ((mj_txt.getD i []).getD k 0)) hx hb hr (jl_ch i hi k hk).2 (fun t ht hW => ⟨⟨_, (), rfl, rfl, trivial⟩, hS.F ht⟩) hS.2.2 jd_cat_15 hlocks
