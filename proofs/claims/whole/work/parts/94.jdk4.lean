/-! ===== the JDK's text members: charAt ===== -/
def jw_lca : List Cond := [.code yJ1_charAt_3b067 cJ1_charAt_3b067 2 (some .char)] ++ va_wsS "java/lang/StringLatin1" 9 yJ0_checkIndex_df160 jw_sci
theorem jg_lca : GoodIn jw_lca (va_wsS "java/lang/StringLatin1" 9 yJ0_checkIndex_df160 jw_sci) := goodIn_p _ [4, 9] rfl (by decide +kernel)
theorem jd_lca_0 : decode cJ1_charAt_3b067 0 = .ok (.iload_n 1, 1) := by decide +kernel
theorem jd_lca_1 : decode cJ1_charAt_3b067 1 = .ok (.aload_n 0, 1) := by decide +kernel
theorem jd_lca_2 : decode cJ1_charAt_3b067 2 = .ok (.arraylength, 1) := by decide +kernel
theorem jd_lca_3 : decode cJ1_charAt_3b067 3 = .ok (.invokestatic 9, 3) := by decide +kernel
theorem jd_lca_6 : decode cJ1_charAt_3b067 6 = .ok (.aload_n 0, 1) := by decide +kernel
theorem jd_lca_7 : decode cJ1_charAt_3b067 7 = .ok (.iload_n 1, 1) := by decide +kernel
theorem jd_lca_8 : decode cJ1_charAt_3b067 8 = .ok (.baload, 1) := by decide +kernel
theorem jd_lca_9 : decode cJ1_charAt_3b067 9 = .ok (.sipush 255, 3) := by decide +kernel
theorem jd_lca_12 : decode cJ1_charAt_3b067 12 = .ok (.iand, 1) := by decide +kernel
theorem jd_lca_13 : decode cJ1_charAt_3b067 13 = .ok (.i2c, 1) := by decide +kernel
theorem jd_lca_14 : decode cJ1_charAt_3b067 14 = .ok (.ireturn, 1) := by decide +kernel
theorem jl_ch : ∀ i, i < 14 → ∀ k, k < tLen.getD i 0 → (((tByt.getD i []).getD k 0 &&& 255).toUInt32 % 65536).toInt32 = nI ((mj_txt.getD i []).getD k 0) ∧ narrow .char (.int (nI ((mj_txt.getD i []).getD k 0))) = .int (nI ((mj_txt.getD i []).getD k 0)) := by decide
theorem jl_sm : ∀ i, i < 14 → tLen.getD i 0 < 100 := by decide
set_option maxHeartbeats 4000000 in
set_option maxRecDepth 100000 in
theorem jc_lca (l : Launch) (g : mj_G) (adV : Nat → Nat) (f i k : Nat) (hi : i < 14) (hk : k < tLen.getD i 0) : Met l yJ1_charAt_3b067 jw_lca ({ frames := 2, cells := 0, slots := 0, locals := 43 }) (va_Pc [.ref (adV i), .int (nI k)] (jPre g adV (.ref f))) (va_Qi (fun (r : Int32) (_ : Unit) => r = nI ((mj_txt.getD i []).getD k 0)) (fun _ _ => True) (jA g)) 0 0 (jA g) := by
  have hsm := jl_sm i hi
  refine Met.ofW (cc := cJ1_charAt_3b067) (maxL := 2) (ret := (some .char)) (by decide) rfl ?_
  intro p e s m args below meth c s₁ B hml hv
  obtain ⟨rfl, hP⟩ := hv
  have hz := hP.1
  have hx := B.exec
  have hb := B.bytes
  have hr := B.returns
  have hts := atoms_spec (ws := jw_lca) B.pre
  have hown : s.vm.findClass "java/lang/StringLatin1" = some m.cls := findClass_of_methodNamed B.named
  have hlocks := B.notSynchronized
  have hS : va_S (jA g) s.heap s.heap [] := va_S.rf
  have hl := lv_entry ([.ref (adV i), .int (nI k)]) (n := 2) (Nat.le_of_ble_eq_true rfl)
  rw [lg_entry_eq]
  generalize (lg_sl ([.ref (adV i), .int (nI k)]) ++ List.replicate (2 - (lg_sl ([.ref (adV i), .int (nI k)])).length) Slot.unset).toArray = ls at hl ⊢
  have hl : lv_has ls 2 [(0, .ref (adV i)), (1, .int (nI k))] := hl
  refine lv_iload_n hx hb jd_lca_0 rfl (lv_at hl 1 rfl) ?_
  refine lv_aload_n hx hb jd_lca_1 rfl (lv_at hl 0 rfl) ?_
  refine va_tlen (A := jA g) hx hb (hz.1.1 i hi).2.2.2 hS (v := nI (tLen.getD i 0)) rfl jd_lca_2 ?_
  refine va_callv (va_runS (As := [.int (nI k), .int (nI (tLen.getD i 0))]) (rest := []) ⟨hx, hb, hml, hown, hts⟩ (jc_sci l g adV f k (tLen.getD i 0) hk (by omega)) (va_cwS 2 hts jg_lca rfl rfl rfl (by decide +kernel) ⟨Nat.le_of_ble_eq_true rfl, Nat.le_of_ble_eq_true rfl⟩) ⟨fun a U g' mk q => ⟨q.1, q.2.calling rfl rfl⟩, fun U hU hW => ⟨rfl, hP.at hS hU hW⟩⟩ rfl rfl hl.1 rfl (lv_room (Nat.le_of_ble_eq_true rfl)) jd_lca_3 ⟨Nat.le_refl _, Nat.le_refl _⟩) hS (fun q _ h => h) (fun q h => h) (fun u t H1 locs ht hvm hw hB hz1 hk1 hS => ?_)
  refine lv_aload_n hx hb jd_lca_6 rfl (lv_at hl 0 rfl) ?_
  refine lv_iload_n hx hb jd_lca_7 rfl (lv_at hl 1 rfl) ?_
  refine va_tb (A := jA g) hx hb (hz.1.1 i hi).2.2.2 hS (i := nI k) (fun z => z.elim (nI_pos (by omega)) (fun z => by rw [nI_clamp (by omega)] at z; omega)) (v := .int ((tByt.getD i []).getD k 0)) (by rw [nI_clamp (by omega)]) jd_lca_8 ?_
  refine lv_sipush (v := 255) hx hb jd_lca_9 (by decide) ?_
  refine lv_iand hx hb jd_lca_12 ?_
  refine lv_i2c (v := nI ((mj_txt.getD i []).getD k 0)) hx hb jd_lca_13 (jl_ch i hi k hk).1 ?_
  exact W.zret (v := nI ((mj_txt.getD i []).getD k 0)) hx hb hr (jl_ch i hi k hk).2 (fun t ht hW => ⟨⟨_, (), rfl, rfl, trivial⟩, hS.F ht⟩) hS.2.2 jd_lca_14 hlocks
