/-! ===== the JDK's text members: coder, isLatin1 (heap and cells stay as they were) ===== -/
def jN : Nat → Prop := fun _ => False
def jA (g : mj_G) : Nat → Prop := fun q => g.1 ≤ q
def jP (g : mj_G) (adV : Nat → Nat) (fm : Value) (Hf : Heap) (U : State) : Prop := mZt g adV fm U ∧ U.heap = Hf
theorem jP.calling {g : mj_G} {adV : Nat → Nat} {fm : Value} {Hf : Heap} {u U : State} (h : jP g adV fm Hf u) (hv : U.vm = u.vm) (hh : U.heap = u.heap) : jP g adV fm Hf U := ⟨(mZt_ZZ g adV fm).1 u U hv hh h.1, hh.trans h.2⟩
theorem jP.at {g : mj_G} {adV : Nat → Nat} {fm : Value} {Hf : Heap} {s U : State} (h : jP g adV fm Hf s) (hU : U.heap = s.heap) (hW : s.WarmedH U.vm) : jP g adV fm Hf U :=
  ⟨(mZt_ZZ g adV fm).2 s U hW (fun a _ => by rw [hU]) h.1, hU.trans h.2⟩
section JC
variable {p : Program} {l : Launch} {e : Env} {R : Room} {s : State} {m : MethodId} {args : Array Value} {below : List Frame} {meth : Method} {c : Code} {H : Heap} {locs : List Loc} {cells slots : Nat} {Q : State → Prop}
variable {pc : Nat} {ls : Array Slot} {rest st0 : List Value} {a : Array Value} {A1 : Nat → Prop}
theorem j_calli {S : Type} {post : Int32 → S → Prop} {Hf : Heap} (hr : va_Run p l e R s m args below meth c H locs cells slots 0 0 (F0 m pc ls st0) rest (va_Qi post (fun _ t => t.heap = Hf) A1 a) jN) (hH : Hf = H)
    (kk : ∀ (r : Int32) (u : S), post r u → W p l e R s m args below meth c H locs cells slots Q (F0 m (pc + 3) ls (.int r :: rest))) : W p l e R s m args below meth c H locs cells slots Q (F0 m pc ls st0) := by
  intro T hT X
  obtain ⟨v, st₀, t, T', L, h0, X', hL, e1, e2, ⟨⟨r, u, hv, hp, hb⟩, hz, hk⟩, st⟩ := hr T hT X
  cases hv
  have hL0 : L = [] := List.eq_nil_iff_forall_not_mem.mpr (fun q hq => hL q hq)
  subst hL0
  rw [List.append_nil] at X'
  have hb : t.heap = Hf := hb
  obtain ⟨t2, a1, b1⟩ := kk r u hp T' (e1.trans (hb.trans hH)) X'
  exact ⟨t2, st t2 a1, b1⟩
theorem j_callv {S : Type} {post : S → Prop} {Hf : Heap} (hr : va_Run p l e R s m args below meth c H locs cells slots 0 0 (F0 m pc ls st0) rest (va_Qv post (fun _ t => t.heap = Hf) A1 a) jN) (hH : Hf = H)
    (kk : ∀ (u : S), W p l e R s m args below meth c H locs cells slots Q (F0 m (pc + 3) ls rest)) : W p l e R s m args below meth c H locs cells slots Q (F0 m pc ls st0) := by
  intro T hT X
  obtain ⟨v, st₀, t, T', L, h0, X', hL, e1, e2, ⟨⟨u, hv, hp, hb⟩, hz, hk⟩, st⟩ := hr T hT X
  cases hv
  have hL0 : L = [] := List.eq_nil_iff_forall_not_mem.mpr (fun q hq => hL q hq)
  subst hL0
  rw [List.append_nil] at X'
  have hb : t.heap = Hf := hb
  obtain ⟨t2, a1, b1⟩ := kk u T' (e1.trans (hb.trans hH)) X'
  exact ⟨t2, st t2 a1, b1⟩
end JC
def jw_coder : List Cond := [.code yJ0_coder_7d493 cJ0_coder_7d493 1 (some .byte), .fieldLink "java/lang/String" 38 "java/lang/String" "COMPACT_STRINGS" "Z", .fieldLink "java/lang/String" 15 "java/lang/String" "coder" "B"]
theorem jd_coder_0 : decode cJ0_coder_7d493 0 = .ok (.getstatic 38, 3) := by decide +kernel
theorem jd_coder_3 : decode cJ0_coder_7d493 3 = .ok (.ifCond .eq 10, 3) := by decide +kernel
theorem jd_coder_6 : decode cJ0_coder_7d493 6 = .ok (.aload_n 0, 1) := by decide +kernel
theorem jd_coder_7 : decode cJ0_coder_7d493 7 = .ok (.getfield 15, 3) := by decide +kernel
theorem jd_coder_10 : decode cJ0_coder_7d493 10 = .ok (.goto 4, 3) := by decide +kernel
theorem jd_coder_14 : decode cJ0_coder_7d493 14 = .ok (.ireturn, 1) := by decide +kernel
set_option maxHeartbeats 4000000 in
set_option maxRecDepth 100000 in
theorem jc_coder (l : Launch) (g : mj_G) (adV : Nat → Nat) (fm : Value) (Hf : Heap) (i : Nat) (hi : i < 14) : Met l yJ0_coder_7d493 jw_coder ({ frames := 0, cells := 0, slots := 0, locals := 0 }) (va_Pc [.ref (g.2.2 i)] (jP g adV fm Hf)) (va_Qi (fun (r : Int32) (_ : Unit) => r = 0) (fun _ t => t.heap = Hf) jN) 0 0 jN := by
  refine Met.ofW (cc := cJ0_coder_7d493) (maxL := 1) (ret := (some .byte)) (by decide) rfl ?_
  intro p e s m args below meth c s₁ B hml hv
  obtain ⟨rfl, hP⟩ := hv
  have hz := hP.1
  have hH := hP.2
  have hx := B.exec
  have hb := B.bytes
  have hr := B.returns
  have hts := atoms_spec (ws := jw_coder) B.pre
  have hown : s.vm.findClass "java/lang/String" = some m.cls := findClass_of_methodNamed B.named
  have hlocks := B.notSynchronized
  have hS : va_S (jA g) s.heap s.heap [] := va_S.rf
  have hN : va_S jN s.heap s.heap [] := va_S.rf
  have hl := lv_entry ([.ref (g.2.2 i)]) (n := 1) (Nat.le_of_ble_eq_true rfl)
  rw [lg_entry_eq]
  generalize (lg_sl ([.ref (g.2.2 i)]) ++ List.replicate (1 - (lg_sl ([.ref (g.2.2 i)])).length) Slot.unset).toArray = ls at hl ⊢
  have hl : lv_has ls 1 [(0, .ref (g.2.2 i))] := hl
  refine va_gets (A := jA g) hx hb hz.2.2.1 hS hown (hts (.fieldLink "java/lang/String" 38 "java/lang/String" "COMPACT_STRINGS" "Z") (by decide +kernel)) (fun _ h => h) jd_coder_0 ?_
  refine lv_if_eq (tgt := 13) hx hb jd_coder_3 (by decide) (fun h => absurd h (by decide)) (fun _ => ?_)
  refine lv_aload_n hx hb jd_coder_6 rfl (lv_at hl 0 rfl) ?_
  refine vk_getf (A := jA g) hx hb (hz.1.1 i hi).2.1 hS hown (hts (.fieldLink "java/lang/String" 15 "java/lang/String" "coder" "B") (by decide +kernel)) (fun _ h => h) jd_coder_7 ?_
  refine lv_goto (tgt := 14) hx hb jd_coder_10 (by decide) ?_
  exact W.zret (v := 0) hx hb hr (by decide) (fun t ht hW => ⟨⟨0, (), rfl, rfl, ht.trans hH⟩, hN.F ht⟩) hN.2.2 jd_coder_14 hlocks
def jw_isLatin1 : List Cond := [.code yJ0_isLatin1_aae02 cJ0_isLatin1_aae02 1 (some .boolean), .fieldLink "java/lang/String" 38 "java/lang/String" "COMPACT_STRINGS" "Z", .fieldLink "java/lang/String" 15 "java/lang/String" "coder" "B"]
theorem jd_isLatin1_0 : decode cJ0_isLatin1_aae02 0 = .ok (.getstatic 38, 3) := by decide +kernel
theorem jd_isLatin1_3 : decode cJ0_isLatin1_aae02 3 = .ok (.ifCond .eq 14, 3) := by decide +kernel
theorem jd_isLatin1_6 : decode cJ0_isLatin1_aae02 6 = .ok (.aload_n 0, 1) := by decide +kernel
theorem jd_isLatin1_7 : decode cJ0_isLatin1_aae02 7 = .ok (.getfield 15, 3) := by decide +kernel
theorem jd_isLatin1_10 : decode cJ0_isLatin1_aae02 10 = .ok (.ifCond .ne 7, 3) := by decide +kernel
theorem jd_isLatin1_13 : decode cJ0_isLatin1_aae02 13 = .ok (.iconst 1, 1) := by decide +kernel
theorem jd_isLatin1_14 : decode cJ0_isLatin1_aae02 14 = .ok (.goto 4, 3) := by decide +kernel
theorem jd_isLatin1_18 : decode cJ0_isLatin1_aae02 18 = .ok (.ireturn, 1) := by decide +kernel
set_option maxHeartbeats 4000000 in
set_option maxRecDepth 100000 in
theorem jc_isLatin1 (l : Launch) (g : mj_G) (adV : Nat → Nat) (fm : Value) (Hf : Heap) (i : Nat) (hi : i < 14) : Met l yJ0_isLatin1_aae02 jw_isLatin1 ({ frames := 0, cells := 0, slots := 0, locals := 0 }) (va_Pc [.ref (g.2.2 i)] (jP g adV fm Hf)) (va_Qi (fun (r : Int32) (_ : Unit) => r = 1) (fun _ t => t.heap = Hf) jN) 0 0 jN := by
  refine Met.ofW (cc := cJ0_isLatin1_aae02) (maxL := 1) (ret := (some .boolean)) (by decide) rfl ?_
  intro p e s m args below meth c s₁ B hml hv
  obtain ⟨rfl, hP⟩ := hv
  have hz := hP.1
  have hH := hP.2
  have hx := B.exec
  have hb := B.bytes
  have hr := B.returns
  have hts := atoms_spec (ws := jw_isLatin1) B.pre
  have hown : s.vm.findClass "java/lang/String" = some m.cls := findClass_of_methodNamed B.named
  have hlocks := B.notSynchronized
  have hS : va_S (jA g) s.heap s.heap [] := va_S.rf
  have hN : va_S jN s.heap s.heap [] := va_S.rf
  have hl := lv_entry ([.ref (g.2.2 i)]) (n := 1) (Nat.le_of_ble_eq_true rfl)
  rw [lg_entry_eq]
  generalize (lg_sl ([.ref (g.2.2 i)]) ++ List.replicate (1 - (lg_sl ([.ref (g.2.2 i)])).length) Slot.unset).toArray = ls at hl ⊢
  have hl : lv_has ls 1 [(0, .ref (g.2.2 i))] := hl
  refine va_gets (A := jA g) hx hb hz.2.2.1 hS hown (hts (.fieldLink "java/lang/String" 38 "java/lang/String" "COMPACT_STRINGS" "Z") (by decide +kernel)) (fun _ h => h) jd_isLatin1_0 ?_
  refine lv_if_eq (tgt := 17) hx hb jd_isLatin1_3 (by decide) (fun h => absurd h (by decide)) (fun _ => ?_)
  refine lv_aload_n hx hb jd_isLatin1_6 rfl (lv_at hl 0 rfl) ?_
  refine vk_getf (A := jA g) hx hb (hz.1.1 i hi).2.1 hS hown (hts (.fieldLink "java/lang/String" 15 "java/lang/String" "coder" "B") (by decide +kernel)) (fun _ h => h) jd_isLatin1_7 ?_
  refine lv_if_ne (tgt := 17) hx hb jd_isLatin1_10 (by decide) (fun h => absurd h (by decide)) (fun _ => ?_)
  refine lv_iconst (v := 1) hx hb jd_isLatin1_13 (by decide) ?_
  refine lv_goto (tgt := 18) hx hb jd_isLatin1_14 (by decide) ?_
  exact W.zret (v := 1) hx hb hr (by decide) (fun t ht hW => ⟨⟨1, (), rfl, rfl, ht.trans hH⟩, hN.F ht⟩) hN.2.2 jd_isLatin1_18 hlocks
