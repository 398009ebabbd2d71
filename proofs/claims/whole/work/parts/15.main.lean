/-! ===== the small machine's runs are the machine's ===== -/
/-- text constants: loaded, asked for their length, a sign, a sign's place -/
def mj_TX (l : Launch) (g : mj_G) (K : mj_K) (Z : State → Prop) : Prop := ∀ {p : Program} {e : Env} {R : Room} {s : State} {m : MethodId} {args : Array Value} {below : List Frame} {meth : Method} {c : Code} {H : Heap} {locs : List Loc} {cells slots : Nat} {Q : State → Prop} {cc : ByteArray} {pc : Nat} {lsr : Array Slot} {o : Nat} {ini : Bool} {en : mj_I} {ls st : List Value} {q : Nat × List Value × List Value},
  p.tables.exec = Jvm.exec → c.code = cc → s.vm.findClass (mj_own o) = some m.cls → (∀ w ∈ mj_T, w.before args s = true) → mj_F g K Z s → decode cc pc = .ok (en.1, en.2.1) → mj_chk o ini pc en = true → (∀ i, en.1 ≠ .invokestatic i) → mj_sx en pc ls st = some q → c.maxLocals = lsr.size → (∀ a : Nat, a < g.1 → H[a]? = s.heap[a]?) → 10 ≤ R.frames ∧ 1000 ≤ R.locals → cells ≤ R.cells → slots ≤ R.slots →
  W p l e R s m args below meth c H locs cells slots Q (F0 m q.1 lsr (q.2.2.map (mj_tr g))) → W p l e R s m args below meth c H locs cells slots Q (F0 m pc lsr (st.map (mj_tr g)))
theorem mj_ml_in {o i a : Nat} (h : (mj_ml.any (fun r => r.1 == o && r.2.1 == i && r.2.2.1 == a)) = true) : (a = 3005 → ∀ w ∈ [Cond.methodLink (mj_own o) i Lib.Math.max.name, .static Lib.Math.max.name, .initialized "java/lang/Math", .code Lib.Math.max.name Lib.Math.max.code 2 (some .int)], w ∈ mj_T) ∧
    (a = 3006 → ∀ w ∈ [Cond.methodLink (mj_own o) i Lib.Math.min.name, .static Lib.Math.min.name, .initialized "java/lang/Math", .code Lib.Math.min.name Lib.Math.min.code 2 (some .int)], w ∈ mj_T) ∧
    (a = 3007 → ∀ w ∈ [Cond.methodLink (mj_own o) i Lib.Math.abs.name, .static Lib.Math.abs.name, .initialized "java/lang/Math", .code Lib.Math.abs.name Lib.Math.abs.code 1 (some .int)], w ∈ mj_T) := by
  obtain ⟨r, hr, h1⟩ := List.any_eq_true.mp h
  simp only [Bool.and_eq_true, beq_iff_eq] at h1
  obtain ⟨⟨rfl, rfl⟩, rfl⟩ := h1
  have h2 := List.all_eq_true.mp mj_ml_ok r hr
  unfold mj_mlok at h2
  refine ⟨fun e => ?_, fun e => ?_, fun e => ?_⟩
  · rw [if_pos e] at h2
    exact mj_wps_in h2
  · rw [if_neg (by omega), if_pos e] at h2
    exact mj_wps_in h2
  · rw [if_neg (by omega), if_neg (by omega), Bool.and_eq_true] at h2
    exact mj_wps_in h2.1
theorem mj_lv_args : ∀ (as : List Value) (n i : Nat) (v : Value), as.all mj_cat1 = true → as[i]? = some v → (n + i, v) ∈ lv_args n as
  | [], _, _, _, _, h => by simp at h
  | a :: l, n, i, v, hall, h => by
    rw [List.all_cons, Bool.and_eq_true] at hall
    have h1 : ¬ a.category = 2 := by
      have := hall.1
      unfold mj_cat1 at this
      rw [beq_iff_eq] at this
      omega
    unfold lv_args
    cases i with
    | zero =>
      rw [List.getElem?_cons_zero] at h
      cases h
      exact List.mem_cons_self
    | succ i =>
      rw [List.getElem?_cons_succ] at h
      rw [if_neg h1]
      have := mj_lv_args l (n + 1) i v hall.2 h
      rw [show n + (i + 1) = n + 1 + i by omega]
      exact List.mem_cons_of_mem _ this
theorem mj_lg_sl : ∀ as : List Value, as.all mj_cat1 = true → (lg_sl as).length = as.length
  | [], _ => rfl
  | a :: l, h => by
    rw [List.all_cons, Bool.and_eq_true] at h
    have h1 : ¬ a.category = 2 := by
      have := h.1
      unfold mj_cat1 at this
      rw [beq_iff_eq] at this
      omega
    have := mj_lg_sl l h.2
    unfold lg_sl at this ⊢
    rw [List.flatMap_cons, if_neg h1]
    simp [this]
theorem mj_entry {g : mj_G} {as : List Value} {n : Nat} (h1 : as.all mj_cat1 = true) (h2 : as.length ≤ n) : mj_lok g ((lg_sl (as.map (mj_tr g)) ++ List.replicate (n - (lg_sl (as.map (mj_tr g))).length) Slot.unset).toArray) (mj_ent n as) := by
  have hc : (as.map (mj_tr g)).all mj_cat1 = true := by
    rw [List.all_eq_true] at h1 ⊢
    intro v hv
    obtain ⟨u, hu, rfl⟩ := List.mem_map.mp hv
    have := h1 u hu
    unfold mj_cat1 at this ⊢
    rw [mj_tr_cat]
    exact this
  have hlen := mj_lg_sl _ hc
  rw [List.length_map] at hlen
  obtain ⟨q1, q2, q3⟩ := lv_entry (as.map (mj_tr g)) (n := n) (by rw [hlen]; exact h2)
  refine ⟨?_, q2, fun i v hi hn => ?_⟩
  · rw [q1]
    unfold mj_ent
    rw [List.length_append, List.length_replicate]
    omega
  · unfold mj_ent at hi
    rcases Nat.lt_or_ge i as.length with h | h
    · rw [List.getElem?_append_left h] at hi
      have := mj_lv_args (as.map (mj_tr g)) 0 i (mj_tr g v) hc (by rw [List.getElem?_map, hi]; rfl)
      rw [Nat.zero_add] at this
      exact q3 _ this
    · rw [List.getElem?_append_right h] at hi
      have := List.mem_of_getElem? hi
      rw [(List.mem_replicate.mp this).2] at hn
      cases hn
section MJR
variable {p : Program} {l : Launch} {e : Env} {R : Room} {s : State} {m : MethodId} {args : Array Value} {below : List Frame} {meth : Method} {c : Code} {H : Heap} {locs : List Loc} {cells slots : Nat} {Q : State → Prop} {cc : ByteArray} {pc : Nat} {lsr : Array Slot}
theorem mj_sx_ok (hx : p.tables.exec = Jvm.exec) (hb : c.code = cc) {o : Nat} {ini : Bool} (hown : s.vm.findClass (mj_own o) = some m.cls) (hts : ∀ w ∈ mj_T, w.before args s = true) {g : mj_G} {K : mj_K} {Z : State → Prop} (hTX : mj_TX l g K Z) (hF : mj_F g K Z s) {en : mj_I} (hd : decode cc pc = .ok (en.1, en.2.1)) (hk : mj_chk o ini pc en = true)
    {ls st : List Value} {q : Nat × List Value × List Value} (hs : mj_sx en pc ls st = some q) (hml : c.maxLocals = lsr.size) (hlow : ∀ a : Nat, a < g.1 → H[a]? = s.heap[a]?) (hR : 10 ≤ R.frames ∧ 1000 ≤ R.locals) (hc1 : cells ≤ R.cells) (hc2 : slots ≤ R.slots) (kk : W p l e R s m args below meth c H locs cells slots Q (F0 m q.1 lsr (q.2.2.map (mj_tr g)))) :
    q.2.1 = ls ∧ W p l e R s m args below meth c H locs cells slots Q (F0 m pc lsr (st.map (mj_tr g))) := by
  have hq : q.2.1 = ls := by
    unfold mj_sx at hs
    repeat' split at hs
    all_goals first | (cases hs; rfl) | cases hs
  refine ⟨hq, ?_⟩
  by_cases hi : ∃ i, en.1 = .invokestatic i
  · obtain ⟨i, hi⟩ := hi
    obtain ⟨ins, ln, ea, eb⟩ := en
    dsimp only at hi hd
    subst hi
    have w13 : ∀ rest : List Value, mj_sum rest ≤ 8 → ((rest.map (mj_tr g)).map fun v => v.category).sum + 13 ≤ R.locals := fun rest hr => by
      have := mj_tr_sum g rest
      omega
    simp only [mj_chk, Bool.and_eq_true, decide_eq_true_eq] at hk
    obtain ⟨hln, hk⟩ := hk
    subst hln
    simp only [mj_sx] at hs
    have hml2 : c.maxLocals = lsr.size := hml
    split at hs
    · rename_i he
      have he : ea = 3005 := he
      subst he
      rw [if_neg (by decide), if_pos (by decide)] at hk
      have hw := (mj_ml_in hk).1 rfl
      split at hs
      · split at hs
        · rename_i h8
          cases hs
          exact va_mmax (own := mj_own o) (index := i) hx hb hml2 hown (hts _ (hw _ (by simp))) (hts _ (hw _ (by simp))) (hts _ (hw _ (by simp))) (hts _ (hw _ (by simp))) (by omega) (w13 _ h8) hc1 hc2 hd kk
        · cases hs
      · cases hs
    · split at hs
      · rename_i he
        have he : ea = 3006 := he
        subst he
        rw [if_neg (by decide), if_pos (by decide)] at hk
        have hw := (mj_ml_in hk).2.1 rfl
        split at hs
        · split at hs
          · rename_i h8
            cases hs
            exact va_mmin (own := mj_own o) (index := i) hx hb hml2 hown (hts _ (hw _ (by simp))) (hts _ (hw _ (by simp))) (hts _ (hw _ (by simp))) (hts _ (hw _ (by simp))) (by omega) (w13 _ h8) hc1 hc2 hd kk
          · cases hs
        · cases hs
      · split at hs
        · rename_i he
          have he : ea = 3007 := he
          subst he
          rw [if_neg (by decide), if_pos (by decide)] at hk
          have hw := (mj_ml_in hk).2.2 rfl
          split at hs
          · split at hs
            · rename_i h8
              cases hs
              exact va_mabs (own := mj_own o) (index := i) hx hb hml2 hown (hts _ (hw _ (by simp))) (hts _ (hw _ (by simp))) (hts _ (hw _ (by simp))) (hts _ (hw _ (by simp))) (by omega) (w13 _ h8) hc1 hc2 hd kk
            · cases hs
          · cases hs
        · cases hs
  · exact hTX hx hb hown hts hF hd hk (fun i h => hi ⟨i, h⟩) hs hml hlow hR hc1 hc2 kk
end MJR
theorem mj_look_mem : ∀ {l : List (Nat × mj_I)} {pc : Nat} {e : mj_I}, mj_look l pc = some e → (pc, e) ∈ l
  | [], _, _, h => by cases h
  | q :: l, pc, e, h => by
    unfold mj_look at h
    by_cases hq : q.1 = pc
    · rw [if_pos hq] at h
      cases h
      rw [← hq]
      exact List.mem_cons_self
    · rw [if_neg hq] at h
      exact List.mem_cons_of_mem _ (mj_look_mem h)
/-- what the program's check says of an instruction that is come upon -/
theorem mj_at {y pc : Nat} {en : mj_I} (hok : mj_mok y = true) (h : mj_look (mj_prog y) pc = some en) : decode (mj_m y).2.1 pc = .ok (en.1, en.2.1) ∧ mj_chk (mj_oc y) (decide ((mj_Y y).name = "<init>")) pc en = true := by
  unfold mj_mok at hok
  rw [Bool.and_eq_true, Bool.and_eq_true] at hok
  have h2 := List.all_eq_true.mp hok.1.1 (pc, en) (mj_look_mem h)
  rw [Bool.and_eq_true, decide_eq_true_eq] at h2
  exact h2
/-- a method's end: where it stands, and what is on its stack -/
def mj_end (y pc : Nat) (st : List Value) (r : Option Value) : Prop := ∃ en : mj_I, mj_look (mj_prog y) pc = some en ∧ mj_ret (mj_m y).2.2.2.1 en st = some r
theorem mj_stp_le {e : mj_I} {pc : Nat} {ls st : List Value} {h : mj_H} {q : Nat × List Value × List Value × mj_H} (hs : mj_stp e pc ls st h = some q) : h.1 ≤ q.2.2.2.1 ∧ h.2.1 ≤ q.2.2.2.2.1 := by
  unfold mj_stp at hs
  split at hs
  · cases hs
    exact ⟨Nat.le_refl _, Nat.le_refl _⟩
  · split at hs
    · cases hs
      exact ⟨Nat.le_refl _, Nat.le_refl _⟩
    · unfold mj_sh at hs
      repeat' split at hs
      all_goals first | (cases hs; done) | (cases hs; exact ⟨Nat.le_refl _, Nat.le_refl _⟩) | (cases hs; exact ⟨Nat.le_add_right _ _, Nat.le_add_right _ _⟩) | (cases hs; exact ⟨by show h.1 ≤ h.1 + 1 + _; omega, Nat.le_add_right _ _⟩)
theorem mj_run_le : ∀ (k d y pc : Nat) (ls st : List Value) (h : mj_H) (r : Option Value) (h1 : mj_H), mj_run k d y pc ls st h = some (r, h1) → h.1 ≤ h1.1 ∧ h.2.1 ≤ h1.2.1
  | 0, _, _, _, _, _, _, _, _, hr => by cases hr
  | k + 1, d, y, pc, ls, st, h, r, h1, hr => by
    unfold mj_run at hr
    cases e1 : mj_look (mj_prog y) pc with
    | none => rw [e1] at hr; cases hr
    | some e =>
      rw [e1] at hr
      dsimp only at hr
      cases e2 : mj_ret (mj_m y).2.2.2.1 e st with
      | some r0 => rw [e2] at hr; cases hr; exact ⟨Nat.le_refl _, Nat.le_refl _⟩
      | none =>
        rw [e2] at hr
        dsimp only at hr
        cases e3 : mj_call e st h with
        | some q =>
          rw [e3] at hr
          dsimp only at hr
          cases d with
          | zero => cases hr
          | succ d0 =>
            dsimp only at hr
            cases e4 : mj_run k d0 q.1 0 (mj_ent (mj_m q.1).2.2.1 q.2.1) [] h with
            | none => rw [e4] at hr; cases hr
            | some w =>
              rw [e4] at hr
              obtain ⟨v, h2⟩ := w
              have a1 := mj_run_le k d0 _ _ _ _ _ _ _ e4
              have a2 := mj_run_le k (d0 + 1) _ _ _ _ _ _ _ hr
              exact ⟨Nat.le_trans a1.1 a2.1, Nat.le_trans a1.2 a2.2⟩
        | none =>
          rw [e3] at hr
          dsimp only at hr
          cases e4 : mj_stp e pc ls st h with
          | none => rw [e4] at hr; cases hr
          | some q =>
            rw [e4] at hr
            have a1 := mj_stp_le e4
            have a2 := mj_run_le k d _ _ _ _ _ _ _ hr
            exact ⟨Nat.le_trans a1.1 a2.1, Nat.le_trans a1.2 a2.2⟩
/-- where the machine stands in a method: what holds all along -/
def mj_Cx (l : Launch) (g : mj_G) (K : mj_K) (Z : State → Prop) (y : Nat) (p : Program) (s : State) (m : MethodId) (args : Array Value) (meth : Method) (c : Code) : Prop :=
  p.tables.exec = Jvm.exec ∧ c.code = (mj_m y).2.1 ∧ c.maxLocals = (mj_m y).2.2.1 ∧ s.vm.findClass (mj_own (mj_oc y)) = some m.cls ∧ (∀ w ∈ mj_T, w.before args s = true) ∧ mj_F g K Z s ∧ ((mj_Y y).name = "<init>" → meth.name = "<init>")
theorem mj_stp_len {e : mj_I} {pc : Nat} {ls st : List Value} {h : mj_H} {q : Nat × List Value × List Value × mj_H} (hs : mj_stp e pc ls st h = some q) : q.2.1.length = ls.length := by
  unfold mj_stp at hs
  split at hs
  · rename_i q0 h0
    cases hs
    unfold mj_sp at h0
    repeat' split at h0
    all_goals first | (cases h0; done) | (cases h0; rfl) | (cases h0; simp)
  · split at hs
    · rename_i q0 h0
      cases hs
      unfold mj_sx at h0
      repeat' split at h0
      all_goals first | (cases h0; done) | (cases h0; rfl)
    · unfold mj_sh at hs
      repeat' split at hs
      all_goals first | (cases hs; done) | (cases hs; rfl)
