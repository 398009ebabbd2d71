/-! THE CLAIM OUT OF ONE WALK OF THE LAW'S BODY. Your part is whole_start (and what it stands on); all else here is the same for every law, but numbers. -/
def R_law : String := "GhostTrainLaw"
def lw_P (b : Addr) (xs : List Int32) (args : Array Value) (s : State) : Prop := args = #[.ref b] ∧ s.IntsAt b xs ∧ xs.length ≤ 3072 ∧ (Jvm.Cond.and given_1 narrow_1).before args s = true
def lw_Q (_ : Array Value) (s : State) (o : Outcome) (t : State) : Prop := o = .returned (some (.int 1)) ∧ Framed s o t [] 600000 7302250
def lw_Z (below : List Frame) (a : Array Value) (s : State) : State → Prop := fun t => ∃ o, t.status = .running ∧ Ended t below o ∧ lw_Q a s o t
/-- the law's own end, with 1 on the stack, nothing written that was there before, its room as the claim has it -/
theorem lw_ret {p : Program} {l : Launch} {e : Env} {s : State} {m : MethodId} {below : List Frame} {meth : Method} {c : Code} {b : Nat} (hx : p.tables.exec = Jvm.exec) (hb : c.code = code) (hr : meth.sig.returnType = ret) (hlocks : meth.locks = false) {pc : Nat} {H : Heap} {ls : Array Slot} (hdg : decode code pc = .ok (.ireturn, 1)) : W p l e room_1 s m #[Value.ref b] below meth c H [] 600000 7302250 (lw_Z below #[Value.ref b] s) (F0 m pc ls [.int 1]) := by
  intro T hT X
  obtain ⟨fs, hret, hrun, hended, hW, hframe⟩ := X.leave (v := some (.int 1)) (hlocks := hlocks) (fun h => by rw [hr] at h; cases h)
  have hmeth' : T.vm.method? m = some meth := X.method'
  refine ⟨T.setFrames fs, ?_, .returned (some (.int 1)), hrun, hended, rfl, ⟨_, rfl⟩, hW, hframe⟩
  jvm_step X.here [X.here.top, hx, hb, hdg, hmeth', hr, ret, narrow_b1]
  (try refine ⟨rfl, ?_⟩); (try refine ⟨rfl, ?_⟩)
  first | (intro acts; rw [hret _ acts rfl rfl rfl]) | rw [hret _ _ rfl rfl rfl]
  exact Steps.refl _
/-- what holds at the law's entry: the machine, the code, the tables' words (any of lw_tbl by 'hts w (by decide +kernel)'), the script of L ints xs at the cell b, what the Statement gives of the start (any of its parts by flat_of_before) -/
def lw_At (p : Program) (s : State) (m : MethodId) (meth : Method) (c : Code) (b L : Nat) (xs : Nat → Int32) : Prop :=
  p.tables.exec = Jvm.exec ∧ c.code = code ∧ meth.sig.returnType = ret ∧ c.maxLocals = 4 ∧ s.vm.findClass R_law = some m.cls ∧ (∀ w ∈ lw_tbl, w.before #[Value.ref b] s = true) ∧ va_X b L xs s s.heap ∧ b < s.heap.size ∧ meth.locks = false ∧ (Jvm.Cond.and given_1 narrow_1).before #[Value.ref b] s = true
/-! ===== the law's entry ===== -/
def mj_inok (r : Nat × Nat) : Bool := match vwCl[r.1]? with
  | some q => mj_wp (.instantiable q.1 q.2.2) r.2
  | none => true
def mj_inl : List Nat := [108, 80, 115, 87, 101, 94, 149, 223, 241, 124, 199, 71, 924]
set_option maxRecDepth 1000000 in
theorem mj_in_ok : ((List.range 13).all fun c => mj_inok (c, mj_inl.getD c 0)) = true := by decide +kernel
theorem mj_inst {c : Nat} {q : vw_C} (h : vwCl[c]? = some q) : Cond.instantiable q.1 q.2.2 ∈ mj_T := by
  have hc : c < 13 := (List.getElem?_eq_some_iff.mp h).1
  have h1 := List.all_eq_true.mp mj_in_ok c (List.mem_range.mpr hc)
  unfold mj_inok at h1
  dsimp only at h1
  rw [h] at h1
  exact mj_wp_in h1
def mj_nwok (q : Cond × Nat) : Bool := decide (lw_tbl[q.2]? = some q.1) && q.1.onTables
set_option maxRecDepth 1000000 in
theorem mj_nw_ok : (mj_nw.zip mj_np).all mj_nwok = true := by decide +kernel
theorem mj_nw_len : mj_nw.length = 22 ∧ mj_np.length = 22 := by decide +kernel
theorem mj_nw_in {w : Cond} (h : w ∈ mj_nw) : w ∈ lw_tbl ∧ w.onTables = true := by
  obtain ⟨i, hi, rfl⟩ := List.getElem_of_mem h
  have h1 : (mj_nw.zip mj_np)[i]? = some (mj_nw[i], mj_np[i]'(by rw [mj_nw_len.2]; rw [mj_nw_len.1] at hi; exact hi)) := by
    rw [List.getElem?_eq_getElem (by rw [List.length_zip, mj_nw_len.1, mj_nw_len.2]; rw [mj_nw_len.1] at hi; omega), List.getElem_zip]
  have h2 := List.all_eq_true.mp mj_nw_ok _ (List.mem_of_getElem? h1)
  unfold mj_nwok at h2
  rw [Bool.and_eq_true, decide_eq_true_eq] at h2
  exact ⟨List.mem_of_getElem? h2.1, h2.2⟩
theorem mj_AO_ok {s : State} {A : Array Value} {C : String} (h : (Cond.arrayOver (.object C)).before A s = true) : ∃ cA : ClassId, ArrOfT s cA (.object C) ∧ va_RA s cA (.object C) := by
  obtain ⟨comp, c, k, h1, h2, h3, h4, h5⟩ := Cond.arrayOver_spec h
  exact ⟨c, fun N z => ⟨(fun k h => by cases h), k, h3, comp, h4⟩, k, comp, h3, h4, h1, h5⟩
theorem mj_AA_ok {s : State} {t : FieldType} (h : mj_AOA t s) : ∃ cA : ClassId, ArrOfT s cA (.array t) ∧ va_RA s cA (.array t) := by
  obtain ⟨comp, c, k, h1, h2, h3, h4, h5⟩ := arrayOverA_spec h
  exact ⟨c, fun N z => ⟨(fun k h => by cases h), k, h3, comp, h4⟩, h5⟩
theorem mj_AC_ok {s : State} {A : Array Value} {t : FieldType} (ht : t = .int ∨ t = .boolean ∨ t = .char) (h : (Cond.arrayClass t).before A s = true) : ∃ cA : ClassId, ArrOfT s cA t ∧ va_RA s cA t := by
  obtain ⟨c, k, comp, h1, h2, h3⟩ := Cond.arrayClass_spec h
  exact ⟨c, fun N z => ⟨(fun k h => by cases h), k, h2, comp, h3⟩, by rcases ht with rfl | rfl | rfl <;> exact h1⟩
theorem mj_arrs {s : State} {A : Array Value} (hts : ∀ w ∈ lw_tbl, w.before A s = true) (hT : ∀ w ∈ mj_T, w.before A s = true) (hA : mj_AOA .int s) (hO : va_AO "GhostTrain$CarKind" s ∧ va_AO "GhostTrain$Text" s ∧ va_AO "GhostTrain$Sheet" s ∧ va_AO "GhostTrain$Slot" s) : ∃ ka : Nat → ClassId, ∀ t : Nat, t < 8 → ArrOfT s (ka (20 + t)) (mj_ty (20 + t)) ∧ va_RA s (ka (20 + t)) (mj_ty (20 + t)) := by
  have h0 : ∀ t : Nat, ∃ c : ClassId, 20 ≤ t → t < 28 → ArrOfT s c (mj_ty t) ∧ va_RA s c (mj_ty t) := by
    intro t
    by_cases h : 20 ≤ t ∧ t < 28
    · rcases (show t = 20 ∨ t = 21 ∨ t = 22 ∨ t = 23 ∨ t = 24 ∨ t = 25 ∨ t = 26 ∨ t = 27 by omega) with rfl | rfl | rfl | rfl | rfl | rfl | rfl | rfl
      · obtain ⟨c, g⟩ := mj_AC_ok (Or.inl rfl) (hT _ mj_ac_int); exact ⟨c, fun _ _ => g⟩
      · obtain ⟨c, g⟩ := mj_AC_ok (Or.inr (Or.inl rfl)) (hT _ mj_ac_bool); exact ⟨c, fun _ _ => g⟩
      · obtain ⟨c, g⟩ := mj_AC_ok (Or.inr (Or.inr rfl)) (hT _ mj_ac_char); exact ⟨c, fun _ _ => g⟩
      · obtain ⟨c, g⟩ := mj_AO_ok (va_AO.use (A := A) hO.1); exact ⟨c, fun _ _ => g⟩
      · obtain ⟨c, g⟩ := mj_AO_ok (va_AO.use (A := A) hO.2.1); exact ⟨c, fun _ _ => g⟩
      · obtain ⟨c, g⟩ := mj_AO_ok (va_AO.use (A := A) hO.2.2.1); exact ⟨c, fun _ _ => g⟩
      · obtain ⟨c, g⟩ := mj_AO_ok (va_AO.use (A := A) hO.2.2.2); exact ⟨c, fun _ _ => g⟩
      · obtain ⟨c, g⟩ := mj_AA_ok hA; exact ⟨c, fun _ _ => g⟩
    · exact ⟨0, fun h1 h2 => absurd ⟨h1, h2⟩ h⟩
  obtain ⟨ka, hka⟩ := Classical.axiomOfChoice h0
  exact ⟨ka, fun t ht => hka (20 + t) (by omega) (by omega)⟩
theorem mj_clss {s : State} {A : Array Value} (hT : ∀ w ∈ mj_T, w.before A s = true) : ∃ D : va_G, ∀ (c : Nat) (q : vw_C), vwCl[c]? = some q → u_Kn s q.1 q.2.1 q.2.2 (D.1 c) (D.2 c) := by
  have h0 : ∀ c : Nat, ∃ x : ClassId × (Nat → Nat), ∀ q : vw_C, vwCl[c]? = some q → u_Kn s q.1 q.2.1 q.2.2 x.1 x.2 := by
    intro c
    cases h : vwCl[c]? with
    | none => exact ⟨(0, fun _ => 0), fun q hq => by cases hq⟩
    | some q0 =>
      obtain ⟨cC, iS, g⟩ := u_known (C := q0.1) (T := q0.2.1) (N := q0.2.2) (n := q0.2.2) hT (mj_lays_in h) (hT _ (mj_inst h))
      exact ⟨(cC, iS), fun q hq => by cases hq; exact g⟩
  obtain ⟨x, hx⟩ := Classical.axiomOfChoice h0
  exact ⟨(fun c => (x c).1, fun c => (x c).2), fun c q hq => hx c q hq⟩
theorem mj_own_law : mj_own (mj_oc 219) = "GhostTrainLaw" := by decide +kernel
theorem mj_nm_law : (mj_Y 219).name = "law" := by decide +kernel
theorem mj_AO_in : Cond.arrayOver (.object "GhostTrain$CarKind") ∈ lw_tbl ∧ Cond.arrayOver (.object "GhostTrain$Text") ∈ lw_tbl ∧ Cond.arrayOver (.object "GhostTrain$Sheet") ∈ lw_tbl ∧ Cond.arrayOver (.object "GhostTrain$Slot") ∈ lw_tbl ∧ Cond.arrayOver (.array .int) ∈ lw_tbl := by decide +kernel
