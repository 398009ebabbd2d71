/-! ===== calls ===== -/
/-- a fact of the state that warming and lower cells keep -/
def mj_ZZ (g : mj_G) (Z : State → Prop) : Prop := (∀ u U : State, U.vm = u.vm → U.heap = u.heap → Z u → Z U) ∧ ∀ s U : State, s.WarmedH U.vm → (∀ a : Nat, a < g.1 → U.heap[a]? = s.heap[a]?) → Z s → Z U
theorem mj_AOA.moved {t : FieldType} {u U : State} (hvm : u.vm.Alike U.vm) (h : mj_AOA t u) : mj_AOA t U := by
  obtain ⟨comp, c, k, h1, h2, h3, h4, h5⟩ := arrayOverA_spec h
  obtain ⟨k', hk', he⟩ := hvm.2.2 _ _ h3
  have hi : (U.vm.classes.findIdx? fun (x : Class) => match x.kind with | .array component _ => component == comp | _ => false) = some c := by
    have e1 := va_idx_bare U.vm comp
    have e2 := va_idx_bare u.vm comp
    have hb : U.vm.bare = u.vm.bare := by first | exact hvm.bare_eq | exact hvm.bare_eq.symm
    rw [hb] at e1
    exact (e1.symm.trans e2).trans h2
  have hkind : k'.kind = .array comp (.array t) := by rw [he]; exact h4
  have f1 : U.vm.findClass (FieldType.array t).toString = some comp := by rw [hvm.findClass]; exact h1
  have f2 : U.vm.findClass ("[" ++ (FieldType.array t).toString) = some c := by rw [hvm.findClass]; exact h5
  unfold mj_AOA Cond.before Cond.holds
  simp only [Cond.value]
  rw [f1, Option.bind_some]
  refine (congrArg (fun o : Option Nat => (o.bind (fun c => (U.vm.classes[c]?).map fun (k : Class) => match k.kind with | .array _ ty => decide (ty = FieldType.array t) && decide (U.vm.findClass ("[" ++ (FieldType.array t).toString) = some c) | _ => false) == some true)) hi).trans ?_
  simp [hk', hkind, f2]
def mj_nwk : Cond → Bool
  | .methodLinkNest .. => true
  | .castable .. => true
  | _ => false
theorem mj_nwk_ok : ∀ w ∈ mj_nw, mj_nwk w = true := by
  have h : mj_nw.all mj_nwk = true := by decide +kernel
  exact List.all_eq_true.mp h
theorem mj_F.warm {g : mj_G} {K : mj_K} {Z : State → Prop} {s U : State} (hZ : mj_ZZ g Z) (hW : s.WarmedH U.vm) (hq : ∀ a : Nat, a < g.1 → U.heap[a]? = s.heap[a]?) (h : mj_F g K Z s) : mj_F g K Z U := by
  obtain ⟨h1, h2, ⟨h3, h4, h5, h6, h7⟩, h8, h9, h10⟩ := h
  refine ⟨h1.moved hW.alike, fun w hw => ?_, ⟨h3.moved hW.alike, h4.moved hW.alike, h5.moved hW.alike, h6.moved hW.alike, h7.moved hW.alike⟩, (h8.moved hW.alike).kept (hq _ h9), h9, hZ.2 _ _ hW hq h10⟩
  have hk := mj_nwk_ok w hw
  have h0 := h2 w hw
  cases w with
  | methodLinkNest a i x hh => exact va_Nw.warmM hW h0
  | castable a b => exact va_Nw.warmC hW h0
  | _ => cases hk
theorem mj_F.same {g : mj_G} {K : mj_K} {Z : State → Prop} {s U : State} (hZ : mj_ZZ g Z) (hv : U.vm = s.vm) (hh : U.heap = s.heap) (h : mj_F g K Z s) : mj_F g K Z U := by
  obtain ⟨h1, h2, ⟨h3, h4, h5, h6, h7⟩, h8, h9, h10⟩ := h
  have ha : s.vm.Alike U.vm := by rw [hv]; exact Vm.Alike.refl _
  refine ⟨h1.moved ha, fun w hw => ?_, ⟨h3.moved ha, h4.moved ha, h5.moved ha, h6.moved ha, h7.moved ha⟩, (h8.moved ha).kept (by rw [hh]), h9, hZ.1 _ _ hv hh h10⟩
  have hk := mj_nwk_ok w hw
  have h0 := h2 w hw
  cases w with
  | methodLinkNest a i x hh => exact h0.same rfl hv.symm
  | castable a b => exact h0.same rfl hv.symm
  | _ => cases hk
def mj_rm (d mc ms : Nat) : Room := { frames := d + 10, cells := mc, slots := ms, locals := 1000 + 100 * d }
def mj_ws (y : Nat) : List Cond := mj_C y :: mj_T
def mj_P (g : mj_G) (K : mj_K) (Z : State → Prop) (as : List Value) (h : mj_H) : Array Value → State → Prop := fun v U => v = (as.map (mj_tr g)).toArray ∧ mj_F g K Z U ∧ mj_Wh g K h U.heap
def mj_Q (g : mj_G) (K : mj_K) (r : Option Value) (h1 : mj_H) : Array Value → State → Outcome → State → Prop := fun _ st o t => o = .returned (r.map (mj_tr g)) ∧ mj_Wh g K h1 t.heap ∧ ∀ a : Nat, a < g.1 → t.heap[a]? = st.heap[a]?
abbrev mj_fr (g : mj_G) : Addr → Prop := fun a => g.1 ≤ a
/-- the contract of a call that the small machine runs -/
def mj_M (l : Launch) (g : mj_G) (K : mj_K) (Z : State → Prop) (d y : Nat) (as : List Value) (h : mj_H) (r : Option Value) (h1 : mj_H) : Prop := Met l (mj_Y y) (mj_ws y) (mj_rm d (h1.1 - h.1) (h1.2.1 - h.2.1)) (mj_P g K Z as h) (mj_Q g K r h1) (h1.1 - h.1) (h1.2.1 - h.2.1) (mj_fr g)
theorem mj_blind {g : mj_G} {K : mj_K} {Z : State → Prop} (hZ : mj_ZZ g Z) (as : List Value) (h : mj_H) : FrameBlind (mj_P g K Z as h) := fun a U fr mk hP => ⟨hP.1, mj_F.same (s := U) (U := U.calling fr mk a) hZ rfl rfl hP.2.1, hP.2.2⟩
theorem mj_maxL : ∀ y : Nat, y < 220 → (mj_m y).2.2.1 ≤ 80 := by decide +kernel
theorem mj_ownq : ∀ t : Nat, t < 13 → ∀ q : vw_C, vwCl[t]? = some q → q.1 = mj_own t := by
  intro t ht q hq
  have h : ∀ t : Nat, t < 13 → (vwCl[t]?).map (fun q => q.1) = some (mj_own t) := by decide +kernel
  have := h t ht
  rw [hq] at this
  exact Option.some.inj this
section MJC
variable {p : Program} {l : Launch} {e : Env} {R : Room} {s : State} {m : MethodId} {args : Array Value} {below : List Frame} {meth : Method} {c : Code} {H : Heap} {locs : List Loc} {cells slots : Nat} {Q : State → Prop} {cc : ByteArray} {pc : Nat} {lsr : Array Slot}
theorem mj_pay (hts : ∀ w ∈ mj_T, w.before args s = true) {y : Nat} (hy : y < 219) : ∀ w ∈ mj_ws y, ∀ (a' : Array Value) (U : State), s.WarmedH U.vm → w.before a' U = true := by
  refine pay_in (big := mj_T) hts fun w hw => ?_
  have hm : w ∈ mj_T := by
    rcases List.mem_cons.mp hw with rfl | h
    · exact mj_cin hy
    · exact h
  exact ⟨hm, good_of_word (List.mem_filter.mp hm).2⟩
theorem mj_plen_of {y n : Nat} (h : mj_plen y n = true) : ∀ sig, parseMethodDescriptor (mj_Y y).desc = some sig → n = sig.parameters.length := by
  intro sig hs
  unfold mj_plen at h
  rw [decide_eq_true_eq, hs] at h
  exact (Option.some.inj h).symm
theorem mj_notMH_of {y : Nat} (h : mj_notMH y = true) : (mj_Y y).cls ≠ "java/lang/invoke/MethodHandle" ∧ (mj_Y y).cls ≠ "java/lang/invoke/VarHandle" := by
  unfold mj_notMH at h
  rw [Bool.and_eq_true, decide_eq_true_eq, decide_eq_true_eq] at h
  exact h
/-- behind a call -/
theorem mj_after {g : mj_G} {K : mj_K} {v : Option Value} {h2 : mj_H} {av : Array Value} {mc ms : Nat} {st rest : List Value} (hr : va_Run p l e R s m args below meth c H locs cells slots mc ms (F0 m pc lsr st) rest (mj_Q g K v h2 av) (mj_fr g)) (hlow : ∀ a : Nat, a < g.1 → H[a]? = s.heap[a]?) (hlo : ∀ x ∈ locs, g.1 ≤ x.base)
    (kk : ∀ (H' : Heap) (locs' : List Loc), mj_Wh g K h2 H' → (∀ a : Nat, a < g.1 → H'[a]? = s.heap[a]?) → (∀ x ∈ locs', g.1 ≤ x.base) → W p l e R s m args below meth c H' locs' (cells + mc) (slots + ms) Q (F0 m (pc + 3) lsr ((v.map (mj_tr g)).toList ++ rest))) :
    W p l e R s m args below meth c H locs cells slots Q (F0 m pc lsr st) := by
  intro T hT X
  obtain ⟨v', st₀, t, T', L, h0, X', hL, e1, e2, ⟨q1, q2, q3⟩, stp⟩ := hr T hT X
  cases q1
  obtain ⟨t2, a1, b1⟩ := kk T'.heap (locs ++ L) (by rw [e1]; exact q2) (fun a ha => by rw [e1, q3 a ha, h0]; exact hlow a ha) (fun x hx => by
    rcases List.mem_append.mp hx with h | h
    · exact hlo x h
    · exact hL x h) T' rfl X'
  exact ⟨t2, stp t2 a1, b1⟩
end MJC
