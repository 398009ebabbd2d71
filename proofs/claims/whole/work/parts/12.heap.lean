/-! ===== what the small machine does with its cells, the machine does ===== -/
/-- the classes' and fields' numbers, the arrays' classes, the script's length and values -/
abbrev mj_K : Type := va_G × (Nat → ClassId) × Nat × (Nat → Int32)
def mj_cellAt (g : mj_G) (K : mj_K) (t n : Nat) (v : Nat → Value) (a : Nat) (H : Heap) : Prop :=
  if t < 13 then ∃ r : vw_C, vwCl[t]? = some r ∧ n = r.2.2 ∧ t_OB a (K.1.1 t) r.2.2 (K.1.2 t) H (fun k => mj_tr g (v k))
  else H[a]? = some (arrV (K.2.1 t) n (fun j => mj_tr g (v j)))
/-- the heap holds the small machine's cells -/
def mj_Wh (g : mj_G) (K : mj_K) (h : mj_H) (H : Heap) : Prop :=
  H.size = g.1 + h.1 ∧ h.1 ≤ 1000 ∧ (h.2.2.1 mj_X = (20, K.2.2.1) ∧ ∀ j : Nat, j < K.2.2.1 → h.2.2.2 mj_X j = .int (K.2.2.2 j)) ∧ ∀ i : Nat, i < h.1 → mj_cellAt g K (h.2.2.1 i).1 (h.2.2.1 i).2 (h.2.2.2 i) (g.1 + i) H
def mj_AOA (t : FieldType) (U : State) : Prop := (Cond.arrayOver (.array t)).before #[] U = true
def mj_tys (ka : Nat → ClassId) : List (ClassId × FieldType) := (List.range 8).map fun i => (ka (20 + i), mj_ty (20 + i))
/-- what holds at the entry of every method: the classes, the words that are no good words, the script -/
def mj_F (g : mj_G) (K : mj_K) (Z : State → Prop) (s : State) : Prop :=
  va_K K.1 vwCl (mj_tys K.2.1) s ∧ (∀ w ∈ mj_nw, va_Nw w s) ∧ (va_AO "GhostTrain$CarKind" s ∧ va_AO "GhostTrain$Text" s ∧ va_AO "GhostTrain$Sheet" s ∧ va_AO "GhostTrain$Slot" s ∧ mj_AOA .int s) ∧ va_X g.2.1 K.2.2.1 K.2.2.2 s s.heap ∧ g.2.1 < g.1 ∧ Z s
theorem mj_F.arr {g : mj_G} {K : mj_K} {Z : State → Prop} {s : State} (h : mj_F g K Z s) {t : Nat} (h1 : 20 ≤ t) (h2 : t < 28) : ArrOfT s (K.2.1 t) (mj_ty t) ∧ va_RA s (K.2.1 t) (mj_ty t) := by
  have := h.1.2 (t - 20) (K.2.1 (20 + (t - 20)), mj_ty (20 + (t - 20))) (by unfold mj_tys; rw [List.getElem?_map, List.getElem?_range (by omega)]; rfl)
  rw [show 20 + (t - 20) = t by omega] at this
  exact this
theorem mj_cellAt.kept {g : mj_G} {K : mj_K} {t n : Nat} {v : Nat → Value} {a : Nat} {H H1 : Heap} (h : mj_cellAt g K t n v a H) (hq : H1[a]? = H[a]?) : mj_cellAt g K t n v a H1 := by
  unfold mj_cellAt at h ⊢
  by_cases h0 : t < 13
  · rw [if_pos h0] at h ⊢
    obtain ⟨r, h1, h2, h3⟩ := h
    exact ⟨r, h1, h2, h3.kept hq⟩
  · rw [if_neg h0] at h ⊢
    rw [hq]
    exact h
theorem mj_cellAt.ob {g : mj_G} {K : mj_K} {t n : Nat} {v : Nat → Value} {a : Nat} {H : Heap} (h : mj_cellAt g K t n v a H) (h0 : t < 13) : ∃ r : vw_C, vwCl[t]? = some r ∧ n = r.2.2 ∧ t_OB a (K.1.1 t) r.2.2 (K.1.2 t) H (fun k => mj_tr g (v k)) := by
  unfold mj_cellAt at h
  rwa [if_pos h0] at h
theorem mj_cellAt.ar {g : mj_G} {K : mj_K} {t n : Nat} {v : Nat → Value} {a : Nat} {H : Heap} (h : mj_cellAt g K t n v a H) (h0 : 20 ≤ t) : H[a]? = some (arrV (K.2.1 t) n (fun j => mj_tr g (v j))) := by
  unfold mj_cellAt at h
  rwa [if_neg (by omega)] at h
/-- one cell is otherwise -/
theorem mj_Wh.upd {g : mj_G} {K : mj_K} {h : mj_H} {H H1 : Heap} {i : Nat} {V' : Nat → Nat → Value} (hW : mj_Wh g K h H) (hi : i < h.1) (hV : ∀ j, j ≠ i → V' j = h.2.2.2 j) (z : H1.size = H.size) (oq : ∀ q : Nat, q ≠ g.1 + i → H1[q]? = H[q]?) (hc : mj_cellAt g K (h.2.2.1 i).1 (h.2.2.1 i).2 (V' i) (g.1 + i) H1) : mj_Wh g K (h.1, h.2.1, h.2.2.1, V') H1 := by
  obtain ⟨w1, w2, w3, w4⟩ := hW
  refine ⟨by rw [z]; exact w1, w2, ⟨w3.1, fun j hj => ?_⟩, fun j hj => ?_⟩
  · show V' mj_X j = _
    rw [hV mj_X (by show (1000000 : Nat) ≠ i; omega)]
    exact w3.2 j hj
  · by_cases e : j = i
    · subst e
      exact hc
    · show mj_cellAt g K (h.2.2.1 j).1 (h.2.2.1 j).2 (V' j) (g.1 + j) H1
      rw [hV j e]
      exact (w4 j hj).kept (oq _ (by omega))
/-- a cell more -/
theorem mj_Wh.new {g : mj_G} {K : mj_K} {h : mj_H} {H H1 : Heap} {t n : Nat} {v : Nat → Value} (hW : mj_Wh g K h H) (hm : h.1 < 1000) (z : H1.size = H.size + 1) (oq : ∀ q : Nat, q < H.size → H1[q]? = H[q]?) (hc : mj_cellAt g K t n v (g.1 + h.1) H1) : mj_Wh g K (mj_new h t n v) H1 := by
  obtain ⟨w1, w2, w3, w4⟩ := hW
  have hX : ¬ mj_X = h.1 := by show ¬ (1000000 : Nat) = h.1; omega
  refine ⟨by rw [z, w1]; rfl, hm, ⟨?_, fun j hj => ?_⟩, fun j hj => ?_⟩
  · show (if mj_X = h.1 then (t, n) else h.2.2.1 mj_X) = _
    rw [if_neg hX]
    exact w3.1
  · show (if mj_X = h.1 then v j else h.2.2.2 mj_X j) = _
    rw [if_neg hX]
    exact w3.2 j hj
  · by_cases e : j = h.1
    · subst e
      show mj_cellAt g K (if h.1 = h.1 then (t, n) else h.2.2.1 h.1).1 (if h.1 = h.1 then (t, n) else h.2.2.1 h.1).2 (fun k => if h.1 = h.1 then v k else h.2.2.2 h.1 k) (g.1 + h.1) H1
      simp only [if_true]
      exact hc
    · show mj_cellAt g K (if j = h.1 then (t, n) else h.2.2.1 j).1 (if j = h.1 then (t, n) else h.2.2.1 j).2 (fun k => if j = h.1 then v k else h.2.2.2 j k) (g.1 + j) H1
      simp only [if_neg e]
      have hj' : j < h.1 + 1 := hj
      exact (w4 j (by omega)).kept (oq _ (by omega))
theorem mj_names : ∀ c : Nat, c < 13 → ∀ q : vw_C, vwCl[c]? = some q → (∀ k, k < q.2.2 → parseFieldDescriptor (q.2.1 k).2.2.1 = some (mj_fty c k)) ∧ (∀ a, a < q.2.2 → ∀ b, b < q.2.2 → a ≠ b → (q.2.1 a).2.1 ≠ (q.2.1 b).2.1) := by
  intro c hc q hq
  match c, hc, hq with
  | 0, _, hq => cases hq; exact ⟨fun k hk => absurd hk (Nat.not_lt_zero _), nmX0⟩
  | 1, _, hq => cases hq; exact ⟨fun k hk => absurd hk (Nat.not_lt_zero _), nmX1⟩
  | 2, _, hq => cases hq; exact ⟨fun k hk => absurd hk (Nat.not_lt_zero _), nmX2⟩
  | 3, _, hq => cases hq; exact ⟨fun k hk => absurd hk (Nat.not_lt_zero _), nmX3⟩
  | 4, _, hq => cases hq; exact ⟨fun k hk => absurd hk (Nat.not_lt_zero _), nmX4⟩
  | 5, _, hq => cases hq; exact ⟨fun k hk => absurd hk (Nat.not_lt_zero _), nmX5⟩
  | 6, _, hq => cases hq; exact ⟨fun k hk => by rw [tyX6_ok k hk]; unfold mj_fty; dsimp only [vwCl, List.getElem?_cons_succ, List.getElem?_cons_zero]; rw [tyX6_ok k hk]; rfl, nmX6⟩
  | 7, _, hq => cases hq; exact ⟨fun k hk => by rw [tyX7_ok k hk]; unfold mj_fty; dsimp only [vwCl, List.getElem?_cons_succ, List.getElem?_cons_zero]; rw [tyX7_ok k hk]; rfl, nmX7⟩
  | 8, _, hq => cases hq; exact ⟨fun k hk => by rw [tyX8_ok k hk]; unfold mj_fty; dsimp only [vwCl, List.getElem?_cons_succ, List.getElem?_cons_zero]; rw [tyX8_ok k hk]; rfl, nmX8⟩
  | 9, _, hq => cases hq; exact ⟨fun k hk => by rw [tyX9_ok k hk]; unfold mj_fty; dsimp only [vwCl, List.getElem?_cons_succ, List.getElem?_cons_zero]; rw [tyX9_ok k hk]; rfl, nmX9⟩
  | 10, _, hq => cases hq; exact ⟨fun k hk => by rw [tyX10_ok k hk]; unfold mj_fty; dsimp only [vwCl, List.getElem?_cons_succ, List.getElem?_cons_zero]; rw [tyX10_ok k hk]; rfl, nmX10⟩
  | 11, _, hq => cases hq; exact ⟨fun k hk => by rw [tyX11_ok k hk]; unfold mj_fty; dsimp only [vwCl, List.getElem?_cons_succ, List.getElem?_cons_zero]; rw [tyX11_ok k hk]; rfl, nmX11⟩
  | 12, _, hq => cases hq; exact ⟨fun k hk => by rw [tyX12_ok k hk]; unfold mj_fty; dsimp only [vwCl, List.getElem?_cons_succ, List.getElem?_cons_zero]; rw [tyX12_ok k hk]; rfl, nmX12⟩
  | n + 13, h, _ => omega
theorem mj_vlt {c : Nat} {q : vw_C} (h : vwCl[c]? = some q) : c < 13 := (List.getElem?_eq_some_iff.mp h).1
theorem mj_lays_in {c : Nat} {q : vw_C} (h : vwCl[c]? = some q) : ∀ w ∈ u_ws q.1 q.2.1 q.2.2, w ∈ mj_T := by
  have h1 := List.all_eq_true.mp mj_ll_ok c (List.mem_range.mpr (mj_vlt h))
  unfold mj_llok at h1
  rw [h] at h1
  exact mj_wps_in h1
theorem mj_fl_in {o i a b : Nat} (h : (mj_fl.any (fun r => r.1 == o && r.2.1 == i && r.2.2.1 == a && r.2.2.2.1 == b)) = true) : ∃ q : vw_C, vwCl[a]? = some q ∧ b < q.2.2 ∧ Cond.fieldLink (mj_own o) i (q.2.1 b).1 (q.2.1 b).2.1 (q.2.1 b).2.2.1 ∈ mj_T := by
  obtain ⟨r, hr, h1⟩ := List.any_eq_true.mp h
  simp only [Bool.and_eq_true, beq_iff_eq] at h1
  obtain ⟨⟨⟨rfl, rfl⟩, rfl⟩, rfl⟩ := h1
  have h2 := List.all_eq_true.mp mj_fl_ok r hr
  unfold mj_flok at h2
  cases hq : vwCl[r.2.2.1]? with
  | none => rw [hq] at h2; cases h2
  | some q =>
    rw [hq] at h2
    simp only [Bool.and_eq_true, decide_eq_true_eq] at h2
    exact ⟨q, rfl, h2.1.2, mj_wp_in h2.1.1⟩
theorem mj_inv {i : Int32} {n : Nat} (h : mj_in i n = true) : vp_in i n ∧ ¬ i < 0 ∧ i.toNatClampNeg < n := by
  unfold mj_in at h
  rw [Bool.and_eq_true, decide_eq_true_eq, decide_eq_true_eq] at h
  exact ⟨fun q => q.elim h.1 (fun q => by omega), h.1, h.2⟩
section MJH
variable {p : Program} {l : Launch} {e : Env} {R : Room} {s : State} {m : MethodId} {args : Array Value} {below : List Frame} {meth : Method} {c : Code} {H : Heap} {locs : List Loc} {cells slots : Nat} {Q : State → Prop} {cc : ByteArray} {pc : Nat}
/-- new T[n][m] -/
def mj_MA (l : Launch) (g : mj_G) (K : mj_K) (Z : State → Prop) : Prop := ∀ {p : Program} {e : Env} {R : Room} {s : State} {m : MethodId} {args : Array Value} {below : List Frame} {meth : Method} {c : Code} {H : Heap} {locs : List Loc} {cells slots : Nat} {Q : State → Prop} {cc : ByteArray} {pc : Nat} {lsr : Array Slot} {rest : List Value} {h : mj_H} {own : String} {i : Nat} {n k : Int32},
  p.tables.exec = Jvm.exec → c.code = cc → s.vm.findClass own = some m.cls → (∀ w ∈ mj_T, w.before args s = true) → mj_F g K Z s → (Cond.classLink own i "[[I").before args s = true → decode cc pc = .ok (.multianewarray i 2, 4) → mj_Wh g K h H →
  h.1 + 1 + n.toNatClampNeg < 1000 → ¬ n < 0 → ¬ k < 0 → n.toNatClampNeg ≤ 1000 → k.toNatClampNeg ≤ 1000 → cells + (1 + n.toNatClampNeg) ≤ R.cells → slots + (n.toNatClampNeg + n.toNatClampNeg * k.toNatClampNeg) ≤ R.slots →
  (∀ H1 : Heap, mj_Wh g K (mj_new2 h 27 20 n.toNatClampNeg k.toNatClampNeg (.int 0)) H1 → (∀ q : Nat, q < H.size → H1[q]? = H[q]?) → W p l e R s m args below meth c H1 locs (cells + (1 + n.toNatClampNeg)) (slots + (n.toNatClampNeg + n.toNatClampNeg * k.toNatClampNeg)) Q (F0 m (pc + 4) lsr (.ref (g.1 + h.1) :: rest))) →
  W p l e R s m args below meth c H locs cells slots Q (F0 m pc lsr (.int k :: .int n :: rest))
theorem mj_adr {g : mj_G} {a : Nat} (h : a < 1000) : mj_tr g (.ref a) = .ref (g.1 + a) := by
  show Value.ref (mj_ad g a) = _
  unfold mj_ad
  rw [if_pos (by show a < 1000000; omega)]
theorem mj_adX {g : mj_G} : mj_tr g (.ref mj_X) = .ref g.2.1 := by
  show Value.ref (mj_ad g mj_X) = _
  unfold mj_ad
  rw [if_neg (by show ¬ (1000000 : Nat) < 1000000; omega), if_pos rfl]
theorem mj_putS {V : Nat → Nat → Value} {i k : Nat} {v : Value} : mj_put V i k v i = fun b => if b = k then v else V i b := by
  funext b
  simp [mj_put]
theorem mj_putN {V : Nat → Nat → Value} {i j k : Nat} {v : Value} (h : j ≠ i) : mj_put V i k v j = V j := by
  funext b
  simp [mj_put, h]
theorem mj_cellAt.st {g : mj_G} {K : mj_K} {t n : Nat} {v : Nat → Value} {a k : Nat} {x : Value} {H : Heap} (h0 : 20 ≤ t) (h : H[a]? = some ((arrV (K.2.1 t) n (fun j => mj_tr g (v j))).setSlot k (mj_tr g x))) : mj_cellAt g K t n (fun b => if b = k then x else v b) a H := by
  unfold mj_cellAt
  rw [if_neg (by omega), h, arrV_store]
  refine congrArg some (congrArg (arrV (K.2.1 t) n) (funext fun j => ?_))
  unfold updV
  by_cases e : j = k
  · dsimp only
    rw [if_pos e, if_pos e]
  · dsimp only
    rw [if_neg e, if_neg e]
theorem mj_refs : ∀ t : Nat, 23 ≤ t → t < 28 → (mj_ty t).isReference = true := by
  intro t h1 h2
  rcases (show t = 23 ∨ t = 24 ∨ t = 25 ∨ t = 26 ∨ t = 27 by omega) with rfl | rfl | rfl | rfl | rfl <;> rfl
theorem mj_castok {g : mj_G} {K : mj_K} {Z : State → Prop} {s : State} (hF : mj_F g K Z s) {t : Nat} (ht : t < 6) : s.vm.assignable (K.1.1 t) (K.1.1 1) = true := by
  have hn : ∀ t : Nat, t < 6 → t ≠ 1 → Cond.castable (mj_own t) "GhostTrain$CarKind" ∈ mj_nw := by decide +kernel
  have hcl : ∀ t : Nat, t < 6 → ∃ q : vw_C, vwCl[t]? = some q ∧ q.1 = mj_own t := by
    intro t ht
    match t, ht with
    | 0, _ => exact ⟨_, rfl, rfl⟩
    | 1, _ => exact ⟨_, rfl, rfl⟩
    | 2, _ => exact ⟨_, rfl, rfl⟩
    | 3, _ => exact ⟨_, rfl, rfl⟩
    | 4, _ => exact ⟨_, rfl, rfl⟩
    | 5, _ => exact ⟨_, rfl, rfl⟩
    | n + 6, h => omega
  obtain ⟨q, hq, hqn⟩ := hcl t ht
  have hc := (hF.1.1 t q hq).2
  have h1 := (hF.1.1 1 _ rfl).2
  by_cases e : t = 1
  · subst e
    exact va_assign h1
  · obtain ⟨a, b, f1, f2, f3⟩ := Cond.castable_spec (va_Nw.use (A := #[]) rfl (hF.2.1 _ (hn t ht e)))
    rw [← hqn] at f1
    cases hc.1.symm.trans f1
    cases h1.1.symm.trans f2
    exact f3
theorem mj_ast_ok {g : mj_G} {K : mj_K} {Z : State → Prop} {s : State} (hF : mj_F g K Z s) {ta tv : Nat} (h : ta = 23 ∧ tv < 6 ∨ ta = 24 ∧ tv = 10 ∨ ta = 25 ∧ tv = 7 ∨ ta = 26 ∧ tv = 8) : ∃ (kA kc : Class) (comp : ClassId), s.vm.classes[K.2.1 ta]? = some kA ∧ kA.kind = .array comp (mj_ty ta) ∧ s.vm.classes[comp]? = some kc ∧ s.vm.assignable (K.1.1 tv) comp = true := by
  have go : ∀ (ta tc : Nat) (q : vw_C), 20 ≤ ta → ta < 28 → vwCl[tc]? = some q → mj_ty ta = .object q.1 → s.vm.assignable (K.1.1 tv) (K.1.1 tc) = true → ∃ (kA kc : Class) (comp : ClassId), s.vm.classes[K.2.1 ta]? = some kA ∧ kA.kind = .array comp (mj_ty ta) ∧ s.vm.classes[comp]? = some kc ∧ s.vm.assignable (K.1.1 tv) comp = true := by
    intro ta tc q h1 h2 hq hty has
    have hra := (hF.arr h1 h2).2
    rw [hty] at hra ⊢
    obtain ⟨kA, comp, k1, k2, k3, -⟩ := hra
    have hc := (hF.1.1 tc q hq).2
    obtain ⟨hc1, kC, hkC, -⟩ := hc
    have e : comp = K.1.1 tc := Option.some.inj (k3.symm.trans hc1)
    subst e
    exact ⟨kA, kC, _, k1, k2, hkC, has⟩
  rcases h with ⟨rfl, h⟩ | ⟨rfl, rfl⟩ | ⟨rfl, rfl⟩ | ⟨rfl, rfl⟩
  · exact go 23 1 _ (by decide) (by decide) rfl rfl (mj_castok hF h)
  · exact go 24 10 _ (by decide) (by decide) rfl rfl (va_assign (hF.1.1 10 _ rfl).2)
  · exact go 25 7 _ (by decide) (by decide) rfl rfl (va_assign (hF.1.1 7 _ rfl).2)
  · exact go 26 8 _ (by decide) (by decide) rfl rfl (va_assign (hF.1.1 8 _ rfl).2)
theorem mj_nl_in {o i a : Nat} (h : (mj_nl.any (fun r => r.1 == o && r.2.1 == i && r.2.2.1 == a)) = true) : ∃ q : vw_C, vwCl[a]? = some q ∧ ∀ w ∈ [Cond.classLink (mj_own o) i q.1, .instantiable q.1 q.2.2, .initialized q.1], w ∈ mj_T := by
  obtain ⟨r, hr, h1⟩ := List.any_eq_true.mp h
  simp only [Bool.and_eq_true, beq_iff_eq] at h1
  obtain ⟨⟨rfl, rfl⟩, rfl⟩ := h1
  have h2 := List.all_eq_true.mp mj_nl_ok r hr
  unfold mj_nlok at h2
  cases hq : vwCl[r.2.2.1]? with
  | none => rw [hq] at h2; cases h2
  | some q =>
    rw [hq] at h2
    exact ⟨q, rfl, mj_wps_in h2⟩
theorem mj_al_in {o i a : Nat} (h : (mj_al.any (fun r => r.1 == o && r.2.1 == i && r.2.2.1 == a)) = true) : Cond.classLink (mj_own o) i (if a = 27 then "[[I" else match mj_ty a with | .object C => C | _ => "") ∈ mj_T := by
  obtain ⟨r, hr, h1⟩ := List.any_eq_true.mp h
  simp only [Bool.and_eq_true, beq_iff_eq] at h1
  obtain ⟨⟨rfl, rfl⟩, rfl⟩ := h1
  exact mj_wp_in (List.all_eq_true.mp mj_al_ok r hr)
theorem mj_ol_in {o i : Nat} (h : (mj_ol.any (fun r => r.1 == o && r.2.1 == i)) = true) : ∀ w ∈ [Cond.methodLink (mj_own o) i objectInit, .instanceMethod objectInit, .code objectInit ⟨#[0xb1]⟩ 1 none], w ∈ mj_T := by
  obtain ⟨r, hr, h1⟩ := List.any_eq_true.mp h
  simp only [Bool.and_eq_true, beq_iff_eq] at h1
  obtain ⟨rfl, rfl⟩ := h1
  exact mj_wps_in (List.all_eq_true.mp mj_ol_ok r hr)
theorem mj_acl_in {o i : Nat} (h : (mj_acl.any (fun r => r.1 == o && r.2.1 == i)) = true) : ∀ w ∈ [Cond.methodLink (mj_own o) i arraycopyName, .native arraycopyName, .static arraycopyName, .initialized "java/lang/System"], w ∈ mj_T := by
  obtain ⟨r, hr, h1⟩ := List.any_eq_true.mp h
  simp only [Bool.and_eq_true, beq_iff_eq] at h1
  obtain ⟨rfl, rfl⟩ := h1
  exact mj_wps_in (List.all_eq_true.mp mj_ac_ok r hr)
theorem mj_dflt (g : mj_G) (ty : FieldType) : defaultValue ty = mj_tr g (defaultValue ty) := by cases ty <;> rfl
set_option maxHeartbeats 8000000 in
theorem mj_sh_ok (hx : p.tables.exec = Jvm.exec) (hb : c.code = cc) {o : Nat} {ini : Bool} (hown : s.vm.findClass (mj_own o) = some m.cls) (hts : ∀ w ∈ mj_T, w.before args s = true) {g : mj_G} {K : mj_K} {Z : State → Prop} (hF : mj_F g K Z s) (hMA : mj_MA l g K Z) {en : mj_I} (hd : decode cc pc = .ok (en.1, en.2.1)) (hk : mj_chk o ini pc en = true)
    {ls st : List Value} {h : mj_H} {q : Nat × List Value × List Value × mj_H} (hs : mj_sh en pc ls st h = some q) {lsr : Array Slot} (hl : mj_lok g lsr ls) (hml : c.maxLocals = ls.length) (hW : mj_Wh g K h H) (hlow : ∀ a : Nat, a < g.1 → H[a]? = s.heap[a]?) (hlo : ∀ x ∈ locs, g.1 ≤ x.base) (hini : ini = true → meth.name = "<init>") (hR : 10 ≤ R.frames ∧ 1000 ≤ R.locals) (hc1 : cells + (q.2.2.2.1 - h.1) ≤ R.cells) (hc2 : slots + (q.2.2.2.2.1 - h.2.1) ≤ R.slots)
    (kk : ∀ (lsr' : Array Slot) (H' : Heap) (locs' : List Loc), mj_lok g lsr' q.2.1 → mj_Wh g K q.2.2.2 H' → (∀ a : Nat, a < g.1 → H'[a]? = s.heap[a]?) → (∀ x ∈ locs', g.1 ≤ x.base) → W p l e R s m args below meth c H' locs' (cells + (q.2.2.2.1 - h.1)) (slots + (q.2.2.2.2.1 - h.2.1)) Q (F0 m q.1 lsr' (q.2.2.1.map (mj_tr g)))) :
    W p l e R s m args below meth c H locs cells slots Q (F0 m pc lsr (st.map (mj_tr g))) := by
  obtain ⟨ins, ln, ea, eb⟩ := en
  dsimp only at hd
  have w1 := hW.1
  have w2 := hW.2.1
  have w4 := hW.2.2.2
  have kk0 : q.2.2.2.1 = h.1 → q.2.2.2.2.1 = h.2.1 → ∀ (lsr' : Array Slot) (H' : Heap) (locs' : List Loc), mj_lok g lsr' q.2.1 → mj_Wh g K q.2.2.2 H' → (∀ a : Nat, a < g.1 → H'[a]? = s.heap[a]?) → (∀ x ∈ locs', g.1 ≤ x.base) → W p l e R s m args below meth c H' locs' cells slots Q (F0 m q.1 lsr' (q.2.2.1.map (mj_tr g))) := by
    intro e1 e2 lsr' H' locs' a1 a2 a3 a4
    have := kk lsr' H' locs' a1 a2 a3 a4
    rwa [e1, e2, Nat.sub_self, Nat.sub_self, Nat.add_zero, Nat.add_zero] at this
  have kk1 : ∀ k n : Nat, q.2.2.2.1 = h.1 + k → q.2.2.2.2.1 = h.2.1 + n → (cells + k ≤ R.cells ∧ slots + n ≤ R.slots) ∧ ∀ (lsr' : Array Slot) (H' : Heap) (locs' : List Loc), mj_lok g lsr' q.2.1 → mj_Wh g K q.2.2.2 H' → (∀ a : Nat, a < g.1 → H'[a]? = s.heap[a]?) → (∀ x ∈ locs', g.1 ≤ x.base) → W p l e R s m args below meth c H' locs' (cells + k) (slots + n) Q (F0 m q.1 lsr' (q.2.2.1.map (mj_tr g))) := by
    intro k n e1 e2
    rw [e1, Nat.add_sub_cancel_left] at hc1
    rw [e2, Nat.add_sub_cancel_left] at hc2
    refine ⟨⟨hc1, hc2⟩, fun lsr' H' locs' a1 a2 a3 a4 => ?_⟩
    have := kk lsr' H' locs' a1 a2 a3 a4
    rwa [e1, e2, Nat.add_sub_cancel_left, Nat.add_sub_cancel_left] at this
  cases ins
  case getfield i =>
    simp only [mj_chk, Bool.and_eq_true, decide_eq_true_eq] at hk
    obtain ⟨hln, hk⟩ := hk
    subst hln
    obtain ⟨r, hr, hbn, hw⟩ := mj_fl_in hk
    simp only [mj_sh] at hs
    split at hs
    · rename_i a rest
      split at hs
      · rename_i h0
        have ha1 := h0.1
        cases hs
        obtain ⟨r', e1, e2, cell, q1, q2, q3, q4⟩ := (w4 a h0.1).ob (by rw [h0.2]; exact mj_vlt hr)
        rw [h0.2, hr] at e1
        cases e1
        rw [h0.2] at q2 q4
        obtain ⟨hS, hfc, kC, hkC, hkind⟩ := hF.1.1 ea _ hr
        obtain ⟨cf, kf, fi, f, hi, hsl⟩ := hS eb hbn
        have kx := kk0 rfl rfl lsr H locs hl hW hlow hlo
        show W p l e R s m args below meth c H locs cells slots Q (F0 m pc lsr (mj_tr g (.ref a) :: rest.map (mj_tr g)))
        rw [mj_adr (a := a) (Nat.lt_of_lt_of_le ha1 w2)]
        exact W.getf hx hb hown (hts _ hw) hi (u_facts hfc hkC (u_lays hts (mj_lays_in hr) hbn) hi).1 q1 (by rw [q3]; exact fun h => by cases h) (v := mj_tr g (h.2.2.2 a eb)) (by rw [hsl, q4 eb hbn]) rfl rfl hd kx
      · cases hs
    · cases hs
  case baload =>
    obtain rfl : ln = 1 := by simpa [mj_chk] using hk
    simp only [mj_sh] at hs
    split at hs
    · rename_i i a rest
      split at hs
      · rename_i h0
        have ha1 := h0.1
        cases hs
        obtain ⟨hv, hi0, hin⟩ := mj_inv h0.2.2
        have kx := kk0 rfl rfl lsr H locs hl hW hlow hlo
        have hcell := (w4 a h0.1).ar (by rw [h0.2.1]; decide)
        rw [h0.2.1] at hcell
        show W p l e R s m args below meth c H locs cells slots Q (F0 m pc lsr (.int i :: mj_tr g (.ref a) :: rest.map (mj_tr g)))
        rw [mj_adr (a := a) (Nat.lt_of_lt_of_le ha1 w2)]
        exact W.zald (v := mj_tr g (h.2.2.2 a i.toNatClampNeg)) hx hb hcell ((hF.arr (t := 21) (by decide) (by decide)).1 _ _) (fun q => by cases q) (by rw [arrV_size]; exact hv) (by rw [arrV_read _ _ hin]) rfl rfl hd kx
      · cases hs
    · cases hs
  case caload =>
    obtain rfl : ln = 1 := by simpa [mj_chk] using hk
    simp only [mj_sh] at hs
    split at hs
    · rename_i i a rest
      split at hs
      · rename_i h0
        have ha1 := h0.1
        cases hs
        obtain ⟨hv, hi0, hin⟩ := mj_inv h0.2.2
        have kx := kk0 rfl rfl lsr H locs hl hW hlow hlo
        have hcell := (w4 a h0.1).ar (by rw [h0.2.1]; decide)
        rw [h0.2.1] at hcell
        show W p l e R s m args below meth c H locs cells slots Q (F0 m pc lsr (.int i :: mj_tr g (.ref a) :: rest.map (mj_tr g)))
        rw [mj_adr (a := a) (Nat.lt_of_lt_of_le ha1 w2)]
        exact W.cald (v := mj_tr g (h.2.2.2 a i.toNatClampNeg)) hx hb hcell ((hF.arr (t := 22) (by decide) (by decide)).1 _ _) (fun q => by cases q) (by rw [arrV_size]; exact hv) (by rw [arrV_read _ _ hin]) rfl rfl hd kx
      · cases hs
    · cases hs
  case iaload =>
    obtain rfl : ln = 1 := by simpa [mj_chk] using hk
    simp only [mj_sh] at hs
    split at hs
    · rename_i i a rest
      split at hs
      · rename_i h0
        have ha1 := h0.1
        cases hs
        obtain ⟨hv, hi0, hin⟩ := mj_inv h0.2.2
        have kx := kk0 rfl rfl lsr H locs hl hW hlow hlo
        by_cases ha : a < h.1
        · have hcell := (w4 a ha).ar (by rw [h0.2.1]; decide)
          rw [h0.2.1] at hcell
          show W p l e R s m args below meth c H locs cells slots Q (F0 m pc lsr (.int i :: mj_tr g (.ref a) :: rest.map (mj_tr g)))
          rw [mj_adr (a := a) (Nat.lt_of_lt_of_le ha w2)]
          exact W.iald (v := mj_tr g (h.2.2.2 a i.toNatClampNeg)) hx hb hcell ((hF.arr (t := 20) (by decide) (by decide)).1 _ _) (fun q => by cases q) (by rw [arrV_size]; exact hv) (by rw [arrV_read _ _ hin]) rfl rfl hd kx
        · have e : a = mj_X := by
            have := h0.1
            unfold mj_rd at this
            simpa [ha] using this
          subst e
          obtain ⟨scr, x1, x2, x3, x4, x5⟩ := hF.2.2.2.1
          obtain ⟨y1, y2⟩ := hW.2.2.1
          rw [y1] at hv hin
          have e5 := y2 _ hin
          have kx2 : W p l e R s m args below meth c H locs cells slots Q (F0 m (pc + 1) lsr (.int (K.2.2.2 i.toNatClampNeg) :: rest.map (mj_tr g))) := by
            have k2 := kx
            simp only [List.map_cons, e5] at k2
            exact k2
          show W p l e R s m args below meth c H locs cells slots Q (F0 m pc lsr (.int i :: mj_tr g (.ref mj_X) :: rest.map (mj_tr g)))
          rw [mj_adX]
          exact W.iald (v := .int (K.2.2.2 i.toNatClampNeg)) hx hb (by rw [hlow _ hF.2.2.2.2.1]; exact x1) x2 x3 (by rw [x4]; exact hv) (x5 _ hin) rfl rfl hd kx2
      · cases hs
    · cases hs
  case arraylength =>
    obtain rfl : ln = 1 := by simpa [mj_chk] using hk
    simp only [mj_sh] at hs
    split at hs
    · rename_i a rest
      split at hs
      · rename_i h0
        cases hs
        have kx := kk0 rfl rfl lsr H locs hl hW hlow hlo
        by_cases ha : a < h.1
        · have hcell := (w4 a ha).ar h0.2.1
          show W p l e R s m args below meth c H locs cells slots Q (F0 m pc lsr (mj_tr g (.ref a) :: rest.map (mj_tr g)))
          rw [mj_adr (a := a) (Nat.lt_of_lt_of_le ha w2)]
          exact W.alen hx hb hcell ((hF.arr h0.2.1 h0.2.2).1 _ _) (by rw [arrV_size]) rfl rfl hd kx
        · have e : a = mj_X := by
            have := h0.1
            unfold mj_rd at this
            simpa [ha] using this
          subst e
          obtain ⟨scr, x1, x2, x3, x4, x5⟩ := hF.2.2.2.1
          obtain ⟨y1, y2⟩ := hW.2.2.1
          show W p l e R s m args below meth c H locs cells slots Q (F0 m pc lsr (mj_tr g (.ref mj_X) :: rest.map (mj_tr g)))
          rw [mj_adX]
          exact W.alen (n := Int32.ofNat (h.2.2.1 mj_X).2) hx hb (by rw [hlow _ hF.2.2.2.2.1]; exact x1) x2 (by rw [x4, y1]) rfl rfl hd kx
      · cases hs
    · cases hs
  case aaload =>
    obtain rfl : ln = 1 := by simpa [mj_chk] using hk
    simp only [mj_sh] at hs
    split at hs
    · rename_i i a rest
      split at hs
      · rename_i h0
        have ha1 := h0.1
        cases hs
        obtain ⟨hv, hi0, hin⟩ := mj_inv h0.2.2.2
        have kx := kk0 rfl rfl lsr H locs hl hW hlow hlo
        have hcell := (w4 a h0.1).ar (by have := h0.2.1; omega)
        show W p l e R s m args below meth c H locs cells slots Q (F0 m pc lsr (.int i :: mj_tr g (.ref a) :: rest.map (mj_tr g)))
        rw [mj_adr (a := a) (Nat.lt_of_lt_of_le ha1 w2)]
        exact W.aald (v := mj_tr g (h.2.2.2 a i.toNatClampNeg)) hx hb hcell ((hF.arr (t := (h.2.2.1 a).1) (by have := h0.2.1; omega) h0.2.2.1).1 _ _) (mj_refs _ h0.2.1 h0.2.2.1) (fun q => by cases q) (by rw [arrV_size]; exact hv) (by rw [arrV_read _ _ hin]) rfl rfl hd kx
      · cases hs
    · cases hs
  case iastore =>
    obtain rfl : ln = 1 := by simpa [mj_chk] using hk
    simp only [mj_sh] at hs
    split at hs
    · rename_i x i a rest
      split at hs
      · rename_i h0
        have ha1 := h0.1
        cases hs
        obtain ⟨hv, hi0, hin⟩ := mj_inv h0.2.2
        have hcell := (w4 a h0.1).ar (by rw [h0.2.1]; decide)
        rw [h0.2.1] at hcell
        show W p l e R s m args below meth c H locs cells slots Q (F0 m pc lsr (.int x :: .int i :: mj_tr g (.ref a) :: rest.map (mj_tr g)))
        rw [mj_adr (a := a) (Nat.lt_of_lt_of_le ha1 w2)]
        refine W.iast hx hb hcell ((hF.arr (t := 20) (by decide) (by decide)).1 _ _) (fun q => by cases q) (by rw [arrV_size]; exact hv) rfl rfl hd (fun H' e1 e2 e3 => ?_)
        refine kk0 rfl rfl lsr H' _ hl (hW.upd h0.1 (fun j hj => mj_putN hj) e2 e3 ?_) (fun x hx => by rw [e3 x (show ¬ @Eq Nat x (g.1 + a) by omega)]; exact hlow x hx) (fun x hx => ?_)
        · rw [mj_putS, h0.2.1]
          exact mj_cellAt.st (by decide) e1
        · rcases List.mem_append.mp hx with hx | hx
          · exact hlo x hx
          · rw [List.mem_singleton.mp hx]
            exact Nat.le_add_right _ _
      · cases hs
    · cases hs
  case bastore =>
    obtain rfl : ln = 1 := by simpa [mj_chk] using hk
    simp only [mj_sh] at hs
    split at hs
    · rename_i x i a rest
      split at hs
      · rename_i h0
        have ha1 := h0.1
        cases hs
        obtain ⟨hv, hi0, hin⟩ := mj_inv h0.2.2
        have hcell := (w4 a h0.1).ar (by rw [h0.2.1]; decide)
        rw [h0.2.1] at hcell
        show W p l e R s m args below meth c H locs cells slots Q (F0 m pc lsr (.int x :: .int i :: mj_tr g (.ref a) :: rest.map (mj_tr g)))
        rw [mj_adr (a := a) (Nat.lt_of_lt_of_le ha1 w2)]
        refine W.zast hx hb hcell ((hF.arr (t := 21) (by decide) (by decide)).1 _ _) (fun q => by cases q) (by rw [arrV_size]; exact hv) rfl rfl hd (fun H' e1 e2 e3 => ?_)
        refine kk0 rfl rfl lsr H' _ hl (hW.upd h0.1 (fun j hj => mj_putN hj) e2 e3 ?_) (fun x hx => by rw [e3 x (show ¬ @Eq Nat x (g.1 + a) by omega)]; exact hlow x hx) (fun x hx => ?_)
        · rw [mj_putS, h0.2.1]
          exact mj_cellAt.st (by decide) e1
        · rcases List.mem_append.mp hx with hx | hx
          · exact hlo x hx
          · rw [List.mem_singleton.mp hx]
            exact Nat.le_add_right _ _
      · cases hs
    · cases hs
  case castore =>
    obtain rfl : ln = 1 := by simpa [mj_chk] using hk
    simp only [mj_sh] at hs
    split at hs
    · rename_i x i a rest
      split at hs
      · rename_i h0
        have ha1 := h0.1
        cases hs
        obtain ⟨hv, hi0, hin⟩ := mj_inv h0.2.2
        have hcell := (w4 a h0.1).ar (by rw [h0.2.1]; decide)
        rw [h0.2.1] at hcell
        show W p l e R s m args below meth c H locs cells slots Q (F0 m pc lsr (.int x :: .int i :: mj_tr g (.ref a) :: rest.map (mj_tr g)))
        rw [mj_adr (a := a) (Nat.lt_of_lt_of_le ha1 w2)]
        refine W.cast hx hb hcell ((hF.arr (t := 22) (by decide) (by decide)).1 _ _) (fun q => by cases q) (by rw [arrV_size]; exact hv) rfl rfl hd (fun H' e1 e2 e3 => ?_)
        refine kk0 rfl rfl lsr H' _ hl (hW.upd h0.1 (fun j hj => mj_putN hj) e2 e3 ?_) (fun x hx => by rw [e3 x (show ¬ @Eq Nat x (g.1 + a) by omega)]; exact hlow x hx) (fun x hx => ?_)
        · rw [mj_putS, h0.2.1]
          exact mj_cellAt.st (by decide) e1
        · rcases List.mem_append.mp hx with hx | hx
          · exact hlo x hx
          · rw [List.mem_singleton.mp hx]
            exact Nat.le_add_right _ _
      · cases hs
    · cases hs
  case putfield i =>
    simp only [mj_chk, Bool.and_eq_true, decide_eq_true_eq] at hk
    obtain ⟨⟨hln, hk⟩, hfin⟩ := hk
    subst hln
    obtain ⟨r, hr, hbn, hw⟩ := mj_fl_in hk
    simp only [hr] at hfin
    simp only [mj_sh] at hs
    split at hs
    · rename_i v a rest
      split at hs
      · rename_i h0
        have ha1 : @LT.lt Nat instLTNat a h.1 := h0.1
        cases hs
        have ho := (w4 a h0.1).ob (by rw [h0.2.1]; exact mj_vlt hr)
        rw [h0.2.1] at ho
        obtain ⟨r', e1, e2, cell, q1, q2, q3, q4⟩ := ho
        rw [hr] at e1
        cases e1
        obtain ⟨hS, hfc, kC, hkC, hkind⟩ := hF.1.1 ea _ hr
        obtain ⟨cf, kf, fi, f, hi, hsl⟩ := hS eb hbn
        obtain ⟨hty, hnm⟩ := mj_names ea (mj_vlt hr) _ hr
        have hap := va_apart (own := mj_own o) hts (mj_lays_in hr) (mj_fty ea) hty hnm hF.1 hr
        have hd1 := hty eb hbn
        have hn1 : narrow (mj_fty ea eb) (mj_tr g v) = mj_tr g v := by
          have := h0.2.2.1
          cases v with
          | ref a => unfold mj_tr; cases mj_fty ea eb <;> rfl
          | int x => exact this
          | long x => exact this
          | float x => exact this
          | double x => exact this
          | null => exact this
          | retAddr x => exact this
        have hf1 : fits (mj_fty ea eb) (mj_tr g v) = true := by
          have := h0.2.2.2
          cases v with
          | ref a => revert this; unfold mj_tr; cases mj_fty ea eb <;> exact id
          | int x => exact this
          | long x => exact this
          | float x => exact this
          | double x => exact this
          | null => exact this
          | retAddr x => exact this
        have fin : ∀ (H' : Heap), H'[g.1 + a]? = some (cell.setSlot (K.1.2 ea eb) (mj_tr g v)) → H'.size = H.size → (∀ q : Nat, q ≠ g.1 + a → H'[q]? = H[q]?) → W p l e R s m args below meth c H' (locs ++ [⟨g.1 + a, K.1.2 ea eb⟩]) cells slots Q (F0 m (pc + 3) lsr (rest.map (mj_tr g))) := by
          intro H' x1 x2 x3
          refine kk0 rfl rfl lsr H' _ hl (hW.upd h0.1 (fun j hj => mj_putN hj) x2 x3 ?_) (fun x hx => by rw [x3 x (show ¬ @Eq Nat x (g.1 + a) by omega)]; exact hlow x hx) (fun x hx => ?_)
          · rw [mj_putS, h0.2.1]
            unfold mj_cellAt
            rw [if_pos (mj_vlt hr)]
            refine ⟨r, hr, e2, t_OB.to (V := updV (fun k => mj_tr g (h.2.2.2 a k)) eb (mj_tr g v)) ⟨_, x1, q2, q3, t_set q4 hap hbn (mj_tr g v)⟩ (fun j _ => ?_)⟩
            unfold updV
            by_cases e : j = eb
            · rw [if_pos e]
              dsimp only
              rw [if_pos e]
            · rw [if_neg e]
              dsimp only
              rw [if_neg e]
          · rcases List.mem_append.mp hx with hx | hx
            · exact hlo x hx
            · rw [List.mem_singleton.mp hx]
              exact Nat.le_add_right _ _
        show W p l e R s m args below meth c H locs cells slots Q (F0 m pc lsr (mj_tr g v :: mj_tr g (.ref a) :: rest.map (mj_tr g)))
        rw [mj_adr (a := a) (Nat.lt_of_lt_of_le ha1 w2)]
        have hst := (u_facts hfc hkC (u_lays hts (mj_lays_in hr) hbn) hi).1
        have hlay := hts _ (mj_lays_in hr _ (u_in_lay hbn))
        unfold u_lay at hlay
        by_cases hfn : (r.2.1 eb).2.2.2 = true
        · rw [if_pos hfn] at hlay
          simp only [hfn, Bool.not_true, Bool.false_or, Bool.and_eq_true, decide_eq_true_eq] at hfin
          have hcf : m.cls = cf := by
            obtain ⟨_, _, c', _, _, _, -, -, hf', -, -, -, hown2, -⟩ := Cond.laysFinal_spec hlay
            have e1 : c' = cf := by have := hi.symm.trans hf'; simp at this; exact this.1.symm
            rw [hfin.2] at hown2
            rw [← e1]; exact Option.some.inj (hown.symm.trans hown2)
          have h6 := u_fits hfc hkC hkind (Or.inr hlay) hi hd1 hn1 hf1
          exact W.putFinK hx hb hown (hts _ hw) hi hst hcf (hini hfin.1) (by rw [q2]; exact h6) q1 q3 (by rw [hsl]; exact k2_hasslot (q4 eb hbn)) rfl rfl hd (fun H' x1 x2 x3 => by rw [hsl] at x1 ⊢; exact fin H' x1 x2 x3)
        · rw [if_neg hfn] at hlay
          have h6 := u_store hfc hkC hkind hlay hi hd1 hn1 hf1
          exact W.putK hx hb (f := f) ⟨hown, hts _ hw, ⟨_, _, _, hi⟩, hst⟩ (by rw [q2]; exact h6) q1 q3 (by rw [hsl]; exact k2_hasslot (q4 eb hbn)) rfl rfl hd (fun H' x1 x2 x3 => by rw [hsl] at x1 ⊢; exact fin H' x1 x2 x3)
      · cases hs
    · cases hs
  case aastore =>
    obtain rfl : ln = 1 := by simpa [mj_chk] using hk
    simp only [mj_sh] at hs
    split at hs
    · rename_i v i a rest
      split at hs
      · rename_i h0
        have ha1 : @LT.lt Nat instLTNat a h.1 := h0.1
        have hv1 : @LT.lt Nat instLTNat v h.1 := h0.2.1
        cases hs
        obtain ⟨hv, hi0, hin⟩ := mj_inv h0.2.2.2
        have htag := h0.2.2.1
        obtain ⟨kA, kc, comp, k1, k2, k3, k4⟩ := mj_ast_ok hF htag
        have ht20 : 20 ≤ (h.2.2.1 a).1 := by omega
        have htv : (h.2.2.1 v).1 < 13 := by omega
        have href : (mj_ty (h.2.2.1 a).1).isReference = true := mj_refs _ (by omega) (by omega)
        have hcell := (w4 a h0.1).ar ht20
        obtain ⟨r', e1, e2, cellV, q1, q2, q3, q4⟩ := (w4 v h0.2.1).ob htv
        have hcv := (hF.1.1 _ _ e1).2
        obtain ⟨-, kV, hkV, -⟩ := id hcv
        show W p l e R s m args below meth c H locs cells slots Q (F0 m pc lsr (mj_tr g (.ref v) :: .int i :: mj_tr g (.ref a) :: rest.map (mj_tr g)))
        rw [mj_adr (a := a) (Nat.lt_of_lt_of_le ha1 w2), mj_adr (a := v) (Nat.lt_of_lt_of_le hv1 w2)]
        refine W.aast hx hb hcell (fun q h => by cases h) (fun h => by cases h) k1 k2 href k3 ⟨hi0, by rw [arrV_size]; exact hin⟩ q1 (fun q h => by rw [q3] at h; cases h) (by rw [q2]; exact hkV) (by rw [q2]; exact k4) rfl rfl hd fun H' x1 x2 x3 => ?_
        refine kk0 rfl rfl lsr H' _ hl (hW.upd h0.1 (fun j hj => mj_putN hj) x2 x3 ?_) (fun x hx => by rw [x3 x (show ¬ @Eq Nat x (g.1 + a) by omega)]; exact hlow x hx) (fun x hx => ?_)
        · rw [mj_putS]
          exact mj_cellAt.st ht20 (by rw [mj_adr (a := v) (Nat.lt_of_lt_of_le hv1 w2)]; exact x1)
        · rcases List.mem_append.mp hx with hx | hx
          · exact hlo x hx
          · rw [List.mem_singleton.mp hx]
            exact Nat.le_add_right _ _
      · cases hs
    · cases hs
  case new i =>
    simp only [mj_chk, Bool.and_eq_true, decide_eq_true_eq] at hk
    obtain ⟨hln, hk⟩ := hk
    subst hln
    obtain ⟨r, hr, hw⟩ := mj_nl_in hk
    simp only [mj_sh, hr] at hs
    split at hs
    · rename_i h0
      cases hs
      obtain ⟨⟨b1, b2⟩, kx⟩ := kk1 1 r.2.2 rfl rfl
      have hKn := hF.1.1 ea _ hr
      obtain ⟨hty, -⟩ := mj_names ea (mj_vlt hr) _ hr
      refine W.newcK hx hb hown (hts _ (hw _ (by simp))) (hts _ (hw _ (by simp))) (hts _ (hw _ (by simp))) rfl hd b1 b2 hKn.2.1 w1 fun H1 kC hkC e1 z1 o1 => ?_
      have := kx lsr H1 locs hl (hW.new h0 (by rw [z1, w1]) (fun q hq => o1 q (by rw [← w1]; exact hq)) ?_) (fun x hx => by rw [o1 x (by omega)]; exact hlow x hx) hlo
      · show W p l e R s m args below meth c H1 locs (cells + 1) (slots + r.2.2) Q (F0 m (pc + 3) lsr (.ref (g.1 + h.1) :: st.map (mj_tr g)))
        rw [← mj_adr (g := g) (a := h.1) h0]
        exact this
      · unfold mj_cellAt
        rw [if_pos (mj_vlt hr)]
        exact ⟨r, hr, rfl, (u_born (mj_fty ea) hts (mj_lays_in hr) hKn hkC e1 hty).to (fun k _ => mj_dflt g _)⟩
    · cases hs
  case newarray t =>
    simp only [mj_chk, Bool.and_eq_true, decide_eq_true_eq] at hk
    obtain ⟨hln, hty⟩ := hk
    subst hln
    simp only [mj_sh] at hs
    split at hs
    · rename_i n rest
      split at hs
      · rename_i h0
        obtain ⟨h00, h01, h02, h03, h04⟩ := h0
        cases hs
        obtain ⟨⟨b1, b2⟩, kx⟩ := kk1 1 n.toNatClampNeg rfl rfl
        have key : (Cond.arrayClass (mj_ty ea)).before args s = true ∧ componentBytes (mj_ty ea) ≤ 8 ∧ defaultValue (mj_ty ea) = .int 0 ∧ s.vm.findClass ("[" ++ (mj_ty ea).toString) = some (K.2.1 ea) := by
          have hra := (hF.arr (t := ea) h03 (by omega)).2
          rcases (show ea = 20 ∨ ea = 21 ∨ ea = 22 by omega) with rfl | rfl | rfl
          · exact ⟨hts _ mj_ac_int, by decide, rfl, hra⟩
          · exact ⟨hts _ mj_ac_bool, by decide, rfl, hra⟩
          · exact ⟨hts _ mj_ac_char, by decide, rfl, hra⟩
        obtain ⟨k1, k2, k3, k4⟩ := key
        refine va_newaK hx hb (by rw [hty]; exact k1) rfl hd rfl h01 rfl (by rw [hty]; exact Nat.le_trans (Nat.mul_le_mul h02 k2) (by decide)) b1 b2 w1 fun H1 cA e1 z1 o1 hAr hNm => ?_
        rw [hty] at e1 hNm
        have ec : cA = K.2.1 ea := Option.some.inj (hNm.symm.trans k4)
        subst ec
        rw [k3] at e1
        have := kx lsr H1 locs hl (hW.new h00 (by rw [z1, w1]) (fun q hq => o1 q (by rw [← w1]; exact hq)) ?_) (fun x hx => by rw [o1 x (by omega)]; exact hlow x hx) hlo
        · show W p l e R s m args below meth c H1 locs (cells + 1) (slots + n.toNatClampNeg) Q (F0 m (pc + 2) lsr (.ref (g.1 + h.1) :: rest.map (mj_tr g)))
          rw [← mj_adr (g := g) (a := h.1) h00]
          exact this
        · unfold mj_cellAt
          rw [if_neg (by omega)]
          exact e1
      · cases hs
    · cases hs
  case anewarray i =>
    simp only [mj_chk, Bool.and_eq_true, decide_eq_true_eq] at hk
    obtain ⟨hln, hk⟩ := hk
    subst hln
    have hw := mj_al_in hk
    simp only [mj_sh] at hs
    split at hs
    · rename_i n rest
      split at hs
      · rename_i h0
        obtain ⟨h00, h01, h02, h03, h04⟩ := h0
        cases hs
        obtain ⟨⟨b1, b2⟩, kx⟩ := kk1 1 n.toNatClampNeg rfl rfl
        have key : ∃ C : String, mj_ty ea = .object C ∧ (Cond.classLink (mj_own o) i C).before args s = true ∧ (Cond.arrayOver (.object C)).before args s = true := by
          obtain ⟨a1, a2, a3, a4, -⟩ := hF.2.2.1
          rcases (show ea = 23 ∨ ea = 24 ∨ ea = 25 ∨ ea = 26 by omega) with rfl | rfl | rfl | rfl
          · exact ⟨_, rfl, hts _ hw, a1.use⟩
          · exact ⟨_, rfl, hts _ hw, a2.use⟩
          · exact ⟨_, rfl, hts _ hw, a3.use⟩
          · exact ⟨_, rfl, hts _ hw, a4.use⟩
        obtain ⟨C, k1, k2, k3⟩ := key
        have hra := (hF.arr (t := ea) (by omega) (by omega)).2
        rw [k1] at hra
        obtain ⟨kA', comp', -, -, -, k4⟩ := hra
        refine W.anew hx hb hown k2 k3 rfl hd rfl h01 (by omega) b1 b2 fun cA kA comp x1 x2 x3 x4 => ?_
        have ec : cA = K.2.1 ea := Option.some.inj (x1.symm.trans k4)
        subst ec
        have := kx lsr (H.push { cls := K.2.1 ea, slots := Array.replicate n.toNatClampNeg .null, vm := .none }) locs hl (hW.new h00 (by simp) (fun q hq => by rw [Array.getElem?_push, if_neg (Nat.ne_of_lt hq)]) ?_) (fun x hx => by rw [Array.getElem?_push, if_neg (by omega)]; exact hlow x hx) hlo
        · show W p l e R s m args below meth c _ locs (cells + 1) (slots + n.toNatClampNeg) Q (F0 m (pc + 3) lsr (.ref H.size :: rest.map (mj_tr g)))
          rw [w1, ← mj_adr (g := g) (a := h.1) h00]
          exact this
        · unfold mj_cellAt
          rw [if_neg (by omega), arrV_new, ← w1]
          simp
          rfl
      · cases hs
    · cases hs
  case multianewarray i d =>
    simp only [mj_chk, Bool.and_eq_true, decide_eq_true_eq] at hk
    obtain ⟨⟨hln, hd2⟩, hk⟩ := hk
    subst hln
    subst hd2
    have hw := mj_al_in hk
    simp only [mj_sh] at hs
    split at hs
    · rename_i k n rest
      split at hs
      · rename_i h0
        obtain ⟨h00, h01, h02, h03, h04⟩ := h0
        cases hs
        obtain ⟨⟨b1, b2⟩, kx⟩ := kk1 (1 + n.toNatClampNeg) (n.toNatClampNeg + n.toNatClampNeg * k.toNatClampNeg) (by show h.1 + 1 + _ = _; omega) rfl
        refine hMA hx hb hown hts hF (hts _ hw) hd hW h00 h01 h02 h03 h04 b1 b2 fun H1 y1 y2 => ?_
        have := kx lsr H1 locs hl y1 (fun x hx => by rw [y2 x (by omega)]; exact hlow x hx) hlo
        rw [← mj_adr (g := g) (a := h.1) (by omega)]
        exact this
      · cases hs
    · cases hs
  case invokespecial i =>
    simp only [mj_sh] at hs
    split at hs
    · rename_i a rest
      split at hs
      · rename_i h0
        have ha1 : @LT.lt Nat instLTNat a h.1 := h0.2.1
        have he : ea = 3000 := h0.1
        subst he
        cases hs
        simp only [mj_chk, Bool.and_eq_true, decide_eq_true_eq, if_true] at hk
        obtain ⟨hln, hk⟩ := hk
        subst hln
        have hw := mj_ol_in hk
        have kx := kk0 rfl rfl lsr H locs hl hW hlow hlo
        show W p l e R s m args below meth c H locs cells slots Q (F0 m pc lsr (mj_tr g (.ref a) :: rest.map (mj_tr g)))
        rw [mj_adr (a := a) (Nat.lt_of_lt_of_le ha1 w2)]
        have h8 : 2 * (F0 m pc lsr (.ref (g.1 + a) :: rest.map (mj_tr g))).monitorRoom + ((rest.map (mj_tr g)).map fun v => v.category).sum ≤ 8 := lv_room (by rw [mj_tr_sum]; exact h0.2.2)
        exact W.objInit hx hb hown (hts _ (hw _ (by simp))) (hts _ (hw _ (by simp))) (hts _ (hw _ (by simp))) rfl (by rw [hml]; exact hl.1) rfl hd (by omega) (by omega) kx
      · cases hs
    · cases hs
  case invokestatic i =>
    simp only [mj_sh] at hs
    split at hs
    · rename_i n dp b sp a rest
      split at hs
      · rename_i h0
        obtain ⟨he, ha1, hb1, hta, htb, h1, h2, h3, h4, h5, h6, h7⟩ := h0
        have ha2 : @LT.lt Nat instLTNat a h.1 := ha1
        have hb2 : @LT.lt Nat instLTNat b h.1 := hb1
        subst he
        cases hs
        simp only [mj_chk, Bool.and_eq_true, decide_eq_true_eq, if_true] at hk
        obtain ⟨hln, hk⟩ := hk
        subst hln
        have hw := mj_acl_in hk
        have hcA := (w4 a ha1).ar (by rw [hta]; decide)
        have hcB := (w4 b hb1).ar (by rw [htb]; decide)
        rw [hta] at hcA
        rw [htb] at hcB
        have hO := (hF.arr (t := 20) (by decide) (by decide)).1
        obtain ⟨-, k0, hk0, cm0, hkk0⟩ := hO (h.2.2.1 a).2 (fun j => mj_tr g (h.2.2.2 a j))
        obtain ⟨-, k1, hk1, cm1, hkk1⟩ := hO (h.2.2.1 b).2 (fun j => mj_tr g (h.2.2.2 b j))
        have nn : ∀ z : Int32, ¬ z < 0 → z.toInt = (z.toNatClampNeg : Int) := by
          intro z hz
          have hz0 : (0 : Int) ≤ z.toInt := by
            have := Int32.not_lt.mp hz
            simpa using Int32.le_iff_toInt_le.mp this
          show z.toInt = ((z.toInt.toNat : Nat) : Int)
          omega
        have kx := kk0 rfl rfl lsr
        show W p l e R s m args below meth c H locs cells slots Q (F0 m pc lsr (.int n :: .int dp :: mj_tr g (.ref b) :: .int sp :: mj_tr g (.ref a) :: rest.map (mj_tr g)))
        rw [mj_adr (a := a) (Nat.lt_of_lt_of_le ha2 w2), mj_adr (a := b) (Nat.lt_of_lt_of_le hb2 w2)]
        intro T hT X
        obtain ⟨vm', X', step⟩ := X.arraycopy (own := mj_own o) (index := i) hx hown (hts _ (hw _ (by simp))) (hts _ (hw _ (by simp))) (hts _ (hw _ (by simp))) (hts _ (hw _ (by simp))) (src := g.1 + a) (dst := g.1 + b) (cs := arrV (K.2.1 20) (h.2.2.1 a).2 (fun j => mj_tr g (h.2.2.2 a j))) (cd := arrV (K.2.1 20) (h.2.2.1 b).2 (fun j => mj_tr g (h.2.2.2 b j))) (srcPos := sp) (destPos := dp) (n := n) (by rw [hT]; exact hcA) (by rw [hT]; exact hcB)
          (fun _ h => by cases h) (fun _ h => by cases h) (fun h => by cases h) (fun h => by cases h) hk0 hk1 hkk0 hkk1 (by rfl) h1 h2 h3
          (by rw [nn sp h1, nn n h3, arrV_size]; omega)
          (by rw [nn dp h2, nn n h3, arrV_size]; omega)
          (fun vm₁ _ i hi => by
            have e : (arrV (K.2.1 20) (h.2.2.1 a).2 (fun j => mj_tr g (h.2.2.2 a j))).slots.getD (sp.toNatClampNeg + i) .null = mj_tr g (h.2.2.2 a (sp.toNatClampNeg + i)) := by
              rw [Array.getD_eq_getD_getElem?, arrV_read _ _ (by omega)]
              rfl
            have hi2 := h6 i hi
            rw [e]
            cases hv : h.2.2.2 a (sp.toNatClampNeg + i) with
            | int z => exact ⟨rfl, trivial⟩
            | _ => rw [hv] at hi2; cases hi2)
          (g := F0 m pc lsr (.int n :: .int dp :: .ref (g.1 + b) :: .int sp :: .ref (g.1 + a) :: rest.map (mj_tr g))) rfl (by rw [hml]; exact hl.1) (rest := rest.map (mj_tr g)) rfl (by rw [hb]; exact hd) (by omega) (by
            have e1 : ((rest.map (mj_tr g)).map fun v => v.category).sum = mj_sum rest := mj_tr_sum g rest
            have e2 : mj_sum rest ≤ 8 := h7
            have e3 : nativeFrameWords "java/lang/System" "arraycopy" 5 ≤ 900 := by decide +kernel
            show 2 * 0 + _ + _ ≤ _
            omega)
        have e1 : copied (arrV (K.2.1 20) (h.2.2.1 a).2 (fun j => mj_tr g (h.2.2.2 a j))) (arrV (K.2.1 20) (h.2.2.1 b).2 (fun j => mj_tr g (h.2.2.2 b j))) sp dp n = arrV (K.2.1 20) (h.2.2.1 b).2 (fun j => mj_tr g (va_cpy (h.2.2.2 a) (h.2.2.2 b) sp.toNatClampNeg dp.toNatClampNeg n.toNatClampNeg j)) := va_copied (mj_tr g) (K.2.1 20) (K.2.1 20) (h.2.2.2 a) (h.2.2.2 b) h4
        rw [e1] at X' step
        have hl2 : g.1 + b < H.size := (Array.getElem?_eq_some_iff.mp hcB).1
        obtain ⟨t, a1, b1⟩ := kx _ _ hl (hW.upd (V' := mj_cpy h.2.2.2 a sp.toNatClampNeg b dp.toNatClampNeg n.toNatClampNeg) hb1 (fun j hj => by funext k; simp [mj_cpy, hj]) (H1 := H.setIfInBounds (g.1 + b) (arrV (K.2.1 20) (h.2.2.1 b).2 (fun j => mj_tr g (va_cpy (h.2.2.2 a) (h.2.2.2 b) sp.toNatClampNeg dp.toNatClampNeg n.toNatClampNeg j)))) (by simp) (fun q hq => by simp [Array.getElem?_setIfInBounds, Ne.symm hq]) (by
            unfold mj_cellAt
            rw [if_neg (by rw [htb]; decide), htb]
            simp only [Array.getElem?_setIfInBounds, hl2, if_true]
            refine congrArg some (congrArg (arrV (K.2.1 20) (h.2.2.1 b).2) (funext fun j => ?_))
            simp [mj_cpy, va_cpy])) (fun x hx => by rw [Array.getElem?_setIfInBounds, if_neg (by omega)]; exact hlow x hx) (fun x hx => by
            rcases List.mem_append.mp hx with hx | hx
            · exact hlo x hx
            · obtain ⟨z, -, hz⟩ := List.mem_map.mp hx
              rw [← hz]
              exact Nat.le_add_right _ _) ((T.setVm vm').setCell (g.1 + b) (arrV (K.2.1 20) (h.2.2.1 b).2 (fun j => mj_tr g (va_cpy (h.2.2.2 a) (h.2.2.2 b) sp.toNatClampNeg dp.toNatClampNeg n.toNatClampNeg j)))) (by rw [← hT]; rfl) X'
        exact ⟨t, step t a1, b1⟩
      · cases hs
    · cases hs
  all_goals (simp only [mj_sh] at hs; cases hs)
end MJH
