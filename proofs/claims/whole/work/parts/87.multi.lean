/-! ===== new T[n][m]: the library's own row (it lies in the library's rest) ===== -/
theorem mj_outer (c : ClassId) (N h0 : Nat) : ∀ i : Nat, Jvm.Free.Multi.outerC c N h0 i = arrV c N (fun j => if j < i then .ref (h0 + 1 + j) else .null)
  | 0 => by
    show ({ cls := c, slots := Array.replicate N .null, vm := .none } : Cell) = _
    rw [arrV_new]
    refine congrArg (arrV c N) (funext fun j => ?_)
    simp
  | i + 1 => by
    show (Jvm.Free.Multi.outerC c N h0 i).setSlot i (.ref (h0 + 1 + i)) = _
    rw [mj_outer c N h0 i, arrV_store]
    refine congrArg (arrV c N) (funext fun j => ?_)
    by_cases e : j = i
    · subst e
      simp [updV]
    · by_cases h : j < i
      · simp [updV, e, h, Nat.lt_succ_of_lt h]
      · simp [updV, e, h, show ¬ j < i + 1 by omega]
set_option maxHeartbeats 4000000 in
theorem mj_MA_ok (l : Launch) (g : mj_G) (K : mj_K) (Z : State → Prop) : mj_MA l g K Z := by
  intro p e R s m args below meth c H locs cells slots Q cc pc lsr rest h own i n k hx hb hown hts hF hcl hd hW h0 h1 h2 h3 h4 b1 b2 kk
  intro T hT Xs
  have hra := (hF.arr (t := 27) (by decide) (by decide)).2
  have hri := (hF.arr (t := 20) (by decide) (by decide)).2
  have hov : (Cond.arrayOver (.array .int)).before args s = true := hF.2.2.1.2.2.2.2
  obtain ⟨vm₁, cA, comp, -, fA, fC, hO, -, X', step⟩ := Xs.multianewarray2F hx hown (ty := .int) hcl hov (hts _ mj_ac_int) (g := F0 m pc lsr (.int k :: .int n :: rest)) rfl (by rw [hb]; exact hd) rfl h1 h2 (by omega) (by show k.toNatClampNeg * 4 ≤ _; omega) (by omega) rfl rfl b1 b2
  have ec : comp = K.2.1 20 := Option.some.inj (fC.symm.trans hri)
  subst ec
  have ea : cA = K.2.1 27 := Option.some.inj (fA.symm.trans hra)
  subst ea
  obtain ⟨w1, w2, w3, w4⟩ := hW
  generalize hFl : Jvm.Free.Multi.fill (T.setVm vm₁) (K.2.1 27) (K.2.1 20) n.toNatClampNeg k.toNatClampNeg (defaultValue .int) n.toNatClampNeg = F at X' step
  have hTh : (T.setVm vm₁).heap = H := hT
  obtain ⟨f1, f2, -, -⟩ := Jvm.Free.Multi.fill_facts (T.setVm vm₁) (K.2.1 27) (K.2.1 20) n.toNatClampNeg k.toNatClampNeg (defaultValue .int) n.toNatClampNeg
  rw [hFl, hTh] at f1 f2
  have hold : ∀ x : Nat, x < H.size → F.heap[x]? = H[x]? := fun x hx => by
    have := Jvm.Free.Multi.fill_old (T.setVm vm₁) (K.2.1 27) (K.2.1 20) n.toNatClampNeg k.toNatClampNeg (defaultValue .int) (a := x) (by rw [hTh]; exact hx) n.toNatClampNeg
    rw [hFl, hTh] at this
    exact this
  have hrow : ∀ j : Nat, j < n.toNatClampNeg → F.heap[H.size + 1 + j]? = some (arrV (K.2.1 20) k.toNatClampNeg (fun _ => .int 0)) := fun j hj => by
    have := Jvm.Free.Multi.fill_inner (T.setVm vm₁) (K.2.1 27) (K.2.1 20) n.toNatClampNeg k.toNatClampNeg (defaultValue .int) n.toNatClampNeg j hj
    rw [hFl, hTh] at this
    rw [this, ← arrV_new]
    rfl
  rw [mj_outer] at f2
  have hnew : mj_Wh g K (mj_new2 h 27 20 n.toNatClampNeg k.toNatClampNeg (.int 0)) F.heap := by
    have hX : ¬ mj_X = h.1 := by show ¬ (1000000 : Nat) = h.1; omega
    have hX2 : ¬ (h.1 < mj_X ∧ mj_X < h.1 + 1 + n.toNatClampNeg) := by
      rintro ⟨-, z⟩
      have z : (1000000 : Nat) < h.1 + 1 + n.toNatClampNeg := z
      omega
    refine ⟨by rw [f1, w1]; show _ = g.1 + (h.1 + 1 + n.toNatClampNeg); omega, by show h.1 + 1 + n.toNatClampNeg ≤ 1000; omega, ⟨?_, fun j hj => ?_⟩, fun j hj => ?_⟩
    · show (if mj_X = h.1 then _ else if h.1 < mj_X ∧ mj_X < h.1 + 1 + n.toNatClampNeg then _ else h.2.2.1 mj_X) = _
      rw [if_neg hX, if_neg hX2]
      exact w3.1
    · show (if mj_X = h.1 then _ else if h.1 < mj_X ∧ mj_X < h.1 + 1 + n.toNatClampNeg then _ else h.2.2.2 mj_X j) = _
      rw [if_neg hX, if_neg hX2]
      exact w3.2 j hj
    · have hj' : j < h.1 + 1 + n.toNatClampNeg := hj
      by_cases e : j = h.1
      · subst e
        show mj_cellAt g K (if h.1 = h.1 then (27, n.toNatClampNeg) else _).1 (if h.1 = h.1 then (27, n.toNatClampNeg) else _).2 (fun q => if h.1 = h.1 then (if q < n.toNatClampNeg then .ref (h.1 + 1 + q) else .null) else _) (g.1 + h.1) F.heap
        simp only [if_true]
        unfold mj_cellAt
        rw [if_neg (by decide), ← w1, f2]
        refine congrArg some ?_
        unfold arrV
        congr 2
        funext q
        have hq := q.isLt
        dsimp only
        rw [if_pos hq, if_pos hq, mj_adr (a := h.1 + 1 + q.val) (by omega), w1]
        congr 1
        show g.1 + h.1 + 1 + q.val = g.1 + (h.1 + 1 + q.val)
        omega
      · by_cases e2 : h.1 < j
        · have e3 : h.1 < j ∧ j < h.1 + 1 + n.toNatClampNeg := ⟨e2, hj'⟩
          show mj_cellAt g K (if j = h.1 then _ else if h.1 < j ∧ j < h.1 + 1 + n.toNatClampNeg then (20, k.toNatClampNeg) else _).1 (if j = h.1 then _ else if h.1 < j ∧ j < h.1 + 1 + n.toNatClampNeg then (20, k.toNatClampNeg) else _).2 (fun q => if j = h.1 then _ else if h.1 < j ∧ j < h.1 + 1 + n.toNatClampNeg then .int 0 else _) (g.1 + j) F.heap
          simp only [if_neg e, if_pos e3]
          unfold mj_cellAt
          rw [if_neg (by decide)]
          have := hrow (j - h.1 - 1) (by omega)
          rw [w1, show g.1 + h.1 + 1 + (j - h.1 - 1) = g.1 + j by omega] at this
          exact this
        · have e3 : ¬ (h.1 < j ∧ j < h.1 + 1 + n.toNatClampNeg) := fun z => e2 z.1
          show mj_cellAt g K (if j = h.1 then _ else if h.1 < j ∧ j < h.1 + 1 + n.toNatClampNeg then _ else h.2.2.1 j).1 (if j = h.1 then _ else if h.1 < j ∧ j < h.1 + 1 + n.toNatClampNeg then _ else h.2.2.1 j).2 (fun q => if j = h.1 then _ else if h.1 < j ∧ j < h.1 + 1 + n.toNatClampNeg then _ else h.2.2.2 j q) (g.1 + j) F.heap
          simp only [if_neg e, if_neg e3]
          exact (w4 j (by omega)).kept (hold _ (by omega))
  obtain ⟨t, a1, b3⟩ := kk F.heap hnew hold F rfl (by
    have e1 : cells + (1 + n.toNatClampNeg) = cells + 1 + n.toNatClampNeg := by omega
    have e2 : slots + (n.toNatClampNeg + n.toNatClampNeg * k.toNatClampNeg) = slots + n.toNatClampNeg + n.toNatClampNeg * k.toNatClampNeg := by omega
    rw [e1, e2]
    exact X')
  refine ⟨t, step t ?_, b3⟩
  have e : T.heap.size = g.1 + h.1 := by rw [hT]; exact w1
  rw [e]
  exact a1
