/-! ===== heaps that agree on what can be read: one run is the other ===== -/
def mE (L : Nat) (xs : Nat → Int32) (h h2 : mj_H) : Prop := h2.1 = h.1 ∧ h2.2.1 = h.2.1 ∧ h.1 ≤ mj_X ∧ (∀ i, i < h.1 → h2.2.2.1 i = h.2.2.1 i ∧ ∀ k, (k < (h.2.2.1 i).2 ∨ ((h.2.2.1 i).1 < 20 ∧ k < 40)) → h2.2.2.2 i k = h.2.2.2 i k) ∧
  h2.2.2.1 mj_X = (20, L) ∧ (∀ k, h2.2.2.2 mj_X k = .int (xs k)) ∧ ((h.2.2.1 mj_X).1 = 99 ∨ (h.2.2.1 mj_X = (20, L) ∧ ∀ k, h.2.2.2 mj_X k = .int (xs k)))
section MEsec
variable {L : Nat} {xs : Nat → Int32} {h h2 : mj_H}
theorem mE.n (E : mE L xs h h2) : h2.1 = h.1 := E.1
theorem mE.m (E : mE L xs h h2) : h2.2.1 = h.2.1 := E.2.1
theorem mE.x (E : mE L xs h h2) : h.1 ≤ mj_X := E.2.2.1
theorem mE.s (E : mE L xs h h2) {i : Nat} (hi : i < h.1) : h2.2.2.1 i = h.2.2.1 i := (E.2.2.2.1 i hi).1
theorem mE.v (E : mE L xs h h2) {i k : Nat} (hi : i < h.1) (hk : k < (h.2.2.1 i).2 ∨ ((h.2.2.1 i).1 < 20 ∧ k < 40)) : h2.2.2.2 i k = h.2.2.2 i k := (E.2.2.2.1 i hi).2 k hk
theorem mE.rd (E : mE L xs h h2) {a : Nat} (hr : mj_rd h a = true) (ht : (h.2.2.1 a).1 < 28) : mj_rd h2 a = true ∧ h2.2.2.1 a = h.2.2.1 a ∧ ∀ k, k < (h.2.2.1 a).2 → h2.2.2.2 a k = h.2.2.2 a k := by
  unfold mj_rd at hr ⊢
  rw [E.n]
  by_cases z : a < h.1
  · exact ⟨hr, E.s z, fun k hk => E.v z (Or.inl hk)⟩
  · have e : a = mj_X := by
      rw [decide_eq_false z, Bool.false_or] at hr
      exact eq_of_beq hr
    subst e
    rcases E.2.2.2.2.2.2 with y | y
    · rw [y] at ht; omega
    · exact ⟨hr, E.2.2.2.2.1.trans y.1.symm, fun k _ => (E.2.2.2.2.2.1 k).trans (y.2 k).symm⟩
theorem mE.st (E : mE L xs h h2) {a k : Nat} {v : Value} (ha : a < h.1) : mE L xs (mj_st h a k v) (mj_st h2 a k v) := by
  have hx := E.x
  have hX : mj_X ≠ a := by omega
  refine ⟨E.n, E.m, E.x, fun i hi => ⟨E.s hi, fun j hj => ?_⟩, E.2.2.2.2.1, fun j => ?_, ?_⟩
  · have := E.v hi hj
    show mj_put _ _ _ _ _ _ = mj_put _ _ _ _ _ _
    unfold mj_put
    rw [this]
  · show mj_put _ _ _ _ _ _ = _
    unfold mj_put
    rw [if_neg hX]
    exact E.2.2.2.2.2.1 j
  · rcases E.2.2.2.2.2.2 with y | y
    · exact Or.inl y
    · refine Or.inr ⟨y.1, fun j => ?_⟩
      show mj_put _ _ _ _ _ _ = _
      unfold mj_put
      rw [if_neg hX]
      exact y.2 j
theorem mE.nw (E : mE L xs h h2) {t n : Nat} {v : Nat → Value} (ha : h.1 < 1000) : mE L xs (mj_new h t n v) (mj_new h2 t n v) := by
  have hX : mj_X ≠ h.1 := by show 1000000 ≠ h.1; omega
  have e := E.n
  refine ⟨?_, ?_, ?_, fun i hi => ⟨?_, fun j hj => ?_⟩, ?_, fun j => ?_, ?_⟩
  · show h2.1 + 1 = h.1 + 1
    rw [e]
  · show h2.2.1 + n = h.2.1 + n
    rw [E.m]
  · show h.1 + 1 ≤ 1000000
    omega
  · have hi : i < h.1 + 1 := hi
    show (if i = h2.1 then (t, n) else h2.2.2.1 i) = (if i = h.1 then (t, n) else h.2.2.1 i)
    rw [e]
    by_cases z : i = h.1
    · rw [if_pos z, if_pos z]
    · rw [if_neg z, if_neg z]; exact E.s (by omega)
  · have hi : i < h.1 + 1 := hi
    show (if i = h2.1 then v j else h2.2.2.2 i j) = (if i = h.1 then v j else h.2.2.2 i j)
    rw [e]
    by_cases z : i = h.1
    · rw [if_pos z, if_pos z]
    · rw [if_neg z, if_neg z]
      have hj : j < (if i = h.1 then (t, n) else h.2.2.1 i).2 ∨ ((if i = h.1 then (t, n) else h.2.2.1 i).1 < 20 ∧ j < 40) := hj
      rw [if_neg z] at hj
      exact E.v (by omega) hj
  · show (if mj_X = h2.1 then (t, n) else h2.2.2.1 mj_X) = _
    rw [e, if_neg hX]; exact E.2.2.2.2.1
  · show (if mj_X = h2.1 then v j else h2.2.2.2 mj_X j) = _
    rw [e, if_neg hX]; exact E.2.2.2.2.2.1 j
  · show ((if mj_X = h.1 then (t, n) else h.2.2.1 mj_X).1 = 99) ∨ ((if mj_X = h.1 then (t, n) else h.2.2.1 mj_X) = (20, L) ∧ ∀ k, (if mj_X = h.1 then v k else h.2.2.2 mj_X k) = .int (xs k))
    rw [if_neg hX]
    rcases E.2.2.2.2.2.2 with y | y
    · exact Or.inl y
    · exact Or.inr ⟨y.1, fun k => by rw [if_neg hX]; exact y.2 k⟩
theorem mE.nw2 (E : mE L xs h h2) {t t2 n n2 : Nat} {v : Value} (ha : h.1 + 1 + n < 1000) : mE L xs (mj_new2 h t t2 n n2 v) (mj_new2 h2 t t2 n n2 v) := by
  have hX : mj_X ≠ h.1 := by show 1000000 ≠ h.1; omega
  have hY : ¬ (h.1 < mj_X ∧ mj_X < h.1 + 1 + n) := by show ¬ (h.1 < 1000000 ∧ 1000000 < h.1 + 1 + n); omega
  have e := E.n
  refine ⟨?_, ?_, ?_, fun i hi => ⟨?_, fun j hj => ?_⟩, ?_, fun j => ?_, ?_⟩
  · show h2.1 + 1 + n = h.1 + 1 + n
    rw [e]
  · show h2.2.1 + (n + n * n2) = h.2.1 + (n + n * n2)
    rw [E.m]
  · show h.1 + 1 + n ≤ 1000000
    omega
  · have hi : i < h.1 + 1 + n := hi
    show (if i = h2.1 then (t, n) else if h2.1 < i ∧ i < h2.1 + 1 + n then (t2, n2) else h2.2.2.1 i) = (if i = h.1 then (t, n) else if h.1 < i ∧ i < h.1 + 1 + n then (t2, n2) else h.2.2.1 i)
    rw [e]
    by_cases z : i = h.1
    · rw [if_pos z, if_pos z]
    · rw [if_neg z, if_neg z]
      by_cases z2 : h.1 < i ∧ i < h.1 + 1 + n
      · rw [if_pos z2, if_pos z2]
      · rw [if_neg z2, if_neg z2]; exact E.s (by omega)
  · have hi : i < h.1 + 1 + n := hi
    show (if i = h2.1 then (if j < n then Value.ref (h2.1 + 1 + j) else .null) else if h2.1 < i ∧ i < h2.1 + 1 + n then v else h2.2.2.2 i j) = (if i = h.1 then (if j < n then Value.ref (h.1 + 1 + j) else .null) else if h.1 < i ∧ i < h.1 + 1 + n then v else h.2.2.2 i j)
    rw [e]
    have hj : j < (if i = h.1 then (t, n) else if h.1 < i ∧ i < h.1 + 1 + n then (t2, n2) else h.2.2.1 i).2 ∨ ((if i = h.1 then (t, n) else if h.1 < i ∧ i < h.1 + 1 + n then (t2, n2) else h.2.2.1 i).1 < 20 ∧ j < 40) := hj
    by_cases z : i = h.1
    · rw [if_pos z, if_pos z]
    · rw [if_neg z, if_neg z]
      rw [if_neg z] at hj
      by_cases z2 : h.1 < i ∧ i < h.1 + 1 + n
      · rw [if_pos z2, if_pos z2]
      · rw [if_neg z2, if_neg z2]
        rw [if_neg z2] at hj
        exact E.v (by omega) hj
  · show (if mj_X = h2.1 then (t, n) else if h2.1 < mj_X ∧ mj_X < h2.1 + 1 + n then (t2, n2) else h2.2.2.1 mj_X) = _
    rw [e, if_neg hX, if_neg hY]; exact E.2.2.2.2.1
  · show (if mj_X = h2.1 then (if j < n then Value.ref (h2.1 + 1 + j) else .null) else if h2.1 < mj_X ∧ mj_X < h2.1 + 1 + n then v else h2.2.2.2 mj_X j) = _
    rw [e, if_neg hX, if_neg hY]; exact E.2.2.2.2.2.1 j
  · show ((if mj_X = h.1 then (t, n) else if h.1 < mj_X ∧ mj_X < h.1 + 1 + n then (t2, n2) else h.2.2.1 mj_X).1 = 99) ∨ ((if mj_X = h.1 then (t, n) else if h.1 < mj_X ∧ mj_X < h.1 + 1 + n then (t2, n2) else h.2.2.1 mj_X) = (20, L) ∧ ∀ k, (if mj_X = h.1 then (if k < n then Value.ref (h.1 + 1 + k) else .null) else if h.1 < mj_X ∧ mj_X < h.1 + 1 + n then v else h.2.2.2 mj_X k) = .int (xs k))
    rw [if_neg hX, if_neg hY]
    rcases E.2.2.2.2.2.2 with y | y
    · exact Or.inl y
    · exact Or.inr ⟨y.1, fun k => by rw [if_neg hX, if_neg hY]; exact y.2 k⟩
theorem mE.cp (E : mE L xs h h2) {a sp b dp n : Nat} (ha : a < h.1) (hb : b < h.1) (h1 : sp + n ≤ (h.2.2.1 a).2) : mE L xs (h.1, h.2.1, h.2.2.1, mj_cpy h.2.2.2 a sp b dp n) (h2.1, h2.2.1, h2.2.2.1, mj_cpy h2.2.2.2 a sp b dp n) := by
  have hx := E.x
  have hX : mj_X ≠ b := by omega
  refine ⟨E.n, E.m, E.x, fun i hi => ⟨E.s hi, fun j hj => ?_⟩, E.2.2.2.2.1, fun j => ?_, ?_⟩
  · show mj_cpy _ _ _ _ _ _ _ _ = mj_cpy _ _ _ _ _ _ _ _
    unfold mj_cpy
    by_cases z : i = b
    · rw [if_pos z, if_pos z]
      by_cases y : dp ≤ j ∧ j < dp + n
      · rw [if_pos y, if_pos y]
        exact E.v ha (Or.inl (by omega))
      · rw [if_neg y, if_neg y]
        subst z
        exact E.v hi hj
    · rw [if_neg z, if_neg z]
      exact E.v hi hj
  · show mj_cpy _ _ _ _ _ _ _ _ = _
    unfold mj_cpy
    rw [if_neg hX]
    exact E.2.2.2.2.2.1 j
  · rcases E.2.2.2.2.2.2 with y | y
    · exact Or.inl y
    · refine Or.inr ⟨y.1, fun j => ?_⟩
      show mj_cpy _ _ _ _ _ _ _ _ = _
      unfold mj_cpy
      rw [if_neg hX]
      exact y.2 j
end MEsec
/-- a field's number is small -/
def mj_fck (e : mj_I) : Bool := match e.1 with
  | .getfield _ => decide (e.2.2.1 < 20 ∧ e.2.2.2 < 40)
  | .putfield _ => decide (e.2.2.1 < 20 ∧ e.2.2.2 < 40)
  | _ => true
theorem mj_fall : (mj_progs.all fun l => l.all fun q => mj_fck q.2) = true := by decide +kernel
theorem mj_fok {y pc : Nat} {e : mj_I} (hl : mj_look (mj_prog y) pc = some e) : mj_fck e = true := by
  have h1 := mj_look_mem hl
  unfold mj_prog at h1
  rw [List.getD_eq_getElem?_getD] at h1
  cases hq : mj_progs[y]? with
  | none => rw [hq] at h1; cases h1
  | some l =>
    rw [hq] at h1
    exact List.all_eq_true.mp (List.all_eq_true.mp mj_fall _ (List.mem_of_getElem? hq)) _ h1
theorem mE.call {L : Nat} {xs : Nat → Int32} {h h2 : mj_H} (E : mE L xs h h2) (e : mj_I) (st : List Value) : mj_call e st h2 = mj_call e st h := by
  unfold mj_call
  split
  · rfl
  · split
    · rename_i r rest _
      by_cases hr : r < h.1
      · rw [E.n, E.s hr]
      · rw [if_neg (fun z => hr (by rw [← E.n]; exact z.2.1)), if_neg (fun z => hr z.2.1)]
    · rfl
  · split
    · rename_i r rest _
      by_cases hr : r < h.1
      · rw [E.n, E.s hr]
      · rw [if_neg (fun z => hr (by rw [← E.n]; exact z.2.1)), if_neg (fun z => hr z.2.1)]
    · rfl
  · rfl
theorem mj_in_lt {i : Int32} {n : Nat} (h : mj_in i n = true) : i.toNatClampNeg < n := by
  unfold mj_in at h
  rw [Bool.and_eq_true, decide_eq_true_eq, decide_eq_true_eq] at h
  exact h.2
theorem mE.shp {L : Nat} {xs : Nat → Int32} {h h2 : mj_H} (E : mE L xs h h2) {e : mj_I} {pc : Nat} {ls st : List Value} {q : Nat × List Value × List Value × mj_H} (hf : mj_fck e = true) (hs : mj_sh e pc ls st h = some q) : ∃ h2', mj_sh e pc ls st h2 = some (q.1, q.2.1, q.2.2.1, h2') ∧ mE L xs q.2.2.2 h2' := by
  obtain ⟨ins, ln, ea, eb⟩ := e
  have en := E.n
  unfold mj_sh at hs
  dsimp only at hs
  split at hs
  · split at hs
    · split at hs
      · rename_i c
        cases hs
        have hb : ea < 20 ∧ eb < 40 := of_decide_eq_true hf
        refine ⟨h2, ?_, E⟩
        unfold mj_sh
        dsimp only
        rw [en, E.s c.1, if_pos c, E.v c.1 (Or.inr ⟨by rw [c.2]; exact hb.1, hb.2⟩)]
      · cases hs
    · cases hs
  · split at hs
    · split at hs
      · rename_i c
        cases hs
        refine ⟨_, ?_, E.st c.1⟩
        unfold mj_sh
        dsimp only
        rw [en, E.s c.1, if_pos c]
      · cases hs
    · cases hs
  · split at hs
    · split at hs
      · rename_i c
        cases hs
        obtain ⟨r1, r2, r3⟩ := E.rd c.1 c.2.2
        refine ⟨h2, ?_, E⟩
        unfold mj_sh
        dsimp only
        rw [r2, if_pos ⟨r1, c.2⟩]
      · cases hs
    · cases hs
  · split at hs
    · split at hs
      · rename_i c
        cases hs
        obtain ⟨r1, r2, r3⟩ := E.rd c.1 (by rw [c.2.1]; decide)
        refine ⟨h2, ?_, E⟩
        unfold mj_sh
        dsimp only
        rw [r2, if_pos ⟨r1, c.2⟩, r3 _ (mj_in_lt c.2.2)]
      · cases hs
    · cases hs
  iterate 2
    split at hs
    · split at hs
      · rename_i c
        cases hs
        refine ⟨h2, ?_, E⟩
        unfold mj_sh
        dsimp only
        rw [en, E.s c.1, if_pos c, E.v c.1 (Or.inl (mj_in_lt c.2.2))]
      · cases hs
    · cases hs
  · split at hs
    · split at hs
      · rename_i c
        cases hs
        refine ⟨h2, ?_, E⟩
        unfold mj_sh
        dsimp only
        rw [en, E.s c.1, if_pos c, E.v c.1 (Or.inl (mj_in_lt c.2.2.2))]
      · cases hs
    · cases hs
  iterate 3
    split at hs
    · split at hs
      · rename_i c
        cases hs
        refine ⟨_, ?_, E.st c.1⟩
        unfold mj_sh
        dsimp only
        rw [en, E.s c.1, if_pos c]
      · cases hs
    · cases hs
  · split at hs
    · split at hs
      · rename_i c
        cases hs
        refine ⟨_, ?_, E.st c.1⟩
        unfold mj_sh
        dsimp only
        rw [en, E.s c.1, E.s c.2.1, if_pos c]
      · cases hs
    · cases hs
  · split at hs
    · rename_i q0 hq0
      split at hs
      · rename_i c
        cases hs
        refine ⟨_, ?_, E.nw c⟩
        unfold mj_sh
        dsimp only
        rw [hq0]
        dsimp only
        rw [en, if_pos c]
      · cases hs
    · cases hs
  iterate 2
    split at hs
    · split at hs
      · rename_i c
        cases hs
        refine ⟨_, ?_, E.nw c.1⟩
        unfold mj_sh
        dsimp only
        rw [en, if_pos c]
      · cases hs
    · cases hs
  · split at hs
    · split at hs
      · rename_i c
        cases hs
        refine ⟨_, ?_, E.nw2 c.1⟩
        unfold mj_sh
        dsimp only
        rw [en, if_pos c]
      · cases hs
    · cases hs
  · split at hs
    · split at hs
      · rename_i c
        cases hs
        refine ⟨h2, ?_, E⟩
        unfold mj_sh
        dsimp only
        rw [en, if_pos c]
      · cases hs
    · cases hs
  · split at hs
    · split at hs
      · rename_i c
        cases hs
        obtain ⟨k1, k2, k3, k4, k5, k6, k7, k8, k9, k10, k11, k12⟩ := c
        refine ⟨_, ?_, E.cp k2 k3 k9⟩
        unfold mj_sh
        dsimp only
        rw [en, E.s k2, E.s k3, if_pos ⟨k1, k2, k3, k4, k5, k6, k7, k8, k9, k10, fun i hi => by rw [E.v k2 (Or.inl (by omega))]; exact k11 i hi, k12⟩]
      · cases hs
    · cases hs
  · cases hs
theorem mE.stp {L : Nat} {xs : Nat → Int32} {h h2 : mj_H} (E : mE L xs h h2) {e : mj_I} {pc : Nat} {ls st : List Value} {q : Nat × List Value × List Value × mj_H} (hf : mj_fck e = true) (hs : mj_stp e pc ls st h = some q) : ∃ h2', mj_stp e pc ls st h2 = some (q.1, q.2.1, q.2.2.1, h2') ∧ mE L xs q.2.2.2 h2' := by
  unfold mj_stp at hs ⊢
  split at hs
  · cases hs; exact ⟨h2, rfl, E⟩
  · split at hs
    · cases hs; exact ⟨h2, rfl, E⟩
    · exact E.shp hf hs
theorem mE.run {L : Nat} {xs : Nat → Int32} : ∀ (k d y pc : Nat) (ls st : List Value) (h h2 : mj_H) (w : Option Value × mj_H), mE L xs h h2 → mj_run k d y pc ls st h = some w → ∃ h2', mj_run k d y pc ls st h2 = some (w.1, h2') ∧ mE L xs w.2 h2'
  | 0, _, _, _, _, _, _, _, _, _, hr => by cases hr
  | k + 1, d, y, pc, ls, st, h, h2, w, E, hr => by
    unfold mj_run at hr ⊢
    cases h1 : mj_look (mj_prog y) pc with
    | none => rw [h1] at hr; cases hr
    | some e =>
      rw [h1] at hr
      dsimp only at hr ⊢
      cases h2r : mj_ret (mj_m y).2.2.2.1 e st with
      | some r => rw [h2r] at hr; cases hr; exact ⟨h2, rfl, E⟩
      | none =>
        rw [h2r] at hr
        dsimp only at hr ⊢
        rw [E.call]
        cases h3 : mj_call e st h with
        | some q =>
          rw [h3] at hr
          dsimp only at hr ⊢
          cases d with
          | zero => cases hr
          | succ d0 =>
            dsimp only at hr ⊢
            cases h4 : mj_run k d0 q.1 0 (mj_ent (mj_m q.1).2.2.1 q.2.1) [] h with
            | none => rw [h4] at hr; cases hr
            | some u =>
              rw [h4] at hr
              obtain ⟨h3', g1, g2⟩ := mE.run k d0 _ _ _ _ _ _ _ E h4
              rw [g1]
              exact mE.run k (d0 + 1) _ _ _ _ _ _ _ g2 hr
        | none =>
          rw [h3] at hr
          dsimp only at hr ⊢
          cases h4 : mj_stp e pc ls st h with
          | none => rw [h4] at hr; cases hr
          | some q =>
            rw [h4] at hr
            obtain ⟨h3', g1, g2⟩ := E.stp (mj_fok h1) h4
            rw [g1]
            exact mE.run k d _ _ _ _ _ _ _ g2 hr
theorem mE.ev {L : Nat} {xs : Nat → Int32} {h h2 : mj_H} {d y pc : Nat} {ls st : List Value} {Q Q2 : Option Value → mj_H → Prop} (E : mE L xs h h2) (H : mj_Ev d y pc ls st h Q) (hQ : ∀ r h' h2', mE L xs h' h2' → Q r h' → Q2 r h2') : mj_Ev d y pc ls st h2 Q2 := by
  obtain ⟨k, r, h', g1, g2⟩ := H
  obtain ⟨h3, g3, g4⟩ := mE.run k d y pc ls st h h2 (r, h') E g1
  exact ⟨k, r, h3, g3, hQ r h' h3 g4 g2⟩
