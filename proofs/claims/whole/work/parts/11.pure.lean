/-! ===== what the small machine does without cells, the machine does ===== -/
/-- where the cells lie: the first, the script, the text constants -/
abbrev mj_G : Type := Nat × Nat × (Nat → Nat)
def mj_ad (g : mj_G) (i : Nat) : Nat := if i < mj_X then g.1 + i else if i = mj_X then g.2.1 else g.2.2 (i - (mj_X + 1))
def mj_tr (g : mj_G) : Value → Value
  | .ref i => .ref (mj_ad g i)
  | v => v
theorem mj_tr_cat (g : mj_G) (v : Value) : (mj_tr g v).category = v.category := by cases v <;> rfl
theorem mj_tr_sum (g : mj_G) : ∀ r : List Value, ((r.map (mj_tr g)).map fun v => v.category).sum = mj_sum r
  | [] => rfl
  | v :: r => by
    have h := mj_tr_sum g r
    unfold mj_sum at h ⊢
    simp only [List.map_cons, List.sum_cons, h, mj_tr_cat]
theorem mj_tr_no (g : mj_G) {v : Value} (h : mj_isno v = false) : mj_isno (mj_tr g v) = false := by cases v <;> first | rfl | cases h
def mj_lvl (g : mj_G) : Nat → List Value → List (Nat × Value)
  | _, [] => []
  | i, v :: l => if mj_isno v = true then mj_lvl g (i + 1) l else (i, mj_tr g v) :: mj_lvl g (i + 1) l
theorem mj_lvl_mem (g : mj_G) : ∀ (l : List Value) (i j : Nat) (w : Value), (j, w) ∈ mj_lvl g i l ↔ ∃ v, i ≤ j ∧ l[j - i]? = some v ∧ mj_isno v = false ∧ w = mj_tr g v
  | [], i, j, w => by simp [mj_lvl]
  | x :: l, i, j, w => by
    have ih := mj_lvl_mem g l (i + 1) j w
    have up : ∀ v, i + 1 ≤ j → (l[j - (i + 1)]? = some v ↔ (x :: l)[j - i]? = some v) := fun v h => by
      rw [show j - i = (j - (i + 1)) + 1 by omega, List.getElem?_cons_succ]
    unfold mj_lvl
    by_cases hx : mj_isno x = true
    · rw [if_pos hx, ih]
      constructor
      · rintro ⟨v, h1, h2, h3⟩
        exact ⟨v, by omega, (up v h1).mp h2, h3⟩
      · rintro ⟨v, h1, h2, h3, h4⟩
        by_cases e : j = i
        · subst e
          rw [Nat.sub_self, List.getElem?_cons_zero] at h2
          cases h2
          rw [hx] at h3
          cases h3
        · exact ⟨v, by omega, (up v (by omega)).mpr h2, h3, h4⟩
    · rw [if_neg hx, List.mem_cons, ih]
      constructor
      · rintro (h | ⟨v, h1, h2, h3⟩)
        · cases h
          exact ⟨x, Nat.le_refl _, by rw [Nat.sub_self, List.getElem?_cons_zero], by simpa using hx, rfl⟩
        · exact ⟨v, by omega, (up v h1).mp h2, h3⟩
      · rintro ⟨v, h1, h2, h3, h4⟩
        by_cases e : j = i
        · subst e
          rw [Nat.sub_self, List.getElem?_cons_zero] at h2
          cases h2
          exact Or.inl (by rw [h4])
        · exact Or.inr ⟨v, by omega, (up v (by omega)).mpr h2, h3, h4⟩
/-- the locals hold what the small machine's hold -/
def mj_lok (g : mj_G) (lsr : Array Slot) (ls : List Value) : Prop := lsr.size = ls.length ∧ lv_wf lsr ∧ ∀ (i : Nat) (v : Value), ls[i]? = some v → mj_isno v = false → lsr[i]? = some (.val (mj_tr g v))
theorem mj_lok.get {g : mj_G} {lsr : Array Slot} {ls : List Value} {i : Nat} {v : Value} (h : mj_lok g lsr ls) (hv : ls[i]? = some v) (hn : mj_isno v = false) : lsr[i]? = some (.val (mj_tr g v)) := h.2.2 i v hv hn
theorem mj_lok.has {g : mj_G} {lsr : Array Slot} {ls : List Value} (h : mj_lok g lsr ls) : lv_has lsr ls.length (mj_lvl g 0 ls) := by
  refine ⟨h.1, h.2.1, fun q hq => ?_⟩
  obtain ⟨j, w⟩ := q
  obtain ⟨v, h1, h2, h3, h4⟩ := (mj_lvl_mem g ls 0 j w).mp hq
  rw [Nat.sub_zero] at h2
  rw [h4]
  exact h.get h2 h3
theorem mj_lvl_at {g : mj_G} {ls : List Value} {i : Nat} {v : Value} (h : ls[i]? = some v) (hn : mj_isno v = false) : ∃ k : Nat, (mj_lvl g 0 ls)[k]? = some (i, mj_tr g v) :=
  List.getElem?_of_mem ((mj_lvl_mem g ls 0 i _).mpr ⟨v, Nat.zero_le _, by rw [Nat.sub_zero]; exact h, hn, rfl⟩)
theorem mj_lt {ls : List Value} {i : Nat} {v : Value} (h : ls[i]? = some v) : i < ls.length := (List.getElem?_eq_some_iff.mp h).1
theorem mj_cat2 {g : mj_G} {u : Value} (h : mj_wide (some u) = false) : ((mj_tr g u).category == 2) = false := by cases u <;> first | rfl | cases h
theorem mj_lok.set {g : mj_G} {lsr' : Array Slot} {ls : List Value} {i : Nat} {v : Value} (hi : i < ls.length) (hw : mj_wide ls[i - 1]? = false) (h : lv_has lsr' ls.length ((i, mj_tr g v) :: (mj_lvl g 0 ls).filter (fun q => !(q.1 == i) && !(q.1 + 1 == i && q.2.category == 2)))) : mj_lok g lsr' (ls.set i v) := by
  obtain ⟨h1, h2, h3⟩ := h
  refine ⟨by rw [h1, List.length_set], h2, fun j u hj hn => ?_⟩
  by_cases e : j = i
  · subst e
    rw [List.getElem?_set_self hi] at hj
    cases hj
    exact h3 (j, mj_tr g v) List.mem_cons_self
  · rw [List.getElem?_set_ne (Ne.symm e)] at hj
    refine h3 (j, mj_tr g u) (List.mem_cons_of_mem _ (List.mem_filter.mpr ⟨(mj_lvl_mem g ls 0 j _).mpr ⟨u, Nat.zero_le _, by rw [Nat.sub_zero]; exact hj, hn, rfl⟩, ?_⟩))
    have e1 : (j == i) = false := by simpa using e
    by_cases e2 : j + 1 = i
    · have e3 : i - 1 = j := by omega
      rw [e3, hj] at hw
      simp [e1, mj_cat2 hw]
    · have e3 : (j + 1 == i) = false := by simpa using e2
      simp [e1, e3]
theorem mj_lok.set2 {g : mj_G} {lsr' : Array Slot} {ls : List Value} {i : Nat} {v : Value} (hi : i + 1 < ls.length) (hw : mj_wide ls[i - 1]? = false) (h : lv_has lsr' ls.length ((i, mj_tr g v) :: (mj_lvl g 0 ls).filter (fun q => !(q.1 == i) && (!(q.1 == i + 1) && !(q.1 + 1 == i && q.2.category == 2))))) : mj_lok g lsr' ((ls.set i v).set (i + 1) mj_no) := by
  obtain ⟨h1, h2, h3⟩ := h
  refine ⟨by rw [h1, List.length_set, List.length_set], h2, fun j u hj hn => ?_⟩
  by_cases e0 : j = i + 1
  · subst e0
    rw [List.getElem?_set_self (by rw [List.length_set]; exact hi)] at hj
    cases hj
    cases hn
  rw [List.getElem?_set_ne (Ne.symm e0)] at hj
  by_cases e : j = i
  · subst e
    rw [List.getElem?_set_self (by omega)] at hj
    cases hj
    exact h3 (j, mj_tr g v) List.mem_cons_self
  · rw [List.getElem?_set_ne (Ne.symm e)] at hj
    refine h3 (j, mj_tr g u) (List.mem_cons_of_mem _ (List.mem_filter.mpr ⟨(mj_lvl_mem g ls 0 j _).mpr ⟨u, Nat.zero_le _, by rw [Nat.sub_zero]; exact hj, hn, rfl⟩, ?_⟩))
    have e1 : (j == i) = false := by simpa using e
    have e4 : (j == i + 1) = false := by simpa using e0
    by_cases e2 : j + 1 = i
    · have e3 : i - 1 = j := by omega
      rw [e3, hj] at hw
      simp [e1, e4, mj_cat2 hw]
    · have e3 : (j + 1 == i) = false := by simpa using e2
      simp [e1, e4, e3]
theorem mj_swoff (pc : Nat) (d x : Int) (hd : 0 ≤ (pc : Int) + d) : ∀ ps : List (Int × Int), (∀ q ∈ ps, 0 ≤ (pc : Int) + q.2) → 0 ≤ (pc : Int) + Op.lookupswitch.offset ps d x
  | [], _ => hd
  | (a, o) :: r, h => by
    rw [Op.lookupswitch.offset_cons]
    split
    · exact h _ List.mem_cons_self
    · exact mj_swoff pc d x hd r fun q hq => h q (List.mem_cons_of_mem _ hq)
theorem mj_kl_in {o i a : Nat} (h : (mj_kl.any (fun r => r.1 == o && r.2.1 == i && r.2.2.1 == a)) = true) : Cond.constant (mj_own o) i (Int32.ofNat a) ∈ mj_T := by
  obtain ⟨r, hr, h1⟩ := List.any_eq_true.mp h
  simp only [Bool.and_eq_true, beq_iff_eq] at h1
  obtain ⟨⟨rfl, rfl⟩, rfl⟩ := h1
  exact mj_wp_in (List.all_eq_true.mp mj_kl_ok r hr)
section MJP
variable {p : Program} {l : Launch} {e : Env} {R : Room} {s : State} {m : MethodId} {args : Array Value} {below : List Frame} {meth : Method} {c : Code} {H : Heap} {locs : List Loc} {cells slots : Nat} {Q : State → Prop} {cc : ByteArray} {pc : Nat}
set_option maxHeartbeats 4000000 in
theorem mj_sp_ok (hx : p.tables.exec = Jvm.exec) (hb : c.code = cc) {o : Nat} {ini : Bool} (hown : s.vm.findClass (mj_own o) = some m.cls) (hts : ∀ w ∈ mj_T, w.before args s = true) {g : mj_G} {en : mj_I} (hd : decode cc pc = .ok (en.1, en.2.1)) (hk : mj_chk o ini pc en = true)
    {ls st : List Value} {q : Nat × List Value × List Value} (hs : mj_sp en pc ls st = some q) {lsr : Array Slot} (hl : mj_lok g lsr ls) (kk : ∀ lsr' : Array Slot, mj_lok g lsr' q.2.1 → W p l e R s m args below meth c H locs cells slots Q (F0 m q.1 lsr' (q.2.2.map (mj_tr g)))) :
    W p l e R s m args below meth c H locs cells slots Q (F0 m pc lsr (st.map (mj_tr g))) := by
  obtain ⟨ins, ln, ea, eb⟩ := en
  dsimp only at hd
  cases ins
  case aconst_null =>
    obtain rfl : ln = 1 := by simpa [mj_chk] using hk
    simp only [mj_sp] at hs
    cases hs
    exact lv_null hx hb hd (kk _ hl)
  case iconst n =>
    obtain rfl : ln = 1 := by simpa [mj_chk] using hk
    simp only [mj_sp] at hs
    cases hs
    exact lv_iconst hx hb hd rfl (kk _ hl)
  case bipush n =>
    obtain rfl : ln = 2 := by simpa [mj_chk] using hk
    simp only [mj_sp] at hs
    cases hs
    exact lv_bipush hx hb hd rfl (kk _ hl)
  case sipush n =>
    obtain rfl : ln = 3 := by simpa [mj_chk] using hk
    simp only [mj_sp] at hs
    cases hs
    exact lv_sipush hx hb hd rfl (kk _ hl)
  case lconst n =>
    obtain rfl : ln = 1 := by simpa [mj_chk] using hk
    simp only [mj_sp] at hs
    cases hs
    exact lv_lconst hx hb hd rfl (kk _ hl)
  case ldc i =>
    simp only [mj_sp] at hs
    split at hs
    · rename_i h0
      subst h0
      cases hs
      simp only [mj_chk, Bool.and_eq_true, decide_eq_true_eq] at hk
      obtain ⟨hln, hk⟩ := hk
      subst hln
      have hk2 : (mj_kl.any (fun r => r.1 == o && r.2.1 == i && r.2.2.1 == ea)) = true := by simpa using hk
      exact lv_ldc hx hb hown (hts _ (mj_kl_in hk2)) hd (kk _ hl)
    · cases hs
  case ldc_w i =>
    simp only [mj_sp] at hs
    split at hs
    · rename_i h0
      subst h0
      cases hs
      simp only [mj_chk, Bool.and_eq_true, decide_eq_true_eq] at hk
      obtain ⟨hln, hk⟩ := hk
      subst hln
      have hk2 : (mj_kl.any (fun r => r.1 == o && r.2.1 == i && r.2.2.1 == ea)) = true := by simpa using hk
      exact lv_ldcw hx hb hown (hts _ (mj_kl_in hk2)) hd (kk _ hl)
    · cases hs
  case iload i =>
    obtain rfl : ln = 2 := by simpa [mj_chk] using hk
    simp only [mj_sp] at hs
    split at hs
    · rename_i x heq
      cases hs
      exact lv_iload hx hb hd (hl.get heq rfl) (kk _ hl)
    · cases hs
  case iload_n i =>
    obtain rfl : ln = 1 := by simpa [mj_chk] using hk
    simp only [mj_sp] at hs
    split at hs
    · rename_i x heq
      cases hs
      exact lv_iload_n hx hb hd rfl (hl.get heq rfl) (kk _ hl)
    · cases hs
  case lload i =>
    obtain rfl : ln = 2 := by simpa [mj_chk] using hk
    simp only [mj_sp] at hs
    split at hs
    · rename_i x heq
      cases hs
      exact lv_lload hx hb hd (hl.get heq rfl) (kk _ hl)
    · cases hs
  case lload_n i =>
    obtain rfl : ln = 1 := by simpa [mj_chk] using hk
    simp only [mj_sp] at hs
    split at hs
    · rename_i x heq
      cases hs
      exact lv_lload_n hx hb hd rfl (hl.get heq rfl) (kk _ hl)
    · cases hs
  case aload i =>
    obtain rfl : ln = 2 := by simpa [mj_chk] using hk
    simp only [mj_sp] at hs
    split at hs
    · rename_i x heq
      cases hs
      exact lv_aload hx hb hd (hl.get heq rfl) (kk _ hl)
    · cases hs
  case aload_n i =>
    obtain rfl : ln = 1 := by simpa [mj_chk] using hk
    simp only [mj_sp] at hs
    split at hs
    · rename_i x heq
      cases hs
      exact lv_aload_n hx hb hd rfl (hl.get heq rfl) (kk _ hl)
    · cases hs
  case istore i =>
    obtain rfl : ln = 2 := by simpa [mj_chk] using hk
    simp only [mj_sp] at hs
    split at hs
    · split at hs
      · rename_i h0
        cases hs
        exact lv_istore hx hb hd hl.has h0.1 rfl (fun lsr' h1 => kk lsr' (mj_lok.set h0.1 h0.2 h1))
      · cases hs
    · cases hs
  case istore_n i =>
    obtain rfl : ln = 1 := by simpa [mj_chk] using hk
    simp only [mj_sp] at hs
    split at hs
    · split at hs
      · rename_i h0
        cases hs
        exact lv_istore_n hx hb hd rfl hl.has h0.1 rfl (fun lsr' h1 => kk lsr' (mj_lok.set h0.1 h0.2 h1))
      · cases hs
    · cases hs
  case astore i =>
    obtain rfl : ln = 2 := by simpa [mj_chk] using hk
    simp only [mj_sp] at hs
    split at hs
    · split at hs
      · rename_i h0
        cases hs
        exact lv_astore hx hb hd hl.has h0.1 rfl (fun lsr' h1 => kk lsr' (mj_lok.set h0.1 h0.2 h1))
      · cases hs
    · cases hs
  case astore_n i =>
    obtain rfl : ln = 1 := by simpa [mj_chk] using hk
    simp only [mj_sp] at hs
    split at hs
    · split at hs
      · rename_i h0
        cases hs
        exact lv_astore_n hx hb hd rfl hl.has h0.1 rfl (fun lsr' h1 => kk lsr' (mj_lok.set h0.1 h0.2 h1))
      · cases hs
    · cases hs
  case lstore i =>
    obtain rfl : ln = 2 := by simpa [mj_chk] using hk
    simp only [mj_sp] at hs
    split at hs
    · split at hs
      · rename_i h0
        cases hs
        exact lv_lstore hx hb hd hl.has h0.1 rfl (fun lsr' h1 => kk lsr' (mj_lok.set2 h0.1 h0.2 h1))
      · cases hs
    · cases hs
  case lstore_n i =>
    obtain rfl : ln = 1 := by simpa [mj_chk] using hk
    simp only [mj_sp] at hs
    split at hs
    · split at hs
      · rename_i h0
        cases hs
        exact lv_lstore_n hx hb hd rfl hl.has h0.1 rfl (fun lsr' h1 => kk lsr' (mj_lok.set2 h0.1 h0.2 h1))
      · cases hs
    · cases hs
  case iinc i n =>
    simp only [mj_sp] at hs
    split at hs
    · rename_i x heq
      split at hs
      · rename_i h0
        cases hs
        obtain ⟨k, hk1⟩ := mj_lvl_at (g := g) heq rfl
        have hln : ln = 3 ∨ ln = 6 := by simpa [mj_chk] using hk
        rcases hln with rfl | rfl
        · exact lv_iinc hx hb hd hl.has hk1 rfl (mj_lt heq) rfl (fun lsr' h1 => kk lsr' (mj_lok.set (mj_lt heq) h0 h1))
        · exact lv_iincW hx hb hd hl.has hk1 rfl (mj_lt heq) rfl (fun lsr' h1 => kk lsr' (mj_lok.set (mj_lt heq) h0 h1))
      · cases hs
    · cases hs
  case pop =>
    obtain rfl : ln = 1 := by simpa [mj_chk] using hk
    simp only [mj_sp] at hs
    split at hs
    · split at hs
      · rename_i h0
        cases hs
        exact lv_pop hx hb hd (by rw [mj_tr_cat]; simpa [mj_cat1] using h0) (kk _ hl)
      · cases hs
    · cases hs
  case dup =>
    obtain rfl : ln = 1 := by simpa [mj_chk] using hk
    simp only [mj_sp] at hs
    split at hs
    · split at hs
      · rename_i h0
        cases hs
        exact lv_dup hx hb hd (by rw [mj_tr_cat]; simpa [mj_cat1] using h0) (kk _ hl)
      · cases hs
    · cases hs
  case dup2 =>
    obtain rfl : ln = 1 := by simpa [mj_chk] using hk
    simp only [mj_sp] at hs
    split at hs
    · split at hs
      · rename_i h0
        rw [Bool.and_eq_true] at h0
        cases hs
        exact lv_dup2_11 hx hb hd (by rw [mj_tr_cat]; simpa [mj_cat1] using h0.1) (by rw [mj_tr_cat]; simpa [mj_cat1] using h0.2) (kk _ hl)
      · cases hs
    · cases hs
  case iadd =>
    obtain rfl : ln = 1 := by simpa [mj_chk] using hk
    simp only [mj_sp] at hs
    split at hs
    · cases hs
      exact lv_iadd hx hb hd (kk _ hl)
    · cases hs
  case isub =>
    obtain rfl : ln = 1 := by simpa [mj_chk] using hk
    simp only [mj_sp] at hs
    split at hs
    · cases hs
      exact lv_isub hx hb hd (kk _ hl)
    · cases hs
  case imul =>
    obtain rfl : ln = 1 := by simpa [mj_chk] using hk
    simp only [mj_sp] at hs
    split at hs
    · cases hs
      exact lv_imul hx hb hd (kk _ hl)
    · cases hs
  case iand =>
    obtain rfl : ln = 1 := by simpa [mj_chk] using hk
    simp only [mj_sp] at hs
    split at hs
    · cases hs
      exact lv_iand hx hb hd (kk _ hl)
    · cases hs
  case ior =>
    obtain rfl : ln = 1 := by simpa [mj_chk] using hk
    simp only [mj_sp] at hs
    split at hs
    · cases hs
      exact lv_ior hx hb hd (kk _ hl)
    · cases hs
  case ixor =>
    obtain rfl : ln = 1 := by simpa [mj_chk] using hk
    simp only [mj_sp] at hs
    split at hs
    · cases hs
      exact lv_ixor hx hb hd (kk _ hl)
    · cases hs
  case ladd =>
    obtain rfl : ln = 1 := by simpa [mj_chk] using hk
    simp only [mj_sp] at hs
    split at hs
    · cases hs
      exact lv_ladd hx hb hd (kk _ hl)
    · cases hs
  case lsub =>
    obtain rfl : ln = 1 := by simpa [mj_chk] using hk
    simp only [mj_sp] at hs
    split at hs
    · cases hs
      exact lv_lsub hx hb hd (kk _ hl)
    · cases hs
  case ineg =>
    obtain rfl : ln = 1 := by simpa [mj_chk] using hk
    simp only [mj_sp] at hs
    split at hs
    · cases hs
      exact lv_ineg hx hb hd (kk _ hl)
    · cases hs
  case lneg =>
    obtain rfl : ln = 1 := by simpa [mj_chk] using hk
    simp only [mj_sp] at hs
    split at hs
    · cases hs
      exact lv_lneg hx hb hd (kk _ hl)
    · cases hs
  case ishl =>
    obtain rfl : ln = 1 := by simpa [mj_chk] using hk
    simp only [mj_sp] at hs
    split at hs
    · cases hs
      exact lv_ishl hx hb hd (kk _ hl)
    · cases hs
  case ishr =>
    obtain rfl : ln = 1 := by simpa [mj_chk] using hk
    simp only [mj_sp] at hs
    split at hs
    · cases hs
      exact lv_ishr hx hb hd (kk _ hl)
    · cases hs
  case i2l =>
    obtain rfl : ln = 1 := by simpa [mj_chk] using hk
    simp only [mj_sp] at hs
    split at hs
    · cases hs
      exact lv_i2l hx hb hd rfl (kk _ hl)
    · cases hs
  case l2i =>
    obtain rfl : ln = 1 := by simpa [mj_chk] using hk
    simp only [mj_sp] at hs
    split at hs
    · cases hs
      exact lv_l2i hx hb hd rfl (kk _ hl)
    · cases hs
  case i2s =>
    obtain rfl : ln = 1 := by simpa [mj_chk] using hk
    simp only [mj_sp] at hs
    split at hs
    · cases hs
      exact lv_i2s hx hb hd rfl (kk _ hl)
    · cases hs
  case i2c =>
    obtain rfl : ln = 1 := by simpa [mj_chk] using hk
    simp only [mj_sp] at hs
    split at hs
    · cases hs
      exact lv_i2c hx hb hd rfl (kk _ hl)
    · cases hs
  case iushr =>
    obtain rfl : ln = 1 := by simpa [mj_chk] using hk
    simp only [mj_sp] at hs
    split at hs
    · cases hs
      exact lv_iushr hx hb hd rfl (kk _ hl)
    · cases hs
  case lcmp =>
    obtain rfl : ln = 1 := by simpa [mj_chk] using hk
    simp only [mj_sp] at hs
    split at hs
    · cases hs
      exact W.lcmp hx hb hd (kk _ hl)
    · cases hs
  case idiv =>
    obtain rfl : ln = 1 := by simpa [mj_chk] using hk
    simp only [mj_sp] at hs
    split at hs
    · split at hs
      · cases hs
      · rename_i h0
        cases hs
        exact lv_idiv hx hb hd h0 (kk _ hl)
    · cases hs
  case irem =>
    obtain rfl : ln = 1 := by simpa [mj_chk] using hk
    simp only [mj_sp] at hs
    split at hs
    · split at hs
      · cases hs
      · rename_i h0
        cases hs
        exact lv_irem hx hb hd h0 (by rw [irem_eq_mod]; exact kk _ hl)
    · cases hs
  case goto off =>
    simp only [mj_chk, Bool.and_eq_true, decide_eq_true_eq] at hk
    obtain ⟨hln, ht⟩ := hk
    subst hln
    simp only [mj_sp] at hs
    cases hs
    exact lv_goto hx hb hd ht (kk _ hl)
  case ifCond cnd off =>
    simp only [mj_chk, Bool.and_eq_true, decide_eq_true_eq] at hk
    obtain ⟨hln, ht⟩ := hk
    subst hln
    simp only [mj_sp] at hs
    split at hs
    · cases cnd
      case eq =>
        cases hs
        exact lv_if_eq hx hb hd ht (fun h => by have k2 := kk _ hl; dsimp only at k2; rw [if_pos h] at k2; exact k2) (fun h => by have k2 := kk _ hl; dsimp only at k2; rw [if_neg h] at k2; exact k2)
      case ne =>
        cases hs
        exact lv_if_ne hx hb hd ht (fun h => by have k2 := kk _ hl; dsimp only at k2; rw [if_neg h] at k2; exact k2) (fun h => by have k2 := kk _ hl; dsimp only at k2; rw [if_pos h] at k2; exact k2)
      case lt =>
        cases hs
        exact lv_if_lt hx hb hd ht (fun h => by have k2 := kk _ hl; dsimp only at k2; rw [if_pos h] at k2; exact k2) (fun h => by have k2 := kk _ hl; dsimp only at k2; rw [if_neg h] at k2; exact k2)
      case ge =>
        cases hs
        exact lv_if_ge hx hb hd ht (fun h => by have k2 := kk _ hl; dsimp only at k2; rw [if_pos h] at k2; exact k2) (fun h => by have k2 := kk _ hl; dsimp only at k2; rw [if_neg h] at k2; exact k2)
      case gt =>
        cases hs
        exact lv_if_gt hx hb hd ht (fun h => by have k2 := kk _ hl; dsimp only at k2; rw [if_pos h] at k2; exact k2) (fun h => by have k2 := kk _ hl; dsimp only at k2; rw [if_neg h] at k2; exact k2)
      case le =>
        cases hs
        exact lv_if_le hx hb hd ht (fun h => by have k2 := kk _ hl; dsimp only at k2; rw [if_pos h] at k2; exact k2) (fun h => by have k2 := kk _ hl; dsimp only at k2; rw [if_neg h] at k2; exact k2)
    · cases hs
  case if_icmp cnd off =>
    simp only [mj_chk, Bool.and_eq_true, decide_eq_true_eq] at hk
    obtain ⟨hln, ht⟩ := hk
    subst hln
    simp only [mj_sp] at hs
    split at hs
    · cases cnd
      case eq =>
        cases hs
        exact lv_icmp_eq hx hb hd ht (fun h => by have k2 := kk _ hl; dsimp only at k2; rw [if_pos h] at k2; exact k2) (fun h => by have k2 := kk _ hl; dsimp only at k2; rw [if_neg h] at k2; exact k2)
      case ne =>
        cases hs
        exact lv_icmp_ne hx hb hd ht (fun h => by have k2 := kk _ hl; dsimp only at k2; rw [if_neg h] at k2; exact k2) (fun h => by have k2 := kk _ hl; dsimp only at k2; rw [if_pos h] at k2; exact k2)
      case lt =>
        cases hs
        exact lv_icmp_lt hx hb hd ht (fun h => by have k2 := kk _ hl; dsimp only at k2; rw [if_pos h] at k2; exact k2) (fun h => by have k2 := kk _ hl; dsimp only at k2; rw [if_neg h] at k2; exact k2)
      case ge =>
        cases hs
        exact lv_icmp_ge hx hb hd ht (fun h => by have k2 := kk _ hl; dsimp only at k2; rw [if_pos h] at k2; exact k2) (fun h => by have k2 := kk _ hl; dsimp only at k2; rw [if_neg h] at k2; exact k2)
      case gt =>
        cases hs
        exact lv_icmp_gt hx hb hd ht (fun h => by have k2 := kk _ hl; dsimp only at k2; rw [if_pos h] at k2; exact k2) (fun h => by have k2 := kk _ hl; dsimp only at k2; rw [if_neg h] at k2; exact k2)
      case le =>
        cases hs
        exact lv_icmp_le hx hb hd ht (fun h => by have k2 := kk _ hl; dsimp only at k2; rw [if_pos h] at k2; exact k2) (fun h => by have k2 := kk _ hl; dsimp only at k2; rw [if_neg h] at k2; exact k2)
    · cases hs
  case ifnull off =>
    simp only [mj_chk, Bool.and_eq_true, decide_eq_true_eq] at hk
    obtain ⟨hln, ht⟩ := hk
    subst hln
    simp only [mj_sp] at hs
    split at hs
    · cases hs
      exact lv_ifnull hx hb hd (kk _ hl)
    · cases hs
      exact lv_ifnullN hx hb hd ht (kk _ hl)
    · cases hs
  case ifnonnull off =>
    simp only [mj_chk, Bool.and_eq_true, decide_eq_true_eq] at hk
    obtain ⟨hln, ht⟩ := hk
    subst hln
    simp only [mj_sp] at hs
    split at hs
    · cases hs
      exact lv_ifnonnull hx hb hd ht (kk _ hl)
    · cases hs
      exact lv_ifnonnullN hx hb hd (kk _ hl)
    · cases hs
  case tableswitch d lo hi offs =>
    simp only [mj_chk, Bool.and_eq_true, decide_eq_true_eq, List.all_eq_true] at hk
    obtain ⟨⟨hd0, hds⟩, hsz⟩ := hk
    simp only [mj_sp] at hs
    split at hs
    · rename_i x r
      cases hs
      have k2 := kk _ hl
      dsimp only at k2
      by_cases h0 : x.toInt < lo ∨ hi < x.toInt
      · rw [if_pos h0] at k2
        exact lv_tableOut hx hb hd h0 (Int.toNat_of_nonneg hd0).symm k2
      · rw [if_neg h0] at k2
        have h1 : ¬ x.toInt < lo := fun z => h0 (Or.inl z)
        have h2 : ¬ hi < x.toInt := fun z => h0 (Or.inr z)
        obtain ⟨off, ho⟩ : ∃ off, offs[(x.toInt - lo).toNat]? = some off := ⟨_, Array.getElem?_eq_getElem (by omega)⟩
        rw [ho] at k2
        have hm : off ∈ offs.toList := by rw [← Array.getElem?_toList] at ho; exact List.mem_of_getElem? ho
        exact lv_tableIn hx hb hd h1 h2 ho (Int.toNat_of_nonneg (hds off hm)).symm k2
    · cases hs
  case lookupswitch d ps =>
    simp only [mj_chk, Bool.and_eq_true, decide_eq_true_eq] at hk
    obtain ⟨⟨hd0, hds⟩, hsz⟩ := hk
    have hds2 : ∀ q ∈ ps.toList, 0 ≤ (pc : Int) + q.2 := fun q hq => by simpa using List.all_eq_true.mp hds q hq
    simp only [mj_sp] at hs
    split at hs
    · rename_i x r
      cases hs
      exact lv_lookup hx hb hd hsz rfl (Int.toNat_of_nonneg (mj_swoff pc d x.toInt hd0 ps.toList hds2)).symm (kk _ hl)
    · cases hs
  all_goals (simp only [mj_sp] at hs; cases hs)
end MJP
