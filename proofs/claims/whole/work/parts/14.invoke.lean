/-! ===== a call, by its kind ===== -/
/-- what a kind of call asks besides -/
def mj_kx (own : String) (i k a : Nat) : Bool :=
  match k with
  | 1 => decide (Cond.methodLinkNest own i (mj_Y a) "GhostTrain" ∈ mj_nw)
  | 2 => decide ((mj_Y a).name = "<init>") && decide ((mj_m a).2.2.2.1 = none)
  | 3 => decide ((mj_Y a).name = "<init>") && decide ((mj_m a).2.2.2.1 = none) && decide (Cond.methodLinkNest own i (mj_Y a) "GhostTrain" ∈ mj_nw)
  | 4 => decide ((mj_Y a).name ≠ "<init>")
  | 5 => decide (mj_own (mj_m a).2.2.2.2 = (mj_Y a).cls)
  | _ => true
theorem mj_clok_of {o i k a b : Nat} {r : Nat × Nat × Nat × Nat × Nat × List Nat × List (List Nat)} (hr : r ∈ mj_cl) (h1 : r.1 = o) (h2 : r.2.1 = i) (h3 : r.2.2.1 = k) (h4 : r.2.2.2.1 = a) (h5 : r.2.2.2.2.1 = b) (hk : k ≠ 6) :
    (∀ w ∈ mj_cw (mj_own o) i k a, w ∈ mj_T) ∧ mj_plen a b = true ∧ mj_notMH a = true ∧ a < 1000 ∧ mj_kx (mj_own o) i k a = true := by
  have h := List.all_eq_true.mp mj_cl_ok r hr
  subst h1 h2 h3 h4 h5
  unfold mj_clok at h
  rw [if_neg hk] at h
  simp only [Bool.and_eq_true, decide_eq_true_eq] at h
  obtain ⟨⟨⟨⟨e1, e2⟩, e3⟩, e4⟩, e5⟩ := h
  exact ⟨mj_wps_in e1, e2, e3, e4, e5⟩
theorem mj_clok6 {o i a b : Nat} {r : Nat × Nat × Nat × Nat × Nat × List Nat × List (List Nat)} (hr : r ∈ mj_cl) (h1 : r.1 = o) (h2 : r.2.1 = i) (h3 : r.2.2.1 = 6) (h4 : r.2.2.2.1 = a) (h5 : r.2.2.2.2.1 = b) :
    (∀ w ∈ mj_gw (mj_own o) i a, w ∈ mj_T) ∧ (∀ t, t < 6 → ∀ w ∈ mj_gt a t, w ∈ mj_T) ∧ mj_Y (mj_gy a) = mj_gx a ∧ (∀ t, t < 6 → mj_plen ((mj_dt.getD (a - 1000) []).getD t 0) b = true ∧ mj_notMH ((mj_dt.getD (a - 1000) []).getD t 0) = true) ∧ (mj_dt.getD (a - 1000) []).length = 6 ∧ 1000 ≤ a := by
  have h := List.all_eq_true.mp mj_cl_ok r hr
  subst h1 h2 h4 h5
  unfold mj_clok at h
  rw [if_pos h3] at h
  simp only [Bool.and_eq_true, decide_eq_true_eq, List.all_eq_true, List.mem_range] at h
  obtain ⟨⟨⟨⟨⟨e1, e2⟩, e3⟩, e4⟩, e5⟩, e6⟩ := h
  exact ⟨mj_wps_in e1, fun t ht => mj_wps_in (e2 t ht), e3, e4, e5, e6⟩
theorem mj_st_split (g : mj_G) (st : List Value) (n : Nat) : st.map (mj_tr g) = (((st.take n).reverse).map (mj_tr g)).reverse ++ (st.drop n).map (mj_tr g) := by
  rw [List.map_reverse, List.reverse_reverse, ← List.map_append, List.take_append_drop]
theorem mj_arg_of {y : Nat} {as rest : List Value} {q : Nat × List Value × List Value} (h : mj_arg y as rest = some q) : q = (y, as, rest) ∧ as.all mj_cat1 = true ∧ as.length ≤ (mj_m y).2.2.1 ∧ y < 219 ∧ mj_sum rest ≤ 8 := by
  unfold mj_arg at h
  split at h
  · rename_i h0
    cases h
    exact ⟨rfl, h0⟩
  · cases h
section MJI
variable {p : Program} {l : Launch} {e : Env} {R : Room} {s : State} {m : MethodId} {args : Array Value} {below : List Frame} {meth : Method} {c : Code} {H : Heap} {locs : List Loc} {cells slots : Nat} {Q : State → Prop} {cc : ByteArray} {pc : Nat} {lsr : Array Slot}
set_option maxHeartbeats 8000000 in
theorem mj_invoke (hx : p.tables.exec = Jvm.exec) (hb : c.code = cc) {o : Nat} {ini : Bool} (hown : s.vm.findClass (mj_own o) = some m.cls) (hts : ∀ w ∈ mj_T, w.before args s = true) {g : mj_G} {K : mj_K} {Z : State → Prop} (hZ : mj_ZZ g Z) (hF : mj_F g K Z s) {en : mj_I} (hd : decode cc pc = .ok (en.1, en.2.1)) (hk : mj_chk o ini pc en = true)
    {st : List Value} {h : mj_H} {q : Nat × List Value × List Value} (hc : mj_call en st h = some q) {d : Nat} {v : Option Value} {h2 : mj_H} (hM : mj_M l g K Z d q.1 q.2.1 h v h2) (hml : c.maxLocals = lsr.size) (hW : mj_Wh g K h H) (hlow : ∀ a : Nat, a < g.1 → H[a]? = s.heap[a]?) (hR1 : d + 11 ≤ R.frames) (hR2 : 1100 + 100 * d ≤ R.locals) (hc1 : cells + (h2.1 - h.1) ≤ R.cells) (hc2 : slots + (h2.2.1 - h.2.1) ≤ R.slots) :
    en.2.1 = 3 ∧ va_Run p l e R s m args below meth c H locs cells slots (h2.1 - h.1) (h2.2.1 - h.2.1) (F0 m pc lsr (st.map (mj_tr g))) (q.2.2.map (mj_tr g)) (mj_Q g K v h2 (q.2.1.map (mj_tr g)).toArray) (mj_fr g) := by
  obtain ⟨ins, ln, ea, eb⟩ := en
  dsimp only at hd
  have S : CallFix p m c cc lsr.size s args mj_T (mj_own o) := ⟨hx, hb, hml, hown, hts⟩
  have room : ∀ y : Nat, y < 219 → (mj_rm d (h2.1 - h.1) (h2.2.1 - h.2.1)).frames + 1 ≤ R.frames ∧ 8 + ((mj_m y).2.2.1 + 11) + (mj_rm d (h2.1 - h.1) (h2.2.1 - h.2.1)).locals ≤ R.locals := fun y hy => by
    have := mj_maxL y (by omega)
    exact ⟨hR1, by show 8 + ((mj_m y).2.2.1 + 11) + (1000 + 100 * d) ≤ R.locals; omega⟩
  have pre : ∀ as : List Value, ∀ U : State, U.heap = H → s.WarmedH U.vm → mj_P g K Z as h (as.map (mj_tr g)).toArray U := fun as U hU hw =>
    ⟨rfl, hF.warm hZ hw (fun a ha => by rw [hU]; exact hlow a ha), by rw [hU]; exact hW⟩
  have w8 : ∀ rest : List Value, mj_sum rest ≤ 8 → ∀ S0 : List Value, 2 * (F0 m pc lsr S0).monitorRoom + ((rest.map (mj_tr g)).map fun v => v.category).sum ≤ 8 := fun rest hr S0 => lv_room (by rw [mj_tr_sum]; exact hr)
  have recv : ∀ r : Nat, r < h.1 → (h.2.2.1 r).1 < 13 → ∃ cellB : Cell, H[g.1 + r]? = some cellB ∧ cellB.vm.isStatics = false ∧ s.vm.findClass (mj_own (h.2.2.1 r).1) = some cellB.cls ∧ ClassAt s (mj_own (h.2.2.1 r).1) cellB.cls := fun r hr ht => by
    obtain ⟨r', e1, e2, cell, q1, q2, q3, q4⟩ := (hW.2.2.2 r hr).ob ht
    have hca := (hF.1.1 _ _ e1).2
    rw [mj_ownq _ ht _ e1] at hca
    exact ⟨cell, q1, by rw [q3]; rfl, by rw [q2]; exact hca.1, by rw [q2]; exact hca⟩
  have w2 := hW.2.1
  cases ins
  case invokestatic i =>
    simp only [mj_call] at hc
    split at hc
    · rename_i h0
      obtain ⟨he, hlen⟩ := h0
      obtain ⟨rfl, g1, g2, g3, g4⟩ := mj_arg_of hc
      simp only [mj_chk, Bool.and_eq_true, decide_eq_true_eq] at hk
      obtain ⟨hln, hk⟩ := hk
      subst hln
      rw [if_neg (by omega), if_neg (by omega)] at hk
      obtain ⟨r, hr, hk⟩ := List.any_eq_true.mp hk
      simp only [Bool.and_eq_true, beq_iff_eq, decide_eq_true_eq] at hk
      obtain ⟨⟨⟨⟨k1, k2⟩, k3⟩, k4⟩, k5⟩ := hk
      refine ⟨rfl, ?_⟩
      obtain ⟨z1, z2, z3, z4, z5⟩ := mj_clok_of hr k1 k2 rfl k4 k5 (by omega)
      have hcode := mj_cin g3
      have pS : PreS s H (mj_P g K Z (st.take eb).reverse h) ((st.take eb).reverse.map (mj_tr g)) := ⟨mj_blind hZ _ _, pre _⟩
      have hlen2 : ((st.take eb).reverse.map (mj_tr g)).length = eb := by simp; omega
      rcases (show r.2.2.1 = 0 ∨ r.2.2.1 = 1 by omega) with e0 | e0
      · rw [e0] at z1
        have hl := z1 _ (by unfold mj_cw; exact List.mem_cons_self)
        have hst := z1 (.static (mj_Y ea)) (by unfold mj_cw; simp)
        have hin := z1 (.initialized (mj_Y ea).cls) (by unfold mj_cw; simp)
        exact va_runS S hM ⟨⟨rfl, rfl, (room _ g3).1, (room _ g3).2, mj_pay hts g3, List.mem_cons_self, hts _ hcode, hts _ hin, mj_notMH_of z3, mj_plen_of z2, hts _ hl⟩, hts _ hst⟩ pS rfl hlen2 rfl (mj_st_split g st eb) (w8 _ g4 _) hd ⟨hc1, hc2⟩
      · rw [e0] at z1 z5
        have hst := z1 (.static (mj_Y ea)) (by unfold mj_cw; simp)
        have hin := z1 (.initialized (mj_Y ea).cls) (by unfold mj_cw; simp)
        have hnl := va_Nw.use (A := args) rfl (hF.2.1 _ (of_decide_eq_true z5))
        exact va_runSN S hM ⟨⟨⟨rfl, rfl, (room _ g3).1, (room _ g3).2, mj_pay hts g3, List.mem_cons_self⟩, hts _ hcode, hts _ hin, mj_notMH_of z3, mj_plen_of z2, hnl⟩, hts _ hst, trivial⟩ pS rfl hlen2 rfl (mj_st_split g st eb) (w8 _ g4 _) hd ⟨hc1, hc2⟩
    · cases hc
  case invokespecial i =>
    simp only [mj_call] at hc
    split at hc
    · rename_i r0 rest heq
      split at hc
      · rename_i h0
        obtain ⟨he, hr0, htag⟩ := h0
        have hr0' : @LT.lt Nat instLTNat r0 h.1 := hr0
        obtain ⟨rfl, g1, g2, g3, g4⟩ := mj_arg_of hc
        simp only [mj_chk, Bool.and_eq_true, decide_eq_true_eq] at hk
        obtain ⟨hln, hk⟩ := hk
        subst hln
        rw [if_neg (by omega)] at hk
        obtain ⟨r, hr, hk⟩ := List.any_eq_true.mp hk
        simp only [Bool.and_eq_true, beq_iff_eq, decide_eq_true_eq] at hk
        obtain ⟨⟨⟨⟨⟨k1, k2⟩, k3⟩, k6⟩, k4⟩, k5⟩ := hk
        refine ⟨rfl, ?_⟩
        obtain ⟨z1, z2, z3, z4, z5⟩ := mj_clok_of hr k1 k2 rfl k4 k5 (by omega)
        have hcode := mj_cin g3
        have hle : eb < st.length := by
          rcases Nat.lt_or_ge eb st.length with q | q
          · exact q
          · rw [List.drop_eq_nil_of_le q] at heq
            cases heq
        have hlen2 : ((st.take eb).reverse.map (mj_tr g)).length = eb := by simp; omega
        have hadr : mj_tr g (.ref r0) = .ref (g.1 + r0) := mj_adr (a := r0) (Nat.lt_of_lt_of_le hr0' w2)
        have hsp : (F0 m pc lsr (st.map (mj_tr g))).stack = ((st.take eb).reverse.map (mj_tr g)).reverse ++ .ref (g.1 + r0) :: rest.map (mj_tr g) := by
          show st.map (mj_tr g) = _
          rw [mj_st_split g st eb, heq, List.map_cons, hadr]
        have pS : PreS s H (mj_P g K Z (.ref r0 :: (st.take eb).reverse) h) (.ref (g.1 + r0) :: (st.take eb).reverse.map (mj_tr g)) := ⟨mj_blind hZ _ _, by
          have := pre (.ref r0 :: (st.take eb).reverse)
          rw [List.map_cons, hadr] at this
          exact this⟩
        rw [List.map_cons, hadr]
        rcases (show r.2.2.1 = 2 ∨ r.2.2.1 = 3 ∨ r.2.2.1 = 4 by omega) with e0 | e0 | e0
        · rw [e0] at z1 z5
          have hl := z1 _ (by unfold mj_cw; exact List.mem_cons_self)
          have hst := z1 (.instanceMethod (mj_Y ea)) (by unfold mj_cw; simp)
          have hin := z1 (.initialized (mj_Y ea).cls) (by unfold mj_cw; simp)
          simp only [mj_kx, Bool.and_eq_true, decide_eq_true_eq] at z5
          have hcn : mj_C ea = .code (mj_Y ea) (mj_m ea).2.1 (mj_m ea).2.2.1 none := by unfold mj_C mj_Y; rw [z5.2]
          exact va_runI (bytes := (mj_m ea).2.1) (maxL := (mj_m ea).2.2.1) S hM ⟨⟨rfl, rfl, (room _ g3).1, (room _ g3).2, mj_pay hts g3, by rw [← hcn]; exact List.mem_cons_self, by rw [← hcn]; exact hts _ hcode, hts _ hin, mj_notMH_of z3, mj_plen_of z2, hts _ hl⟩, z5.1, hts _ hst⟩ pS rfl hlen2 rfl hsp (w8 _ g4 _) hd ⟨hc1, hc2⟩
        · rw [e0] at z1 z5
          have hst := z1 (.instanceMethod (mj_Y ea)) (by unfold mj_cw; simp)
          have hin := z1 (.initialized (mj_Y ea).cls) (by unfold mj_cw; simp)
          simp only [mj_kx, Bool.and_eq_true, decide_eq_true_eq] at z5
          have hnl := va_Nw.use (A := args) rfl (hF.2.1 _ z5.2)
          have hcn : mj_C ea = .code (mj_Y ea) (mj_m ea).2.1 (mj_m ea).2.2.1 none := by unfold mj_C mj_Y; rw [z5.1.2]
          exact va_runIN (bytes := (mj_m ea).2.1) (maxL := (mj_m ea).2.2.1) S hM ⟨⟨⟨rfl, rfl, (room _ g3).1, (room _ g3).2, mj_pay hts g3, by rw [← hcn]; exact List.mem_cons_self⟩, by rw [← hcn]; exact hts _ hcode, hts _ hin, mj_notMH_of z3, mj_plen_of z2, hnl⟩, z5.1.1, hts _ hst⟩ pS rfl hlen2 rfl hsp (w8 _ g4 _) hd ⟨hc1, hc2⟩
        · rw [e0] at z1 z5
          have hl := z1 _ (by unfold mj_cw; exact List.mem_cons_self)
          have hsm := z1 (.sameMethod (mj_Y ea).cls (mj_Y ea).cls (mj_Y ea).name (mj_Y ea).desc) (by unfold mj_cw; simp)
          have hsu := z1 (.superclass (mj_own o) (mj_Y ea).cls) (by unfold mj_cw; simp)
          have hst := z1 (.instanceMethod (mj_Y ea)) (by unfold mj_cw; simp)
          have hin := z1 (.initialized (mj_Y ea).cls) (by unfold mj_cw; simp)
          obtain ⟨cellB, b1, b2, b3, b4⟩ := recv r0 hr0 htag
          have pV : PreV s H (mj_own (h.2.2.1 r0).1) (g.1 + r0) (mj_P g K Z (.ref r0 :: (st.take eb).reverse) h) ((st.take eb).reverse.map (mj_tr g)) := ⟨pS.1, ⟨cellB, b1, b2, b3⟩, pS.2⟩
          exact va_runSU b4 S hM ⟨⟨rfl, rfl, (room _ g3).1, (room _ g3).2, mj_pay hts g3, List.mem_cons_self⟩, hts _ hl, hts _ hsm, hts _ hsu, hts _ hst, hts _ hin, hts _ hcode, of_decide_eq_true z5, mj_plen_of z2⟩ pV rfl hlen2 rfl hsp (w8 _ g4 _) hd ⟨hc1, hc2⟩
      · cases hc
    · cases hc
  case invokevirtual i =>
    simp only [mj_call] at hc
    split at hc
    · rename_i r0 rest heq
      split at hc
      · rename_i h0
        obtain ⟨he, hr0, htag⟩ := h0
        have hr0' : @LT.lt Nat instLTNat r0 h.1 := hr0
        split at hc
        · rename_i y hy
          obtain ⟨rfl, g1, g2, g3, g4⟩ := mj_arg_of hc
          simp only [mj_chk, Bool.and_eq_true, decide_eq_true_eq] at hk
          obtain ⟨hln, hk⟩ := hk
          subst hln
          have hk' : (mj_cl.any (fun r => r.1 == o && r.2.1 == i && (if ea < 1000 then r.2.2.1 == 5 else r.2.2.1 == 6) && r.2.2.2.1 == ea && r.2.2.2.2.1 == eb)) = true := by
            rw [if_neg (by omega)] at hk
            exact hk
          obtain ⟨r, hr, hk⟩ := List.any_eq_true.mp hk'
          simp only [Bool.and_eq_true, beq_iff_eq] at hk
          obtain ⟨⟨⟨⟨k1, k2⟩, k3⟩, k4⟩, k5⟩ := hk
          refine ⟨rfl, ?_⟩
          have hcode := mj_cin g3
          have hle : eb < st.length := by
            rcases Nat.lt_or_ge eb st.length with q | q
            · exact q
            · rw [List.drop_eq_nil_of_le q] at heq
              cases heq
          have hlen2 : ((st.take eb).reverse.map (mj_tr g)).length = eb := by simp; omega
          have hadr : mj_tr g (.ref r0) = .ref (g.1 + r0) := mj_adr (a := r0) (Nat.lt_of_lt_of_le hr0' w2)
          have hsp : (F0 m pc lsr (st.map (mj_tr g))).stack = ((st.take eb).reverse.map (mj_tr g)).reverse ++ .ref (g.1 + r0) :: rest.map (mj_tr g) := by
            show st.map (mj_tr g) = _
            rw [mj_st_split g st eb, heq, List.map_cons, hadr]
          obtain ⟨cellB, b1, b2, b3, b4⟩ := recv r0 hr0 htag
          have pV : PreV s H (mj_own (h.2.2.1 r0).1) (g.1 + r0) (mj_P g K Z (.ref r0 :: (st.take eb).reverse) h) ((st.take eb).reverse.map (mj_tr g)) := ⟨mj_blind hZ _ _, ⟨cellB, b1, b2, b3⟩, by
            have := pre (.ref r0 :: (st.take eb).reverse)
            rw [List.map_cons, hadr] at this
            exact this⟩
          rw [List.map_cons, hadr]
          by_cases hea : ea < 1000
          · rw [if_pos hea] at k3
            have k3 : r.2.2.1 = 5 := by simpa using k3
            obtain ⟨z1, z2, z3, z4, z5⟩ := mj_clok_of hr k1 k2 k3 k4 k5 (by omega)
            unfold mj_disp at hy
            rw [if_pos hea] at hy
            split at hy
            · rename_i hcl
              cases hy
              have hl := z1 _ (by unfold mj_cw; exact List.mem_cons_self)
              have hst := z1 (.instanceMethod (mj_Y ea)) (by unfold mj_cw; simp)
              have hse := z1 (.selects (mj_Y ea).cls (mj_Y ea) (mj_Y ea)) (by unfold mj_cw; simp)
              have hin := z1 (.initialized (mj_Y ea).cls) (by unfold mj_cw; simp)
              have hC : mj_own (h.2.2.1 r0).1 = (mj_Y ea).cls := by rw [← hcl]; exact of_decide_eq_true z5
              rw [hC] at pV
              exact va_runV S hM ⟨⟨rfl, rfl, (room _ g3).1, (room _ g3).2, mj_pay hts g3, List.mem_cons_self, hts _ hcode, hts _ hin, mj_notMH_of z3, mj_plen_of z2, hts _ hl⟩, hts _ hst, hts _ hse⟩ pV rfl hlen2 rfl hsp (w8 _ g4 _) hd ⟨hc1, hc2⟩
            · cases hy
          · rw [if_neg hea] at k3
            have k3 : r.2.2.1 = 6 := by simpa using k3
            obtain ⟨z1, z2, z3, z4, z5, z6⟩ := mj_clok6 hr k1 k2 k3 k4 k5
            unfold mj_disp at hy
            rw [if_neg hea] at hy
            have ht6 : (h.2.2.1 r0).1 < 6 := by
              have := (List.getElem?_eq_some_iff.mp hy).1
              omega
            have hyd : (mj_dt.getD (ea - 1000) []).getD (h.2.2.1 r0).1 0 = y := by rw [List.getD_eq_getElem?_getD, hy]; rfl
            have y1 := z2 _ ht6
            have y2 := z4 _ ht6
            unfold mj_gt at y1
            rw [hyd] at y1 y2
            have hgx : (mj_gx ea).cls = "GhostTrain$CarKind" := by
              have hall : ∀ a : Nat, a < 4 → (mj_gx (1000 + a)).cls = "GhostTrain$CarKind" := by decide +kernel
              have : ea - 1000 < 4 := by
                rcases Nat.lt_or_ge (ea - 1000) 4 with q | q
                · exact q
                · rw [List.getD_eq_getElem?_getD, List.getElem?_eq_none (by show 4 ≤ _; exact q)] at z5
                  cases z5
              have := hall (ea - 1000) this
              rwa [show 1000 + (ea - 1000) = ea by omega] at this
            have hgn : (⟨"GhostTrain$CarKind", (mj_gx ea).name, (mj_gx ea).desc⟩ : MethodName) = mj_gx ea := by rw [← hgx]
            have hl := z1 _ (by unfold mj_gw; exact List.mem_cons_self)
            have hsm := z1 (.sameMethod "GhostTrain$CarKind" "GhostTrain$CarKind" (mj_gx ea).name (mj_gx ea).desc) (by unfold mj_gw; simp)
            have hxi := z1 (.instanceMethod (mj_gx ea)) (by unfold mj_gw; simp)
            have hse := y1 _ List.mem_cons_self
            have hst := y1 (.instanceMethod (mj_Y y)) (by simp)
            have hin := y1 (.initialized (mj_Y y).cls) (by simp)
            have hcx : Cond.code (mj_gx ea) (mj_m (mj_gy ea)).2.1 (mj_m (mj_gy ea)).2.2.1 (mj_m (mj_gy ea)).2.2.2.1 ∈ mj_T := by
              have hgy : mj_gy ea < 219 := by
                have hall : ∀ a : Nat, a < 4 → mj_gy (1000 + a) < 219 := by decide +kernel
                have h4 : ea - 1000 < 4 := by
                  rcases Nat.lt_or_ge (ea - 1000) 4 with q | q
                  · exact q
                  · rw [List.getD_eq_getElem?_getD, List.getElem?_eq_none (by show 4 ≤ _; exact q)] at z5
                    cases z5
                have := hall (ea - 1000) h4
                rwa [show 1000 + (ea - 1000) = ea by omega] at this
              have := mj_cin hgy
              unfold mj_C at this
              rw [← z3]
              exact this
            have hpl : ∀ sig, parseMethodDescriptor (mj_gx ea).desc = some sig → eb = sig.parameters.length := by
              have := mj_plen_of (z4 1 (by decide)).1
              have e1 : (mj_dt.getD (ea - 1000) []).getD 1 0 = mj_gy ea := rfl
              rw [e1, z3] at this
              exact this
            refine va_runU (owner := "GhostTrain$CarKind") (x := mj_gx ea) S hM ⟨⟨rfl, rfl, (room _ g3).1, (room _ g3).2, mj_pay hts g3, List.mem_cons_self⟩, hts _ hcode, hts _ hin, ⟨by decide +kernel, by decide +kernel⟩, hpl, hts _ hl, by rw [hgx]; exact hts _ hsm, by rw [hgn]; exact va_Decl.of (hts _ hxi) (hts _ hcx), hts _ hse, hts _ hst⟩ pV rfl hlen2 rfl hsp (w8 _ g4 _) hd ⟨hc1, hc2⟩
        · cases hc
      · cases hc
    · cases hc
  all_goals (simp only [mj_call] at hc; cases hc)
end MJI
