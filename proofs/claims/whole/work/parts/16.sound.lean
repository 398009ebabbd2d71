/-! ===== the small machine's runs are the machine's: the main row ===== -/
section MJS
variable {p : Program} {l : Launch} {e : Env} {R : Room} {s : State} {m : MethodId} {args : Array Value} {below : List Frame} {meth : Method} {c : Code} {H : Heap} {locs : List Loc} {cells slots : Nat} {Q : State → Prop} {pc : Nat} {lsr : Array Slot}
/-- a method's end, by contract -/
theorem mj_fin_ok {g : mj_G} {K : mj_K} {y : Nat} {st : List Value} {r : Option Value} {h1 : mj_H} (hok : mj_mok y = true) (he : mj_end y pc st r) (hx : p.tables.exec = Jvm.exec) (hb : c.code = (mj_m y).2.1) (hr : meth.sig.returnType = (mj_m y).2.2.2.1) (hlocks : meth.locks = false) (hW : mj_Wh g K h1 H) (hlow : ∀ a : Nat, a < g.1 → H[a]? = s.heap[a]?) (hlo : ∀ x ∈ locs, g.1 ≤ x.base) :
    W p l e R s m args below meth c H locs cells slots (MQ below (mj_Q g K r h1) args s cells slots (mj_fr g)) (F0 m pc lsr (st.map (mj_tr g))) := by
  obtain ⟨en, e1, e2⟩ := he
  obtain ⟨hd, hk⟩ := mj_at hok e1
  generalize (mj_m y).2.2.2.1 = rt at e2 hr
  have hq : ∀ (o : Outcome), o = .returned (r.map (mj_tr g)) → ∀ t : State, t.heap = H → s.WarmedH t.vm → mj_Q g K r h1 args s o t := fun o ho t ht _ => ⟨ho, by rw [ht]; exact hW, fun a ha => by rw [ht]; exact hlow a ha⟩
  obtain ⟨ins, ln, ea, eb⟩ := en
  dsimp only at hd
  cases ins
  case ireturn =>
    obtain rfl : ln = 1 := by simpa [mj_chk] using hk
    simp only [mj_ret] at e2
    split at e2
    · split at e2
      · rename_i hn
        cases e2
        exact W.zret hx hb hr hn (hq _ rfl) hlo hd hlocks
      · cases e2
    · cases e2
  case lreturn =>
    obtain rfl : ln = 1 := by simpa [mj_chk] using hk
    simp only [mj_ret] at e2
    split at e2
    · cases e2
      exact W.lret hx hb hr (hq _ rfl) hlo hd hlocks
    · cases e2
  case areturn =>
    obtain rfl : ln = 1 := by simpa [mj_chk] using hk
    simp only [mj_ret] at e2
    split at e2
    · cases e2
      exact W.aret hx hb hr (Or.inl ⟨_, rfl⟩) (Or.inl rfl) (hq _ rfl) hlo hd hlocks
    · cases e2
      exact W.aret hx hb hr (Or.inl ⟨_, rfl⟩) (Or.inr ⟨_, rfl⟩) (hq _ rfl) hlo hd hlocks
    · cases e2
  case return_ =>
    obtain rfl : ln = 1 := by simpa [mj_chk] using hk
    simp only [mj_ret] at e2
    split at e2
    · cases e2
      exact W.vret hx hb hr (hq _ rfl) hlo hd hlocks
    · cases e2
  all_goals (simp only [mj_ret] at e2; cases e2)
end MJS
theorem mj_mok_cls {y : Nat} (h : mj_mok y = true) : mj_own (mj_oc y) = (mj_Y y).cls ∧ plainName (mj_Y y).cls = true := by
  unfold mj_mok at h
  rw [Bool.and_eq_true, Bool.and_eq_true] at h
  exact ⟨of_decide_eq_true h.1.2, h.2⟩
theorem mj_call_ok {e : mj_I} {st : List Value} {h : mj_H} {q : Nat × List Value × List Value} (hc : mj_call e st h = some q) : q.2.1.all mj_cat1 = true ∧ q.2.1.length ≤ (mj_m q.1).2.2.1 ∧ q.1 < 219 := by
  unfold mj_call at hc
  repeat' split at hc
  all_goals first | (cases hc; done) | (obtain ⟨rfl, g1, g2, g3, g4⟩ := mj_arg_of hc; exact ⟨g1, g2, g3⟩)
theorem mj_ent_len {n : Nat} {as : List Value} (h : as.length ≤ n) : (mj_ent n as).length = n := by
  unfold mj_ent
  rw [List.length_append, List.length_replicate]
  omega
set_option maxHeartbeats 8000000 in
theorem mj_run_ok {l : Launch} {g : mj_G} {K : mj_K} {Z : State → Prop} (hZ : mj_ZZ g Z) (hMA : mj_MA l g K Z) (hTX : mj_TX l g K Z) (hall : ∀ y, y < 220 → mj_mok y = true) : ∀ (k d y pc : Nat) (ls st : List Value) (h : mj_H) (r : Option Value) (h1 : mj_H), mj_run k d y pc ls st h = some (r, h1) → y < 220 → ls.length = (mj_m y).2.2.1 →
    ∀ (p : Program) (e : Env) (R : Room) (s : State) (m : MethodId) (args : Array Value) (below : List Frame) (meth : Method) (c : Code) (H : Heap) (locs : List Loc) (cells slots : Nat) (Q : State → Prop) (lsr : Array Slot), mj_Cx l g K Z y p s m args meth c → mj_lok g lsr ls → mj_Wh g K h H → (∀ a : Nat, a < g.1 → H[a]? = s.heap[a]?) → (∀ x ∈ locs, g.1 ≤ x.base) → d + 10 ≤ R.frames → 1000 + 100 * d ≤ R.locals → cells + (h1.1 - h.1) ≤ R.cells → slots + (h1.2.1 - h.2.1) ≤ R.slots →
    (∀ (pc' : Nat) (lsr' : Array Slot) (st' : List Value) (H' : Heap) (locs' : List Loc), mj_end y pc' st' r → mj_Wh g K h1 H' → (∀ a : Nat, a < g.1 → H'[a]? = s.heap[a]?) → (∀ x ∈ locs', g.1 ≤ x.base) → W p l e R s m args below meth c H' locs' (cells + (h1.1 - h.1)) (slots + (h1.2.1 - h.2.1)) Q (F0 m pc' lsr' (st'.map (mj_tr g)))) →
    W p l e R s m args below meth c H locs cells slots Q (F0 m pc lsr (st.map (mj_tr g)))
  | 0, _, _, _, _, _, _, _, _, hr, _, _ => by cases hr
  | k + 1, d, y, pc, ls, st, h, r, h1, hr, hy, hlen => by
    intro p e R s m args below meth c H locs cells slots Q lsr C hl hW hlow hlo hR1 hR2 hc1 hc2 fin
    obtain ⟨hx, hb, hml, hown, hts, hF, hini⟩ := id C
    have hle := mj_run_le _ _ _ _ _ _ _ _ _ hr
    unfold mj_run at hr
    cases e1 : mj_look (mj_prog y) pc with
    | none => rw [e1] at hr; cases hr
    | some en =>
      rw [e1] at hr
      dsimp only at hr
      obtain ⟨hd, hk⟩ := mj_at (hall y hy) e1
      cases e2 : mj_ret (mj_m y).2.2.2.1 en st with
      | some r0 =>
        rw [e2] at hr
        cases hr
        have := fin pc lsr st H locs ⟨en, e1, e2⟩ hW hlow hlo
        rwa [Nat.sub_self, Nat.sub_self, Nat.add_zero, Nat.add_zero] at this
      | none =>
        rw [e2] at hr
        dsimp only at hr
        cases e3 : mj_call en st h with
        | some q =>
          rw [e3] at hr
          dsimp only at hr
          cases d with
          | zero => cases hr
          | succ d0 =>
            dsimp only at hr
            cases e4 : mj_run k d0 q.1 0 (mj_ent (mj_m q.1).2.2.1 q.2.1) [] h with
            | none => rw [e4] at hr; cases hr
            | some w =>
              rw [e4] at hr
              obtain ⟨v, h2⟩ := w
              dsimp only at hr
              have a1 := mj_run_le k d0 _ _ _ _ _ _ _ e4
              have a2 := mj_run_le k (d0 + 1) _ _ _ _ _ _ _ hr
              obtain ⟨g1, g2, g3⟩ := mj_call_ok e3
              have hok := hall q.1 (by omega)
              have hM : mj_M l g K Z d0 q.1 q.2.1 h v h2 := by
                refine Met.ofW (cc := (mj_m q.1).2.1) (maxL := (mj_m q.1).2.2.1) (ret := (mj_m q.1).2.2.2.1) (mj_mok_cls hok).2 rfl ?_
                intro p e s m args below meth c s₁ B hml hv
                obtain ⟨hv1, hv2, hv3⟩ := hv
                subst hv1
                rw [lg_entry_eq]
                have hpre := atoms_spec (ws := mj_ws q.1) B.pre
                have hcls : s.vm.findClass (mj_own (mj_oc q.1)) = some m.cls := by rw [(mj_mok_cls hok).1]; exact findClass_of_methodNamed B.named
                refine mj_run_ok hZ hMA hTX hall k d0 q.1 0 _ [] h v h2 e4 (by omega) (mj_ent_len g2) _ _ _ _ _ _ _ _ _ _ _ _ _ _ _ ⟨B.exec, B.bytes, hml, hcls, fun w hw => hpre w (List.mem_cons_of_mem _ hw), hv2, fun hn => (name_of_methodNamed B.named B.method).1.trans hn⟩ (mj_entry g1 g2) hv3 (fun _ _ => rfl) (fun x hx => by cases hx) (Nat.le_refl _) (Nat.le_refl _) (by rw [Nat.zero_add]; exact Nat.le_refl _) (by rw [Nat.zero_add]; exact Nat.le_refl _) (fun pc' lsr' st' H' locs' he hW' hl' hlo' => ?_)
                rw [Nat.zero_add, Nat.zero_add]
                exact mj_fin_ok hok he B.exec B.bytes B.returns B.notSynchronized hW' hl' hlo'
              obtain ⟨hln, hrun⟩ := mj_invoke (locs := locs) (below := below) (meth := meth) (e := e) (R := R) (lsr := lsr) (cells := cells) (slots := slots) hx hb hown hts hZ hF hd hk e3 hM (by rw [hml, ← hlen]; exact hl.1.symm) hW hlow (by omega) (by omega) (by omega) (by omega)
              refine mj_after hrun hlow hlo fun H' locs' b1 b2 b3 => ?_
              have e5 : (v.map (mj_tr g)).toList ++ q.2.2.map (mj_tr g) = (v.toList ++ q.2.2).map (mj_tr g) := by
                rw [List.map_append]
                cases v <;> rfl
              rw [e5]
              rw [hln] at hr
              refine mj_run_ok hZ hMA hTX hall k (d0 + 1) y _ ls _ h2 r h1 hr hy hlen _ _ _ _ _ _ _ _ _ _ _ _ _ _ _ C hl b1 b2 b3 hR1 hR2 (by omega) (by omega) fun pc' lsr' st' H'' locs'' c1 c2 c3 c4 => ?_
              have := fin pc' lsr' st' H'' locs'' c1 c2 c3 c4
              rw [show cells + (h2.1 - h.1) + (h1.1 - h2.1) = cells + (h1.1 - h.1) by omega, show slots + (h2.2.1 - h.2.1) + (h1.2.1 - h2.2.1) = slots + (h1.2.1 - h.2.1) by omega]
              exact this
        | none =>
          rw [e3] at hr
          dsimp only at hr
          cases e4 : mj_stp en pc ls st h with
          | none => rw [e4] at hr; cases hr
          | some q =>
            rw [e4] at hr
            dsimp only at hr
            have a1 := mj_stp_le e4
            have a2 := mj_run_le k d _ _ _ _ _ _ _ hr
            have hlen2 := mj_stp_len e4
            have next : ∀ {H' : Heap} {locs' : List Loc} {lsr' : Array Slot}, mj_lok g lsr' q.2.1 → mj_Wh g K q.2.2.2 H' → (∀ a : Nat, a < g.1 → H'[a]? = s.heap[a]?) → (∀ x ∈ locs', g.1 ≤ x.base) → W p l e R s m args below meth c H' locs' (cells + (q.2.2.2.1 - h.1)) (slots + (q.2.2.2.2.1 - h.2.1)) Q (F0 m q.1 lsr' (q.2.2.1.map (mj_tr g))) := by
              intro H' locs' lsr' b0 b1 b2 b3
              refine mj_run_ok hZ hMA hTX hall k d y _ _ _ _ r h1 hr hy (hlen2.trans hlen) _ _ _ _ _ _ _ _ _ _ _ _ _ _ _ C b0 b1 b2 b3 hR1 hR2 (by omega) (by omega) fun pc' lsr' st' H'' locs'' c1 c2 c3 c4 => ?_
              have := fin pc' lsr' st' H'' locs'' c1 c2 c3 c4
              rw [show cells + (q.2.2.2.1 - h.1) + (h1.1 - q.2.2.2.1) = cells + (h1.1 - h.1) by omega, show slots + (q.2.2.2.2.1 - h.2.1) + (h1.2.1 - q.2.2.2.2.1) = slots + (h1.2.1 - h.2.1) by omega]
              exact this
            unfold mj_stp at e4
            split at e4
            · rename_i q0 h0
              cases e4
              refine mj_sp_ok hx hb hown hts hd hk h0 hl fun lsr' b0 => ?_
              have := next (H' := H) (locs' := locs) (lsr' := lsr') b0 hW hlow hlo
              rwa [Nat.sub_self, Nat.sub_self, Nat.add_zero, Nat.add_zero] at this
            · split at e4
              · rename_i q0 h0
                cases e4
                have hq0 : q0.2.1 = ls := by
                  unfold mj_sx at h0
                  repeat' split at h0
                  all_goals first | (cases h0; rfl) | cases h0
                have := next (H' := H) (locs' := locs) (lsr' := lsr) (by show mj_lok g lsr q0.2.1; rw [hq0]; exact hl) hW hlow hlo
                rw [Nat.sub_self, Nat.sub_self, Nat.add_zero, Nat.add_zero] at this
                exact (mj_sx_ok hx hb hown hts hTX hF hd hk h0 (by rw [hml, ← hlen]; exact hl.1.symm) hlow (by omega) (by omega) (by omega) this).2
              · exact mj_sh_ok hx hb hown hts hF hMA hd hk e4 hl (by rw [hml, hlen]) hW hlow hlo (fun hi => hini (of_decide_eq_true hi)) (by omega) (by omega) (by omega) fun lsr' H' locs' b0 b1 b2 b3 => next b0 b1 b2 b3
