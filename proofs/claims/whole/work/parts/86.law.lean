/-! ===== the law, from its first instruction ===== -/
theorem mI0g_z {i : Nat} : ∀ {l : List (Nat × Nat × Int32)}, (∀ q ∈ l, q.1 ≠ i) → ∀ k, mI0g i k l = 0
  | [], _, _ => rfl
  | q :: l, h, k => by
    unfold mI0g
    rw [if_neg (fun z => h q List.mem_cons_self z.1)]
    exact mI0g_z (fun x hx => h x (List.mem_cons_of_mem _ hx)) k
theorem mI0_w : ∀ i k, mW mI0 i k = if i = 0 ∧ k < 4 then -1 else 0 := by
  intro i k
  unfold mW
  by_cases h : i < 7
  · rw [if_pos h]
    rcases (show i = 0 ∨ i = 1 ∨ i = 2 ∨ i = 3 ∨ i = 4 ∨ i = 5 ∨ i = 6 by omega) with rfl | rfl | rfl | rfl | rfl | rfl | rfl
    · by_cases hk : k < 4
      · rw [if_pos ⟨rfl, hk⟩]
        revert hk
        revert k
        decide
      · rw [if_neg (fun z => hk z.2)]
        have hl : ∀ q ∈ mI0L, ¬ (q.1 = 140 ∧ ¬ q.2.1 < 4) := by decide
        have : ∀ l : List (Nat × Nat × Int32), (∀ q ∈ l, ¬ (q.1 = 140 ∧ ¬ q.2.1 < 4)) → mI0g 140 k l = 0 := by
          intro l
          induction l with
          | nil => intro _; rfl
          | cons q l ih =>
            intro h
            unfold mI0g
            rw [if_neg (fun z => h q List.mem_cons_self ⟨z.1, by rw [z.2]; exact hk⟩)]
            exact ih fun x hx => h x (List.mem_cons_of_mem _ hx)
        exact this _ hl
    all_goals
      rw [if_neg (by omega)]
      exact mI0g_z (by decide) k
  · rw [if_neg h, if_neg (by omega)]
theorem mI0_rel : mRel mI0 := by
  have e128 : ∀ k, k < 109 → mSg 11 128 mI0 k = mI0 128 k := by decide +kernel
  have e29 : ∀ p, p < 12 → mI0 128 (29 + p) = nI 0 := by decide +kernel
  have e41 : ∀ p, p < 12 → mI0 128 (41 + p) = nI 0 := by decide +kernel
  have c25 : ∀ k, k < 3 → mI0 25 k = -1 := by decide +kernel
  have eS : mSg 11 128 mI0 = mI0 128 := funext fun k => by
    rcases Nat.lt_or_ge k 109 with z | z
    · exact e128 k z
    · exact sg_far z
  have hok : mOk (mI0 128) 0 := mOk.mk ⟨by decide +kernel, by decide⟩ (fun c hc => absurd hc (by omega)) (fun c hc => absurd hc (by omega)) (fun c hc => absurd hc (by omega)) (fun p hp => ⟨0, e29 p hp, by decide⟩) (fun p hp => ⟨0, e41 p hp, by decide⟩) ⟨10, by decide +kernel, by decide, by decide⟩
  refine ⟨0, 0, (0, fun _ => 0, fun _ => [], fun _ => 0), ⟨eS, ⟨hok, by decide +kernel, by decide, fun c hc => absurd hc (by omega), fun c hc => absurd hc (by omega)⟩, ⟨by decide +kernel, by decide, fun t ht => absurd ht (Nat.not_lt_zero t)⟩, ⟨by decide, fun t ht => absurd ht (Nat.not_lt_zero t)⟩, fun k hk => c25 k hk, by decide +kernel⟩, ⟨by decide +kernel, fun z => absurd (show mI0 0 6 = 0 by decide +kernel) z⟩, mTpe.none (by decide +kernel) (by decide +kernel), ⟨⟨fun j hj => ?_, fun j hj => ?_⟩, fun j hj => ?_, fun j hj => ?_⟩, ⟨0, by decide +kernel, by decide +kernel, by decide, ?_⟩, ⟨by decide +kernel, by decide +kernel⟩⟩
  · have e1 : mW mI0 1 j = 0 := by rw [mI0_w, if_neg (by omega)]
    have eN : sN (mW mI0) j = 0 := by unfold sN; rw [e1]; rfl
    rw [eN, e1]
    refine ⟨rfl, by decide, Or.inl ?_, fun k hk => absurd hk (Nat.not_lt_zero k)⟩
    rw [mI0_w, if_pos ⟨rfl, hj⟩]
  · refine ⟨0, ?_, by decide, fun z => absurd z (by decide), fun z => absurd z (by decide)⟩
    rw [mI0_w, if_neg (by omega)]
    rfl
  · have e1 : mW mI0 1 j = 0 := by rw [mI0_w, if_neg (by omega)]
    have eN : sN (mW mI0) j = 0 := by unfold sN; rw [e1]; rfl
    have c1 : ∀ j, j < 4 → mI0 (104 + 2 * j) 1 = -1 ∧ mI0 (104 + 2 * j) 2 = 0 := by decide +kernel
    refine ⟨(c1 j hj).1.trans ?_, (c1 j hj).2.trans e1.symm, fun k hk => ?_⟩
    · rw [mI0_w, if_pos ⟨rfl, hj⟩]
    · rw [eN] at hk
      exact absurd hk (Nat.not_lt_zero k)
  · have e3 : mW mI0 3 j = 0 := by rw [mI0_w, if_neg (by omega)]
    have c1 : ∀ j, j < 5 → mI0 (112 + 3 * j) 0 = 0 := by decide +kernel
    rw [e3]
    exact ⟨c1 j hj, fun z => absurd z (by decide), fun z => absurd z (by decide), fun z => absurd z (by decide)⟩
  · exact funext fun k => (mI0g_z (by decide) k).trans (mI0g_z (by decide) k).symm
section EV2
variable {d y pc p' : Nat} {ls r : List Value} {h : mj_H} {Q : Option Value → mj_H → Prop}
theorem me_nw {i t b n : Nat} (hl : mj_look (mj_prog y) pc = some (.new i, 3, t, b)) (hp : pc + 3 = p') (hv : (vwCl[t]?).map (fun q => q.2.2) = some n) (hh : h.1 < 1000) (k : mj_Ev d y p' ls (.ref h.1 :: r) (mj_new h t n (fun k => defaultValue (mj_fty t k))) Q) : mj_Ev d y pc ls r h Q := by
  subst hp
  refine me_ofh hl rfl rfl rfl rfl ?_ k
  cases hq : vwCl[t]? with
  | none => rw [hq] at hv; cases hv
  | some q =>
    rw [hq] at hv
    have hv : q.2.2 = n := Option.some.inj hv
    unfold mj_sh
    dsimp only
    rw [hq]
    dsimp only
    rw [if_pos hh, hv]
theorem me_c0 {i c a t : Nat} {rest : List Value} (hl : mj_look (mj_prog y) pc = some (.invokespecial i, 3, c, 0)) (hp : pc + 3 = p') (ha : a < h.1) (ht : (h.2.2.1 a).1 = t) (ht13 : t < 13) (hlen : 1 ≤ (mj_m c).2.2.1) (hy : c < 219) (hr : mj_sum rest ≤ 8) (H : mj_Cl d c [.ref a] h (fun v h' => mj_Ev (d + 1) y p' ls (v.toList ++ rest) h' Q)) : mj_Ev (d + 1) y pc ls (.ref a :: rest) h Q := by
  subst hp
  refine mj_Ev.call hl rfl ?_ H
  simp only [mj_call]
  show (if c < 1000 ∧ a < h.1 ∧ (h.2.2.1 a).1 < 13 then mj_arg c [.ref a] rest else none) = _
  rw [ht, if_pos ⟨by omega, ha, ht13⟩]
  unfold mj_arg
  rw [if_pos ⟨rfl, hlen, hy, hr⟩]
end EV2
theorem cl_run {L : Nat} {xs : Nat → Int32} {h h2 h3 : mj_H} {y : Nat} {as : List Value} {Q : Option Value → mj_H → Prop} (hr : mj_run 2000 20 y 0 (mj_ent (mj_m y).2.2.1 as) [] h = some (none, h3)) (E : mE L xs h h2) (hQ : ∀ h4, mE L xs h3 h4 → Q none h4) : mj_Cl 95 y as h2 Q := by
  unfold mj_Cl
  obtain ⟨h4, g1, g2⟩ := mE.run _ _ _ _ _ _ _ _ _ E hr
  exact mj_Ev.deep (d := 20) (by decide) ⟨2000, none, h4, g1, hQ h4 g2⟩
theorem law_ev {L : Nat} {xs : Nat → Int32} (hL : L ≤ 3072) {h : mj_H} (E : mE L xs hC0 h) : mj_Ev 96 219 0 [.ref mj_X, mj_no, mj_no, mj_no] [] h (fun r h' => r = some (.int (nI 1)) ∧ h'.1 = 149 ∧ h'.2.1 = 9131) := by
  have n0 : h.1 = 0 := E.n
  refine me_nw (p' := 3) k219_0 rfl (n := 11) (by decide +kernel) (by omega) ?_
  have E1 : mE L xs hC1 (mj_new h 11 11 (fun k => defaultValue (mj_fty 11 k))) := E.nw (by decide)
  rw [n0]
  generalize mj_new h 11 11 (fun k => defaultValue (mj_fty 11 k)) = h1 at E1
  refine me_dup (p' := 4) k219_3 rfl rfl ?_
  refine me_c0 (p' := 7) k219_4 rfl (by rw [E1.n]; exact Nat.zero_lt_succ 0) (t := 11) ?_ (by decide) (by rw [mx_0]; decide) (by decide) (cl_sum rfl) ?_
  · rw [E1.s (i := 0) (Nat.zero_lt_succ 0)]
    rfl
  refine cl_run (isNo_of (x := hC0) rC1_ok) E1 fun h2 E2 => ?_
  have E2 : mE L xs hC2 h2 := E2
  have n2 : h2.1 = 127 := E2.n.trans hC2_n
  show mj_Ev 96 219 7 _ [.ref 0] h2 _
  refine me_astore_n (p' := 8) k219_7 rfl ⟨Nat.le_of_ble_eq_true rfl, rfl⟩ rfl ?_
  refine me_nw (p' := 11) k219_8 rfl (n := 34) (by decide +kernel) (by omega) ?_
  have E3 : mE L xs hC3 (mj_new h2 12 34 (fun k => defaultValue (mj_fty 12 k))) := E2.nw (by rw [hC2_n]; decide)
  rw [n2]
  have m3 : hC3.1 = 128 := by
    unfold hC3 mj_new
    dsimp only
    rw [hC2_n]
  have s3 : hC3.2.2.1 127 = (12, 34) := by
    unfold hC3 mj_new
    dsimp only
    rw [if_pos hC2_n.symm]
  generalize mj_new h2 12 34 (fun k => defaultValue (mj_fty 12 k)) = h3 at E3
  refine me_dup (p' := 12) k219_11 rfl rfl ?_
  refine me_c0 (p' := 15) k219_12 rfl (by rw [E3.n, m3]; decide) (t := 12) ?_ (by decide) (by rw [mx_132]; decide) (by decide) (cl_sum rfl) ?_
  · rw [E3.s (i := 127) (by rw [m3]; decide), s3]
  refine cl_run (isNo_of (x := hC0) rC2_ok) E3 fun h4 E4 => ?_
  have E4 : mE L xs hC4 h4 := E4
  show mj_Ev 96 219 15 _ [.ref 127] h4 _
  refine me_astore_n (p' := 16) k219_15 rfl ⟨Nat.le_of_ble_eq_true rfl, rfl⟩ rfl ?_
  refine me_iconst (p' := 17) k219_16 rfl (v := nI 0) (by decide) ?_
  refine me_istore_n (p' := 18) k219_17 rfl ⟨Nat.le_of_ble_eq_true rfl, rfl⟩ rfl ?_
  exact E4.end.ev (lp_law (Q := fun r h' => r = some (.int (nI 1)) ∧ h'.1 = 149 ∧ h'.2.1 = 9131) hL (fun _ => ⟨rfl, rfl, rfl⟩) L 0 mI0 (by omega) (by omega) mI0_rel) (fun r h' h2' E5 hq => ⟨hq.1, E5.n.trans hq.2.1, E5.m.trans hq.2.2⟩)
