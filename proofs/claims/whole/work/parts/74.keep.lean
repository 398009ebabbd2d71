/-! ===== what is always so; what keeps it ===== -/
def mSok (s : Nat → Int32) (n t : Nat) : Prop := mOk s n ∧ s 2 = nI t ∧ t ≤ 9999 ∧ mSt 5 s n t ∧ mSt 3 s n (4 * t)
def mKp (s s' : Nat → Int32) : Prop := ∀ k : Nat, (k = 4 ∨ 109 ≤ k) → s' k = s k
theorem mKp.rf {s : Nat → Int32} : mKp s s := fun _ _ => rfl
theorem mKp.tr {s s1 s2 : Nat → Int32} (h : mKp s s1) (h2 : mKp s1 s2) : mKp s s2 := fun k hk => (h2 k hk).trans (h k hk)
theorem mKp.u {s : Nat → Int32} {k : Nat} {v : Int32} (h4 : k ≠ 4) (h : k < 109) : mKp s (up s k v) := fun j hj => up_ne (by omega)
theorem sp_rg_i {m : Nat} {v : Int32} {k : Nat} (h : sp_rg m v = some k) (hm : m < 2 ^ 31) : k < m ∧ v = nI k := by
  unfold sp_rg at h
  split at h
  · rename_i e
    cases h
    obtain ⟨j, rfl, hj⟩ := mI_of e.1
    rw [nI_clamp hj]
    exact ⟨(cI_lt hj hm).mp e.2, rfl⟩
  · cases h
theorem mSok.uq {s : Nat → Int32} {n t k : Nat} {v : Int32} (h : mSok s n t) (hok : mOk (up s k v) n) (h2 : k ≠ 2) (h5 : ∀ c : Nat, c < 8 → k ≠ 53 + 7 * c + 5 ∧ k ≠ 53 + 7 * c + 3) : mSok (up s k v) n t := by
  have hn8 := h.1.hn.2
  refine ⟨hok, by rw [up_ne (Ne.symm h2)]; exact h.2.1, h.2.2.1, fun c hc => ?_, fun c hc => ?_⟩
  · rw [up_ne (Ne.symm (h5 c (by omega)).1)]; exact h.2.2.2.1 c hc
  · rw [up_ne (Ne.symm (h5 c (by omega)).2)]; exact h.2.2.2.2 c hc
theorem mOk.upF {s : Nat → Int32} {n c f : Nat} (h : mOk s n) (hc : c < n) (hf : f < 240) : mOk (up s (53 + 7 * c + 1) (nI f)) n := by
  have hn8 := h.hn.2
  refine mOk.mk ⟨?_, hn8⟩ (fun c' hc' => ?_) (fun c' hc' => ?_) (fun c' hc' => ?_) (fun p hp => ?_) (fun p hp => ?_) ?_
  · rw [up_ne (by omega)]; exact h.hn.1
  · rw [up_ne (by omega)]; exact h.kd' c' hc'
  · by_cases e : c' = c
    · subst e; exact ⟨f, up_eq, hf⟩
    · rw [up_ne (by omega)]; exact h.ft' c' hc'
  · rw [up_ne (by omega)]; exact h.wt c' hc'
  · rw [up_ne (by omega)]; exact h.sc p hp
  · rw [up_ne (by omega)]; exact h.se p hp
  · rw [up_ne (by omega)]; exact h.gp
theorem mOk.upS {s : Nat → Int32} {n p z : Nat} (h : mOk s n) (hp : p < 12) (hz : z ≤ 60) : mOk (up (up s (41 + p) (nI 0)) (29 + p) (nI z)) n := by
  have hn8 := h.hn.2
  refine mOk.mk ⟨?_, hn8⟩ (fun c' hc' => ?_) (fun c' hc' => ?_) (fun c' hc' => ?_) (fun q hq => ?_) (fun q hq => ?_) ?_
  · rw [up_ne (by omega), up_ne (by omega)]; exact h.hn.1
  · rw [up_ne (by omega), up_ne (by omega)]; exact h.kd' c' hc'
  · rw [up_ne (by omega), up_ne (by omega)]; exact h.ft' c' hc'
  · rw [up_ne (by omega), up_ne (by omega)]; exact h.wt c' hc'
  · by_cases e : q = p
    · subst e; exact ⟨z, up_eq, hz⟩
    · rw [up_ne (by omega), up_ne (by omega)]; exact h.sc q hq
  · rw [up_ne (by omega)]
    by_cases e : q = p
    · subst e; exact ⟨0, up_eq, by omega⟩
    · rw [up_ne (by omega)]; exact h.se q hq
  · rw [up_ne (by omega), up_ne (by omega)]; exact h.gp
theorem mSok.turns {s : Nat → Int32} {n t : Nat} (h : mSok s n t) (car kd : Int32) : mSok (sp_turns s n car kd).2 n t ∧ mKp s (sp_turns s n car kd).2 := by
  have hn8 := h.1.hn.2
  unfold sp_turns
  split
  · exact ⟨h, mKp.rf⟩
  · rename_i c hc
    have hc := sp_rg_i hc (by omega)
    split
    · exact ⟨h, mKp.rf⟩
    · rename_i o ho
      have ho := sp_rg_i ho (by omega)
      exact ⟨h.uq (h.1.upK hc.1 ho.1) (by omega) (fun c' hc' => by omega), mKp.u (by omega) (by omega)⟩
theorem mSok.set {s : Nat → Int32} {n t : Nat} (h : mSok s n t) (car wh v : Int32) : mSok (sp_set s n car wh v).2 n t ∧ mKp s (sp_set s n car wh v).2 := by
  have hn8 := h.1.hn.2
  unfold sp_set
  split
  · exact ⟨h, mKp.rf⟩
  · rename_i c hc
    have hc := sp_rg_i hc (by omega)
    split
    · split
      · exact ⟨h, mKp.rf⟩
      · rename_i f hf
        have hf := sp_rg_i hf (by omega)
        exact ⟨h.uq (h.1.upF hc.1 hf.1) (by omega) (fun c' hc' => by omega), mKp.u (by omega) (by omega)⟩
    · split
      · rename_i hv
        obtain ⟨w, rfl, hw⟩ := mI_of (Int32.le_trans (nI_pos' (show 1 < 2 ^ 31 by decide)) hv.1)
        have h1 := (cI_le (by decide) hw).mp hv.1
        have h2 := (cI_le hw (by decide)).mp hv.2
        exact ⟨h.uq (h.1.upW hc.1 h1 h2) (by omega) (fun c' hc' => by omega), mKp.u (by omega) (by omega)⟩
      · exact ⟨h, mKp.rf⟩
    · exact ⟨h, mKp.rf⟩
theorem mSok.lays {s : Nat → Int32} {n t : Nat} (h : mSok s n t) (pt wh v : Int32) : mSok (sp_lays s pt wh v).2 n t ∧ mKp s (sp_lays s pt wh v).2 := by
  have hn8 := h.1.hn.2
  unfold sp_lays
  split
  · exact ⟨h, mKp.rf⟩
  · rename_i p hp
    have hp := (sp_rg_i hp (by omega)).1
    split
    · exact ⟨h, mKp.rf⟩
    · split
      · exact ⟨h.uq (h.1.upX (by omega) (by omega) (by omega)) (by omega) (fun c' hc' => by omega), mKp.u (by omega) (by omega)⟩
      · exact ⟨h, mKp.rf⟩
    · split
      · exact ⟨h, mKp.rf⟩
      · exact ⟨h.uq (h.1.upX (by omega) (by omega) (by omega)) (by omega) (fun c' hc' => by omega), mKp.u (by omega) (by omega)⟩
    · split
      · exact ⟨h, mKp.rf⟩
      · rename_i z hz
        have hz := (sp_rg_i hz (by omega)).1
        have hok := h.1.upS (z := z) hp (by omega)
        have hS : mSok (up (up s (41 + p) (nI 0)) (29 + p) (nI z)) n t := by
          refine ⟨hok, by rw [up_ne (by omega), up_ne (by omega)]; exact h.2.1, h.2.2.1, fun c hc => ?_, fun c hc => ?_⟩
          · rw [up_ne (by omega), up_ne (by omega)]; exact h.2.2.2.1 c hc
          · rw [up_ne (by omega), up_ne (by omega)]; exact h.2.2.2.2 c hc
        exact ⟨hS, (mKp.u (by omega) (by omega)).tr (mKp.u (by omega) (by omega))⟩
theorem mSok.gap {s : Nat → Int32} {n t : Nat} (h : mSok s n t) (v : Int32) : mSok (sp_gap s v).2 n t ∧ mKp s (sp_gap s v).2 := by
  unfold sp_gap
  split
  · rename_i hv
    obtain ⟨w, rfl, hw⟩ := mI_of (Int32.le_trans (nI_pos' (show 1 < 2 ^ 31 by decide)) hv.1)
    have h1 := (cI_le (by decide) hw).mp hv.1
    have h2 := (cI_le hw (by decide)).mp hv.2
    exact ⟨h.uq (h.1.upG h1 h2) (by omega) (fun c' hc' => by omega), mKp.u (by omega) (by omega)⟩
  · exact ⟨h, mKp.rf⟩
theorem mSok.seed {s : Nat → Int32} {n t : Nat} (h : mSok s n t) (v : Int32) : mSok (sp_seed s v).2 n t ∧ mKp s (sp_seed s v).2 :=
  ⟨h.uq (h.1.upX (by omega) (by omega) (by omega)) (by omega) (fun c' hc' => by omega), mKp.u (by omega) (by omega)⟩
theorem mSok.comes {s : Nat → Int32} {n t q f w : Nat} (h : mSok s n t) (hn : n < 8) (hq : q < 6) (hf : f < 240) (hw : 1 ≤ w ∧ w ≤ 99) : mSok (sp_comes s n (nI q) (nI f) (nI w)) (n + 1) t ∧ mKp s (sp_comes s n (nI q) (nI f) (nI w)) := by
  have e : ∀ k, k ≠ 1 → ¬ (53 + 7 * n ≤ k ∧ k < 53 + 7 * n + 7) → sp_comes s n (nI q) (nI f) (nI w) k = s k := fun k h1 h2 => by
    unfold sp_comes
    rw [if_neg h1, if_neg (by omega), if_neg (by omega), if_neg (by omega), if_neg h2]
  have e0 : sp_comes s n (nI q) (nI f) (nI w) (53 + 7 * n + 0) = nI q := by
    unfold sp_comes
    rw [if_neg (by omega), if_neg (by omega), if_neg (by omega), if_pos (by omega)]
  have e1 : sp_comes s n (nI q) (nI f) (nI w) (53 + 7 * n + 1) = nI f := by
    unfold sp_comes
    rw [if_neg (by omega), if_neg (by omega), if_pos (by omega)]
  have e2 : sp_comes s n (nI q) (nI f) (nI w) (53 + 7 * n + 2) = nI w := by
    unfold sp_comes
    rw [if_neg (by omega), if_pos (by omega)]
  have e3 : ∀ j, 3 ≤ j → j < 7 → sp_comes s n (nI q) (nI f) (nI w) (53 + 7 * n + j) = nI 0 := fun j h1 h2 => by
    unfold sp_comes
    rw [if_neg (by omega), if_neg (by omega), if_neg (by omega), if_neg (by omega), if_pos (by omega)]
  refine ⟨⟨mOk.mk ⟨rfl, by omega⟩ (fun c hc => ?_) (fun c hc => ?_) (fun c hc => ?_) (fun p hp => ?_) (fun p hp => ?_) ?_, ?_, h.2.2.1, fun c hc => ?_, fun c hc => ?_⟩, fun k hk => e k (by omega) (by omega)⟩
  · by_cases z : c = n
    · subst z; exact ⟨q, e0, hq⟩
    · rw [e _ (by omega) (by omega)]; exact h.1.kd' c (by omega)
  · by_cases z : c = n
    · subst z; exact ⟨f, e1, hf⟩
    · rw [e _ (by omega) (by omega)]; exact h.1.ft' c (by omega)
  · by_cases z : c = n
    · subst z; exact ⟨w, e2, hw⟩
    · rw [e _ (by omega) (by omega)]; exact h.1.wt c (by omega)
  · rw [e _ (by omega) (by omega)]; exact h.1.sc p hp
  · rw [e _ (by omega) (by omega)]; exact h.1.se p hp
  · rw [e _ (by omega) (by omega)]; exact h.1.gp
  · rw [e _ (by omega) (by omega)]; exact h.2.1
  · by_cases z : c = n
    · subst z; exact ⟨0, e3 5 (by decide) (by decide), by omega⟩
    · rw [e _ (by omega) (by omega)]; exact h.2.2.2.1 c (by omega)
  · by_cases z : c = n
    · subst z; exact ⟨0, e3 3 (by decide) (by decide), by omega⟩
    · rw [e _ (by omega) (by omega)]; exact h.2.2.2.2 c (by omega)
theorem mSok.car {s : Nat → Int32} {n t : Nat} (h : mSok s n t) (q f w : Int32) : ∃ n', mSok (sp_car s n q f w).2 n' t ∧ mKp s (sp_car s n q f w).2 := by
  have hn8 := h.1.hn.2
  unfold sp_car
  split
  · exact ⟨n, h, mKp.rf⟩
  · rename_i k hk
    obtain ⟨hk6, rfl⟩ := sp_rg_i hk (by omega)
    split
    · exact ⟨n, h, mKp.rf⟩
    · rename_i j hj
      obtain ⟨hj240, rfl⟩ := sp_rg_i hj (by omega)
      split
      · rename_i hv
        obtain ⟨m, rfl, hm⟩ := mI_of (Int32.le_trans (nI_pos' (show 1 < 2 ^ 31 by decide)) hv.1)
        have h1 := (cI_le (by decide) hm).mp hv.1
        have h2 := (cI_le hm (by decide)).mp hv.2
        split
        · exact ⟨n, h, mKp.rf⟩
        · exact ⟨n + 1, h.comes (by omega) hk6 hj240 ⟨h1, h2⟩⟩
      · exact ⟨n, h, mKp.rf⟩
theorem mSok.dls {s : Nat → Int32} {n t : Nat} (h : mSok s n t) : ∀ j : Nat, n + j ≤ 8 → mSok (sp_dls s n j) (n + j) t ∧ mKp s (sp_dls s n j)
  | 0, _ => ⟨h, mKp.rf⟩
  | j + 1, hj => by
    obtain ⟨h1, h2⟩ := mSok.dls h j (by omega)
    have h3 : mSok (up (sp_dls s n j) 0 (sp_z (sp_z (sp_z (sp_dls s n j 0))))) (n + j) t := h1.uq (h1.1.upX (by omega) (by omega) (by omega)) (by omega) (fun c hc => by omega)
    have h4 := h3.comes (q := sp_dv (sp_z (sp_dls s n j 0)) % 6) (f := sp_dv (sp_z (sp_z (sp_dls s n j 0))) % 240) (w := 1 + sp_dv (sp_z (sp_z (sp_z (sp_dls s n j 0)))) % 99) (by omega) (Nat.mod_lt _ (by decide)) (Nat.mod_lt _ (by decide)) ⟨by omega, by have := Nat.mod_lt (sp_dv (sp_z (sp_z (sp_z (sp_dls s n j 0))))) (show 0 < 99 by decide); omega⟩
    exact ⟨h4.1, (h2.tr (mKp.u (by omega) (by omega))).tr h4.2⟩
theorem mSok.deal {s : Nat → Int32} {n t : Nat} (h : mSok s n t) (v : Int32) : ∃ n', mSok (sp_deal s n v).2 n' t ∧ mKp s (sp_deal s n v).2 := by
  have hn8 := h.1.hn.2
  unfold sp_deal
  split
  · exact ⟨_, h.dls _ (by omega)⟩
  · exact ⟨n, h, mKp.rf⟩
theorem sp_cars_2 {T : mT} {s : Nat → Int32} {aw : Int32} {n : Nat} (h : mOk s n) : ∀ k : Nat, k ≤ n → sp_cars T s aw n k 2 = s 2
  | 0, _ => rfl
  | k + 1, hk => by
    have hn8 := h.hn.2
    unfold sp_cars
    split
    · exact sp_cars_2 h k (by omega)
    · rw [← sp_cars_2 (T := T) (aw := aw) h k (by omega)]
      unfold sp_goes
      split
      · exact sp_go1_kp (by omega) (by omega) (by omega)
      · rw [sp_enter_at (by omega) (by omega) (by omega)]
        exact sp_go1_kp (by omega) (by omega) (by omega)
theorem sp_secs_2 {T : mT} {s : Nat → Int32} {aw : Int32} {n t : Nat} (h : mOk s n) (h2 : s 2 = nI t) : ∀ k : Nat, sp_secs T s aw n k 2 = nI (t + k)
  | 0 => h2
  | k + 1 => by
    have := sp_secs_2 (T := T) (aw := aw) h h2 k
    rw [show sp_secs T s aw n (k + 1) = sp_second T (sp_secs T s aw n k) aw n from rfl, sp_second, up_eq, sp_cars_2 (h.secs k).dim n (Nat.le_refl _)]
    have e : sp_dim (sp_secs T s aw n k) 12 2 = sp_secs T s aw n k 2 := by unfold sp_dim; rw [if_neg (by omega)]
    rw [e, this, mI_add]
    rfl
theorem mSok.secs {T : mT} {s : Nat → Int32} {n t m : Nat} (h : mSok s n t) (hm : t + m ≤ 9999) : mSok (sp_secs T s (-1) n m) n (t + m) ∧ mKp s (sp_secs T s (-1) n m) := by
  have hn8 := h.1.hn.2
  have h5 := (sp_secs_w (T := T) (aw := -1) (Or.inr rfl) hn8 h.2.2.2.1 m (by omega)).st h.2.2.2.1 (by omega)
  have h3 := (sp_secs_w (T := T) (aw := -1) (Or.inl rfl) hn8 h.2.2.2.2 m (by omega)).st h.2.2.2.2 (by omega)
  rw [if_pos rfl, Nat.one_mul] at h5
  rw [if_neg (by decide)] at h3
  refine ⟨⟨h.1.secs m, sp_secs_2 h.1 h.2.1 m, hm, h5, ?_⟩, fun k hk => sp_secs_kp h.1 (by unfold mTd; omega) m⟩
  rw [show 4 * (t + m) = 4 * t + 4 * m by omega]
  exact h3
theorem mSok.seconds {T : mT} {s : Nat → Int32} {n t : Nat} (h : mSok s n t) (v : Int32) : ∃ t', mSok (sp_seconds T s n v).2 n t' ∧ mKp s (sp_seconds T s n v).2 := by
  have ht := h.2.2.1
  unfold sp_seconds
  split
  · rw [h.2.1, nI_clamp (by omega)]
    exact ⟨_, h.secs (by omega)⟩
  · exact ⟨t, h, mKp.rf⟩
theorem mSok.prS {W : Nat → Nat → Int32} {s : Nat → Int32} {n t j : Nat} (h : mSok s n t) : ∀ p : Nat, p ≤ 12 → mSok (sp_prS W s j p) n t ∧ mKp s (sp_prS W s j p)
  | 0, _ => ⟨h, mKp.rf⟩
  | p + 1, hp => by
    obtain ⟨h1, h2⟩ := mSok.prS (W := W) (j := j) h p (by omega)
    exact ⟨h1.uq (h1.1.upX (by omega) (by omega) (by omega)) (by omega) (fun c hc => by omega), h2.tr (mKp.u (by omega) (by omega))⟩
theorem mSok.pour {W : Nat → Nat → Int32} {s : Nat → Int32} {n t : Nat} (h : mSok s n t) (a : Int32) : mSok (sp_pour W s a).2 n t ∧ mKp s (sp_pour W s a).2 := by
  unfold sp_pour
  split
  · exact ⟨h, mKp.rf⟩
  · split
    · exact ⟨h, mKp.rf⟩
    · exact h.prS _ (by omega)
theorem mSok.ag {s s' : Nat → Int32} {n t : Nat} (h : mSok s n t) (ha : mAg s s') : mSok s' n t := by
  have hn8 := h.1.hn.2
  refine ⟨h.1.ag ha, by rw [ha 2 (by omega)]; exact h.2.1, h.2.2.1, fun c hc => ?_, fun c hc => ?_⟩
  · rw [ha _ (by omega)]; exact h.2.2.2.1 c hc
  · rw [ha _ (by omega)]; exact h.2.2.2.2 c hc
/-- SCREAMS are never below 0 -/
theorem sp_kndF_0 {T : mT} {s : Nat → Int32} {n t c m q : Nat} (h : mSok s n t) (hc : c < n) (hq : q < 6) (hm : m ≤ 100) : 0 ≤ sp_kndF T s n c m q := by
  have hn8 := h.1.hn.2
  have ht := h.2.2.1
  have h1 : mSok (up s (53 + (7 * c)) (nI q)) n t := h.uq (h.1.upK hc hq) (by omega) (fun c' hc' => by omega)
  have h3 := sp_secs_w (T := T) (aw := -1) (Or.inl rfl) hn8 h1.2.2.2.2 m (by omega)
  rw [if_neg (by decide)] at h3
  exact (sp_sum_mono h3 (by omega) hn8).2
