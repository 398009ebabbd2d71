/-! ===== STOOD, SCREAMS never less; one CAR off; the ring that is thought with ===== -/
/-- a count of CARS' numbers (w = 3 SCREAMS, w = 5 STOOD) lies below X -/
def mSt (w : Nat) (s : Nat → Int32) (n X : Nat) : Prop := ∀ c : Nat, c < n → ∃ a : Nat, s (53 + 7 * c + w) = nI a ∧ a ≤ X
/-- from s to s' it grows, by X each at most -/
def mGr (w : Nat) (s s' : Nat → Int32) (n X : Nat) : Prop := ∀ c : Nat, c < n → ∃ a b : Nat, s (53 + 7 * c + w) = nI a ∧ s' (53 + 7 * c + w) = nI b ∧ a ≤ b ∧ b ≤ a + X ∧ a ≤ 200000
theorem mSt.rf {w : Nat} {s : Nat → Int32} {n X : Nat} (h : mSt w s n X) (hX : X ≤ 200000) : mGr w s s n 0 := fun c hc => by
  obtain ⟨a, e, ha⟩ := h c hc
  exact ⟨a, a, e, e, by omega, by omega, by omega⟩
theorem mGr.st {w : Nat} {s s' : Nat → Int32} {n X Y : Nat} (h : mGr w s s' n X) (h2 : mSt w s n Y) (hY : Y ≤ 200000) : mSt w s' n (Y + X) := fun c hc => by
  obtain ⟨a, b, e1, e2, h3, h4, h5⟩ := h c hc
  obtain ⟨a', e, ha⟩ := h2 c hc
  rw [e1] at e
  have := (cI_eq (by omega) (by omega)).mp e
  exact ⟨b, e2, by omega⟩
theorem mGr.mono {w : Nat} {s s' : Nat → Int32} {n X Y : Nat} (h : mGr w s s' n X) (h2 : X ≤ Y) : mGr w s s' n Y := fun c hc => by
  obtain ⟨a, b, e1, e2, h3, h4, h5⟩ := h c hc
  exact ⟨a, b, e1, e2, h3, by omega, h5⟩
theorem mGr.tr {w : Nat} {s s1 s2 : Nat → Int32} {n X Y : Nat} (h : mGr w s s1 n X) (h2 : mGr w s1 s2 n Y) (hX : X ≤ 200000) : mGr w s s2 n (X + Y) := fun c hc => by
  obtain ⟨a, b, e1, e2, h3, h4, h5⟩ := h c hc
  obtain ⟨a', b', e1', e2', h3', h4', h5'⟩ := h2 c hc
  rw [e2] at e1'
  have := (cI_eq (by omega) (by omega)).mp e1'
  exact ⟨a, b', e1, e2', by omega, by omega, h5⟩
theorem sp_loud_le (q : Nat) : sp_loud q ≤ 4 := by
  match q with
  | 0 => decide
  | 1 => decide
  | 2 => decide
  | 3 => decide
  | 4 => decide
  | 5 => decide
  | _ + 6 => exact Nat.zero_le _
/-- one CAR goes: STOOD grows by 1 at most, SCREAMS by 4, its own alone -/
theorem sp_goes_w {T : mT} {s : Nat → Int32} {aw : Int32} {n c c' w : Nat} (hw : w = 3 ∨ w = 5) (hc : c < 8) (hc' : c' < 8) : ∃ j : Nat, j ≤ 4 ∧ (w = 5 → j ≤ 1) ∧ (c' ≠ c → j = 0) ∧ sp_goes T s aw n c (53 + 7 * c' + w) = s (53 + 7 * c' + w) + nI j := by
  have g1 : ∃ j : Nat, j ≤ 1 ∧ (c' ≠ c → j = 0) ∧ (w = 3 → j = 0) ∧ sp_go1 s c (sF s c) (sp_by T s aw n c) (53 + 7 * c' + w) = s (53 + 7 * c' + w) + nI j := by
    rw [sp_go1_at, if_neg (by omega), if_neg (by omega)]
    by_cases e : c' = c ∧ w = 5
    · obtain ⟨rfl, rfl⟩ := e
      rw [if_pos rfl]
      split
      · exact ⟨1, by omega, by omega, by omega, rfl⟩
      · exact ⟨0, by omega, by omega, by omega, rfl⟩
    · rw [if_neg (by omega)]
      exact ⟨0, by omega, by omega, by omega, (mI_z _).symm⟩
  obtain ⟨j, h1, h2, h3, h4⟩ := g1
  unfold sp_goes
  split
  · exact ⟨j, by omega, by omega, h2, h4⟩
  · generalize hs1 : sp_go1 s c (sF s c) (sp_by T s aw n c) = s1 at h4
    have hp : (sF s c + sp_by T s aw n c) / 20 % 12 < 12 := Nat.mod_lt _ (by decide)
    generalize (sF s c + sp_by T s aw n c) / 20 % 12 = p at hp
    unfold sp_enter
    split
    · exact ⟨j, by omega, by omega, h2, h4⟩
    · split
      · rw [up_ne (by omega)]
        exact ⟨j, by omega, by omega, h2, h4⟩
      · rw [up_ne (by omega)]
        by_cases e : c' = c ∧ w = 3
        · obtain ⟨rfl, rfl⟩ := e
          rw [up_eq, h4, h3 rfl, mI_z]
          exact ⟨_, sp_loud_le _, by omega, fun z => absurd rfl z, rfl⟩
        · rw [up_ne (by omega)]
          exact ⟨j, by omega, by omega, h2, h4⟩
theorem sp_cars_w {T : mT} {s : Nat → Int32} {aw : Int32} {n w X : Nat} (hw : w = 3 ∨ w = 5) (hn : n ≤ 8) (h : mSt w s n X) (hX : X ≤ 200000) : ∀ k : Nat, k ≤ n → ∀ c : Nat, c < n → ∃ a b : Nat, s (53 + 7 * c + w) = nI a ∧ sp_cars T s aw n k (53 + 7 * c + w) = nI b ∧ a ≤ b ∧ b ≤ a + 4 ∧ (w = 5 → b ≤ a + 1) ∧ a ≤ 200000 ∧ (k ≤ c → b = a)
  | 0, _, c, hc => by
    obtain ⟨a, e, ha⟩ := h c hc
    exact ⟨a, a, e, e, by omega, by omega, by omega, by omega, fun _ => rfl⟩
  | k + 1, hk, c, hc => by
    obtain ⟨a, b, e1, e2, h1, h2, h3, h4, h5⟩ := sp_cars_w hw hn h hX k (by omega) c hc
    unfold sp_cars
    split
    · exact ⟨a, b, e1, e2, h1, h2, h3, h4, fun z => h5 (by omega)⟩
    · obtain ⟨j, j1, j2, j3, j4⟩ := sp_goes_w (T := T) (s := sp_cars T s aw n k) (aw := aw) (n := n) (c := k) (c' := c) hw (by omega) (by omega)
      rw [e2, mI_add] at j4
      by_cases e : c = k
      · have := h5 (by omega)
        exact ⟨a, b + j, e1, j4, by omega, by omega, by omega, h4, by omega⟩
      · have := j3 e
        exact ⟨a, b + j, e1, j4, by omega, by omega, by omega, h4, fun z => by have := h5 (by omega); omega⟩
theorem sp_second_w {T : mT} {s : Nat → Int32} {aw : Int32} {n w X : Nat} (hw : w = 3 ∨ w = 5) (hn : n ≤ 8) (h : mSt w s n X) (hX : X ≤ 200000) : mGr w s (sp_second T s aw n) n (if w = 5 then 1 else 4) := fun c hc => by
  have e0 : sp_dim s 12 (53 + 7 * c + w) = s (53 + 7 * c + w) := by unfold sp_dim; rw [if_neg (by omega)]
  obtain ⟨a, b, e1, e2, h1, h2, h3, h4, -⟩ := sp_cars_w (T := T) (s := sp_dim s 12) (aw := aw) hw hn (fun c' hc' => by
    have : sp_dim s 12 (53 + 7 * c' + w) = s (53 + 7 * c' + w) := by unfold sp_dim; rw [if_neg (by omega)]
    rw [this]
    exact h c' hc') hX n (Nat.le_refl _) c hc
  refine ⟨a, b, e0.symm.trans e1, ?_, h1, ?_, h4⟩
  · unfold sp_second
    rw [up_ne (by omega)]
    exact e2
  · split
    · exact h3 ‹_›
    · exact h2
theorem sp_secs_w {T : mT} {s : Nat → Int32} {aw : Int32} {n w X : Nat} (hw : w = 3 ∨ w = 5) (hn : n ≤ 8) (h : mSt w s n X) : ∀ k : Nat, X + 4 * k ≤ 200000 → mGr w s (sp_secs T s aw n k) n ((if w = 5 then 1 else 4) * k)
  | 0, hX => by
    rw [Nat.mul_zero]
    exact h.rf (by omega)
  | k + 1, hX => by
    have h1 := sp_secs_w (T := T) (aw := aw) hw hn h k (by omega)
    have h2 : (if w = 5 then 1 else 4) * k ≤ 4 * k := Nat.mul_le_mul_right _ (by split <;> omega)
    have h3 := sp_second_w (T := T) (aw := aw) hw hn (h1.st h (by omega)) (by omega)
    rw [Nat.mul_succ]
    exact h1.tr h3 (by omega)
theorem sp_secs_add {T : mT} {s : Nat → Int32} {aw : Int32} {n k : Nat} : ∀ j : Nat, sp_secs T s aw n (k + j) = sp_secs T (sp_secs T s aw n k) aw n j
  | 0 => rfl
  | j + 1 => by
    show sp_second T (sp_secs T s aw n (k + j)) aw n = sp_second T (sp_secs T (sp_secs T s aw n k) aw n j) aw n
    rw [sp_secs_add j]
theorem sp_sum_gr {w : Nat} {s s' : Nat → Int32} {n X : Nat} (h : mGr w s s' n X) (hX : X ≤ 200000) (hn : n ≤ 8) : ∀ k : Nat, k ≤ n → ∃ a b : Nat, sp_sum s (-1) w k = nI a ∧ sp_sum s' (-1) w k = nI b ∧ a ≤ b ∧ b ≤ 400000 * k
  | 0, _ => ⟨0, 0, rfl, rfl, by omega, by omega⟩
  | k + 1, hk => by
    obtain ⟨a, b, e1, e2, h1, h2⟩ := sp_sum_gr h hX hn k (by omega)
    obtain ⟨a', b', e1', e2', h1', h2', h3'⟩ := h k (by omega)
    refine ⟨a + a', b + b', ?_, ?_, by omega, by omega⟩
    · rw [sp_sum, if_neg (nI_m1 (by omega)), e1, e1', mI_add]
    · rw [sp_sum, if_neg (nI_m1 (by omega)), e2, e2', mI_add]
theorem sp_sum_mono {w : Nat} {s s' : Nat → Int32} {n X : Nat} (h : mGr w s s' n X) (hX : X ≤ 200000) (hn : n ≤ 8) : sp_sum s (-1) w n ≤ sp_sum s' (-1) w n ∧ 0 ≤ sp_sum s' (-1) w n := by
  obtain ⟨a, b, e1, e2, h1, h2⟩ := sp_sum_gr h hX hn n (Nat.le_refl _)
  rw [e1, e2]
  exact ⟨(cI_le (by omega) (by omega)).mpr h1, nI_pos' (by omega)⟩
/-! ===== one CAR off: the others go as if it were away ===== -/
def sj (c j : Nat) : Nat := if j < c then j else j + 1
/-- d: s without CAR c -/
def mRd (d s : Nat → Int32) (n c : Nat) : Prop := d 1 = nI (n - 1) ∧ (∀ k : Nat, k ≠ 1 → k < 53 → d k = s k) ∧ ∀ j w : Nat, j < n - 1 → w < 7 → d (53 + 7 * j + w) = s (53 + 7 * sj c j + w)
theorem mRd.drop {s : Nat → Int32} {n c : Nat} (hn : n ≤ 8) (hc : c < n) : mRd (sp_drop s n c) s n c := by
  refine ⟨rfl, fun k h1 h2 => ?_, fun j w hj hw => ?_⟩
  · unfold sp_drop
    rw [if_neg h1, if_neg (by omega)]
  · unfold sp_drop sj
    rw [if_neg (by omega)]
    by_cases e : j < c
    · rw [if_pos e, if_neg (by omega)]
    · rw [if_neg e, if_pos (by omega)]
      congr 1
      omega
theorem mRd.up1 {d s : Nat → Int32} {n c k : Nat} {v v' : Int32} (h : mRd d s n c) (h1 : k ≠ 1) (h2 : k < 53) (hv : v = v') : mRd (up d k v) (up s k v') n c := by
  subst hv
  refine ⟨?_, fun q h3 h4 => ?_, fun j w hj hw => ?_⟩
  · rw [up_ne (by omega)]; exact h.1
  · unfold up
    rw [h.2.1 q h3 h4]
  · rw [up_ne (by omega), up_ne (by omega)]; exact h.2.2 j w hj hw
theorem mRd.upc {d s : Nat → Int32} {n c j w : Nat} {v v' : Int32} (h : mRd d s n c) (hj : j < n - 1) (hw : w < 7) (hv : v = v') : mRd (up d (53 + 7 * j + w) v) (up s (53 + 7 * sj c j + w) v') n c := by
  subst hv
  refine ⟨?_, fun q h3 h4 => ?_, fun j' w' hj' hw' => ?_⟩
  · rw [up_ne (by omega)]; exact h.1
  · rw [up_ne (by omega), up_ne (by omega)]; exact h.2.1 q h3 h4
  · by_cases e : j' = j ∧ w' = w
    · obtain ⟨rfl, rfl⟩ := e
      rw [up_eq, up_eq]
    · rw [up_ne (by omega), up_ne (by unfold sj; split <;> split <;> omega)]
      exact h.2.2 j' w' hj' hw'
theorem mRd.eF {d s : Nat → Int32} {n c j : Nat} (h : mRd d s n c) (hj : j < n - 1) : sF d j = sF s (sj c j) := by
  show (d (53 + 7 * j + 1)).toNatClampNeg = (s (53 + 7 * sj c j + 1)).toNatClampNeg
  rw [h.2.2 j 1 hj (by decide)]
theorem mRd.eQ {d s : Nat → Int32} {n c j : Nat} (h : mRd d s n c) (hj : j < n - 1) : sQ d j = sQ s (sj c j) := by
  show (d (53 + 7 * j + 0)).toNatClampNeg = (s (53 + 7 * sj c j + 0)).toNatClampNeg
  rw [h.2.2 j 0 hj (by decide)]
theorem mRd.feet {d s : Nat → Int32} {n c j k : Nat} (h : mRd d s n c) (hj : j < n - 1) (hk : k < n - 1) : sp_feet d j k = sp_feet s (sj c j) (sj c k) := by
  unfold sp_feet
  rw [h.eF hj, h.eF hk]
  have e : k < j ↔ sj c k < sj c j := by unfold sj; split <;> split <;> omega
  simp only [e]
theorem mRd.ml {d s : Nat → Int32} {n c j : Nat} (hn : n ≤ 8) (hc : c < n) (h : mRd d s n c) (hj : j < n - 1) : ∀ k : Nat, k ≤ n - 1 → sp_ml d (-1) j k = sp_ml s (nI c) (sj c j) k ∨ c < k
  | 0, _ => Or.inl rfl
  | k + 1, hk => by
    rcases Nat.lt_or_ge c (k + 1) with e | e
    · exact Or.inr e
    · left
      rcases mRd.ml hn hc h hj k (by omega) with ih | ih
      · have e1 : sj c k = k := by unfold sj; rw [if_pos (by omega)]
        have e2 : (k = j ∨ nI k = -1) ↔ (k = sj c j ∨ nI k = nI c) := by
          rw [cI_eq (by omega) (by omega)]
          constructor
          · rintro (rfl | z)
            · exact Or.inl e1.symm
            · exact absurd z (nI_m1 (by omega))
          · rintro (z | z)
            · left; unfold sj at z; split at z <;> omega
            · omega
        have e3 := h.feet hj (show k < n - 1 by omega)
        rw [e1] at e3
        unfold sp_ml
        rw [ih, e3]
        simp only [e2]
      · omega
theorem mRd.ml2 {d s : Nat → Int32} {n c j : Nat} (hn : n ≤ 8) (hc : c < n) (h : mRd d s n c) (hj : j < n - 1) : ∀ k : Nat, c ≤ k → k ≤ n - 1 → sp_ml d (-1) j k = sp_ml s (nI c) (sj c j) (k + 1)
  | 0, h1, h2 => by
    obtain rfl : c = 0 := by omega
    show none = if 0 = sj 0 j ∨ nI 0 = nI 0 then none else _
    rw [if_pos (Or.inr rfl)]
  | k + 1, h1, h2 => by
    rcases Nat.eq_or_lt_of_le h1 with e | e
    · subst e
      rcases mRd.ml hn hc h hj (k + 1) h2 with q | q
      · rw [q]
        show _ = if k + 1 = sj (k + 1) j ∨ nI (k + 1) = nI (k + 1) then sp_ml s (nI (k + 1)) (sj (k + 1) j) (k + 1) else _
        rw [if_pos (Or.inr rfl)]
      · omega
    · have ih := mRd.ml2 hn hc h hj k (by omega) (by omega)
      have e1 : sj c k = k + 1 := by unfold sj; rw [if_neg (by omega)]
      have e2 : (k = j ∨ nI k = -1) ↔ (k + 1 = sj c j ∨ nI (k + 1) = nI c) := by
        rw [cI_eq (by omega) (by omega)]
        constructor
        · rintro (rfl | z)
          · exact Or.inl e1.symm
          · exact absurd z (nI_m1 (by omega))
        · rintro (z | z)
          · left; unfold sj at z; split at z <;> omega
          · omega
      have e3 := h.feet hj (show k < n - 1 by omega)
      rw [e1] at e3
      rw [sp_ml, sp_ml]
      rw [ih, e3]
      simp only [e2]
theorem mRd.room {d s : Nat → Int32} {n c j : Nat} (hn : n ≤ 8) (hc : c < n) (h : mRd d s n c) (hj : j < n - 1) : sp_room d (-1) j (n - 1) = sp_room s (nI c) (sj c j) n := by
  have e := h.ml2 hn hc hj (n - 1) (by omega) (Nat.le_refl _)
  rw [show n - 1 + 1 = n by omega] at e
  unfold sp_room
  rw [e, h.2.1 3 (by decide) (by decide)]
theorem mRd.pc {d s : Nat → Int32} {T : mT} {n c j p : Nat} (h : mRd d s n c) (hj : j < n - 1) (hp : p < 12) : sp_pc T d j p = sp_pc T s (sj c j) p := by
  unfold sp_pc sp_pace
  rw [h.eQ hj, h.2.2 j 2 hj (by decide), h.2.1 (5 + p) (by omega) (by omega), h.2.1 (17 + p) (by omega) (by omega)]
theorem mRd.by {d s : Nat → Int32} {T : mT} {n c j : Nat} (hn : n ≤ 8) (hc : c < n) (h : mRd d s n c) (hj : j < n - 1) (hF : sF d j < 240) : sp_by T d (-1) (n - 1) j = sp_by T s (nI c) n (sj c j) := by
  unfold sp_by sp_byI
  rw [h.room hn hc hj, h.pc hj (by omega), h.eF hj]
theorem mRd.goes {d s : Nat → Int32} {T : mT} {n c j : Nat} (hn : n ≤ 8) (hc : c < n) (h : mRd d s n c) (hj : j < n - 1) (hF : sF d j < 240) : mRd (sp_goes T d (-1) (n - 1) j) (sp_goes T s (nI c) n (sj c j)) n c := by
  have hb := h.by (T := T) hn hc hj hF
  have hf := h.eF hj
  unfold sp_goes
  rw [hb, hf]
  generalize sp_by T s (nI c) n (sj c j) = b
  generalize sF s (sj c j) = F
  have g1 : mRd (sp_go1 d j F b) (sp_go1 s (sj c j) F b) n c := by
    unfold sp_go1
    exact ((h.upc hj (by decide) (by rw [h.2.2 j 5 hj (by decide)])).upc hj (by decide) rfl).upc hj (by decide) (by rw [h.2.2 j 6 hj (by decide)])
  by_cases e : (F + b) / 20 = F / 20
  · rw [if_pos e, if_pos e]
    exact g1
  · rw [if_neg e, if_neg e]
    have hp : (F + b) / 20 % 12 < 12 := Nat.mod_lt _ (by decide)
    generalize (F + b) / 20 % 12 = p at hp
    generalize sp_go1 d j F b = d1 at g1
    generalize sp_go1 s (sj c j) F b = s1 at g1
    unfold sp_enter
    rw [g1.2.1 (29 + p) (by omega) (by omega), g1.2.1 (41 + p) (by omega) (by omega), g1.2.2 j 3 hj (by decide), g1.2.2 j 4 hj (by decide), g1.eQ hj]
    split
    · exact g1
    · split
      · exact g1.upc hj (by decide) rfl
      · exact (g1.upc hj (by decide) rfl).up1 (by omega) (by omega) rfl
theorem mRd.dim {d s : Nat → Int32} {n c : Nat} (h : mRd d s n c) : mRd (sp_dim d 12) (sp_dim s 12) n c := by
  refine ⟨?_, fun k h1 h2 => ?_, fun j w hj hw => ?_⟩
  · unfold sp_dim; rw [if_neg (by omega)]; exact h.1
  · unfold sp_dim; rw [h.2.1 k h1 h2]
  · unfold sp_dim; rw [if_neg (by omega), if_neg (by omega)]; exact h.2.2 j w hj hw
theorem mRd.cars {d s : Nat → Int32} {T : mT} {n c : Nat} (hn : n ≤ 8) (hc : c < n) (h : mRd d s n c) (hd : mOk d (n - 1)) : ∀ k : Nat, k ≤ n - 1 → (k ≤ c → mRd (sp_cars T d (-1) (n - 1) k) (sp_cars T s (nI c) n k) n c) ∧ (c ≤ k → mRd (sp_cars T d (-1) (n - 1) k) (sp_cars T s (nI c) n (k + 1)) n c)
  | 0, _ => by
    refine ⟨fun _ => h, fun z => ?_⟩
    obtain rfl : c = 0 := by omega
    show mRd d (if nI 0 = nI 0 then s else _) n 0
    rw [if_pos rfl]
    exact h
  | k + 1, hk => by
    obtain ⟨i1, i2⟩ := mRd.cars (T := T) hn hc h hd k (by omega)
    have hF : sF (sp_cars T d (-1) (n - 1) k) k < 240 := ((hd.cars k (by omega)).ft k (by omega)).2
    have a : k + 1 ≤ c → mRd (sp_cars T d (-1) (n - 1) (k + 1)) (sp_cars T s (nI c) n (k + 1)) n c := fun z => by
      have := (i1 (by omega)).goes (T := T) hn hc (show k < n - 1 by omega) hF
      rw [show sj c k = k from by unfold sj; rw [if_pos (by omega)]] at this
      show mRd (if nI k = -1 then _ else _) (if nI k = nI c then _ else _) n c
      rw [if_neg (nI_m1 (by omega)), if_neg (fun y => by have := (cI_eq (by omega) (by omega)).mp y; omega)]
      exact this
    refine ⟨a, fun z => ?_⟩
    rcases Nat.eq_or_lt_of_le z with e | e
    · subst e
      show mRd _ (if nI (k + 1) = nI (k + 1) then sp_cars T s (nI (k + 1)) n (k + 1) else _) n (k + 1)
      rw [if_pos rfl]
      exact a (Nat.le_refl _)
    · have := (i2 (by omega)).goes (T := T) hn hc (show k < n - 1 by omega) hF
      rw [show sj c k = k + 1 from by unfold sj; rw [if_neg (by omega)]] at this
      show mRd (if nI k = -1 then _ else _) (if nI (k + 1) = nI c then _ else _) n c
      rw [if_neg (nI_m1 (by omega)), if_neg (fun y => by have := (cI_eq (by omega) (by omega)).mp y; omega)]
      exact this
theorem mRd.second {d s : Nat → Int32} {T : mT} {n c : Nat} (hn : n ≤ 8) (hc : c < n) (h : mRd d s n c) (hd : mOk d (n - 1)) : mRd (sp_second T d (-1) (n - 1)) (sp_second T s (nI c) n) n c := by
  have := (h.dim.cars (T := T) hn hc hd.dim (n - 1) (Nat.le_refl _)).2 (by omega)
  rw [show n - 1 + 1 = n by omega] at this
  unfold sp_second
  exact this.up1 (by decide) (by decide) (by rw [this.2.1 2 (by decide) (by decide)])
theorem mRd.secs {d s : Nat → Int32} {T : mT} {n c : Nat} (hn : n ≤ 8) (hc : c < n) (h : mRd d s n c) (hd : mOk d (n - 1)) : ∀ m : Nat, mRd (sp_secs T d (-1) (n - 1) m) (sp_secs T s (nI c) n m) n c
  | 0 => h
  | m + 1 => (mRd.secs hn hc h hd m).second hn hc (hd.secs m)
theorem mRd.sum {d s : Nat → Int32} {n c w : Nat} (hn : n ≤ 8) (hc : c < n) (hw : w < 7) (h : mRd d s n c) : ∀ k : Nat, k ≤ n - 1 → (k ≤ c → sp_sum d (-1) w k = sp_sum s (nI c) w k) ∧ (c ≤ k → sp_sum d (-1) w k = sp_sum s (nI c) w (k + 1))
  | 0, _ => by
    refine ⟨fun _ => rfl, fun z => ?_⟩
    obtain rfl : c = 0 := by omega
    show nI 0 = nI 0 + if nI 0 = nI 0 then nI 0 else _
    rw [if_pos rfl, mI_z]
  | k + 1, hk => by
    obtain ⟨i1, i2⟩ := mRd.sum hn hc hw h k (by omega)
    have hv := h.2.2 k w (by omega) hw
    have a : k + 1 ≤ c → sp_sum d (-1) w (k + 1) = sp_sum s (nI c) w (k + 1) := fun z => by
      rw [show sj c k = k from by unfold sj; rw [if_pos (by omega)]] at hv
      rw [sp_sum, sp_sum, if_neg (nI_m1 (by omega)), if_neg (fun y => by have := (cI_eq (by omega) (by omega)).mp y; omega), hv, i1 (by omega)]
    refine ⟨a, fun z => ?_⟩
    rcases Nat.eq_or_lt_of_le z with e | e
    · subst e
      rw [sp_sum.eq_2 s (nI (k + 1)) w (k + 1), if_pos rfl, mI_z]
      exact a (Nat.le_refl _)
    · rw [show sj c k = k + 1 from by unfold sj; rw [if_neg (by omega)]] at hv
      rw [sp_sum.eq_2 d, sp_sum.eq_2 s (nI c) w (k + 1), if_neg (nI_m1 (by omega)), if_neg (fun y => by have := (cI_eq (by omega) (by omega)).mp y; omega), hv, i2 (by omega)]
theorem sp_scm_drop {s : Nat → Int32} {T : mT} {n c m : Nat} (hn : n ≤ 8) (hc : c < n) (hd : mOk (sp_drop s n c) (n - 1)) : sp_scm T (sp_drop s n c) (-1) (n - 1) m = sp_offF T s n m c := by
  have h := ((mRd.drop (s := s) hn hc).secs (T := T) hn hc hd m).sum hn hc (w := 3) (by decide) (n - 1) (Nat.le_refl _)
  have h2 := h.2 (by omega)
  rw [show n - 1 + 1 = n by omega] at h2
  exact h2
theorem mOk.drop {s : Nat → Int32} {n c : Nat} (h : mOk s n) (hc : c < n) : mOk (sp_drop s n c) (n - 1) := by
  have hn8 := h.hn.2
  have hr := mRd.drop (s := s) hn8 hc
  have hj : ∀ j : Nat, j < n - 1 → sj c j < n := fun j hj => by unfold sj; split <;> omega
  refine mOk.mk ⟨rfl, by omega⟩ (fun j hj' => ?_) (fun j hj' => ?_) (fun j hj' => ?_) (fun p hp => ?_) (fun p hp => ?_) ?_
  · rw [hr.2.2 j 0 hj' (by decide)]; exact h.kd' _ (hj j hj')
  · rw [hr.2.2 j 1 hj' (by decide)]; exact h.ft' _ (hj j hj')
  · rw [hr.2.2 j 2 hj' (by decide)]; exact h.wt _ (hj j hj')
  · rw [hr.2.1 _ (by omega) (by omega)]; exact h.sc p hp
  · rw [hr.2.1 _ (by omega) (by omega)]; exact h.se p hp
  · rw [hr.2.1 3 (by decide) (by decide)]; exact h.gp
