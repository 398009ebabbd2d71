/-! ===== the class: a ring ===== -/
/-- the ring r, seen in the model's layout; beyond it the model's own cell b -/
def mSg (r b : Nat) (I : Nat → Nat → Int32) : Nat → Int32 := fun k => if k = 0 then I r 8 else if k = 1 then I r 5 else if k = 2 then I r 7 else if k = 3 then I r 6 else if k = 4 then I r 9 else
  if k < 53 then I (r + 2 + (k - 5) / 12) ((k - 5) % 12) else if k < 109 then I (r + 7 + (k - 53) % 7) ((k - 53) / 7) else I b k
theorem sg_car {r b w c : Nat} {I : Nat → Nat → Int32} (hw : w < 7) (hc : c < 8) : mSg r b I (53 + 7 * c + w) = I (r + 7 + w) c := by
  unfold mSg
  rw [if_neg (by omega), if_neg (by omega), if_neg (by omega), if_neg (by omega), if_neg (by omega), if_neg (by omega), if_pos (by omega), show (53 + 7 * c + w - 53) % 7 = w by omega, show (53 + 7 * c + w - 53) / 7 = c by omega]
theorem sg_part {r b j p : Nat} {I : Nat → Nat → Int32} (hj : j < 4) (hp : p < 12) : mSg r b I (5 + 12 * j + p) = I (r + 2 + j) p := by
  unfold mSg
  rw [if_neg (by omega), if_neg (by omega), if_neg (by omega), if_neg (by omega), if_neg (by omega), if_pos (by omega), show (5 + 12 * j + p - 5) / 12 = j by omega, show (5 + 12 * j + p - 5) % 12 = p by omega]
theorem sg_far {r b k : Nat} {I : Nat → Nat → Int32} (hk : 109 ≤ k) : mSg r b I k = I b k := by
  unfold mSg
  rw [if_neg (by omega), if_neg (by omega), if_neg (by omega), if_neg (by omega), if_neg (by omega), if_neg (by omega), if_neg (by omega)]
/-- what is so of five numbers, PARTS, CARS and the rest is so of all -/
theorem sg_all {P : Nat → Prop} (h0 : P 0) (h1 : P 1) (h2 : P 2) (h3 : P 3) (h4 : P 4) (hp : ∀ j p, j < 4 → p < 12 → P (5 + 12 * j + p)) (hc : ∀ w c, w < 7 → c < 8 → P (53 + 7 * c + w)) (hf : ∀ k, 109 ≤ k → P k) (k : Nat) : P k := by
  rcases (show k = 0 ∨ k = 1 ∨ k = 2 ∨ k = 3 ∨ k = 4 ∨ (5 ≤ k ∧ k < 53) ∨ (53 ≤ k ∧ k < 109) ∨ 109 ≤ k by omega) with rfl | rfl | rfl | rfl | rfl | h | h | h
  · exact h0
  · exact h1
  · exact h2
  · exact h3
  · exact h4
  · have := hp ((k - 5) / 12) ((k - 5) % 12) (by omega) (by omega)
    rw [show 5 + 12 * ((k - 5) / 12) + (k - 5) % 12 = k by omega] at this
    exact this
  · have := hc ((k - 53) % 7) ((k - 53) / 7) (by omega) (by omega)
    rw [show 53 + 7 * ((k - 53) / 7) + (k - 53) % 7 = k by omega] at this
    exact this
  · exact hf k h
theorem sg_upC {r b w c : Nat} {v : Int32} {I : Nat → Nat → Int32} (hw : w < 7) (hc : c < 8) (hb : b < r ∨ r + 14 < b) : mSg r b (mg_u I (r + 7 + w) c v) = up (mSg r b I) (53 + 7 * c + w) v := by
  funext k
  refine sg_all (P := fun k => mSg r b (mg_u I (r + 7 + w) c v) k = up (mSg r b I) (53 + 7 * c + w) v k) ?_ ?_ ?_ ?_ ?_ ?_ ?_ ?_ k
  · rw [up_ne (by omega)]; exact mg_une (by omega)
  · rw [up_ne (by omega)]; exact mg_une (by omega)
  · rw [up_ne (by omega)]; exact mg_une (by omega)
  · rw [up_ne (by omega)]; exact mg_une (by omega)
  · rw [up_ne (by omega)]; exact mg_une (by omega)
  · intro j p hj hp
    rw [up_ne (by omega), sg_part hj hp, sg_part hj hp]; exact mg_une (by omega)
  · intro w' c' hw' hc'
    rw [sg_car hw' hc']
    by_cases e : w' = w ∧ c' = c
    · obtain ⟨rfl, rfl⟩ := e
      rw [mg_ueq, up_eq]
    · rw [mg_une (by omega), up_ne (by omega), sg_car hw' hc']
  · intro k hk
    rw [up_ne (by omega), sg_far hk, sg_far hk]; exact mg_une (by omega)
theorem sg_upP {r b j p : Nat} {v : Int32} {I : Nat → Nat → Int32} (hj : j < 4) (hp : p < 12) (hb : b < r ∨ r + 14 < b) : mSg r b (mg_u I (r + 2 + j) p v) = up (mSg r b I) (5 + 12 * j + p) v := by
  funext k
  refine sg_all (P := fun k => mSg r b (mg_u I (r + 2 + j) p v) k = up (mSg r b I) (5 + 12 * j + p) v k) ?_ ?_ ?_ ?_ ?_ ?_ ?_ ?_ k
  · rw [up_ne (by omega)]; exact mg_une (by omega)
  · rw [up_ne (by omega)]; exact mg_une (by omega)
  · rw [up_ne (by omega)]; exact mg_une (by omega)
  · rw [up_ne (by omega)]; exact mg_une (by omega)
  · rw [up_ne (by omega)]; exact mg_une (by omega)
  · intro j' p' hj' hp'
    rw [sg_part hj' hp']
    by_cases e : j' = j ∧ p' = p
    · obtain ⟨rfl, rfl⟩ := e
      rw [mg_ueq, up_eq]
    · rw [mg_une (by omega), up_ne (by omega), sg_part hj' hp']
  · intro w' c' hw' hc'
    rw [up_ne (by omega), sg_car hw' hc', sg_car hw' hc']; exact mg_une (by omega)
  · intro k hk
    rw [up_ne (by omega), sg_far hk, sg_far hk]; exact mg_une (by omega)
theorem sg_upF {r b f j : Nat} {v : Int32} {I : Nat → Nat → Int32} (hj : j < 5) (hf : f = [8, 5, 7, 6, 9].getD j 0) (hb : b < r ∨ r + 14 < b) : mSg r b (mg_u I r f v) = up (mSg r b I) j v := by
  subst hf
  funext k
  refine sg_all (P := fun k => mSg r b (mg_u I r ([8, 5, 7, 6, 9].getD j 0) v) k = up (mSg r b I) j v k) ?_ ?_ ?_ ?_ ?_ ?_ ?_ ?_ k
  · rcases (show j = 0 ∨ j = 1 ∨ j = 2 ∨ j = 3 ∨ j = 4 by omega) with rfl | rfl | rfl | rfl | rfl <;> simp [mSg, mg_u, up]
  · rcases (show j = 0 ∨ j = 1 ∨ j = 2 ∨ j = 3 ∨ j = 4 by omega) with rfl | rfl | rfl | rfl | rfl <;> simp [mSg, mg_u, up]
  · rcases (show j = 0 ∨ j = 1 ∨ j = 2 ∨ j = 3 ∨ j = 4 by omega) with rfl | rfl | rfl | rfl | rfl <;> simp [mSg, mg_u, up]
  · rcases (show j = 0 ∨ j = 1 ∨ j = 2 ∨ j = 3 ∨ j = 4 by omega) with rfl | rfl | rfl | rfl | rfl <;> simp [mSg, mg_u, up]
  · rcases (show j = 0 ∨ j = 1 ∨ j = 2 ∨ j = 3 ∨ j = 4 by omega) with rfl | rfl | rfl | rfl | rfl <;> simp [mSg, mg_u, up]
  · intro j' p' hj' hp'
    rw [up_ne (by omega), sg_part hj' hp', sg_part hj' hp']; exact mg_une (by omega)
  · intro w' c' hw' hc'
    rw [up_ne (by omega), sg_car hw' hc', sg_car hw' hc']; exact mg_une (by omega)
  · intro k hk
    rw [up_ne (by omega), sg_far hk, sg_far hk]; exact mg_une (by omega)
def mRl (r b : Nat) : List Nat := [r, r + 2, r + 3, r + 4, r + 5, r + 7, r + 8, r + 9, r + 10, r + 11, r + 12, r + 13, b]
theorem sg_eq {r b : Nat} {I I' : Nat → Nat → Int32} (h : ∀ i ∈ mRl r b, ∀ k, I' i k = I i k) : mSg r b I' = mSg r b I := by
  funext k
  refine sg_all (P := fun k => mSg r b I' k = mSg r b I k) ?_ ?_ ?_ ?_ ?_ ?_ ?_ ?_ k
  · exact h r (by simp [mRl]) 8
  · exact h r (by simp [mRl]) 5
  · exact h r (by simp [mRl]) 7
  · exact h r (by simp [mRl]) 6
  · exact h r (by simp [mRl]) 9
  · intro j p hj hp
    rw [sg_part hj hp, sg_part hj hp]
    refine h _ ?_ p
    rcases (show j = 0 ∨ j = 1 ∨ j = 2 ∨ j = 3 by omega) with rfl | rfl | rfl | rfl <;> simp [mRl]
  · intro w c hw hc
    rw [sg_car hw hc, sg_car hw hc]
    refine h _ ?_ c
    rcases (show w = 0 ∨ w = 1 ∨ w = 2 ∨ w = 3 ∨ w = 4 ∨ w = 5 ∨ w = 6 by omega) with rfl | rfl | rfl | rfl | rfl | rfl | rfl <;> simp [mRl]
  · intro k hk
    rw [sg_far hk, sg_far hk]
    exact h b (by simp [mRl]) k
theorem sg_fr {r b : Nat} {S : List Nat} {I I' : Nat → Nat → Int32} (h : mFr S I I') (hd : ∀ i ∈ mRl r b, i ∉ S) : mSg r b I' = mSg r b I := sg_eq fun i hi k => h i k (hd i hi)
/-- the TEXTS of the class -/
def cTx (I : Nat → Nat → Int32) (T : mT) : Prop := T.nt ≤ 14 ∧ ∀ t : Nat, t < T.nt → T.kf t < 3 ∧ (T.tk t).length ≤ 96 ∧ sp_ok (T.tk t) 0 = true ∧ I (59 + 3 * t) 2 = nI (T.tk t).length ∧ I (59 + 3 * t) 3 = nI (T.kf t) ∧ I (59 + 3 * t) 4 = nI (T.na t) ∧
  (∀ j : Nat, j < (T.tk t).length → I (60 + 3 * t) j = sp_cc ((T.tk t).getD j 0)) ∧ (T.kf t ≠ 0 → ∀ x ∈ T.tk t, x ≠ 10002)
def cCg (I : Nat → Nat → Int32) (r : Nat) (T : mT) : Prop := ∀ k : Nat, k < 3 → I (r + 14) k = oI (sp_counts T.kf k T.nt)
def mSk : List Nat := [61, 64, 67, 70, 73, 76, 79, 82, 85, 88, 91, 94, 97, 100, 103]
theorem sk_mem : ∀ t : Nat, t < 15 → 61 + 3 * t ∈ mSk := by decide
theorem sk_not : ∀ t : Nat, t < 15 → 59 + 3 * t ∉ mSk ∧ 60 + 3 * t ∉ mSk := by decide
theorem cTx.fr {S : List Nat} {I I' : Nat → Nat → Int32} {T : mT} (h : cTx I T) (hf : mFr S I I') (hd : ∀ t : Nat, t < 15 → 59 + 3 * t ∉ S ∧ 60 + 3 * t ∉ S) : cTx I' T := by
  refine ⟨h.1, fun t ht => ?_⟩
  obtain ⟨h1, h2, h3, h4, h5, h6, h7, h8⟩ := h.2 t ht
  have hnt := h.1
  have hd := hd t (by omega)
  exact ⟨h1, h2, h3, (hf _ _ hd.1).trans h4, (hf _ _ hd.1).trans h5, (hf _ _ hd.1).trans h6, fun j hj => (hf _ _ hd.2).trans (h7 j hj), h8⟩
theorem cCg.fr {S : List Nat} {I I' : Nat → Nat → Int32} {r : Nat} {T : mT} (h : cCg I r T) (hf : mFr S I I') (hd : r + 14 ∉ S) : cCg I' r T := fun k hk => (hf _ _ hd).trans (h k hk)
theorem nI_m1 {k : Nat} (hk : k < 2 ^ 31) : ¬ nI k = (-1) := fun z => nI_pos hk (by rw [z]; decide)
theorem sgR11c0 {I : Nat → Nat → Int32} {c : Nat} (hc : c < 8) : I 18 c = mSg 11 128 I (53 + 7 * c + 0) := (sg_car (r := 11) (b := 128) (w := 0) (by decide) hc).symm
theorem sgU11c0 {I : Nat → Nat → Int32} {c : Nat} {v : Int32} (hc : c < 8) : mSg 11 128 (mg_u I 18 c v) = up (mSg 11 128 I) (53 + 7 * c + 0) v := sg_upC (r := 11) (b := 128) (w := 0) (by decide) hc (by decide)
theorem sgR11c1 {I : Nat → Nat → Int32} {c : Nat} (hc : c < 8) : I 19 c = mSg 11 128 I (53 + 7 * c + 1) := (sg_car (r := 11) (b := 128) (w := 1) (by decide) hc).symm
theorem sgU11c1 {I : Nat → Nat → Int32} {c : Nat} {v : Int32} (hc : c < 8) : mSg 11 128 (mg_u I 19 c v) = up (mSg 11 128 I) (53 + 7 * c + 1) v := sg_upC (r := 11) (b := 128) (w := 1) (by decide) hc (by decide)
theorem sgR11c2 {I : Nat → Nat → Int32} {c : Nat} (hc : c < 8) : I 20 c = mSg 11 128 I (53 + 7 * c + 2) := (sg_car (r := 11) (b := 128) (w := 2) (by decide) hc).symm
theorem sgU11c2 {I : Nat → Nat → Int32} {c : Nat} {v : Int32} (hc : c < 8) : mSg 11 128 (mg_u I 20 c v) = up (mSg 11 128 I) (53 + 7 * c + 2) v := sg_upC (r := 11) (b := 128) (w := 2) (by decide) hc (by decide)
theorem sgR11c3 {I : Nat → Nat → Int32} {c : Nat} (hc : c < 8) : I 21 c = mSg 11 128 I (53 + 7 * c + 3) := (sg_car (r := 11) (b := 128) (w := 3) (by decide) hc).symm
theorem sgU11c3 {I : Nat → Nat → Int32} {c : Nat} {v : Int32} (hc : c < 8) : mSg 11 128 (mg_u I 21 c v) = up (mSg 11 128 I) (53 + 7 * c + 3) v := sg_upC (r := 11) (b := 128) (w := 3) (by decide) hc (by decide)
theorem sgR11c4 {I : Nat → Nat → Int32} {c : Nat} (hc : c < 8) : I 22 c = mSg 11 128 I (53 + 7 * c + 4) := (sg_car (r := 11) (b := 128) (w := 4) (by decide) hc).symm
theorem sgU11c4 {I : Nat → Nat → Int32} {c : Nat} {v : Int32} (hc : c < 8) : mSg 11 128 (mg_u I 22 c v) = up (mSg 11 128 I) (53 + 7 * c + 4) v := sg_upC (r := 11) (b := 128) (w := 4) (by decide) hc (by decide)
theorem sgR11c5 {I : Nat → Nat → Int32} {c : Nat} (hc : c < 8) : I 23 c = mSg 11 128 I (53 + 7 * c + 5) := (sg_car (r := 11) (b := 128) (w := 5) (by decide) hc).symm
theorem sgU11c5 {I : Nat → Nat → Int32} {c : Nat} {v : Int32} (hc : c < 8) : mSg 11 128 (mg_u I 23 c v) = up (mSg 11 128 I) (53 + 7 * c + 5) v := sg_upC (r := 11) (b := 128) (w := 5) (by decide) hc (by decide)
theorem sgR11c6 {I : Nat → Nat → Int32} {c : Nat} (hc : c < 8) : I 24 c = mSg 11 128 I (53 + 7 * c + 6) := (sg_car (r := 11) (b := 128) (w := 6) (by decide) hc).symm
theorem sgU11c6 {I : Nat → Nat → Int32} {c : Nat} {v : Int32} (hc : c < 8) : mSg 11 128 (mg_u I 24 c v) = up (mSg 11 128 I) (53 + 7 * c + 6) v := sg_upC (r := 11) (b := 128) (w := 6) (by decide) hc (by decide)
theorem sgR11p0 {I : Nat → Nat → Int32} {c : Nat} (hc : c < 12) : I 13 c = mSg 11 128 I (5 + c) := (sg_part (r := 11) (b := 128) (j := 0) (by decide) hc).symm
theorem sgU11p0 {I : Nat → Nat → Int32} {c : Nat} {v : Int32} (hc : c < 12) : mSg 11 128 (mg_u I 13 c v) = up (mSg 11 128 I) (5 + c) v := sg_upP (r := 11) (b := 128) (j := 0) (by decide) hc (by decide)
theorem sgR11p1 {I : Nat → Nat → Int32} {c : Nat} (hc : c < 12) : I 14 c = mSg 11 128 I (17 + c) := (sg_part (r := 11) (b := 128) (j := 1) (by decide) hc).symm
theorem sgU11p1 {I : Nat → Nat → Int32} {c : Nat} {v : Int32} (hc : c < 12) : mSg 11 128 (mg_u I 14 c v) = up (mSg 11 128 I) (17 + c) v := sg_upP (r := 11) (b := 128) (j := 1) (by decide) hc (by decide)
theorem sgR11p2 {I : Nat → Nat → Int32} {c : Nat} (hc : c < 12) : I 15 c = mSg 11 128 I (29 + c) := (sg_part (r := 11) (b := 128) (j := 2) (by decide) hc).symm
theorem sgU11p2 {I : Nat → Nat → Int32} {c : Nat} {v : Int32} (hc : c < 12) : mSg 11 128 (mg_u I 15 c v) = up (mSg 11 128 I) (29 + c) v := sg_upP (r := 11) (b := 128) (j := 2) (by decide) hc (by decide)
theorem sgR11p3 {I : Nat → Nat → Int32} {c : Nat} (hc : c < 12) : I 16 c = mSg 11 128 I (41 + c) := (sg_part (r := 11) (b := 128) (j := 3) (by decide) hc).symm
theorem sgU11p3 {I : Nat → Nat → Int32} {c : Nat} {v : Int32} (hc : c < 12) : mSg 11 128 (mg_u I 16 c v) = up (mSg 11 128 I) (41 + c) v := sg_upP (r := 11) (b := 128) (j := 3) (by decide) hc (by decide)
theorem sgR11f0 {I : Nat → Nat → Int32} : I 11 8 = mSg 11 128 I 0 := rfl
theorem sgU11f0 {I : Nat → Nat → Int32} {v : Int32} : mSg 11 128 (mg_u I 11 8 v) = up (mSg 11 128 I) 0 v := sg_upF (r := 11) (b := 128) (j := 0) (by decide) rfl (by decide)
theorem sgR11f1 {I : Nat → Nat → Int32} : I 11 5 = mSg 11 128 I 1 := rfl
theorem sgU11f1 {I : Nat → Nat → Int32} {v : Int32} : mSg 11 128 (mg_u I 11 5 v) = up (mSg 11 128 I) 1 v := sg_upF (r := 11) (b := 128) (j := 1) (by decide) rfl (by decide)
theorem sgR11f2 {I : Nat → Nat → Int32} : I 11 7 = mSg 11 128 I 2 := rfl
theorem sgU11f2 {I : Nat → Nat → Int32} {v : Int32} : mSg 11 128 (mg_u I 11 7 v) = up (mSg 11 128 I) 2 v := sg_upF (r := 11) (b := 128) (j := 2) (by decide) rfl (by decide)
theorem sgR11f3 {I : Nat → Nat → Int32} : I 11 6 = mSg 11 128 I 3 := rfl
theorem sgU11f3 {I : Nat → Nat → Int32} {v : Int32} : mSg 11 128 (mg_u I 11 6 v) = up (mSg 11 128 I) 3 v := sg_upF (r := 11) (b := 128) (j := 3) (by decide) rfl (by decide)
theorem sgR11f4 {I : Nat → Nat → Int32} : I 11 9 = mSg 11 128 I 4 := rfl
theorem sgU11f4 {I : Nat → Nat → Int32} {v : Int32} : mSg 11 128 (mg_u I 11 9 v) = up (mSg 11 128 I) 4 v := sg_upF (r := 11) (b := 128) (j := 4) (by decide) rfl (by decide)
theorem tbR11 : ∀ w : Nat, w < 7 → mg_tbl.getD (18 + w) (99, 0) = (20, 8) ∧ mg_rc 17 w = (18 + w) + 2 ∧ mg_rt.getD (18 + w) [] = [] := by decide
theorem sgR26c0 {I : Nat → Nat → Int32} {c : Nat} (hc : c < 8) : I 33 c = mSg 26 128 I (53 + 7 * c + 0) := (sg_car (r := 26) (b := 128) (w := 0) (by decide) hc).symm
theorem sgU26c0 {I : Nat → Nat → Int32} {c : Nat} {v : Int32} (hc : c < 8) : mSg 26 128 (mg_u I 33 c v) = up (mSg 26 128 I) (53 + 7 * c + 0) v := sg_upC (r := 26) (b := 128) (w := 0) (by decide) hc (by decide)
theorem sgR26c1 {I : Nat → Nat → Int32} {c : Nat} (hc : c < 8) : I 34 c = mSg 26 128 I (53 + 7 * c + 1) := (sg_car (r := 26) (b := 128) (w := 1) (by decide) hc).symm
theorem sgU26c1 {I : Nat → Nat → Int32} {c : Nat} {v : Int32} (hc : c < 8) : mSg 26 128 (mg_u I 34 c v) = up (mSg 26 128 I) (53 + 7 * c + 1) v := sg_upC (r := 26) (b := 128) (w := 1) (by decide) hc (by decide)
theorem sgR26c2 {I : Nat → Nat → Int32} {c : Nat} (hc : c < 8) : I 35 c = mSg 26 128 I (53 + 7 * c + 2) := (sg_car (r := 26) (b := 128) (w := 2) (by decide) hc).symm
theorem sgU26c2 {I : Nat → Nat → Int32} {c : Nat} {v : Int32} (hc : c < 8) : mSg 26 128 (mg_u I 35 c v) = up (mSg 26 128 I) (53 + 7 * c + 2) v := sg_upC (r := 26) (b := 128) (w := 2) (by decide) hc (by decide)
theorem sgR26c3 {I : Nat → Nat → Int32} {c : Nat} (hc : c < 8) : I 36 c = mSg 26 128 I (53 + 7 * c + 3) := (sg_car (r := 26) (b := 128) (w := 3) (by decide) hc).symm
theorem sgU26c3 {I : Nat → Nat → Int32} {c : Nat} {v : Int32} (hc : c < 8) : mSg 26 128 (mg_u I 36 c v) = up (mSg 26 128 I) (53 + 7 * c + 3) v := sg_upC (r := 26) (b := 128) (w := 3) (by decide) hc (by decide)
theorem sgR26c4 {I : Nat → Nat → Int32} {c : Nat} (hc : c < 8) : I 37 c = mSg 26 128 I (53 + 7 * c + 4) := (sg_car (r := 26) (b := 128) (w := 4) (by decide) hc).symm
theorem sgU26c4 {I : Nat → Nat → Int32} {c : Nat} {v : Int32} (hc : c < 8) : mSg 26 128 (mg_u I 37 c v) = up (mSg 26 128 I) (53 + 7 * c + 4) v := sg_upC (r := 26) (b := 128) (w := 4) (by decide) hc (by decide)
theorem sgR26c5 {I : Nat → Nat → Int32} {c : Nat} (hc : c < 8) : I 38 c = mSg 26 128 I (53 + 7 * c + 5) := (sg_car (r := 26) (b := 128) (w := 5) (by decide) hc).symm
theorem sgU26c5 {I : Nat → Nat → Int32} {c : Nat} {v : Int32} (hc : c < 8) : mSg 26 128 (mg_u I 38 c v) = up (mSg 26 128 I) (53 + 7 * c + 5) v := sg_upC (r := 26) (b := 128) (w := 5) (by decide) hc (by decide)
theorem sgR26c6 {I : Nat → Nat → Int32} {c : Nat} (hc : c < 8) : I 39 c = mSg 26 128 I (53 + 7 * c + 6) := (sg_car (r := 26) (b := 128) (w := 6) (by decide) hc).symm
theorem sgU26c6 {I : Nat → Nat → Int32} {c : Nat} {v : Int32} (hc : c < 8) : mSg 26 128 (mg_u I 39 c v) = up (mSg 26 128 I) (53 + 7 * c + 6) v := sg_upC (r := 26) (b := 128) (w := 6) (by decide) hc (by decide)
theorem sgR26p0 {I : Nat → Nat → Int32} {c : Nat} (hc : c < 12) : I 28 c = mSg 26 128 I (5 + c) := (sg_part (r := 26) (b := 128) (j := 0) (by decide) hc).symm
theorem sgU26p0 {I : Nat → Nat → Int32} {c : Nat} {v : Int32} (hc : c < 12) : mSg 26 128 (mg_u I 28 c v) = up (mSg 26 128 I) (5 + c) v := sg_upP (r := 26) (b := 128) (j := 0) (by decide) hc (by decide)
theorem sgR26p1 {I : Nat → Nat → Int32} {c : Nat} (hc : c < 12) : I 29 c = mSg 26 128 I (17 + c) := (sg_part (r := 26) (b := 128) (j := 1) (by decide) hc).symm
theorem sgU26p1 {I : Nat → Nat → Int32} {c : Nat} {v : Int32} (hc : c < 12) : mSg 26 128 (mg_u I 29 c v) = up (mSg 26 128 I) (17 + c) v := sg_upP (r := 26) (b := 128) (j := 1) (by decide) hc (by decide)
theorem sgR26p2 {I : Nat → Nat → Int32} {c : Nat} (hc : c < 12) : I 30 c = mSg 26 128 I (29 + c) := (sg_part (r := 26) (b := 128) (j := 2) (by decide) hc).symm
theorem sgU26p2 {I : Nat → Nat → Int32} {c : Nat} {v : Int32} (hc : c < 12) : mSg 26 128 (mg_u I 30 c v) = up (mSg 26 128 I) (29 + c) v := sg_upP (r := 26) (b := 128) (j := 2) (by decide) hc (by decide)
theorem sgR26p3 {I : Nat → Nat → Int32} {c : Nat} (hc : c < 12) : I 31 c = mSg 26 128 I (41 + c) := (sg_part (r := 26) (b := 128) (j := 3) (by decide) hc).symm
theorem sgU26p3 {I : Nat → Nat → Int32} {c : Nat} {v : Int32} (hc : c < 12) : mSg 26 128 (mg_u I 31 c v) = up (mSg 26 128 I) (41 + c) v := sg_upP (r := 26) (b := 128) (j := 3) (by decide) hc (by decide)
theorem sgR26f0 {I : Nat → Nat → Int32} : I 26 8 = mSg 26 128 I 0 := rfl
theorem sgU26f0 {I : Nat → Nat → Int32} {v : Int32} : mSg 26 128 (mg_u I 26 8 v) = up (mSg 26 128 I) 0 v := sg_upF (r := 26) (b := 128) (j := 0) (by decide) rfl (by decide)
theorem sgR26f1 {I : Nat → Nat → Int32} : I 26 5 = mSg 26 128 I 1 := rfl
theorem sgU26f1 {I : Nat → Nat → Int32} {v : Int32} : mSg 26 128 (mg_u I 26 5 v) = up (mSg 26 128 I) 1 v := sg_upF (r := 26) (b := 128) (j := 1) (by decide) rfl (by decide)
theorem sgR26f2 {I : Nat → Nat → Int32} : I 26 7 = mSg 26 128 I 2 := rfl
theorem sgU26f2 {I : Nat → Nat → Int32} {v : Int32} : mSg 26 128 (mg_u I 26 7 v) = up (mSg 26 128 I) 2 v := sg_upF (r := 26) (b := 128) (j := 2) (by decide) rfl (by decide)
theorem sgR26f3 {I : Nat → Nat → Int32} : I 26 6 = mSg 26 128 I 3 := rfl
theorem sgU26f3 {I : Nat → Nat → Int32} {v : Int32} : mSg 26 128 (mg_u I 26 6 v) = up (mSg 26 128 I) 3 v := sg_upF (r := 26) (b := 128) (j := 3) (by decide) rfl (by decide)
theorem sgR26f4 {I : Nat → Nat → Int32} : I 26 9 = mSg 26 128 I 4 := rfl
theorem sgU26f4 {I : Nat → Nat → Int32} {v : Int32} : mSg 26 128 (mg_u I 26 9 v) = up (mSg 26 128 I) 4 v := sg_upF (r := 26) (b := 128) (j := 4) (by decide) rfl (by decide)
theorem tbR26 : ∀ w : Nat, w < 7 → mg_tbl.getD (33 + w) (99, 0) = (20, 8) ∧ mg_rc 32 w = (33 + w) + 2 ∧ mg_rt.getD (33 + w) [] = [] := by decide
theorem lp_totalOf11 {d L : Nat} {xs : Nat → Int32} {I : Nat → Nat → Int32} {Q : Option Value → mj_H → Prop} {n w : Nat} (hk : mOk (mSg 11 128 I) n) (hw : w < 7) (hQ : Q (some (.int (sp_sum (mSg 11 128 I) (-1) w n))) (mg_h L xs I)) : ∀ k : Nat, k ≤ n → mj_Ev d 62 4 [.ref 11, .int (nI w), .int (sp_sum (mSg 11 128 I) (-1) w k), .int (nI k)] [] (mg_h L xs I) Q := by
  have hn8 := hk.hn.2
  refine loop_ind (n := n) (fun k hkn ih => ?_)
  refine me_iload_n (p' := 5) k62_4 rfl rfl ?_
  refine me_aload_n (p' := 6) k62_5 rfl rfl ?_
  refine me_gfi (p' := 9) k62_6 rfl (by decide) rfl rfl ?_
  rw [show I 11 5 = nI n from hk.hn.1]
  refine me_ic_ge (p' := 12) k62_9 rfl (fun c1 => ?_) (fun c1 => ?_)
  · skip
    rw [cI_le (a := n) (b := k) (by omega) (by omega)] at c1
    refine me_iload_n (p' := 30) k62_29 rfl rfl ?_
    refine me_reti k62_30 rt_62 rfl ?_
    have e8 : k = n := by omega
    subst e8
    exact hQ
  · skip
    rw [cI_le (a := n) (b := k) (by omega) (by omega)] at c1
    refine me_iload_n (p' := 13) k62_12 rfl rfl ?_
    refine me_aload_n (p' := 14) k62_13 rfl rfl ?_
    refine me_gfr (p' := 17) k62_14 rfl (by decide) rfl (b := 17) rfl ?_
    refine me_iload_n (p' := 18) k62_17 rfl rfl ?_
    refine me_aald (p' := 19) k62_18 rfl (by decide) rfl ⟨by decide, by decide⟩ (j := w) rfl (by omega) (by decide) (b := 18 + w) (tbR11 w (by omega)).2.1 ?_
    refine me_iload_n (p' := 20) k62_19 rfl rfl ?_
    refine me_iald (p' := 21) k62_20 rfl (by omega) (tbR11 w (by omega)).1 (j := k) rfl (by omega) (by decide) (rc_nil _ (by omega) (tbR11 w (by omega)).2.2 _) ?_
    refine me_iadd (p' := 22) k62_21 rfl rfl ?_
    refine me_istore_n (p' := 23) k62_22 rfl ⟨Nat.le_of_ble_eq_true rfl, rfl⟩ rfl ?_
    refine me_iinc (p' := 26) k62_23 rfl rfl rfl (v := nI (k + 1)) (mI_inc (by decide)) rfl ?_
    refine me_goto k62_26 ?_
    have e9 : ((sp_sum (mSg 11 128 I) (-1) w k) + (I (18 + w) k)) = sp_sum (mSg 11 128 I) (-1) w (k + 1) := by rw [sp_sum, if_neg (nI_m1 (by omega)), sg_car hw (by omega)]
    rw [e9]
    exact ih (by omega)
theorem ct_totalOf11 {d L : Nat} {xs : Nat → Int32} {I : Nat → Nat → Int32} {Q : Option Value → mj_H → Prop} {n w : Nat} (hk : mOk (mSg 11 128 I) n) (hw : w < 7) (hQ : Q (some (.int (sp_sum (mSg 11 128 I) (-1) w n))) (mg_h L xs I)) : mj_Cl d 62 [.ref 11, .int (nI w)] (mg_h L xs I) Q := by
  refine cl_start mx_62 (ls := [.ref 11, .int (nI w), mj_no, mj_no]) rfl ?_
  refine me_iconst (p' := 1) k62_0 rfl (v := nI 0) (by decide) ?_
  refine me_istore_n (p' := 2) k62_1 rfl ⟨Nat.le_of_ble_eq_true rfl, rfl⟩ rfl ?_
  refine me_iconst (p' := 3) k62_2 rfl (v := nI 0) (by decide) ?_
  refine me_istore_n (p' := 4) k62_3 rfl ⟨Nat.le_of_ble_eq_true rfl, rfl⟩ rfl ?_
  exact lp_totalOf11 hk hw hQ 0 (Nat.zero_le _)
theorem ct_kindOf11 {d L : Nat} {xs : Nat → Int32} {I : Nat → Nat → Int32} {Q : Option Value → mj_H → Prop} {n c : Nat} (hk : mOk (mSg 11 128 I) n) (hc : c < n) (hQ : Q (some (.ref (2 + sQ (mSg 11 128 I) c))) (mg_h L xs I)) : mj_Cl d 24 [.ref 11, .int (nI c)] (mg_h L xs I) Q := by
  have hn8 := hk.hn.2
  refine cl_start mx_24 (ls := [.ref 11, .int (nI c)]) rfl ?_
  refine me_aload_n (p' := 1) k24_0 rfl rfl ?_
  refine me_gfr (p' := 4) k24_1 rfl (by decide) rfl (b := 1) rfl ?_
  refine me_aload_n (p' := 5) k24_4 rfl rfl ?_
  refine me_gfr (p' := 8) k24_5 rfl (by decide) rfl (b := 17) rfl ?_
  refine me_iconst (p' := 9) k24_8 rfl (v := nI 0) (by decide) ?_
  refine me_aald (p' := 10) k24_9 rfl (by decide) rfl ⟨by decide, by decide⟩ (j := 0) rfl (by omega) (by decide) (b := 18) rfl ?_
  refine me_iload_n (p' := 11) k24_10 rfl rfl ?_
  refine me_iald (p' := 12) k24_11 rfl (by decide) rfl (j := c) rfl (by omega) (by decide) rfl ?_
  rw [sgR11c0 (I := I) (c := c) (by omega)]
  rw [(hk.kd c hc).1]
  have hQ6 := (hk.kd c hc).2
  refine me_aald (p' := 13) k24_12 rfl (by decide) rfl ⟨by decide, by decide⟩ (j := sQ (mSg 11 128 I) c) rfl (by omega) (by decide) (b := 2 + (sQ (mSg 11 128 I) c)) (rc_1 (sQ (mSg 11 128 I) c) (by omega)) ?_
  refine me_reta k24_13 rt_24 ?_
  exact hQ
theorem ct_partOf11 {d L : Nat} {xs : Nat → Int32} {I : Nat → Nat → Int32} {Q : Option Value → mj_H → Prop} {n c : Nat} (hk : mOk (mSg 11 128 I) n) (hc : c < n) (hQ : Q (some (.int (nI (sF (mSg 11 128 I) c / 20)))) (mg_h L xs I)) : mj_Cl d 20 [.ref 11, .int (nI c)] (mg_h L xs I) Q := by
  have hn8 := hk.hn.2
  refine cl_start mx_20 (ls := [.ref 11, .int (nI c)]) rfl ?_
  refine me_aload_n (p' := 1) k20_0 rfl rfl ?_
  refine me_gfr (p' := 4) k20_1 rfl (by decide) rfl (b := 17) rfl ?_
  refine me_iconst (p' := 5) k20_4 rfl (v := nI 1) (by decide) ?_
  refine me_aald (p' := 6) k20_5 rfl (by decide) rfl ⟨by decide, by decide⟩ (j := 1) rfl (by omega) (by decide) (b := 19) rfl ?_
  refine me_iload_n (p' := 7) k20_6 rfl rfl ?_
  refine me_iald (p' := 8) k20_7 rfl (by decide) rfl (j := c) rfl (by omega) (by decide) rfl ?_
  rw [sgR11c1 (I := I) (c := c) (by omega)]
  rw [(hk.ft c hc).1]
  have hF0 := (hk.ft c hc).2
  refine me_bipush (p' := 10) k20_8 rfl (v := nI 20) (by decide) ?_
  refine me_idiv (p' := 11) k20_10 rfl (nI_ne0 (by omega) (by omega)) (v := nI ((sF (mSg 11 128 I) c) / 20)) (mI_div (by omega) (by omega)) ?_
  refine me_reti k20_11 rt_20 rfl ?_
  exact hQ
theorem lp_totalOf26 {d L : Nat} {xs : Nat → Int32} {I : Nat → Nat → Int32} {Q : Option Value → mj_H → Prop} {n w : Nat} (hk : mOk (mSg 26 128 I) n) (hw : w < 7) (hQ : Q (some (.int (sp_sum (mSg 26 128 I) (-1) w n))) (mg_h L xs I)) : ∀ k : Nat, k ≤ n → mj_Ev d 62 4 [.ref 26, .int (nI w), .int (sp_sum (mSg 26 128 I) (-1) w k), .int (nI k)] [] (mg_h L xs I) Q := by
  have hn8 := hk.hn.2
  refine loop_ind (n := n) (fun k hkn ih => ?_)
  refine me_iload_n (p' := 5) k62_4 rfl rfl ?_
  refine me_aload_n (p' := 6) k62_5 rfl rfl ?_
  refine me_gfi (p' := 9) k62_6 rfl (by decide) rfl rfl ?_
  rw [show I 26 5 = nI n from hk.hn.1]
  refine me_ic_ge (p' := 12) k62_9 rfl (fun c1 => ?_) (fun c1 => ?_)
  · skip
    rw [cI_le (a := n) (b := k) (by omega) (by omega)] at c1
    refine me_iload_n (p' := 30) k62_29 rfl rfl ?_
    refine me_reti k62_30 rt_62 rfl ?_
    have e8 : k = n := by omega
    subst e8
    exact hQ
  · skip
    rw [cI_le (a := n) (b := k) (by omega) (by omega)] at c1
    refine me_iload_n (p' := 13) k62_12 rfl rfl ?_
    refine me_aload_n (p' := 14) k62_13 rfl rfl ?_
    refine me_gfr (p' := 17) k62_14 rfl (by decide) rfl (b := 32) rfl ?_
    refine me_iload_n (p' := 18) k62_17 rfl rfl ?_
    refine me_aald (p' := 19) k62_18 rfl (by decide) rfl ⟨by decide, by decide⟩ (j := w) rfl (by omega) (by decide) (b := 33 + w) (tbR26 w (by omega)).2.1 ?_
    refine me_iload_n (p' := 20) k62_19 rfl rfl ?_
    refine me_iald (p' := 21) k62_20 rfl (by omega) (tbR26 w (by omega)).1 (j := k) rfl (by omega) (by decide) (rc_nil _ (by omega) (tbR26 w (by omega)).2.2 _) ?_
    refine me_iadd (p' := 22) k62_21 rfl rfl ?_
    refine me_istore_n (p' := 23) k62_22 rfl ⟨Nat.le_of_ble_eq_true rfl, rfl⟩ rfl ?_
    refine me_iinc (p' := 26) k62_23 rfl rfl rfl (v := nI (k + 1)) (mI_inc (by decide)) rfl ?_
    refine me_goto k62_26 ?_
    have e9 : ((sp_sum (mSg 26 128 I) (-1) w k) + (I (33 + w) k)) = sp_sum (mSg 26 128 I) (-1) w (k + 1) := by rw [sp_sum, if_neg (nI_m1 (by omega)), sg_car hw (by omega)]
    rw [e9]
    exact ih (by omega)
theorem ct_totalOf26 {d L : Nat} {xs : Nat → Int32} {I : Nat → Nat → Int32} {Q : Option Value → mj_H → Prop} {n w : Nat} (hk : mOk (mSg 26 128 I) n) (hw : w < 7) (hQ : Q (some (.int (sp_sum (mSg 26 128 I) (-1) w n))) (mg_h L xs I)) : mj_Cl d 62 [.ref 26, .int (nI w)] (mg_h L xs I) Q := by
  refine cl_start mx_62 (ls := [.ref 26, .int (nI w), mj_no, mj_no]) rfl ?_
  refine me_iconst (p' := 1) k62_0 rfl (v := nI 0) (by decide) ?_
  refine me_istore_n (p' := 2) k62_1 rfl ⟨Nat.le_of_ble_eq_true rfl, rfl⟩ rfl ?_
  refine me_iconst (p' := 3) k62_2 rfl (v := nI 0) (by decide) ?_
  refine me_istore_n (p' := 4) k62_3 rfl ⟨Nat.le_of_ble_eq_true rfl, rfl⟩ rfl ?_
  exact lp_totalOf26 hk hw hQ 0 (Nat.zero_le _)
theorem ct_kindOf26 {d L : Nat} {xs : Nat → Int32} {I : Nat → Nat → Int32} {Q : Option Value → mj_H → Prop} {n c : Nat} (hk : mOk (mSg 26 128 I) n) (hc : c < n) (hQ : Q (some (.ref (2 + sQ (mSg 26 128 I) c))) (mg_h L xs I)) : mj_Cl d 24 [.ref 26, .int (nI c)] (mg_h L xs I) Q := by
  have hn8 := hk.hn.2
  refine cl_start mx_24 (ls := [.ref 26, .int (nI c)]) rfl ?_
  refine me_aload_n (p' := 1) k24_0 rfl rfl ?_
  refine me_gfr (p' := 4) k24_1 rfl (by decide) rfl (b := 1) rfl ?_
  refine me_aload_n (p' := 5) k24_4 rfl rfl ?_
  refine me_gfr (p' := 8) k24_5 rfl (by decide) rfl (b := 32) rfl ?_
  refine me_iconst (p' := 9) k24_8 rfl (v := nI 0) (by decide) ?_
  refine me_aald (p' := 10) k24_9 rfl (by decide) rfl ⟨by decide, by decide⟩ (j := 0) rfl (by omega) (by decide) (b := 33) rfl ?_
  refine me_iload_n (p' := 11) k24_10 rfl rfl ?_
  refine me_iald (p' := 12) k24_11 rfl (by decide) rfl (j := c) rfl (by omega) (by decide) rfl ?_
  rw [sgR26c0 (I := I) (c := c) (by omega)]
  rw [(hk.kd c hc).1]
  have hQ6 := (hk.kd c hc).2
  refine me_aald (p' := 13) k24_12 rfl (by decide) rfl ⟨by decide, by decide⟩ (j := sQ (mSg 26 128 I) c) rfl (by omega) (by decide) (b := 2 + (sQ (mSg 26 128 I) c)) (rc_1 (sQ (mSg 26 128 I) c) (by omega)) ?_
  refine me_reta k24_13 rt_24 ?_
  exact hQ
theorem ct_partOf26 {d L : Nat} {xs : Nat → Int32} {I : Nat → Nat → Int32} {Q : Option Value → mj_H → Prop} {n c : Nat} (hk : mOk (mSg 26 128 I) n) (hc : c < n) (hQ : Q (some (.int (nI (sF (mSg 26 128 I) c / 20)))) (mg_h L xs I)) : mj_Cl d 20 [.ref 26, .int (nI c)] (mg_h L xs I) Q := by
  have hn8 := hk.hn.2
  refine cl_start mx_20 (ls := [.ref 26, .int (nI c)]) rfl ?_
  refine me_aload_n (p' := 1) k20_0 rfl rfl ?_
  refine me_gfr (p' := 4) k20_1 rfl (by decide) rfl (b := 32) rfl ?_
  refine me_iconst (p' := 5) k20_4 rfl (v := nI 1) (by decide) ?_
  refine me_aald (p' := 6) k20_5 rfl (by decide) rfl ⟨by decide, by decide⟩ (j := 1) rfl (by omega) (by decide) (b := 34) rfl ?_
  refine me_iload_n (p' := 7) k20_6 rfl rfl ?_
  refine me_iald (p' := 8) k20_7 rfl (by decide) rfl (j := c) rfl (by omega) (by decide) rfl ?_
  rw [sgR26c1 (I := I) (c := c) (by omega)]
  rw [(hk.ft c hc).1]
  have hF0 := (hk.ft c hc).2
  refine me_bipush (p' := 10) k20_8 rfl (v := nI 20) (by decide) ?_
  refine me_idiv (p' := 11) k20_10 rfl (nI_ne0 (by omega) (by omega)) (v := nI ((sF (mSg 26 128 I) c) / 20)) (mI_div (by omega) (by omega)) ?_
  refine me_reti k20_11 rt_20 rfl ?_
  exact hQ
