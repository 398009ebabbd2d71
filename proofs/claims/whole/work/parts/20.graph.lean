/-! ===== the state behind the constructors: which cells there are, what they refer to (for good, but a SLOT's kind) ===== -/
def mg_tbl : List (Nat × Nat) := [(11, 11), (23, 6), (1, 0), (3, 0), (5, 0), (4, 0), (0, 0), (2, 0), (24, 15), (9, 5), (20, 96), (6, 10), (27, 4), (20, 12), (20, 12), (20, 12), (20, 12), (27, 7), (20, 8), (20, 8),
  (20, 8), (20, 8), (20, 8), (20, 8), (20, 8), (20, 3), (6, 10), (27, 4), (20, 12), (20, 12), (20, 12), (20, 12), (27, 7), (20, 8), (20, 8), (20, 8), (20, 8), (20, 8), (20, 8), (20, 8),
  (20, 3), (6, 10), (27, 4), (20, 12), (20, 12), (20, 12), (20, 12), (27, 7), (20, 8), (20, 8), (20, 8), (20, 8), (20, 8), (20, 8), (20, 8), (20, 3), (25, 4), (26, 5), (20, 60), (10, 5),
  (20, 96), (20, 96), (10, 5), (20, 96), (20, 96), (10, 5), (20, 96), (20, 96), (10, 5), (20, 96), (20, 96), (10, 5), (20, 96), (20, 96), (10, 5), (20, 96), (20, 96), (10, 5), (20, 96), (20, 96),
  (10, 5), (20, 96), (20, 96), (10, 5), (20, 96), (20, 96), (10, 5), (20, 96), (20, 96), (10, 5), (20, 96), (20, 96), (10, 5), (20, 96), (20, 96), (10, 5), (20, 96), (20, 96), (10, 5), (20, 96),
  (20, 96), (10, 5), (20, 96), (20, 96), (7, 3), (20, 24), (7, 3), (20, 24), (7, 3), (20, 24), (7, 3), (20, 24), (8, 5), (7, 3), (20, 24), (8, 5), (7, 3), (20, 24), (8, 5), (7, 3),
  (20, 24), (8, 5), (7, 3), (20, 24), (8, 5), (7, 3), (20, 24), (12, 34), (20, 1481), (20, 1481), (20, 1481), (20, 109), (20, 96), (22, 11), (20, 4), (20, 96), (20, 96), (21, 10), (20, 96), (20, 4),
  (20, 4), (20, 4), (20, 96), (20, 5), (20, 5), (20, 5), (20, 120), (20, 24), (20, 60)]
/-- of each cell what it refers to: 0 a number; 1 a SLOT's kind; r + 2 the cell r -/
def mg_rt : List (List Nat) := [[3, 10, 11, 13, 28, 43, 0, 58, 59, 60, 0], [4, 5, 6, 7, 8, 9], [], [], [], [], [], [], [61, 64, 67, 70, 73, 76, 79, 82, 85, 88, 91, 94, 97, 100, 103], [12, 0, 0, 0, 0], [], [3, 10, 14, 19, 27, 0, 0, 0, 0, 0], [15, 16, 17, 18], [], [], [], [], [20, 21, 22, 23, 24, 25, 26], [], [],
  [], [], [], [], [], [], [3, 10, 29, 34, 42, 0, 0, 0, 0, 0], [30, 31, 32, 33], [], [], [], [], [35, 36, 37, 38, 39, 40, 41], [], [], [], [], [], [], [],
  [], [3, 10, 44, 49, 57, 0, 0, 0, 0, 0], [45, 46, 47, 48], [], [], [], [], [50, 51, 52, 53, 54, 55, 56], [], [], [], [], [], [], [], [], [106, 108, 110, 112], [114, 117, 120, 123, 126], [], [62, 63, 0, 0, 0],
  [], [], [65, 66, 0, 0, 0], [], [], [68, 69, 0, 0, 0], [], [], [71, 72, 0, 0, 0], [], [], [74, 75, 0, 0, 0], [], [], [77, 78, 0, 0, 0], [], [], [80, 81, 0, 0, 0], [], [],
  [83, 84, 0, 0, 0], [], [], [86, 87, 0, 0, 0], [], [], [89, 90, 0, 0, 0], [], [], [92, 93, 0, 0, 0], [], [], [95, 96, 0, 0, 0], [], [], [98, 99, 0, 0, 0], [], [], [101, 102, 0, 0, 0], [],
  [], [104, 105, 0, 0, 0], [], [], [107, 0, 0], [], [109, 0, 0], [], [111, 0, 0], [], [113, 0, 0], [], [0, 1, 0, 115, 0], [116, 0, 0], [], [0, 1, 0, 118, 0], [119, 0, 0], [], [0, 1, 0, 121, 0], [122, 0, 0],
  [], [0, 1, 0, 124, 0], [125, 0, 0], [], [0, 1, 0, 127, 0], [128, 0, 0], [], [130, 131, 132, 0, 0, 133, 134, 0, 0, 0, 0, 0, 0, 0, 135, 136, 137, 0, 0, 138, 0, 139, 140, 141, 142, 143, 144, 145, 146, 147, 148, 149, 150, 0], [], [], [], [], [], [], [], [], [], [], [], [],
  [], [], [], [], [], [], [], [], []]
def mg_sh (L : Nat) : Nat → Nat × Nat := fun i => if i = mj_X then (20, L) else mg_tbl.getD i (99, 0)
def mg_rc (i k : Nat) : Nat := (mg_rt.getD i []).getD k 0
def mg_V (xs : Nat → Int32) (I : Nat → Nat → Int32) : Nat → Nat → Value := fun i k => if i = mj_X then .int (xs k) else match mg_rc i k with
  | 0 => .int (I i k)
  | 1 => if I i k = 0 then .null else .ref (I i k).toNatClampNeg
  | r + 2 => .ref r
/-- the small machine's cells, when the numbers in them are I -/
abbrev mg_h (L : Nat) (xs : Nat → Int32) (I : Nat → Nat → Int32) : mj_H := (149, 9131, mg_sh L, mg_V xs I)
def mg_u (I : Nat → Nat → Int32) (i k : Nat) (v : Int32) : Nat → Nat → Int32 := fun a b => if a = i ∧ b = k then v else I a b
theorem mg_ueq {I : Nat → Nat → Int32} {i k : Nat} {v : Int32} : mg_u I i k v i k = v := by simp [mg_u]
theorem mg_une {I : Nat → Nat → Int32} {i k a b : Nat} {v : Int32} (h : ¬ (a = i ∧ b = k)) : mg_u I i k v a b = I a b := by simp [mg_u, h]
theorem mg_put {xs : Nat → Int32} {I : Nat → Nat → Int32} {a k : Nat} {v : Int32} (ha : a < 149) (hr : mg_rc a k = 0) : mj_put (mg_V xs I) a k (.int v) = mg_V xs (mg_u I a k v) := by
  funext i j
  unfold mj_put mg_V
  have hX : ¬ a = mj_X := by show ¬ a = 1000000; omega
  by_cases hi : i = a
  · subst hi
    rw [if_pos rfl, if_neg hX, if_neg hX]
    by_cases hj : j = k
    · subst hj
      rw [if_pos rfl, hr, mg_ueq]
    · rw [if_neg hj, mg_une (fun z => hj z.2)]
  · rw [if_neg hi, mg_une (fun z => hi z.1)]
theorem mg_get {xs : Nat → Int32} {I : Nat → Nat → Int32} {a k : Nat} (ha : a < 149) (hr : mg_rc a k = 0) : mg_V xs I a k = .int (I a k) := by
  unfold mg_V
  rw [if_neg (by show ¬ a = 1000000; omega), hr]
theorem mg_ref {xs : Nat → Int32} {I : Nat → Nat → Int32} {a k b : Nat} (ha : a < 149) (hr : mg_rc a k = b + 2) : mg_V xs I a k = .ref b := by
  unfold mg_V
  rw [if_neg (by show ¬ a = 1000000; omega), hr]
theorem mg_knd {xs : Nat → Int32} {I : Nat → Nat → Int32} {a k : Nat} (ha : a < 149) (hr : mg_rc a k = 1) : mg_V xs I a k = if I a k = 0 then .null else .ref (I a k).toNatClampNeg := by
  unfold mg_V
  rw [if_neg (by show ¬ a = 1000000; omega), hr]
theorem mg_puk {xs : Nat → Int32} {I : Nat → Nat → Int32} {a k b : Nat} (ha : a < 149) (hr : mg_rc a k = 1) (hb : b ≠ 0 ∧ b < 149) : mj_put (mg_V xs I) a k (.ref b) = mg_V xs (mg_u I a k (nI b)) := by
  have hb2 : (nI b).toNatClampNeg = b := nI_clamp (by omega)
  have hb3 : ¬ nI b = 0 := fun z => by
    rw [z] at hb2
    exact hb.1 hb2.symm
  funext i j
  unfold mj_put mg_V
  have hX : ¬ a = mj_X := by show ¬ a = 1000000; omega
  by_cases hi : i = a
  · subst hi
    rw [if_pos rfl, if_neg hX, if_neg hX]
    by_cases hj : j = k
    · subst hj
      rw [if_pos rfl, hr, mg_ueq]
      dsimp only
      rw [if_neg hb3, hb2]
    · rw [if_neg hj, mg_une (fun z => hj z.2)]
  · rw [if_neg hi, mg_une (fun z => hi z.1)]
