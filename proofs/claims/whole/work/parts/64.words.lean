/-! ===== TEXTS read: words and signs ===== -/
/-- what a byte is: 1 a letter, 2 a figure, 3 a sign -/
def tSo (b : Nat) : Nat := if 97 ≤ b ∧ b ≤ 122 then 1 else if 48 ≤ b ∧ b ≤ 57 then 2 else 3
def tSkF (B : Nat → Nat) (tl : Nat) : Nat → Nat → Nat
  | 0, k => k
  | f + 1, k => if k < tl ∧ B k = 32 then tSkF B tl f (k + 1) else k
/-- behind blanks -/
def tSk (B : Nat → Nat) (tl k : Nat) : Nat := tSkF B tl (tl - k) k
def tRnF (B : Nat → Nat) (tl s : Nat) : Nat → Nat → Nat
  | 0, k => k
  | f + 1, k => if k < tl ∧ tSo (B k) = s then tRnF B tl s f (k + 1) else k
/-- behind bytes of a sort -/
def tRn (B : Nat → Nat) (tl s k : Nat) : Nat := tRnF B tl s (tl - k) k
theorem tSk_1 {B : Nat → Nat} {tl k : Nat} (h : k < tl) (hb : B k = 32) : tSk B tl k = tSk B tl (k + 1) := by
  unfold tSk
  rw [show tl - k = (tl - (k + 1)) + 1 by omega, tSkF, if_pos ⟨h, hb⟩]
theorem tSk_0 {B : Nat → Nat} {tl k : Nat} (h : ¬ (k < tl ∧ B k = 32)) : tSk B tl k = k := by
  unfold tSk
  cases e : tl - k with
  | zero => rfl
  | succ f => rw [tSkF, if_neg h]
theorem tRn_1 {B : Nat → Nat} {tl s k : Nat} (h : k < tl) (hb : tSo (B k) = s) : tRn B tl s k = tRn B tl s (k + 1) := by
  unfold tRn
  rw [show tl - k = (tl - (k + 1)) + 1 by omega, tRnF, if_pos ⟨h, hb⟩]
theorem tRn_0 {B : Nat → Nat} {tl s k : Nat} (h : ¬ (k < tl ∧ tSo (B k) = s)) : tRn B tl s k = k := by
  unfold tRn
  cases e : tl - k with
  | zero => rfl
  | succ f => rw [tRnF, if_neg h]
theorem tSk_ge {B : Nat → Nat} {tl : Nat} : ∀ (f k : Nat), tl - k = f → k ≤ tl → k ≤ tSk B tl k ∧ tSk B tl k ≤ tl
  | 0, k, h, hk => by
    rw [tSk_0 (by omega)]
    exact ⟨Nat.le_refl _, hk⟩
  | f + 1, k, h, hk => by
    by_cases e : k < tl ∧ B k = 32
    · rw [tSk_1 e.1 e.2]
      have := tSk_ge (B := B) (tl := tl) f (k + 1) (by omega) (by omega)
      omega
    · rw [tSk_0 e]
      exact ⟨Nat.le_refl _, hk⟩
theorem tRn_ge {B : Nat → Nat} {tl s : Nat} : ∀ (f k : Nat), tl - k = f → k ≤ tl → k ≤ tRn B tl s k ∧ tRn B tl s k ≤ tl ∧ ∀ j, k ≤ j → j < tRn B tl s k → tSo (B j) = s
  | 0, k, h, hk => by
    rw [tRn_0 (by omega)]
    exact ⟨Nat.le_refl _, hk, fun j h1 h2 => by omega⟩
  | f + 1, k, h, hk => by
    by_cases e : k < tl ∧ tSo (B k) = s
    · rw [tRn_1 e.1 e.2]
      have := tRn_ge (B := B) (tl := tl) (s := s) f (k + 1) (by omega) (by omega)
      refine ⟨by omega, this.2.1, fun j h1 h2 => ?_⟩
      rcases Nat.eq_or_lt_of_le h1 with e2 | e2
      · subst e2; exact e.2
      · exact this.2.2 j e2 h2
    · rw [tRn_0 e]
      exact ⟨Nat.le_refl _, hk, fun j h1 h2 => by omega⟩
/-- the word or sign behind a place: its sort (0 none, 4 broken), where it begins, the place behind it; w: right behind a word -/
def tk (B : Nat → Nat) (tl a : Nat) (w : Prop) [Decidable w] : Nat × Nat × Nat :=
  if tl ≤ tSk B tl a then (0, tSk B tl a, tSk B tl a) else
  if tSo (B (tSk B tl a)) = 3 then (3, tSk B tl a, tSk B tl a + 1) else
  (if (w ∧ tSk B tl a = a) ∨ (tSo (B (tSk B tl a)) = 2 ∧ 4 < tRn B tl (tSo (B (tSk B tl a))) (tSk B tl a + 1) - tSk B tl a) then 4 else tSo (B (tSk B tl a)), tSk B tl a, tRn B tl (tSo (B (tSk B tl a))) (tSk B tl a + 1))
def tWf (B : Nat → Nat) (tl : Nat) (t : Nat × Nat × Nat) : Prop := t.2.1 ≤ tl ∧ t.2.2 ≤ tl ∧ (t.1 = 0 → t.2.1 = tl) ∧ (t.1 ≠ 0 → t.2.1 < t.2.2) ∧ t.1 ≤ 4 ∧
  (t.1 = 2 → t.2.2 - t.2.1 ≤ 4 ∧ ∀ j, t.2.1 ≤ j → j < t.2.2 → tSo (B j) = 2) ∧ (t.1 = 1 → tSo (B t.2.1) = 1) ∧ (t.1 = 3 → tSo (B t.2.1) = 3) ∧ t.2.1 ≤ t.2.2
theorem tSo_r (b : Nat) : 1 ≤ tSo b ∧ tSo b ≤ 3 := by
  unfold tSo
  split
  · omega
  · split <;> omega
theorem tk_wf {B : Nat → Nat} {tl a : Nat} {w : Prop} [Decidable w] (ha : a ≤ tl) : tWf B tl (tk B tl a w) ∧ a ≤ (tk B tl a w).2.1 := by
  have h := tSk_ge (B := B) (tl - a) a rfl ha
  have hs := tSo_r (B (tSk B tl a))
  unfold tk
  generalize tSk B tl a = s at h hs
  by_cases e : tl ≤ s
  · rw [if_pos e]
    unfold tWf
    dsimp only
    exact ⟨⟨by omega, by omega, fun _ => by omega, fun z => absurd rfl z, by omega, fun z => by omega, fun z => by omega, fun z => by omega, by omega⟩, h.1⟩
  · rw [if_neg e]
    by_cases e3 : tSo (B s) = 3
    · rw [if_pos e3]
      unfold tWf
      dsimp only
      exact ⟨⟨by omega, by omega, fun z => by omega, fun _ => by omega, by omega, fun z => by omega, fun z => by omega, fun _ => e3, by omega⟩, h.1⟩
    · rw [if_neg e3]
      have hr := tRn_ge (B := B) (s := tSo (B s)) (tl - (s + 1)) (s + 1) rfl (by omega)
      generalize tRn B tl (tSo (B s)) (s + 1) = r at hr
      unfold tWf
      dsimp only
      by_cases e4 : (w ∧ s = a) ∨ (tSo (B s) = 2 ∧ 4 < r - s)
      · rw [if_pos e4]
        exact ⟨⟨by omega, by omega, fun z => by omega, fun _ => by omega, by omega, fun z => by omega, fun z => by omega, fun z => by omega, by omega⟩, h.1⟩
      · rw [if_neg e4]
        refine ⟨⟨by omega, by omega, fun z => by omega, fun _ => by omega, by omega, fun z => ⟨by omega, fun j h1 h2 => ?_⟩, fun z => z, fun z => absurd z e3, by omega⟩, h.1⟩
        rcases Nat.eq_or_lt_of_le h1 with e2 | e2
        · subst e2; exact z
        · rw [hr.2.2 j e2 h2]; exact z
def tgo (B : Nat → Nat) (tl : Nat) (t : Nat × Nat × Nat) : Nat × Nat × Nat := tk B tl t.2.2 (t.1 = 1 ∨ t.1 = 2)
theorem tgo_wf {B : Nat → Nat} {tl : Nat} {t : Nat × Nat × Nat} (h : tWf B tl t) : tWf B tl (tgo B tl t) ∧ t.2.2 ≤ (tgo B tl t).2.1 := tk_wf h.2.1
/-- which place an element has -/
def tPos (b : Nat) : List Nat → Nat → Option Nat
  | [], _ => none
  | x :: l, i => if b = x then some i else tPos b l (i + 1)
/-- a sign of two: 1 .. 9, 0: none -/
def tSg (b : Nat) : Nat := (tPos b [124, 38, 60, 61, 62, 43, 45, 42, 47] 1).getD 0
def tRk (o : Nat) : Nat := [0, 1, 2, 3, 3, 3, 4, 4, 5, 5, 6, 6].getD o 6
def tS (B : Nat → Nat) (t : Nat × Nat × Nat) : Nat := if t.1 = 3 then tSg (B t.2.1) else 0
def tNum (B : Nat → Nat) (s : Nat) : Nat → Nat
  | 0 => 0
  | n + 1 => 10 * tNum B s n + (B (s + n) - 48)
/-- the letters that are names of a KEY -/
def tNms (key : Nat) : List Nat := if key = 0 then [119, 114, 98] else if key = 1 then [115, 116] else [102, 109]
def tNm (B : Nat → Nat) (key : Nat) (t : Nat × Nat × Nat) : Option Nat := if t.1 = 1 ∧ t.2.2 - t.2.1 = 1 then tPos (B t.2.1) (tNms key) 0 else none
def tAt (B : Nat → Nat) (key : Nat) (t : Nat × Nat × Nat) : Option Nat := if t.1 = 2 then some (tNum B t.2.1 (t.2.2 - t.2.1)) else match tNm B key t with
  | some j => some (10000 + j)
  | none => none
/-- signs that wait come to their end, down to a rank -/
def mcs (r : Nat) : List Nat → List Nat → List Nat × List Nat
  | [], o => ([], o)
  | x :: S, o => if x ≠ 11 ∧ r ≤ tRk x then mcs r S (o ++ [20000 + x]) else (x :: S, o)
/-- how far it is: the word or sign, what waits (the last first), what stands, of each ( whether a test was, how many ! are open, whether a PIECE is wanted -/
abbrev mCf := (Nat × Nat × Nat) × List Nat × List Nat × List Bool × Nat × Bool
def mst (B : Nat → Nat) (tl key : Nat) (c : mCf) : mCf ⊕ (Nat × Option (List Nat)) :=
  match c with
  | (t, S, o, ts, nn, true) =>
    if t.1 = 3 ∧ B t.2.1 = 33 ∧ nn < 8 then .inl (tgo B tl t, 10 :: S, o, ts, (10 :: S).count 10, true)
    else if t.1 = 3 ∧ B t.2.1 = 40 ∧ S.count 11 < 8 then .inl (tgo B tl t, 11 :: S, o, false :: ts, (11 :: S).count 10, true)
    else match tAt B key t with
      | some a => .inl (tgo B tl t, (mcs 6 S (o ++ [a])).1, (mcs 6 S (o ++ [a])).2, ts, (mcs 6 S (o ++ [a])).1.count 10, false)
      | none => .inr (t.2.1, none)
  | (t, S, o, ts, nn, false) =>
    if t.1 = 0 then .inr (t.2.1, if S.count 11 = 0 then some (mcs 0 S o).2 else none)
    else if t.1 = 3 ∧ B t.2.1 = 41 ∧ 0 < S.count 11 then
      .inl (tgo B tl t, (mcs 6 (mcs 0 S o).1.tail (mcs 0 S o).2).1, (mcs 6 (mcs 0 S o).1.tail (mcs 0 S o).2).2, ts.tail, (mcs 6 (mcs 0 S o).1.tail (mcs 0 S o).2).1.count 10, false)
    else if tS B t = 0 ∨ (tRk (tS B t) = 3 ∧ ts.headD false = true) then .inr (t.2.1, none)
    else .inl (tgo B tl t, tS B t :: (mcs (tRk (tS B t)) S o).1, (mcs (tRk (tS B t)) S o).2, (decide (tRk (tS B t) = 3) || (decide (3 < tRk (tS B t)) && ts.headD false)) :: ts.tail, nn, true)
def mc (B : Nat → Nat) (tl key : Nat) : Nat → mCf → Option (Nat × Option (List Nat))
  | 0, _ => none
  | f + 1, c => match mst B tl key c with
    | .inl c' => mc B tl key f c'
    | .inr r => some r
def mRch (B : Nat → Nat) (tl key : Nat) (c c' : mCf) : Prop := ∃ k, ∀ f, mc B tl key (f + k) c = mc B tl key f c'
def mEnd (B : Nat → Nat) (tl key : Nat) (c : mCf) (r : Nat × Option (List Nat)) : Prop := ∃ k, mc B tl key k c = some r
theorem mRch.rf {B : Nat → Nat} {tl key : Nat} {c : mCf} : mRch B tl key c c := ⟨0, fun _ => rfl⟩
theorem mRch.tr {B : Nat → Nat} {tl key : Nat} {c c' c'' : mCf} (h1 : mRch B tl key c c') (h2 : mRch B tl key c' c'') : mRch B tl key c c'' := by
  obtain ⟨k1, e1⟩ := h1
  obtain ⟨k2, e2⟩ := h2
  exact ⟨k2 + k1, fun f => by rw [← Nat.add_assoc, e1, e2]⟩
theorem mRch.st {B : Nat → Nat} {tl key : Nat} {c c' : mCf} (h : mst B tl key c = .inl c') : mRch B tl key c c' := ⟨1, fun f => by
  show (match mst B tl key c with | .inl c' => mc B tl key f c' | .inr r => some r) = _
  rw [h]⟩
theorem mEnd.of {B : Nat → Nat} {tl key : Nat} {c : mCf} {r : Nat × Option (List Nat)} (h : mst B tl key c = .inr r) : mEnd B tl key c r := ⟨1, by
  show (match mst B tl key c with | .inl c' => mc B tl key 0 c' | .inr r => some r) = _
  rw [h]⟩
theorem mRch.ed {B : Nat → Nat} {tl key : Nat} {c c' : mCf} {r : Nat × Option (List Nat)} (h1 : mRch B tl key c c') (h2 : mEnd B tl key c' r) : mEnd B tl key c r := by
  obtain ⟨k1, e1⟩ := h1
  obtain ⟨k2, e2⟩ := h2
  exact ⟨k2 + k1, (e1 k2).trans e2⟩
theorem mcs_mcs {r r' : Nat} (h : r' ≤ r) : ∀ (S o : List Nat), mcs r' (mcs r S o).1 (mcs r S o).2 = mcs r' S o
  | [], _ => rfl
  | x :: S, o => by
    by_cases e : x ≠ 11 ∧ r ≤ tRk x
    · rw [show mcs r (x :: S) o = mcs r S (o ++ [20000 + x]) from if_pos e, mcs_mcs h S]
      exact (if_pos ⟨e.1, by omega⟩).symm
    · rw [show mcs r (x :: S) o = (x :: S, o) from if_neg e]
theorem mcs_01 : ∀ (S o : List Nat), (∀ x ∈ S, 1 ≤ x ∧ x ≤ 11) → mcs 0 S o = mcs 1 S o
  | [], _, _ => rfl
  | x :: S, o, h => by
    have hx := h x (by simp)
    have hr : 1 ≤ tRk x := by
      have : ∀ x : Nat, x < 12 → 1 ≤ x → 1 ≤ tRk x := by decide
      exact this x (by omega) hx.1
    unfold mcs
    rw [mcs_01 S _ (fun y hy => h y (by simp [hy]))]
    by_cases e : x ≠ 11
    · rw [if_pos ⟨e, by omega⟩, if_pos ⟨e, hr⟩]
    · rw [if_neg (fun z => e z.1), if_neg (fun z => e z.1)]
theorem mcs_stop {r x : Nat} {S o : List Nat} (h : ¬ (x ≠ 11 ∧ r ≤ tRk x)) : mcs r (x :: S) o = (x :: S, o) := if_neg h
/-- what can be worked out and gives one -/
def mExp (e : List Nat) : Prop := e ≠ [] ∧ ∀ (n : Nat) (l : List Nat), n + e.length ≤ 96 → sp_ok (e ++ l) n = sp_ok l (n + 1)
theorem mExp.one {a : Nat} (h : a < 10003) : mExp [a] := ⟨by simp, fun n l hn => by
  have : n < 96 := by simp at hn; omega
  show (if a < 20000 then decide (a < 10003) && decide (n < 96) && sp_ok l (n + 1) else _) = _
  rw [if_pos (by omega), decide_eq_true h, decide_eq_true this]
  rfl⟩
theorem mExp.no {e : List Nat} (h : mExp e) : mExp (e ++ [20010]) := ⟨by simp, fun n l hn => by
  rw [List.length_append, List.length_singleton] at hn
  rw [List.append_assoc, h.2 n _ (by omega)]
  show (if (20010 : Nat) < 20000 then _ else if (20010 : Nat) = 20010 then decide (1 ≤ n + 1) && sp_ok l (n + 1) else _) = _
  rw [if_neg (by decide), if_pos rfl, decide_eq_true (show 1 ≤ n + 1 by omega)]
  rfl⟩
theorem mExp.two {e e' : List Nat} {o : Nat} (h : mExp e) (h' : mExp e') (ho : 1 ≤ o ∧ o ≤ 9) : mExp (e ++ (e' ++ [20000 + o])) := ⟨by simp [h.1], fun n l hn => by
  have h1 : 1 ≤ e.length := by
    cases he : e with
    | nil => exact absurd he h.1
    | cons x l => simp
  rw [List.length_append, List.length_append, List.length_singleton] at hn
  rw [List.append_assoc, h.2 n _ (by omega), List.append_assoc, h'.2 (n + 1) _ (by omega)]
  show (if 20000 + o < 20000 then _ else if 20000 + o = 20010 then _ else decide (20001 ≤ 20000 + o) && decide (20000 + o ≤ 20009) && decide (2 ≤ n + 1 + 1) && sp_ok l (n + 1 + 1 - 1)) = _
  rw [if_neg (by omega), if_neg (by omega), decide_eq_true (show 20001 ≤ 20000 + o by omega), decide_eq_true (show 20000 + o ≤ 20009 by omega), decide_eq_true (show 2 ≤ n + 1 + 1 by omega)]
  rfl⟩
theorem mExp.ok {e : List Nat} (h : mExp e) (hl : e.length ≤ 96) : sp_ok e 0 = true := by
  have := h.2 0 [] (by omega)
  rw [List.append_nil] at this
  rw [this]
  rfl
/-- how many NUMBERS and NAMES -/
def tNa (o : List Nat) : Nat := o.countP (fun x => decide (x < 20000))
theorem tNa_1 {o : List Nat} {a : Nat} (h : a < 20000) : tNa (o ++ [a]) = tNa o + 1 := by
  unfold tNa
  rw [List.countP_append, List.countP_singleton, decide_eq_true h]
  rfl
theorem tNa_0 {o : List Nat} {a : Nat} (h : ¬ a < 20000) : tNa (o ++ [a]) = tNa o := by
  unfold tNa
  rw [List.countP_append, List.countP_singleton, decide_eq_false h]
  rfl
theorem tNum_lt {B : Nat → Nat} {s : Nat} : ∀ n : Nat, (∀ j, s ≤ j → j < s + n → tSo (B j) = 2) → tNum B s n < 10 ^ n
  | 0, _ => by show (0 : Nat) < 1; decide
  | n + 1, h => by
    have h1 := tNum_lt n (fun j h1 h2 => h j h1 (by omega))
    have h2 := h (s + n) (by omega) (by omega)
    have h3 : B (s + n) ≤ 57 := by
      unfold tSo at h2
      by_cases e1 : 97 ≤ B (s + n) ∧ B (s + n) ≤ 122
      · rw [if_pos e1] at h2; omega
      · rw [if_neg e1] at h2
        by_cases e2 : 48 ≤ B (s + n) ∧ B (s + n) ≤ 57
        · exact e2.2
        · rw [if_neg e2] at h2; omega
    unfold tNum
    rw [Nat.pow_succ]
    omega
theorem tPos_lt {b : Nat} : ∀ (l : List Nat) (i j : Nat), tPos b l i = some j → i ≤ j ∧ j < i + l.length
  | [], _, _, h => by cases h
  | x :: l, i, j, h => by
    unfold tPos at h
    split at h
    · cases h; simp
    · have := tPos_lt l (i + 1) j h
      rw [List.length_cons]
      omega
theorem tAt_lt {B : Nat → Nat} {tl key : Nat} {t : Nat × Nat × Nat} {a : Nat} (hw : tWf B tl t) (h : tAt B key t = some a) : a < 10003 ∧ (key ≠ 0 → a ≠ 10002) := by
  unfold tAt at h
  split at h
  · rename_i e
    cases h
    have h2 := hw.2.2.2.2.2.1 e
    have h3 := tNum_lt (B := B) (s := t.2.1) (t.2.2 - t.2.1) (fun j h4 h5 => h2.2 j h4 (by omega))
    have h4 : 10 ^ (t.2.2 - t.2.1) ≤ 10 ^ 4 := Nat.pow_le_pow_right (by decide) h2.1
    have h5 : (10 : Nat) ^ 4 = 10000 := by decide
    omega
  · cases hn : tNm B key t with
    | none => rw [hn] at h; cases h
    | some j =>
      rw [hn] at h
      cases h
      unfold tNm at hn
      split at hn
      · have := (tPos_lt _ _ _ hn).2
        unfold tNms at this
        split at this
        · rename_i e
          simp at this
          omega
        · split at this <;> (simp at this; omega)
      · cases hn
theorem tSg_r (b : Nat) : tSg b ≤ 9 := by
  unfold tSg
  cases h : tPos b [124, 38, 60, 61, 62, 43, 45, 42, 47] 1 with
  | none => exact Nat.zero_le _
  | some j =>
    have := (tPos_lt _ _ _ h).2
    simp at this
    show j ≤ 9
    omega
theorem tS_r (B : Nat → Nat) (t : Nat × Nat × Nat) : tS B t ≤ 9 := by
  unfold tS
  split
  · exact tSg_r _
  · exact Nat.zero_le _
theorem mj_find_pos {b : Nat} (hb : b < 2 ^ 31) : ∀ (l : List Nat) (i : Nat), (∀ x ∈ l, x < 2 ^ 31) → mj_find (nI b) l i = match tPos b l i with
    | some j => nI j
    | none => -1
  | [], _, _ => rfl
  | x :: l, i, h => by
    have hx := h x (by simp)
    unfold mj_find tPos
    by_cases e : b = x
    · subst e
      rw [if_pos rfl, if_pos (show nI b = Int32.ofNat b from rfl)]
      rfl
    · rw [if_neg e, if_neg (show ¬ nI b = Int32.ofNat x from fun z => e ((cI_eq hb hx).mp z))]
      exact mj_find_pos hb l (i + 1) (fun y hy => h y (by simp [hy]))
theorem tPos_mem {b : Nat} : ∀ (l : List Nat) (i : Nat), (tPos b l i).isSome = true ↔ b ∈ l
  | [], _ => by simp [tPos]
  | x :: l, i => by
    unfold tPos
    by_cases e : b = x
    · simp [e]
    · rw [if_neg e, tPos_mem l (i + 1)]
      simp [e]
