/-! ===== runs of the small machine ===== -/
def mj_prog (y : Nat) : List (Nat × mj_I) := mj_progs.getD y []
def mj_look : List (Nat × mj_I) → Nat → Option mj_I
  | [], _ => none
  | q :: l, pc => if q.1 = pc then some q.2 else mj_look l pc
def mj_m (y : Nat) : MethodName × ByteArray × Nat × Option FieldType × Nat := mj_mt.getD y (⟨"", "", ""⟩, ⟨#[]⟩, 0, none, 99)
def mj_disp (a t : Nat) : Option Nat := if a < 1000 then (if (mj_m a).2.2.2.2 = t then some a else none) else (mj_dt.getD (a - 1000) [])[t]?
def mj_sum (r : List Value) : Nat := (r.map fun v => v.category).sum
def mj_arg (y : Nat) (as rest : List Value) : Option (Nat × List Value × List Value) := if as.all mj_cat1 = true ∧ as.length ≤ (mj_m y).2.2.1 ∧ y < 219 ∧ mj_sum rest ≤ 8 then some (y, as, rest) else none
/-- a call: the callee, its arguments, what stays on the stack -/
def mj_call (e : mj_I) (st : List Value) (h : mj_H) : Option (Nat × List Value × List Value) :=
  match e.1 with
  | .invokestatic _ => if e.2.2.1 < 1000 ∧ e.2.2.2 ≤ st.length then mj_arg e.2.2.1 (st.take e.2.2.2).reverse (st.drop e.2.2.2) else none
  | .invokespecial _ => match st.drop e.2.2.2 with
    | .ref r :: rest => if e.2.2.1 < 1000 ∧ r < h.1 ∧ (h.2.2.1 r).1 < 13 then mj_arg e.2.2.1 (.ref r :: (st.take e.2.2.2).reverse) rest else none
    | _ => none
  | .invokevirtual _ => match st.drop e.2.2.2 with
    | .ref r :: rest => if e.2.2.1 < 2000 ∧ r < h.1 ∧ (h.2.2.1 r).1 < 13 then (match mj_disp e.2.2.1 (h.2.2.1 r).1 with
      | some y => mj_arg y (.ref r :: (st.take e.2.2.2).reverse) rest
      | none => none) else none
    | _ => none
  | _ => none
def mj_ent (n : Nat) (as : List Value) : List Value := as ++ List.replicate (n - as.length) mj_no
/-- k steps at most, d calls deep at most: what the method gives back, and the cells then -/
def mj_run : Nat → Nat → Nat → Nat → List Value → List Value → mj_H → Option (Option Value × mj_H)
  | 0, _, _, _, _, _, _ => none
  | k + 1, d, y, pc, ls, st, h =>
    match mj_look (mj_prog y) pc with
    | none => none
    | some e =>
      match mj_ret (mj_m y).2.2.2.1 e st with
      | some r => some (r, h)
      | none =>
        match mj_call e st h with
        | some q =>
          match d with
          | 0 => none
          | d' + 1 =>
            match mj_run k d' q.1 0 (mj_ent (mj_m q.1).2.2.1 q.2.1) [] h with
            | none => none
            | some w => mj_run k (d' + 1) y (pc + e.2.1) ls (w.1.toList ++ q.2.2) w.2
        | none =>
          match mj_stp e pc ls st h with
          | none => none
          | some q => mj_run k d y q.1 q.2.1 q.2.2.1 q.2.2.2
theorem mj_mono : ∀ (k d y pc : Nat) (ls st : List Value) (h : mj_H) (w : Option Value × mj_H), mj_run k d y pc ls st h = some w → ∀ k' d' : Nat, k ≤ k' → d ≤ d' → mj_run k' d' y pc ls st h = some w
  | 0, _, _, _, _, _, _, _, hr, _, _, _, _ => by cases hr
  | k + 1, d, y, pc, ls, st, h, w, hr, 0, d', hk, hd => by omega
  | k + 1, d, y, pc, ls, st, h, w, hr, k' + 1, d', hk, hd => by
    unfold mj_run at hr ⊢
    cases h1 : mj_look (mj_prog y) pc with
    | none => rw [h1] at hr; cases hr
    | some e =>
      rw [h1] at hr
      dsimp only at hr ⊢
      cases h2 : mj_ret (mj_m y).2.2.2.1 e st with
      | some r => rw [h2] at hr; exact hr
      | none =>
        rw [h2] at hr
        dsimp only at hr ⊢
        cases h3 : mj_call e st h with
        | some q =>
          rw [h3] at hr
          dsimp only at hr ⊢
          cases d with
          | zero => cases hr
          | succ d0 =>
            cases d' with
            | zero => omega
            | succ d1 =>
              dsimp only at hr ⊢
              cases h4 : mj_run k d0 q.1 0 (mj_ent (mj_m q.1).2.2.1 q.2.1) [] h with
              | none => rw [h4] at hr; cases hr
              | some u =>
                rw [h4] at hr
                rw [mj_mono k d0 _ _ _ _ _ _ h4 k' d1 (by omega) (by omega)]
                exact mj_mono k (d0 + 1) _ _ _ _ _ _ hr k' (d1 + 1) (by omega) (by omega)
        | none =>
          rw [h3] at hr
          dsimp only at hr ⊢
          cases h4 : mj_stp e pc ls st h with
          | none => rw [h4] at hr; cases hr
          | some q =>
            rw [h4] at hr
            exact mj_mono k d _ _ _ _ _ _ hr k' d' (by omega) hd
/-- from here the method comes to its end, and then Q -/
def mj_Ev (d y pc : Nat) (ls st : List Value) (h : mj_H) (Q : Option Value → mj_H → Prop) : Prop := ∃ (k : Nat) (r : Option Value) (h' : mj_H), mj_run k d y pc ls st h = some (r, h') ∧ Q r h'
/-- a call of a method with these arguments -/
def mj_Cl (d y : Nat) (as : List Value) (h : mj_H) (Q : Option Value → mj_H → Prop) : Prop := mj_Ev d y 0 (mj_ent (mj_m y).2.2.1 as) [] h Q
theorem mj_Ev.deep {d d' y pc : Nat} {ls st : List Value} {h : mj_H} {Q : Option Value → mj_H → Prop} (hd : d ≤ d') (H : mj_Ev d y pc ls st h Q) : mj_Ev d' y pc ls st h Q := by
  obtain ⟨k, r, h', h1, h2⟩ := H
  exact ⟨k, r, h', mj_mono _ _ _ _ _ _ _ _ h1 k d' (Nat.le_refl k) hd, h2⟩
theorem mj_Ev.mp {d y pc : Nat} {ls st : List Value} {h : mj_H} {Q Q' : Option Value → mj_H → Prop} (H : mj_Ev d y pc ls st h Q) (hQ : ∀ r h', Q r h' → Q' r h') : mj_Ev d y pc ls st h Q' := by
  obtain ⟨k, r, h', h1, h2⟩ := H
  exact ⟨k, r, h', h1, hQ r h' h2⟩
theorem mj_Ev.stp {d y pc : Nat} {ls st : List Value} {h : mj_H} {Q : Option Value → mj_H → Prop} {e : mj_I} {pc' : Nat} {ls' st' : List Value} {h' : mj_H} (h1 : mj_look (mj_prog y) pc = some e) (h2 : mj_ret (mj_m y).2.2.2.1 e st = none) (h3 : mj_call e st h = none) (h4 : mj_stp e pc ls st h = some (pc', ls', st', h')) (H : mj_Ev d y pc' ls' st' h' Q) : mj_Ev d y pc ls st h Q := by
  obtain ⟨k, r, h', q1, q2⟩ := H
  refine ⟨k + 1, r, h', ?_, q2⟩
  unfold mj_run
  rw [h1]
  dsimp only
  rw [h2]
  dsimp only
  rw [h3]
  dsimp only
  rw [h4]
  exact q1
theorem mj_Ev.ret {d y pc : Nat} {ls st : List Value} {h : mj_H} {Q : Option Value → mj_H → Prop} {e : mj_I} {r : Option Value} (h1 : mj_look (mj_prog y) pc = some e) (h2 : mj_ret (mj_m y).2.2.2.1 e st = some r) (H : Q r h) : mj_Ev d y pc ls st h Q := by
  refine ⟨1, r, h, ?_, H⟩
  unfold mj_run
  rw [h1]
  dsimp only
  rw [h2]
theorem mj_Ev.call {d y pc : Nat} {ls st : List Value} {h : mj_H} {Q : Option Value → mj_H → Prop} {e : mj_I} {y' : Nat} {as rest : List Value} (h1 : mj_look (mj_prog y) pc = some e) (h2 : mj_ret (mj_m y).2.2.2.1 e st = none) (h3 : mj_call e st h = some (y', as, rest)) (H : mj_Cl d y' as h (fun r h' => mj_Ev (d + 1) y (pc + e.2.1) ls (r.toList ++ rest) h' Q)) : mj_Ev (d + 1) y pc ls st h Q := by
  obtain ⟨k1, r1, g1, p1, k2, r2, g2, p2, p3⟩ := H
  refine ⟨max k1 k2 + 1, r2, g2, ?_, p3⟩
  unfold mj_run
  rw [h1]
  dsimp only
  rw [h2]
  dsimp only
  rw [h3]
  dsimp only
  rw [mj_mono _ _ _ _ _ _ _ _ p1 (max k1 k2) d (Nat.le_max_left _ _) (Nat.le_refl _)]
  exact mj_mono _ _ _ _ _ _ _ _ p2 (max k1 k2) (d + 1) (Nat.le_max_right _ _) (Nat.le_refl _)
