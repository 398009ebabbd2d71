/-! ===== steps of the small machine, a row an instruction ===== -/
section EV
variable {d y pc p' : Nat} {ls r : List Value} {h : mj_H} {Q : Option Value → mj_H → Prop} {a0 b0 L : Nat} {xs : Nat → Int32} {I : Nat → Nat → Int32}
theorem me_of {e : mj_I} {st : List Value} {pc' : Nat} {ls' st' : List Value} (hl : mj_look (mj_prog y) pc = some e) (h2 : mj_ret (mj_m y).2.2.2.1 e st = none) (h3 : mj_call e st h = none) (h4 : mj_sp e pc ls st = some (pc', ls', st')) (k : mj_Ev d y pc' ls' st' h Q) : mj_Ev d y pc ls st h Q := by
  refine mj_Ev.stp hl h2 h3 ?_ k
  unfold mj_stp
  rw [h4]
theorem me_ofx {e : mj_I} {st : List Value} {pc' : Nat} {ls' st' : List Value} (hl : mj_look (mj_prog y) pc = some e) (h2 : mj_ret (mj_m y).2.2.2.1 e st = none) (h3 : mj_call e st h = none) (h1 : mj_sp e pc ls st = none) (h4 : mj_sx e pc ls st = some (pc', ls', st')) (k : mj_Ev d y pc' ls' st' h Q) : mj_Ev d y pc ls st h Q := by
  refine mj_Ev.stp hl h2 h3 ?_ k
  unfold mj_stp
  rw [h1]
  dsimp only
  rw [h4]
theorem me_ofh {e : mj_I} {st : List Value} {pc' : Nat} {ls' st' : List Value} {h' : mj_H} (hl : mj_look (mj_prog y) pc = some e) (h2 : mj_ret (mj_m y).2.2.2.1 e st = none) (h3 : mj_call e st h = none) (h1 : mj_sp e pc ls st = none) (h0 : mj_sx e pc ls st = none) (h4 : mj_sh e pc ls st h = some (pc', ls', st', h')) (k : mj_Ev d y pc' ls' st' h' Q) : mj_Ev d y pc ls st h Q := by
  refine mj_Ev.stp hl h2 h3 ?_ k
  unfold mj_stp
  rw [h1]
  dsimp only
  rw [h0]
  exact h4
theorem me_ite {c : Prop} [Decidable c] {p1 p2 : Nat} {st : List Value} (k1 : c → mj_Ev d y p1 ls st h Q) (k2 : ¬ c → mj_Ev d y p2 ls st h Q) : mj_Ev d y (if c then p1 else p2) ls st h Q := by
  by_cases hc : c
  · rw [if_pos hc]; exact k1 hc
  · rw [if_neg hc]; exact k2 hc
theorem me_iconst {n : Int} {v : Int32} (hl : mj_look (mj_prog y) pc = some (.iconst n, 1, a0, b0)) (hp : pc + 1 = p') (hv : Int32.ofInt n = v) (k : mj_Ev d y p' ls (.int v :: r) h Q) : mj_Ev d y pc ls r h Q := by
  subst hp; subst hv; exact me_of hl rfl rfl rfl k
theorem me_bipush {n : Int} {v : Int32} (hl : mj_look (mj_prog y) pc = some (.bipush n, 2, a0, b0)) (hp : pc + 2 = p') (hv : (Int8.ofInt n).toInt32 = v) (k : mj_Ev d y p' ls (.int v :: r) h Q) : mj_Ev d y pc ls r h Q := by
  subst hp; subst hv; exact me_of hl rfl rfl rfl k
theorem me_sipush {n : Int} {v : Int32} (hl : mj_look (mj_prog y) pc = some (.sipush n, 3, a0, b0)) (hp : pc + 3 = p') (hv : (Int16.ofInt n).toInt32 = v) (k : mj_Ev d y p' ls (.int v :: r) h Q) : mj_Ev d y pc ls r h Q := by
  subst hp; subst hv; exact me_of hl rfl rfl rfl k
theorem me_ldc {i : Nat} {v : Int32} (hl : mj_look (mj_prog y) pc = some (.ldc i, 2, a0, 0)) (hp : pc + 2 = p') (hv : Int32.ofNat a0 = v) (k : mj_Ev d y p' ls (.int v :: r) h Q) : mj_Ev d y pc ls r h Q := by
  subst hp; subst hv; exact me_of hl rfl rfl rfl k
theorem me_ldcw {i : Nat} {v : Int32} (hl : mj_look (mj_prog y) pc = some (.ldc_w i, 3, a0, 0)) (hp : pc + 3 = p') (hv : Int32.ofNat a0 = v) (k : mj_Ev d y p' ls (.int v :: r) h Q) : mj_Ev d y pc ls r h Q := by
  subst hp; subst hv; exact me_of hl rfl rfl rfl k
theorem me_ldcs {i : Nat} (hl : mj_look (mj_prog y) pc = some (.ldc i, 2, a0, 1)) (hp : pc + 2 = p') (k : mj_Ev d y p' ls (.ref (mj_X + 1 + a0) :: r) h Q) : mj_Ev d y pc ls r h Q := by
  subst hp; exact me_ofx hl rfl rfl rfl rfl k
theorem me_lconst {n : Fin 2} {v : Int64} (hl : mj_look (mj_prog y) pc = some (.lconst n, 1, a0, b0)) (hp : pc + 1 = p') (hv : Int64.ofNat (n : Nat) = v) (k : mj_Ev d y p' ls (.long v :: r) h Q) : mj_Ev d y pc ls r h Q := by
  subst hp; subst hv; exact me_of hl rfl rfl rfl k
theorem me_iload {i : Nat} {x : Int32} (hl : mj_look (mj_prog y) pc = some (.iload i, 2, a0, b0)) (hp : pc + 2 = p') (hv : ls[i]? = some (.int x)) (k : mj_Ev d y p' ls (.int x :: r) h Q) : mj_Ev d y pc ls r h Q := by
  subst hp; exact me_of hl rfl rfl (by simp only [mj_sp]; rw [hv]) k
theorem me_iload_n {i : Fin 4} {x : Int32} (hl : mj_look (mj_prog y) pc = some (.iload_n i, 1, a0, b0)) (hp : pc + 1 = p') (hv : ls[(i : Nat)]? = some (.int x)) (k : mj_Ev d y p' ls (.int x :: r) h Q) : mj_Ev d y pc ls r h Q := by
  subst hp; exact me_of hl rfl rfl (by simp only [mj_sp]; rw [hv]) k
theorem me_lload {i : Nat} {x : Int64} (hl : mj_look (mj_prog y) pc = some (.lload i, 2, a0, b0)) (hp : pc + 2 = p') (hv : ls[i]? = some (.long x)) (k : mj_Ev d y p' ls (.long x :: r) h Q) : mj_Ev d y pc ls r h Q := by
  subst hp; exact me_of hl rfl rfl (by simp only [mj_sp]; rw [hv]) k
theorem me_lload_n {i : Fin 4} {x : Int64} (hl : mj_look (mj_prog y) pc = some (.lload_n i, 1, a0, b0)) (hp : pc + 1 = p') (hv : ls[(i : Nat)]? = some (.long x)) (k : mj_Ev d y p' ls (.long x :: r) h Q) : mj_Ev d y pc ls r h Q := by
  subst hp; exact me_of hl rfl rfl (by simp only [mj_sp]; rw [hv]) k
theorem me_aload {i : Nat} {x : Nat} (hl : mj_look (mj_prog y) pc = some (.aload i, 2, a0, b0)) (hp : pc + 2 = p') (hv : ls[i]? = some (.ref x)) (k : mj_Ev d y p' ls (.ref x :: r) h Q) : mj_Ev d y pc ls r h Q := by
  subst hp; exact me_of hl rfl rfl (by simp only [mj_sp]; rw [hv]) k
theorem me_aload_n {i : Fin 4} {x : Nat} (hl : mj_look (mj_prog y) pc = some (.aload_n i, 1, a0, b0)) (hp : pc + 1 = p') (hv : ls[(i : Nat)]? = some (.ref x)) (k : mj_Ev d y p' ls (.ref x :: r) h Q) : mj_Ev d y pc ls r h Q := by
  subst hp; exact me_of hl rfl rfl (by simp only [mj_sp]; rw [hv]) k
theorem me_istore {i : Nat} {x : Int32} {ls' : List Value} (hl : mj_look (mj_prog y) pc = some (.istore i, 2, a0, b0)) (hp : pc + 2 = p') (hw : i < ls.length ∧ mj_wide ls[i - 1]? = false) (hs : ls.set i (.int x) = ls') (k : mj_Ev d y p' ls' r h Q) : mj_Ev d y pc ls (.int x :: r) h Q := by
  subst hp; subst hs; exact me_of hl rfl rfl (by simp only [mj_sp]; rw [if_pos hw]) k
theorem me_istore_n {i : Fin 4} {x : Int32} {ls' : List Value} (hl : mj_look (mj_prog y) pc = some (.istore_n i, 1, a0, b0)) (hp : pc + 1 = p') (hw : (i : Nat) < ls.length ∧ mj_wide ls[(i : Nat) - 1]? = false) (hs : ls.set (i : Nat) (.int x) = ls') (k : mj_Ev d y p' ls' r h Q) : mj_Ev d y pc ls (.int x :: r) h Q := by
  subst hp; subst hs; exact me_of hl rfl rfl (by simp only [mj_sp]; rw [if_pos hw]) k
theorem me_astore {i : Nat} {x : Nat} {ls' : List Value} (hl : mj_look (mj_prog y) pc = some (.astore i, 2, a0, b0)) (hp : pc + 2 = p') (hw : i < ls.length ∧ mj_wide ls[i - 1]? = false) (hs : ls.set i (.ref x) = ls') (k : mj_Ev d y p' ls' r h Q) : mj_Ev d y pc ls (.ref x :: r) h Q := by
  subst hp; subst hs; exact me_of hl rfl rfl (by simp only [mj_sp]; rw [if_pos hw]) k
theorem me_astore_n {i : Fin 4} {x : Nat} {ls' : List Value} (hl : mj_look (mj_prog y) pc = some (.astore_n i, 1, a0, b0)) (hp : pc + 1 = p') (hw : (i : Nat) < ls.length ∧ mj_wide ls[(i : Nat) - 1]? = false) (hs : ls.set (i : Nat) (.ref x) = ls') (k : mj_Ev d y p' ls' r h Q) : mj_Ev d y pc ls (.ref x :: r) h Q := by
  subst hp; subst hs; exact me_of hl rfl rfl (by simp only [mj_sp]; rw [if_pos hw]) k
theorem me_lstore {i : Nat} {x : Int64} {ls' : List Value} (hl : mj_look (mj_prog y) pc = some (.lstore i, 2, a0, b0)) (hp : pc + 2 = p') (hw : i + 1 < ls.length ∧ mj_wide ls[i - 1]? = false) (hs : (ls.set i (.long x)).set (i + 1) mj_no = ls') (k : mj_Ev d y p' ls' r h Q) : mj_Ev d y pc ls (.long x :: r) h Q := by
  subst hp; subst hs; exact me_of hl rfl rfl (by simp only [mj_sp]; rw [if_pos hw]) k
theorem me_iinc {i n : Nat} {m : Int} {x v : Int32} {ls' : List Value} (hl : mj_look (mj_prog y) pc = some (.iinc i m, n, a0, b0)) (hp : pc + n = p') (hv : ls[i]? = some (.int x)) (hw : mj_wide ls[i - 1]? = false) (hx : x + Int32.ofInt m = v) (hs : ls.set i (.int v) = ls') (k : mj_Ev d y p' ls' r h Q) : mj_Ev d y pc ls r h Q := by
  subst hp; subst hx; subst hs; exact me_of hl rfl rfl (by simp only [mj_sp]; rw [hv]; dsimp only; rw [if_pos hw]) k
theorem me_pop {v : Value} (hl : mj_look (mj_prog y) pc = some (.pop, 1, a0, b0)) (hp : pc + 1 = p') (hv : mj_cat1 v = true) (k : mj_Ev d y p' ls r h Q) : mj_Ev d y pc ls (v :: r) h Q := by
  subst hp; exact me_of hl rfl rfl (by simp only [mj_sp]; rw [if_pos hv]) k
theorem me_dup {v : Value} (hl : mj_look (mj_prog y) pc = some (.dup, 1, a0, b0)) (hp : pc + 1 = p') (hv : mj_cat1 v = true) (k : mj_Ev d y p' ls (v :: v :: r) h Q) : mj_Ev d y pc ls (v :: r) h Q := by
  subst hp; exact me_of hl rfl rfl (by simp only [mj_sp]; rw [if_pos hv]) k
theorem me_dup2 {v w : Value} (hl : mj_look (mj_prog y) pc = some (.dup2, 1, a0, b0)) (hp : pc + 1 = p') (hv : (mj_cat1 v && mj_cat1 w) = true) (k : mj_Ev d y p' ls (v :: w :: v :: w :: r) h Q) : mj_Ev d y pc ls (v :: w :: r) h Q := by
  subst hp; exact me_of hl rfl rfl (by simp only [mj_sp]; rw [if_pos hv]) k
theorem me_iadd {x y0 v : Int32} (hl : mj_look (mj_prog y) pc = some (.iadd, 1, a0, b0)) (hp : pc + 1 = p') (hv : x + y0 = v) (k : mj_Ev d y p' ls (.int v :: r) h Q) : mj_Ev d y pc ls (.int y0 :: .int x :: r) h Q := by
  subst hp; subst hv; exact me_of hl rfl rfl rfl k
theorem me_isub {x y0 v : Int32} (hl : mj_look (mj_prog y) pc = some (.isub, 1, a0, b0)) (hp : pc + 1 = p') (hv : x - y0 = v) (k : mj_Ev d y p' ls (.int v :: r) h Q) : mj_Ev d y pc ls (.int y0 :: .int x :: r) h Q := by
  subst hp; subst hv; exact me_of hl rfl rfl rfl k
theorem me_imul {x y0 v : Int32} (hl : mj_look (mj_prog y) pc = some (.imul, 1, a0, b0)) (hp : pc + 1 = p') (hv : x * y0 = v) (k : mj_Ev d y p' ls (.int v :: r) h Q) : mj_Ev d y pc ls (.int y0 :: .int x :: r) h Q := by
  subst hp; subst hv; exact me_of hl rfl rfl rfl k
theorem me_ishl {x y0 v : Int32} (hl : mj_look (mj_prog y) pc = some (.ishl, 1, a0, b0)) (hp : pc + 1 = p') (hv : x <<< (y0 &&& 31) = v) (k : mj_Ev d y p' ls (.int v :: r) h Q) : mj_Ev d y pc ls (.int y0 :: .int x :: r) h Q := by
  subst hp; subst hv; exact me_of hl rfl rfl rfl k
theorem me_ishr {x y0 v : Int32} (hl : mj_look (mj_prog y) pc = some (.ishr, 1, a0, b0)) (hp : pc + 1 = p') (hv : x >>> (y0 &&& 31) = v) (k : mj_Ev d y p' ls (.int v :: r) h Q) : mj_Ev d y pc ls (.int y0 :: .int x :: r) h Q := by
  subst hp; subst hv; exact me_of hl rfl rfl rfl k
theorem me_iushr {x y0 v : Int32} (hl : mj_look (mj_prog y) pc = some (.iushr, 1, a0, b0)) (hp : pc + 1 = p') (hv : (x.toUInt32 >>> (y0.toUInt32 &&& Int32.toUInt32 31)).toInt32 = v) (k : mj_Ev d y p' ls (.int v :: r) h Q) : mj_Ev d y pc ls (.int y0 :: .int x :: r) h Q := by
  subst hp; subst hv; exact me_of hl rfl rfl rfl k
theorem me_iand {x y0 v : Int32} (hl : mj_look (mj_prog y) pc = some (.iand, 1, a0, b0)) (hp : pc + 1 = p') (hv : x &&& y0 = v) (k : mj_Ev d y p' ls (.int v :: r) h Q) : mj_Ev d y pc ls (.int y0 :: .int x :: r) h Q := by
  subst hp; subst hv; exact me_of hl rfl rfl rfl k
theorem me_ior {x y0 v : Int32} (hl : mj_look (mj_prog y) pc = some (.ior, 1, a0, b0)) (hp : pc + 1 = p') (hv : x ||| y0 = v) (k : mj_Ev d y p' ls (.int v :: r) h Q) : mj_Ev d y pc ls (.int y0 :: .int x :: r) h Q := by
  subst hp; subst hv; exact me_of hl rfl rfl rfl k
theorem me_idiv {x y0 v : Int32} (hl : mj_look (mj_prog y) pc = some (.idiv, 1, a0, b0)) (hp : pc + 1 = p') (hz : ¬ y0 = 0) (hv : x / y0 = v) (k : mj_Ev d y p' ls (.int v :: r) h Q) : mj_Ev d y pc ls (.int y0 :: .int x :: r) h Q := by
  subst hp; subst hv; exact me_of hl rfl rfl (by simp only [mj_sp]; rw [if_neg hz]) k
theorem me_irem {x y0 v : Int32} (hl : mj_look (mj_prog y) pc = some (.irem, 1, a0, b0)) (hp : pc + 1 = p') (hz : ¬ y0 = 0) (hv : x % y0 = v) (k : mj_Ev d y p' ls (.int v :: r) h Q) : mj_Ev d y pc ls (.int y0 :: .int x :: r) h Q := by
  subst hp; subst hv; exact me_of hl rfl rfl (by simp only [mj_sp]; rw [if_neg hz]) k
theorem me_ladd {x y0 v : Int64} (hl : mj_look (mj_prog y) pc = some (.ladd, 1, a0, b0)) (hp : pc + 1 = p') (hv : x + y0 = v) (k : mj_Ev d y p' ls (.long v :: r) h Q) : mj_Ev d y pc ls (.long y0 :: .long x :: r) h Q := by
  subst hp; subst hv; exact me_of hl rfl rfl rfl k
theorem me_lsub {x y0 v : Int64} (hl : mj_look (mj_prog y) pc = some (.lsub, 1, a0, b0)) (hp : pc + 1 = p') (hv : x - y0 = v) (k : mj_Ev d y p' ls (.long v :: r) h Q) : mj_Ev d y pc ls (.long y0 :: .long x :: r) h Q := by
  subst hp; subst hv; exact me_of hl rfl rfl rfl k
theorem me_lcmp {x y0 : Int64} {v : Int32} (hl : mj_look (mj_prog y) pc = some (.lcmp, 1, a0, b0)) (hp : pc + 1 = p') (hv : lg_cmp x y0 = v) (k : mj_Ev d y p' ls (.int v :: r) h Q) : mj_Ev d y pc ls (.long y0 :: .long x :: r) h Q := by
  subst hp; subst hv; exact me_of hl rfl rfl rfl k
theorem me_ineg {x : Int32} {v : Int32} (hl : mj_look (mj_prog y) pc = some (.ineg, 1, a0, b0)) (hp : pc + 1 = p') (hv : -x = v) (k : mj_Ev d y p' ls (.int v :: r) h Q) : mj_Ev d y pc ls (.int x :: r) h Q := by
  subst hp; subst hv; exact me_of hl rfl rfl rfl k
theorem me_lneg {x : Int64} {v : Int64} (hl : mj_look (mj_prog y) pc = some (.lneg, 1, a0, b0)) (hp : pc + 1 = p') (hv : -x = v) (k : mj_Ev d y p' ls (.long v :: r) h Q) : mj_Ev d y pc ls (.long x :: r) h Q := by
  subst hp; subst hv; exact me_of hl rfl rfl rfl k
theorem me_i2l {x : Int32} {v : Int64} (hl : mj_look (mj_prog y) pc = some (.i2l, 1, a0, b0)) (hp : pc + 1 = p') (hv : x.toInt64 = v) (k : mj_Ev d y p' ls (.long v :: r) h Q) : mj_Ev d y pc ls (.int x :: r) h Q := by
  subst hp; subst hv; exact me_of hl rfl rfl rfl k
theorem me_l2i {x : Int64} {v : Int32} (hl : mj_look (mj_prog y) pc = some (.l2i, 1, a0, b0)) (hp : pc + 1 = p') (hv : x.toInt32 = v) (k : mj_Ev d y p' ls (.int v :: r) h Q) : mj_Ev d y pc ls (.long x :: r) h Q := by
  subst hp; subst hv; exact me_of hl rfl rfl rfl k
theorem me_i2s {x : Int32} {v : Int32} (hl : mj_look (mj_prog y) pc = some (.i2s, 1, a0, b0)) (hp : pc + 1 = p') (hv : x.toInt16.toInt32 = v) (k : mj_Ev d y p' ls (.int v :: r) h Q) : mj_Ev d y pc ls (.int x :: r) h Q := by
  subst hp; subst hv; exact me_of hl rfl rfl rfl k
theorem me_i2c {x : Int32} {v : Int32} (hl : mj_look (mj_prog y) pc = some (.i2c, 1, a0, b0)) (hp : pc + 1 = p') (hv : (x.toUInt32 % 65536).toInt32 = v) (k : mj_Ev d y p' ls (.int v :: r) h Q) : mj_Ev d y pc ls (.int x :: r) h Q := by
  subst hp; subst hv; exact me_of hl rfl rfl rfl k
theorem me_goto {off : Int} (hl : mj_look (mj_prog y) pc = some (.goto off, 3, a0, b0)) (k : mj_Ev d y a0 ls r h Q) : mj_Ev d y pc ls r h Q := me_of hl rfl rfl rfl k
theorem me_if_eq {x : Int32} {off : Int} (hl : mj_look (mj_prog y) pc = some (.ifCond .eq off, 3, a0, b0)) (hp : pc + 3 = p') (k1 : x = 0 → mj_Ev d y a0 ls r h Q) (k2 : ¬ x = 0 → mj_Ev d y p' ls r h Q) : mj_Ev d y pc ls (.int x :: r) h Q := by
  subst hp; exact me_of hl rfl rfl rfl (me_ite k1 k2)
theorem me_if_ne {x : Int32} {off : Int} (hl : mj_look (mj_prog y) pc = some (.ifCond .ne off, 3, a0, b0)) (hp : pc + 3 = p') (k1 : x = 0 → mj_Ev d y p' ls r h Q) (k2 : ¬ x = 0 → mj_Ev d y a0 ls r h Q) : mj_Ev d y pc ls (.int x :: r) h Q := by
  subst hp; exact me_of hl rfl rfl rfl (me_ite k1 k2)
theorem me_if_lt {x : Int32} {off : Int} (hl : mj_look (mj_prog y) pc = some (.ifCond .lt off, 3, a0, b0)) (hp : pc + 3 = p') (k1 : x < 0 → mj_Ev d y a0 ls r h Q) (k2 : ¬ x < 0 → mj_Ev d y p' ls r h Q) : mj_Ev d y pc ls (.int x :: r) h Q := by
  subst hp; exact me_of hl rfl rfl rfl (me_ite k1 k2)
theorem me_if_ge {x : Int32} {off : Int} (hl : mj_look (mj_prog y) pc = some (.ifCond .ge off, 3, a0, b0)) (hp : pc + 3 = p') (k1 : 0 ≤ x → mj_Ev d y a0 ls r h Q) (k2 : ¬ 0 ≤ x → mj_Ev d y p' ls r h Q) : mj_Ev d y pc ls (.int x :: r) h Q := by
  subst hp; exact me_of hl rfl rfl rfl (me_ite k1 k2)
theorem me_if_gt {x : Int32} {off : Int} (hl : mj_look (mj_prog y) pc = some (.ifCond .gt off, 3, a0, b0)) (hp : pc + 3 = p') (k1 : 0 < x → mj_Ev d y a0 ls r h Q) (k2 : ¬ 0 < x → mj_Ev d y p' ls r h Q) : mj_Ev d y pc ls (.int x :: r) h Q := by
  subst hp; exact me_of hl rfl rfl rfl (me_ite k1 k2)
theorem me_if_le {x : Int32} {off : Int} (hl : mj_look (mj_prog y) pc = some (.ifCond .le off, 3, a0, b0)) (hp : pc + 3 = p') (k1 : x ≤ 0 → mj_Ev d y a0 ls r h Q) (k2 : ¬ x ≤ 0 → mj_Ev d y p' ls r h Q) : mj_Ev d y pc ls (.int x :: r) h Q := by
  subst hp; exact me_of hl rfl rfl rfl (me_ite k1 k2)
theorem me_ic_eq {x y0 : Int32} {off : Int} (hl : mj_look (mj_prog y) pc = some (.if_icmp .eq off, 3, a0, b0)) (hp : pc + 3 = p') (k1 : x = y0 → mj_Ev d y a0 ls r h Q) (k2 : ¬ x = y0 → mj_Ev d y p' ls r h Q) : mj_Ev d y pc ls (.int y0 :: .int x :: r) h Q := by
  subst hp; exact me_of hl rfl rfl rfl (me_ite k1 k2)
theorem me_ic_ne {x y0 : Int32} {off : Int} (hl : mj_look (mj_prog y) pc = some (.if_icmp .ne off, 3, a0, b0)) (hp : pc + 3 = p') (k1 : x = y0 → mj_Ev d y p' ls r h Q) (k2 : ¬ x = y0 → mj_Ev d y a0 ls r h Q) : mj_Ev d y pc ls (.int y0 :: .int x :: r) h Q := by
  subst hp; exact me_of hl rfl rfl rfl (me_ite k1 k2)
theorem me_ic_lt {x y0 : Int32} {off : Int} (hl : mj_look (mj_prog y) pc = some (.if_icmp .lt off, 3, a0, b0)) (hp : pc + 3 = p') (k1 : x < y0 → mj_Ev d y a0 ls r h Q) (k2 : ¬ x < y0 → mj_Ev d y p' ls r h Q) : mj_Ev d y pc ls (.int y0 :: .int x :: r) h Q := by
  subst hp; exact me_of hl rfl rfl rfl (me_ite k1 k2)
theorem me_ic_ge {x y0 : Int32} {off : Int} (hl : mj_look (mj_prog y) pc = some (.if_icmp .ge off, 3, a0, b0)) (hp : pc + 3 = p') (k1 : y0 ≤ x → mj_Ev d y a0 ls r h Q) (k2 : ¬ y0 ≤ x → mj_Ev d y p' ls r h Q) : mj_Ev d y pc ls (.int y0 :: .int x :: r) h Q := by
  subst hp; exact me_of hl rfl rfl rfl (me_ite k1 k2)
theorem me_ic_gt {x y0 : Int32} {off : Int} (hl : mj_look (mj_prog y) pc = some (.if_icmp .gt off, 3, a0, b0)) (hp : pc + 3 = p') (k1 : y0 < x → mj_Ev d y a0 ls r h Q) (k2 : ¬ y0 < x → mj_Ev d y p' ls r h Q) : mj_Ev d y pc ls (.int y0 :: .int x :: r) h Q := by
  subst hp; exact me_of hl rfl rfl rfl (me_ite k1 k2)
theorem me_ic_le {x y0 : Int32} {off : Int} (hl : mj_look (mj_prog y) pc = some (.if_icmp .le off, 3, a0, b0)) (hp : pc + 3 = p') (k1 : x ≤ y0 → mj_Ev d y a0 ls r h Q) (k2 : ¬ x ≤ y0 → mj_Ev d y p' ls r h Q) : mj_Ev d y pc ls (.int y0 :: .int x :: r) h Q := by
  subst hp; exact me_of hl rfl rfl rfl (me_ite k1 k2)
theorem me_ifnull0 {off : Int} (hl : mj_look (mj_prog y) pc = some (.ifnull off, 3, a0, b0)) (k : mj_Ev d y a0 ls r h Q) : mj_Ev d y pc ls (.null :: r) h Q := me_of hl rfl rfl rfl k
theorem me_ifnull1 {off : Int} {x : Nat} (hl : mj_look (mj_prog y) pc = some (.ifnull off, 3, a0, b0)) (hp : pc + 3 = p') (k : mj_Ev d y p' ls r h Q) : mj_Ev d y pc ls (.ref x :: r) h Q := by
  subst hp; exact me_of hl rfl rfl rfl k
theorem me_tsw {n : Nat} {dd lo hi : Int} {offs : Array Int} {x : Int32} (hl : mj_look (mj_prog y) pc = some (.tableswitch dd lo hi offs, n, a0, b0)) (hp : (if x.toInt < lo ∨ hi < x.toInt then ((pc : Int) + dd).toNat else ((pc : Int) + (offs[(x.toInt - lo).toNat]?).getD dd).toNat) = p') (k : mj_Ev d y p' ls r h Q) : mj_Ev d y pc ls (.int x :: r) h Q := by
  subst hp; exact me_of hl rfl rfl rfl k
theorem me_lsw {n : Nat} {dd : Int} {ps : Array (Int × Int)} {x : Int32} (hl : mj_look (mj_prog y) pc = some (.lookupswitch dd ps, n, a0, b0)) (hp : ((pc : Int) + Op.lookupswitch.offset ps.toList dd x.toInt).toNat = p') (k : mj_Ev d y p' ls r h Q) : mj_Ev d y pc ls (.int x :: r) h Q := by
  subst hp; exact me_of hl rfl rfl rfl k
theorem me_max {i bb : Nat} {x y0 v : Int32} (hl : mj_look (mj_prog y) pc = some (.invokestatic i, 3, 3005, bb)) (hp : pc + 3 = p') (hr : mj_sum r ≤ 8) (hv : (if x < y0 then y0 else x) = v) (k : mj_Ev d y p' ls (.int v :: r) h Q) : mj_Ev d y pc ls (.int y0 :: .int x :: r) h Q := by
  subst hp; subst hv; exact me_ofx hl rfl rfl rfl (by have hr2 : (List.map (fun v => Value.category v) r).sum ≤ 8 := hr; simp [mj_sx, hr2]) k
theorem me_min {i bb : Nat} {x y0 v : Int32} (hl : mj_look (mj_prog y) pc = some (.invokestatic i, 3, 3006, bb)) (hp : pc + 3 = p') (hr : mj_sum r ≤ 8) (hv : (if y0 < x then y0 else x) = v) (k : mj_Ev d y p' ls (.int v :: r) h Q) : mj_Ev d y pc ls (.int y0 :: .int x :: r) h Q := by
  subst hp; subst hv; exact me_ofx hl rfl rfl rfl (by have hr2 : (List.map (fun v => Value.category v) r).sum ≤ 8 := hr; simp [mj_sx, hr2]) k
theorem me_abs {i bb : Nat} {x v : Int32} (hl : mj_look (mj_prog y) pc = some (.invokestatic i, 3, 3007, bb)) (hp : pc + 3 = p') (hr : mj_sum r ≤ 8) (hv : (if 0 ≤ x then x else 0 - x) = v) (k : mj_Ev d y p' ls (.int v :: r) h Q) : mj_Ev d y pc ls (.int x :: r) h Q := by
  subst hp; subst hv; exact me_ofx hl rfl rfl rfl (by have hr2 : (List.map (fun v => Value.category v) r).sum ≤ 8 := hr; simp [mj_sx, hr2]) k
theorem me_sh {a : Nat} (ha : a < 149) : mg_sh L a = mg_tbl.getD a (99, 0) := by
  unfold mg_sh
  rw [if_neg (by show ¬ a = 1000000; omega)]
theorem me_gfi {i c kf a : Nat} (hl : mj_look (mj_prog y) pc = some (.getfield i, 3, c, kf)) (hp : pc + 3 = p') (ha : a < 149) (hs : (mg_tbl.getD a (99, 0)).1 = c) (hr : mg_rc a kf = 0) (k : mj_Ev d y p' ls (.int (I a kf) :: r) (mg_h L xs I) Q) : mj_Ev d y pc ls (.ref a :: r) (mg_h L xs I) Q := by
  subst hp
  exact me_ofh hl rfl rfl rfl rfl (by simp only [mj_sh]; rw [if_pos ⟨ha, by rw [me_sh ha]; exact hs⟩, mg_get ha hr]) k
theorem me_gfr {i c kf a b : Nat} (hl : mj_look (mj_prog y) pc = some (.getfield i, 3, c, kf)) (hp : pc + 3 = p') (ha : a < 149) (hs : (mg_tbl.getD a (99, 0)).1 = c) (hr : mg_rc a kf = b + 2) (k : mj_Ev d y p' ls (.ref b :: r) (mg_h L xs I) Q) : mj_Ev d y pc ls (.ref a :: r) (mg_h L xs I) Q := by
  subst hp
  exact me_ofh hl rfl rfl rfl rfl (by simp only [mj_sh]; rw [if_pos ⟨ha, by rw [me_sh ha]; exact hs⟩, mg_ref ha hr]) k
theorem me_gfk {i c kf a : Nat} {v : Value} (hl : mj_look (mj_prog y) pc = some (.getfield i, 3, c, kf)) (hp : pc + 3 = p') (ha : a < 149) (hs : (mg_tbl.getD a (99, 0)).1 = c) (hr : mg_rc a kf = 1) (hv : (if I a kf = 0 then .null else .ref (I a kf).toNatClampNeg) = v) (k : mj_Ev d y p' ls (v :: r) (mg_h L xs I) Q) : mj_Ev d y pc ls (.ref a :: r) (mg_h L xs I) Q := by
  subst hp; subst hv
  exact me_ofh hl rfl rfl rfl rfl (by simp only [mj_sh]; rw [if_pos ⟨ha, by rw [me_sh ha]; exact hs⟩, mg_knd ha hr]) k
theorem me_pfi {i c kf a : Nat} {v : Int32} (hl : mj_look (mj_prog y) pc = some (.putfield i, 3, c, kf)) (hp : pc + 3 = p') (ha : a < 149) (hs : (mg_tbl.getD a (99, 0)).1 = c) (hr : mg_rc a kf = 0) (hn : narrow (mj_fty c kf) (.int v) = .int v) (hf : fits (mj_fty c kf) (.int v) = true) (k : mj_Ev d y p' ls r (mg_h L xs (mg_u I a kf v)) Q) : mj_Ev d y pc ls (.int v :: .ref a :: r) (mg_h L xs I) Q := by
  subst hp
  refine me_ofh (h' := mg_h L xs (mg_u I a kf v)) hl rfl rfl rfl rfl ?_ k
  simp only [mj_sh]
  rw [if_pos ⟨ha, by rw [me_sh ha]; exact hs, hn, hf⟩]
  unfold mj_st
  dsimp only
  rw [mg_put ha hr]
theorem me_pfk {i c kf a b : Nat} (hl : mj_look (mj_prog y) pc = some (.putfield i, 3, c, kf)) (hp : pc + 3 = p') (ha : a < 149) (hs : (mg_tbl.getD a (99, 0)).1 = c) (hr : mg_rc a kf = 1) (hb : b ≠ 0 ∧ b < 149) (hn : narrow (mj_fty c kf) (.ref b) = .ref b) (hf : fits (mj_fty c kf) (.ref b) = true) (k : mj_Ev d y p' ls r (mg_h L xs (mg_u I a kf (nI b))) Q) : mj_Ev d y pc ls (.ref b :: .ref a :: r) (mg_h L xs I) Q := by
  subst hp
  refine me_ofh (h' := mg_h L xs (mg_u I a kf (nI b))) hl rfl rfl rfl rfl ?_ k
  simp only [mj_sh]
  rw [if_pos ⟨ha, by rw [me_sh ha]; exact hs, hn, hf⟩]
  unfold mj_st
  dsimp only
  rw [mg_puk ha hr hb]
theorem me_inI {j n : Nat} (hj : j < n) (hn : n < 10000) : mj_in (nI j) n = true := by
  unfold mj_in
  rw [Bool.and_eq_true, decide_eq_true_eq, decide_eq_true_eq, nI_clamp (by omega)]
  exact ⟨nI_pos (by omega), hj⟩
theorem me_iald {a j n : Nat} {i : Int32} (hl : mj_look (mj_prog y) pc = some (.iaload, 1, a0, b0)) (hp : pc + 1 = p') (ha : a < 149) (hs : mg_tbl.getD a (99, 0) = (20, n)) (hi : i = nI j) (hj : j < n) (hn : n < 10000) (hr : mg_rc a j = 0) (k : mj_Ev d y p' ls (.int (I a j) :: r) (mg_h L xs I) Q) : mj_Ev d y pc ls (.int i :: .ref a :: r) (mg_h L xs I) Q := by
  subst hp; subst hi
  refine me_ofh hl rfl rfl rfl rfl ?_ k
  simp only [mj_sh]
  rw [if_pos ⟨by unfold mj_rd; simp [ha], by rw [me_sh ha, hs], by rw [me_sh ha, hs]; exact me_inI hj hn⟩, nI_clamp (by omega), mg_get ha hr]
theorem me_xald {j : Nat} {i : Int32} (hl : mj_look (mj_prog y) pc = some (.iaload, 1, a0, b0)) (hp : pc + 1 = p') (hi : i = nI j) (hj : j < L) (hn : L < 10000) (k : mj_Ev d y p' ls (.int (xs j) :: r) (mg_h L xs I) Q) : mj_Ev d y pc ls (.int i :: .ref mj_X :: r) (mg_h L xs I) Q := by
  subst hp; subst hi
  refine me_ofh hl rfl rfl rfl rfl ?_ k
  simp only [mj_sh]
  have h1 : mg_sh L mj_X = (20, L) := by unfold mg_sh; rw [if_pos rfl]
  rw [if_pos ⟨by unfold mj_rd; simp, by rw [h1], by rw [h1]; exact me_inI hj hn⟩, nI_clamp (by omega)]
  unfold mg_V
  rw [if_pos rfl]
theorem me_xlen {v : Int32} (hl : mj_look (mj_prog y) pc = some (.arraylength, 1, a0, b0)) (hp : pc + 1 = p') (hv : Int32.ofNat L = v) (k : mj_Ev d y p' ls (.int v :: r) (mg_h L xs I) Q) : mj_Ev d y pc ls (.ref mj_X :: r) (mg_h L xs I) Q := by
  subst hp; subst hv
  refine me_ofh hl rfl rfl rfl rfl ?_ k
  simp only [mj_sh]
  have h1 : mg_sh L mj_X = (20, L) := by unfold mg_sh; rw [if_pos rfl]
  rw [if_pos ⟨by unfold mj_rd; simp, by rw [h1]; exact Nat.le_refl 20, by rw [h1]; exact (by decide : 20 < 28)⟩, h1]
theorem me_alen {a t n : Nat} {v : Int32} (hl : mj_look (mj_prog y) pc = some (.arraylength, 1, a0, b0)) (hp : pc + 1 = p') (ha : a < 149) (hs : mg_tbl.getD a (99, 0) = (t, n)) (ht : 20 ≤ t ∧ t < 28) (hv : Int32.ofNat n = v) (k : mj_Ev d y p' ls (.int v :: r) (mg_h L xs I) Q) : mj_Ev d y pc ls (.ref a :: r) (mg_h L xs I) Q := by
  subst hp; subst hv
  refine me_ofh hl rfl rfl rfl rfl ?_ k
  simp only [mj_sh]
  rw [if_pos ⟨by unfold mj_rd; simp [ha], by rw [me_sh ha, hs]; exact ht.1, by rw [me_sh ha, hs]; exact ht.2⟩, me_sh ha, hs]
theorem me_iast {a j n : Nat} {i x : Int32} (hl : mj_look (mj_prog y) pc = some (.iastore, 1, a0, b0)) (hp : pc + 1 = p') (ha : a < 149) (hs : mg_tbl.getD a (99, 0) = (20, n)) (hi : i = nI j) (hj : j < n) (hn : n < 10000) (hr : mg_rc a j = 0) (k : mj_Ev d y p' ls r (mg_h L xs (mg_u I a j x)) Q) : mj_Ev d y pc ls (.int x :: .int i :: .ref a :: r) (mg_h L xs I) Q := by
  subst hp; subst hi
  refine me_ofh (h' := mg_h L xs (mg_u I a j x)) hl rfl rfl rfl rfl ?_ k
  simp only [mj_sh]
  rw [if_pos ⟨ha, by rw [me_sh ha, hs], by rw [me_sh ha, hs]; exact me_inI hj hn⟩, nI_clamp (by omega)]
  unfold mj_st
  dsimp only
  rw [mg_put ha hr]
theorem me_zald {a j n : Nat} {i : Int32} (hl : mj_look (mj_prog y) pc = some (.baload, 1, a0, b0)) (hp : pc + 1 = p') (ha : a < 149) (hs : mg_tbl.getD a (99, 0) = (21, n)) (hi : i = nI j) (hj : j < n) (hn : n < 10000) (hr : mg_rc a j = 0) (k : mj_Ev d y p' ls (.int (I a j) :: r) (mg_h L xs I) Q) : mj_Ev d y pc ls (.int i :: .ref a :: r) (mg_h L xs I) Q := by
  subst hp; subst hi
  refine me_ofh hl rfl rfl rfl rfl ?_ k
  simp only [mj_sh]
  rw [if_pos ⟨ha, by rw [me_sh ha, hs], by rw [me_sh ha, hs]; exact me_inI hj hn⟩, nI_clamp (by omega), mg_get ha hr]
theorem me_cald {a j n : Nat} {i : Int32} (hl : mj_look (mj_prog y) pc = some (.caload, 1, a0, b0)) (hp : pc + 1 = p') (ha : a < 149) (hs : mg_tbl.getD a (99, 0) = (22, n)) (hi : i = nI j) (hj : j < n) (hn : n < 10000) (hr : mg_rc a j = 0) (k : mj_Ev d y p' ls (.int (I a j) :: r) (mg_h L xs I) Q) : mj_Ev d y pc ls (.int i :: .ref a :: r) (mg_h L xs I) Q := by
  subst hp; subst hi
  refine me_ofh hl rfl rfl rfl rfl ?_ k
  simp only [mj_sh]
  rw [if_pos ⟨ha, by rw [me_sh ha, hs], by rw [me_sh ha, hs]; exact me_inI hj hn⟩, nI_clamp (by omega), mg_get ha hr]
theorem me_zast {a j n : Nat} {i x v : Int32} (hl : mj_look (mj_prog y) pc = some (.bastore, 1, a0, b0)) (hp : pc + 1 = p') (ha : a < 149) (hs : mg_tbl.getD a (99, 0) = (21, n)) (hi : i = nI j) (hj : j < n) (hn : n < 10000) (hr : mg_rc a j = 0) (hv : x &&& 1 = v) (k : mj_Ev d y p' ls r (mg_h L xs (mg_u I a j v)) Q) : mj_Ev d y pc ls (.int x :: .int i :: .ref a :: r) (mg_h L xs I) Q := by
  subst hp; subst hi; subst hv
  refine me_ofh (h' := mg_h L xs (mg_u I a j (x &&& 1))) hl rfl rfl rfl rfl ?_ k
  simp only [mj_sh]
  rw [if_pos ⟨ha, by rw [me_sh ha, hs], by rw [me_sh ha, hs]; exact me_inI hj hn⟩, nI_clamp (by omega)]
  unfold mj_st narrow
  dsimp only
  rw [mg_put ha hr]
theorem me_aald {a j n t b : Nat} {i : Int32} (hl : mj_look (mj_prog y) pc = some (.aaload, 1, a0, b0)) (hp : pc + 1 = p') (ha : a < 149) (hs : mg_tbl.getD a (99, 0) = (t, n)) (ht : 23 ≤ t ∧ t < 28) (hi : i = nI j) (hj : j < n) (hn : n < 10000) (hr : mg_rc a j = b + 2) (k : mj_Ev d y p' ls (.ref b :: r) (mg_h L xs I) Q) : mj_Ev d y pc ls (.int i :: .ref a :: r) (mg_h L xs I) Q := by
  subst hp; subst hi
  refine me_ofh hl rfl rfl rfl rfl ?_ k
  simp only [mj_sh]
  rw [if_pos ⟨ha, by rw [me_sh ha, hs]; exact ht.1, by rw [me_sh ha, hs]; exact ht.2, by rw [me_sh ha, hs]; exact me_inI hj hn⟩, nI_clamp (by omega), mg_ref ha hr]
/-- System.arraycopy, of numbers -/
def mg_c (I : Nat → Nat → Int32) (a sp b dp n : Nat) : Nat → Nat → Int32 := fun i k => if i = b ∧ dp ≤ k ∧ k < dp + n then I a (sp + (k - dp)) else I i k
theorem me_acp {i bb a b sp dp n la lb : Nat} {x1 x2 x3 : Int32} (hl : mj_look (mj_prog y) pc = some (.invokestatic i, 3, 3001, bb)) (hp : pc + 3 = p') (ha : a < 149) (hb : b < 149) (hsa : mg_tbl.getD a (99, 0) = (20, la)) (hsb : mg_tbl.getD b (99, 0) = (20, lb)) (h1 : x1 = nI n) (h2 : x2 = nI dp) (h3 : x3 = nI sp) (h4 : sp + n ≤ la) (h5 : dp + n ≤ lb) (hn : la < 10000 ∧ lb < 10000) (hra : ∀ k, mg_rc a k = 0) (hrb : ∀ k, mg_rc b k = 0) (hr : mj_sum r ≤ 8) (k : mj_Ev d y p' ls r (mg_h L xs (mg_c I a sp b dp n)) Q) : mj_Ev d y pc ls (.int x1 :: .int x2 :: .ref b :: .int x3 :: .ref a :: r) (mg_h L xs I) Q := by
  subst hp; subst h1; subst h2; subst h3
  refine me_ofh (h' := mg_h L xs (mg_c I a sp b dp n)) hl rfl rfl rfl rfl ?_ k
  simp only [mj_sh]
  rw [nI_clamp (by omega), nI_clamp (by omega), nI_clamp (by omega)]
  rw [if_pos ⟨trivial, ha, hb, by rw [me_sh ha, hsa], by rw [me_sh hb, hsb], nI_pos (by omega), nI_pos (by omega), nI_pos (by omega), by rw [me_sh ha, hsa]; exact h4, by rw [me_sh hb, hsb]; exact h5, fun j hj => by rw [mg_get ha (hra _)]; rfl, hr⟩]
  have e : mj_cpy (mg_V xs I) a sp b dp n = mg_V xs (mg_c I a sp b dp n) := by
    funext q j
    unfold mj_cpy
    by_cases hq : q = b
    · subst hq
      rw [if_pos rfl]
      by_cases hj : dp ≤ j ∧ j < dp + n
      · rw [if_pos hj, mg_get ha (hra _), mg_get hb (hrb _)]
        simp [mg_c, hj]
      · rw [if_neg hj, mg_get hb (hrb _), mg_get hb (hrb _)]
        simp [mg_c, hj]
    · rw [if_neg hq]
      unfold mg_V mg_c
      simp only [hq, false_and, if_false]
  rw [e]
theorem cl_le {c m : Nat} {as : List Value} (h : (mj_m c).2.2.1 = m) (hb : Nat.ble as.length m = true) : as.length ≤ (mj_m c).2.2.1 := by
  rw [h]; exact Nat.le_of_ble_eq_true hb
theorem cl_sum {rest : List Value} (hb : Nat.ble (mj_sum rest) 8 = true) : mj_sum rest ≤ 8 := Nat.le_of_ble_eq_true hb
theorem cl_start {n : Nat} {as : List Value} (h : (mj_m y).2.2.1 = n) (he : mj_ent n as = ls) (k : mj_Ev d y 0 ls [] (mg_h L xs I) Q) : mj_Cl d y as (mg_h L xs I) Q := by
  unfold mj_Cl
  rw [h, he]
  exact k
theorem me_reti {t : FieldType} {v : Int32} (hl : mj_look (mj_prog y) pc = some (.ireturn, 1, a0, b0)) (ht : (mj_m y).2.2.2.1 = some t) (hn : narrow t (.int v) = .int v) (H : Q (some (.int v)) h) : mj_Ev d y pc ls [.int v] h Q :=
  mj_Ev.ret hl (by rw [ht]; simp only [mj_ret]; rw [if_pos hn]) H
theorem me_retl {v : Int64} (hl : mj_look (mj_prog y) pc = some (.lreturn, 1, a0, b0)) (ht : (mj_m y).2.2.2.1 = some .long) (H : Q (some (.long v)) h) : mj_Ev d y pc ls [.long v] h Q :=
  mj_Ev.ret hl (by rw [ht]; rfl) H
theorem me_reta {n : String} {v : Nat} (hl : mj_look (mj_prog y) pc = some (.areturn, 1, a0, b0)) (ht : (mj_m y).2.2.2.1 = some (.object n)) (H : Q (some (.ref v)) h) : mj_Ev d y pc ls [.ref v] h Q :=
  mj_Ev.ret hl (by rw [ht]; rfl) H
theorem me_retv (hl : mj_look (mj_prog y) pc = some (.return_, 1, a0, b0)) (ht : (mj_m y).2.2.2.1 = none) (H : Q none h) : mj_Ev d y pc ls [] h Q :=
  mj_Ev.ret hl (by rw [ht]; rfl) H
theorem me_cs {i c n : Nat} {st as rest : List Value} (hl : mj_look (mj_prog y) pc = some (.invokestatic i, 3, c, n)) (hp : pc + 3 = p') (hn : Nat.ble n st.length = true) (hrest : st.drop n = rest) (has : (st.take n).reverse = as) (hk : as.all mj_cat1 = true) (hlen : as.length ≤ (mj_m c).2.2.1) (hy : c < 219) (hr : mj_sum rest ≤ 8) (H : mj_Cl d c as h (fun v h' => mj_Ev (d + 1) y p' ls (v.toList ++ rest) h' Q)) : mj_Ev (d + 1) y pc ls st h Q := by
  subst hp; subst hrest; subst has
  refine mj_Ev.call hl rfl ?_ H
  simp only [mj_call]
  rw [if_pos ⟨by omega, Nat.le_of_ble_eq_true hn⟩]
  unfold mj_arg
  rw [if_pos ⟨hk, hlen, hy, hr⟩]
theorem me_cv {i c c' n a t : Nat} {st as rest : List Value} (hl : mj_look (mj_prog y) pc = some (.invokevirtual i, 3, c, n)) (hp : pc + 3 = p') (hd : st.drop n = .ref a :: rest) (ha : a < 149) (ht : (mg_tbl.getD a (99, 0)).1 = t) (hc : c < 2000) (ht13 : t < 13) (hdi : mj_disp c t = some c') (has : .ref a :: (st.take n).reverse = as) (hk : as.all mj_cat1 = true) (hlen : as.length ≤ (mj_m c').2.2.1) (hy : c' < 219) (hr : mj_sum rest ≤ 8) (H : mj_Cl d c' as (mg_h L xs I) (fun v h' => mj_Ev (d + 1) y p' ls (v.toList ++ rest) h' Q)) : mj_Ev (d + 1) y pc ls st (mg_h L xs I) Q := by
  subst hp; subst has
  refine mj_Ev.call hl rfl ?_ H
  simp only [mj_call]
  rw [hd]
  dsimp only
  rw [me_sh ha, ht, if_pos ⟨hc, ha, ht13⟩, hdi]
  dsimp only
  unfold mj_arg
  rw [if_pos ⟨hk, hlen, hy, hr⟩]
theorem me_ci {i c n a t : Nat} {st as rest : List Value} (hl : mj_look (mj_prog y) pc = some (.invokespecial i, 3, c, n)) (hp : pc + 3 = p') (hd : st.drop n = .ref a :: rest) (ha : a < 149) (ht : (mg_tbl.getD a (99, 0)).1 = t) (ht13 : t < 13) (has : .ref a :: (st.take n).reverse = as) (hk : as.all mj_cat1 = true) (hlen : as.length ≤ (mj_m c).2.2.1) (hy : c < 219) (hr : mj_sum rest ≤ 8) (H : mj_Cl d c as (mg_h L xs I) (fun v h' => mj_Ev (d + 1) y p' ls (v.toList ++ rest) h' Q)) : mj_Ev (d + 1) y pc ls st (mg_h L xs I) Q := by
  subst hp; subst has
  refine mj_Ev.call hl rfl ?_ H
  simp only [mj_call]
  rw [hd]
  dsimp only
  rw [me_sh ha, ht, if_pos ⟨by omega, ha, ht13⟩]
  unfold mj_arg
  rw [if_pos ⟨hk, hlen, hy, hr⟩]
end EV
theorem mI_add (a b : Nat) : nI a + nI b = nI (a + b) := by simp [nI, Int32.ofNat_add]
theorem mI_mul (a b : Nat) : nI a * nI b = nI (a * b) := by simp [nI, Int32.ofNat_mul]
theorem mI_inc {a k : Nat} {m : Int} (h : Int32.ofInt m = nI k) : nI a + Int32.ofInt m = nI (a + k) := by rw [h, mI_add]
theorem mI_div {a b : Nat} (h1 : a < 2 ^ 31) (h2 : b < 2 ^ 31) : nI a / nI b = nI (a / b) := by
  have h3 : a / b ≤ a := Nat.div_le_self a b
  apply Int32.toInt_inj.mp
  rw [Int32.toInt_div, nI_toInt h1, nI_toInt h2, nI_toInt (by omega), ← Int.ofNat_tdiv]
  generalize a / b = q at h3 ⊢
  exact Int.bmod_eq_of_le_mul_two (by omega) (by omega)
theorem mI_mod {a b : Nat} (h1 : a < 2 ^ 31) (h2 : b < 2 ^ 31) : nI a % nI b = nI (a % b) := by
  have h3 : a % b ≤ a := Nat.mod_le a b
  apply Int32.toInt_inj.mp
  rw [Int32.toInt_mod, nI_toInt h1, nI_toInt h2, nI_toInt (by omega), ← Int.ofNat_tmod]
theorem cI_lt {a b : Nat} (h1 : a < 2 ^ 31) (h2 : b < 2 ^ 31) : nI a < nI b ↔ a < b := by
  rw [Int32.lt_iff_toInt_lt, nI_toInt h1, nI_toInt h2]; omega
theorem cI_le {a b : Nat} (h1 : a < 2 ^ 31) (h2 : b < 2 ^ 31) : nI a ≤ nI b ↔ a ≤ b := by
  rw [Int32.le_iff_toInt_le, nI_toInt h1, nI_toInt h2]; omega
theorem cI_eq {a b : Nat} (h1 : a < 2 ^ 31) (h2 : b < 2 ^ 31) : nI a = nI b ↔ a = b := by
  rw [← Int32.toInt_inj, nI_toInt h1, nI_toInt h2]; omega
theorem cI_eq0 {a : Nat} (h1 : a < 2 ^ 31) : nI a = 0 ↔ a = 0 := by
  rw [← Int32.toInt_inj, nI_toInt h1, Int32.toInt_zero]; omega
theorem cI_lt0 {a : Nat} (h1 : a < 2 ^ 31) : nI a < 0 ↔ False := by
  rw [Int32.lt_iff_toInt_lt, nI_toInt h1, Int32.toInt_zero]; exact ⟨fun h => by omega, fun h => h.elim⟩
theorem cI_ge0 {a : Nat} (h1 : a < 2 ^ 31) : 0 ≤ nI a ↔ True := by
  rw [Int32.le_iff_toInt_le, nI_toInt h1, Int32.toInt_zero]; exact ⟨fun _ => trivial, fun _ => by omega⟩
theorem cI_gt0 {a : Nat} (h1 : a < 2 ^ 31) : 0 < nI a ↔ 0 < a := by
  rw [Int32.lt_iff_toInt_lt, nI_toInt h1, Int32.toInt_zero]; omega
theorem cI_le0 {a : Nat} (h1 : a < 2 ^ 31) : nI a ≤ 0 ↔ a = 0 := by
  rw [Int32.le_iff_toInt_le, nI_toInt h1, Int32.toInt_zero]; omega
/-- an Int32 that is not below 0 -/
theorem mI_of {x : Int32} (h : 0 ≤ x) : ∃ n : Nat, x = nI n ∧ n < 2 ^ 31 := by
  rw [Int32.le_iff_toInt_le, Int32.toInt_zero] at h
  have h2 := Int32.toInt_lt x
  refine ⟨x.toInt.toNat, ?_, by omega⟩
  apply Int32.toInt_inj.mp
  rw [nI_toInt (by omega)]
  omega
