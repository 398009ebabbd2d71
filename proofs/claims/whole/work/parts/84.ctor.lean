/-! ===== the constructors, run ===== -/
def hC0 : mj_H := (0, 0, fun _ => (99, 0), fun _ _ => .int 0)
def hC1 : mj_H := mj_new hC0 11 11 (fun k => defaultValue (mj_fty 11 k))
def rC1 : Option (Option Value × mj_H) := mj_run 2000 20 0 0 (mj_ent (mj_m 0).2.2.1 [.ref 0]) [] hC1
def hC2 : mj_H := (rC1.getD (none, hC0)).2
def hC3 : mj_H := mj_new hC2 12 34 (fun k => defaultValue (mj_fty 12 k))
def rC2 : Option (Option Value × mj_H) := mj_run 2000 20 132 0 (mj_ent (mj_m 132).2.2.1 [.ref 127]) [] hC3
def hC4 : mj_H := (rC2.getD (none, hC0)).2
def isNo : Option (Option Value × mj_H) → Bool
  | some (none, _) => true
  | _ => false
theorem isNo_of {r : Option (Option Value × mj_H)} {x : mj_H} (h : isNo r = true) : r = some (none, (r.getD (none, x)).2) := by
  unfold isNo at h
  split at h
  · rfl
  · cases h
theorem rC1_ok : isNo rC1 = true := by decide +kernel
theorem hC2_n : hC2.1 = 127 := by decide +kernel
theorem rC2_ok : isNo rC2 = true := by decide +kernel
theorem hC4_n : hC4.1 = 149 ∧ hC4.2.1 = 9131 := by decide +kernel
/-- the numbers that are not 0 -/
def mI0L : List (Nat × Nat × Int32) := [(11, 6, 10), (11, 8, 1), (25, 0, (-1)), (25, 1, (-1)), (25, 2, (-1)), (26, 6, 10), (26, 8, 1), (40, 0, (-1)), (40, 1, (-1)), (40, 2, (-1)), (41, 6, 10), (41, 8, 1), (55, 0, (-1)), (55, 1, (-1)), (55, 2, (-1)), (104, 1, (-1)), (106, 1, (-1)), (108, 1, (-1)), (110, 1, (-1)), (113, 1, (-1)), (116, 1, (-1)), (119, 1, (-1)), (122, 1, (-1)), (125, 1, (-1)), (127, 4, (-1)), (128, 0, 1), (128, 3, 10), (133, 0, 112), (133, 1, 97), (133, 2, 99), (133, 3, 101), (133, 4, 102), (133, 5, 101), (133, 6, 101), (133, 7, 102), (133, 8, 105), (133, 9, 110), (133, 10, 101), (134, 1, 4), (134, 2, 7), (134, 3, 11), (140, 0, (-1)), (140, 1, (-1)), (140, 2, (-1)), (140, 3, (-1))]
def mI0g (i k : Nat) : List (Nat × Nat × Int32) → Int32
  | [] => 0
  | q :: l => if q.1 = i ∧ q.2.1 = k then q.2.2 else mI0g i k l
def mI0 (i k : Nat) : Int32 := mI0g i k mI0L
def vEq : Value → Value → Bool
  | .int a, .int b => decide (a = b)
  | .ref a, .ref b => decide (a = b)
  | .null, .null => true
  | _, _ => false
theorem vEq_of {a b : Value} (h : vEq a b = true) : a = b := by
  unfold vEq at h
  split at h
  · rw [of_decide_eq_true h]
  · rw [of_decide_eq_true h]
  · rfl
  · cases h
def cBd (q : Nat × Nat) : Nat := if q.1 < 20 then max q.2 40 else q.2
def cChk (i : Nat) : Bool := decide (hC4.2.2.1 i = mg_tbl.getD i (99, 0)) && (List.range (cBd (mg_tbl.getD i (99, 0)))).all fun k => vEq (mg_V (fun _ => 0) mI0 i k) (hC4.2.2.2 i k)
theorem cChk_1 : (List.range' 0 59).all cChk = true := by decide +kernel
