/-! ===== the good words of the tables, and the program's check ===== -/
def mj_T : List Cond := lw_tbl.filter goodWord
def mj_wp (w : Cond) (q : Nat) : Bool := decide (lw_tbl[q]? = some w) && goodWord w
theorem mj_wp_in {w : Cond} {q : Nat} (h : mj_wp w q = true) : w ∈ mj_T := by
  unfold mj_wp at h
  rw [Bool.and_eq_true, decide_eq_true_eq] at h
  exact List.mem_filter.mpr ⟨List.mem_of_getElem? h.1, h.2⟩
def mj_wps : List Cond → List Nat → Bool
  | [], _ => true
  | w :: l, q :: r => mj_wp w q && mj_wps l r
  | _ :: _, [] => false
theorem mj_wps_in : ∀ {ws : List Cond} {qs : List Nat}, mj_wps ws qs = true → ∀ w ∈ ws, w ∈ mj_T
  | [], _, _, w, hw => by cases hw
  | w0 :: l, [], h, w, hw => by cases h
  | w0 :: l, q :: r, h, w, hw => by
    simp only [mj_wps, Bool.and_eq_true] at h
    rcases List.mem_cons.mp hw with rfl | hw
    · exact mj_wp_in h.1
    · exact mj_wps_in h.2 w hw
def mj_Y (y : Nat) : MethodName := (mj_m y).1
def mj_C (y : Nat) : Cond := .code (mj_m y).1 (mj_m y).2.1 (mj_m y).2.2.1 (mj_m y).2.2.2.1
/-- the words that a call of a kind links (0 static, 1 of a nest mate, 2 <init>, 3 of a nest mate, 4 super, 5 virtual) -/
def mj_cw (own : String) (i k y : Nat) : List Cond :=
  match k with
  | 0 => [.methodLink own i (mj_Y y), .static (mj_Y y), .initialized (mj_Y y).cls]
  | 1 => [.static (mj_Y y), .initialized (mj_Y y).cls]
  | 2 => [.methodLink own i (mj_Y y), .instanceMethod (mj_Y y), .initialized (mj_Y y).cls]
  | 3 => [.instanceMethod (mj_Y y), .initialized (mj_Y y).cls]
  | 4 => [.methodLink own i (mj_Y y), .sameMethod (mj_Y y).cls (mj_Y y).cls (mj_Y y).name (mj_Y y).desc, .superclass own (mj_Y y).cls, .instanceMethod (mj_Y y), .initialized (mj_Y y).cls]
  | _ => [.methodLink own i (mj_Y y), .instanceMethod (mj_Y y), .selects (mj_Y y).cls (mj_Y y) (mj_Y y), .initialized (mj_Y y).cls]
/-- the method that a group is named by -/
def mj_gx (g : Nat) : MethodName := ([⟨"GhostTrain$CarKind", "isUnder", "(I)Z"⟩, ⟨"GhostTrain$CarKind", "gains", "(III)I"⟩, ⟨"GhostTrain$CarKind", "loudness", "()I"⟩, ⟨"GhostTrain$CarKind", "worthOf", "(I)I"⟩] : List MethodName).getD (g - 1000) ⟨"", "", ""⟩
def mj_gy (g : Nat) : Nat := (mj_dt.getD (g - 1000) []).getD 1 0
def mj_gw (own : String) (i g : Nat) : List Cond := [.methodLink own i (mj_gx g), .sameMethod "GhostTrain$CarKind" "GhostTrain$CarKind" (mj_gx g).name (mj_gx g).desc, .instanceMethod (mj_gx g)]
def mj_gt (g t : Nat) : List Cond := [.selects (mj_own t) (mj_gx g) (mj_Y ((mj_dt.getD (g - 1000) []).getD t 0)), .instanceMethod (mj_Y ((mj_dt.getD (g - 1000) []).getD t 0)), .initialized (mj_Y ((mj_dt.getD (g - 1000) []).getD t 0)).cls]
def mj_plen (y n : Nat) : Bool := decide ((parseMethodDescriptor (mj_Y y).desc).map (fun d => d.parameters.length) = some n)
def mj_notMH (y : Nat) : Bool := decide ((mj_Y y).cls ≠ "java/lang/invoke/MethodHandle") && decide ((mj_Y y).cls ≠ "java/lang/invoke/VarHandle")
/-- a row of mj_cl is right -/
def mj_clok (r : Nat × Nat × Nat × Nat × Nat × List Nat × List (List Nat)) : Bool :=
  if r.2.2.1 = 6 then mj_wps (mj_gw (mj_own r.1) r.2.1 r.2.2.2.1) r.2.2.2.2.2.1 && ((List.range 6).all fun t => mj_wps (mj_gt r.2.2.2.1 t) (r.2.2.2.2.2.2.getD t [])) && decide (mj_Y (mj_gy r.2.2.2.1) = mj_gx r.2.2.2.1) && ((List.range 6).all fun t => mj_plen ((mj_dt.getD (r.2.2.2.1 - 1000) []).getD t 0) r.2.2.2.2.1 && mj_notMH ((mj_dt.getD (r.2.2.2.1 - 1000) []).getD t 0)) && decide ((mj_dt.getD (r.2.2.2.1 - 1000) []).length = 6) && decide (1000 ≤ r.2.2.2.1)
  else mj_wps (mj_cw (mj_own r.1) r.2.1 r.2.2.1 r.2.2.2.1) r.2.2.2.2.2.1 && mj_plen r.2.2.2.1 r.2.2.2.2.1 && mj_notMH r.2.2.2.1 && decide (r.2.2.2.1 < 1000) &&
    (match r.2.2.1 with
      | 1 => decide (Cond.methodLinkNest (mj_own r.1) r.2.1 (mj_Y r.2.2.2.1) "GhostTrain" ∈ mj_nw)
      | 2 => decide ((mj_Y r.2.2.2.1).name = "<init>") && decide ((mj_m r.2.2.2.1).2.2.2.1 = none)
      | 3 => decide ((mj_Y r.2.2.2.1).name = "<init>") && decide ((mj_m r.2.2.2.1).2.2.2.1 = none) && decide (Cond.methodLinkNest (mj_own r.1) r.2.1 (mj_Y r.2.2.2.1) "GhostTrain" ∈ mj_nw)
      | 4 => decide ((mj_Y r.2.2.2.1).name ≠ "<init>")
      | 5 => decide (mj_own (mj_m r.2.2.2.1).2.2.2.2 = (mj_Y r.2.2.2.1).cls)
      | _ => true)
theorem mj_chunk {α : Type} {l : List α} {P : α → Bool} {n m : Nat} (hlen : l.length ≤ n * m) (hn : 0 < n) (h : ∀ i, i < m → ((l.drop (n * i)).take n).all P = true) : l.all P = true := by
  refine List.all_eq_true.mpr fun q hq => ?_
  obtain ⟨j, hj⟩ := List.getElem?_of_mem hq
  have hjl : j < l.length := (List.getElem?_eq_some_iff.mp hj).1
  have h1 : n * (j / n) + j % n = j := Nat.div_add_mod j n
  have h2 : j % n < n := Nat.mod_lt _ hn
  have h3 : j / n < m := Nat.div_lt_of_lt_mul (by omega)
  have e : ((l.drop (n * (j / n))).take n)[j % n]? = some q := by
    rw [List.getElem?_take_of_lt h2, List.getElem?_drop, h1]
    exact hj
  exact List.all_eq_true.mp (h _ h3) q (List.mem_of_getElem? e)
set_option maxRecDepth 1000000 in
theorem mj_clc0 : ((mj_cl.drop (16 * 0)).take 16).all mj_clok = true := by decide +kernel
set_option maxRecDepth 1000000 in
theorem mj_clc1 : ((mj_cl.drop (16 * 1)).take 16).all mj_clok = true := by decide +kernel
set_option maxRecDepth 1000000 in
theorem mj_clc2 : ((mj_cl.drop (16 * 2)).take 16).all mj_clok = true := by decide +kernel
set_option maxRecDepth 1000000 in
theorem mj_clc3 : ((mj_cl.drop (16 * 3)).take 16).all mj_clok = true := by decide +kernel
set_option maxRecDepth 1000000 in
theorem mj_clc4 : ((mj_cl.drop (16 * 4)).take 16).all mj_clok = true := by decide +kernel
set_option maxRecDepth 1000000 in
theorem mj_clc5 : ((mj_cl.drop (16 * 5)).take 16).all mj_clok = true := by decide +kernel
set_option maxRecDepth 1000000 in
theorem mj_clc6 : ((mj_cl.drop (16 * 6)).take 16).all mj_clok = true := by decide +kernel
set_option maxRecDepth 1000000 in
theorem mj_clc7 : ((mj_cl.drop (16 * 7)).take 16).all mj_clok = true := by decide +kernel
set_option maxRecDepth 1000000 in
theorem mj_clc8 : ((mj_cl.drop (16 * 8)).take 16).all mj_clok = true := by decide +kernel
set_option maxRecDepth 1000000 in
theorem mj_clc9 : ((mj_cl.drop (16 * 9)).take 16).all mj_clok = true := by decide +kernel
set_option maxRecDepth 1000000 in
theorem mj_clc10 : ((mj_cl.drop (16 * 10)).take 16).all mj_clok = true := by decide +kernel
set_option maxRecDepth 1000000 in
theorem mj_clc11 : ((mj_cl.drop (16 * 11)).take 16).all mj_clok = true := by decide +kernel
set_option maxRecDepth 1000000 in
theorem mj_clc12 : ((mj_cl.drop (16 * 12)).take 16).all mj_clok = true := by decide +kernel
set_option maxRecDepth 1000000 in
theorem mj_clc13 : ((mj_cl.drop (16 * 13)).take 16).all mj_clok = true := by decide +kernel
set_option maxRecDepth 1000000 in
theorem mj_clc14 : ((mj_cl.drop (16 * 14)).take 16).all mj_clok = true := by decide +kernel
theorem mj_cl_ok : mj_cl.all mj_clok = true := by
  refine mj_chunk (n := 16) (m := 15) (by decide +kernel) (by decide) fun i hi => ?_
  match i, hi with
  | 0, _ => exact mj_clc0
  | 1, _ => exact mj_clc1
  | 2, _ => exact mj_clc2
  | 3, _ => exact mj_clc3
  | 4, _ => exact mj_clc4
  | 5, _ => exact mj_clc5
  | 6, _ => exact mj_clc6
  | 7, _ => exact mj_clc7
  | 8, _ => exact mj_clc8
  | 9, _ => exact mj_clc9
  | 10, _ => exact mj_clc10
  | 11, _ => exact mj_clc11
  | 12, _ => exact mj_clc12
  | 13, _ => exact mj_clc13
  | 14, _ => exact mj_clc14
  | k + 15, h => omega
def mj_flok (r : Nat × Nat × Nat × Nat × Nat) : Bool :=
  match vwCl[r.2.2.1]? with
  | some q => mj_wp (.fieldLink (mj_own r.1) r.2.1 (q.2.1 r.2.2.2.1).1 (q.2.1 r.2.2.2.1).2.1 (q.2.1 r.2.2.2.1).2.2.1) r.2.2.2.2 && decide (r.2.2.2.1 < q.2.2) && decide (q.1 = (q.2.1 r.2.2.2.1).1)
  | none => false
set_option maxRecDepth 1000000 in
theorem mj_fl_ok : mj_fl.all mj_flok = true := by decide +kernel
def mj_klok (r : Nat × Nat × Nat × Nat) : Bool := mj_wp (.constant (mj_own r.1) r.2.1 (Int32.ofNat r.2.2.1)) r.2.2.2
set_option maxRecDepth 1000000 in
theorem mj_kl_ok : mj_kl.all mj_klok = true := by decide +kernel
def mj_nlok (r : Nat × Nat × Nat × List Nat) : Bool :=
  match vwCl[r.2.2.1]? with
  | some q => mj_wps [.classLink (mj_own r.1) r.2.1 q.1, .instantiable q.1 q.2.2, .initialized q.1] r.2.2.2
  | none => false
set_option maxRecDepth 1000000 in
theorem mj_nl_ok : mj_nl.all mj_nlok = true := by decide +kernel
def mj_alok (r : Nat × Nat × Nat × Nat) : Bool := mj_wp (.classLink (mj_own r.1) r.2.1 (if r.2.2.1 = 27 then "[[I" else match mj_ty r.2.2.1 with | .object C => C | _ => "")) r.2.2.2
set_option maxRecDepth 1000000 in
theorem mj_al_ok : mj_al.all mj_alok = true := by decide +kernel
def mj_olok (r : Nat × Nat × Nat) : Bool := mj_wps [.methodLink (mj_own r.1) r.2.1 objectInit, .instanceMethod objectInit, .code objectInit ⟨#[0xb1]⟩ 1 none] [r.2.2, 76, 77]
set_option maxRecDepth 1000000 in
theorem mj_ol_ok : mj_ol.all mj_olok = true := by decide +kernel
def mj_acok (r : Nat × Nat × Nat) : Bool := mj_wps [.methodLink (mj_own r.1) r.2.1 arraycopyName, .native arraycopyName, .static arraycopyName, .initialized "java/lang/System"] [r.2.2, 550, 549, 64]
set_option maxRecDepth 1000000 in
theorem mj_ac_ok : mj_acl.all mj_acok = true := by decide +kernel
def mj_llok (k : Nat) : Bool := match vwCl[k]? with
  | some q => mj_wps (u_ws q.1 q.2.1 q.2.2) (mj_ll.getD k [])
  | none => true
set_option maxRecDepth 1000000 in
theorem mj_ll_ok : (List.range 13).all mj_llok = true := by decide +kernel
theorem mj_ac_int : Cond.arrayClass .int ∈ mj_T := mj_wp_in (q := 147) (by decide +kernel)
theorem mj_ac_bool : Cond.arrayClass .boolean ∈ mj_T := mj_wp_in (q := 1033) (by decide +kernel)
theorem mj_ac_char : Cond.arrayClass .char ∈ mj_T := mj_wp_in (q := 1032) (by decide +kernel)
def mj_mlok (r : Nat × Nat × Nat × Nat) : Bool :=
  if r.2.2.1 = 3005 then mj_wps [.methodLink (mj_own r.1) r.2.1 Lib.Math.max.name, .static Lib.Math.max.name, .initialized "java/lang/Math", .code Lib.Math.max.name Lib.Math.max.code 2 (some .int)] [r.2.2.2, 359, 63, 360]
  else if r.2.2.1 = 3006 then mj_wps [.methodLink (mj_own r.1) r.2.1 Lib.Math.min.name, .static Lib.Math.min.name, .initialized "java/lang/Math", .code Lib.Math.min.name Lib.Math.min.code 2 (some .int)] [r.2.2.2, 356, 63, 357]
  else mj_wps [.methodLink (mj_own r.1) r.2.1 Lib.Math.abs.name, .static Lib.Math.abs.name, .initialized "java/lang/Math", .code Lib.Math.abs.name Lib.Math.abs.code 1 (some .int)] [r.2.2.2, 621, 63, 622] && decide (r.2.2.1 = 3007)
set_option maxRecDepth 1000000 in
theorem mj_ml_ok : mj_ml.all mj_mlok = true := by decide +kernel
theorem mj_tin {w : Cond} {q : Nat} (h : lw_tbl[q]? = some w) (hg : goodWord w = true) : w ∈ mj_T := List.mem_filter.mpr ⟨List.mem_of_getElem? h, hg⟩
set_option maxRecDepth 1000000 in
theorem mj_ci0 : mj_C 0 ∈ mj_T := mj_tin (q := 74) rfl rfl
set_option maxRecDepth 1000000 in
theorem mj_ci1 : mj_C 1 ∈ mj_T := mj_tin (q := 83) rfl rfl
set_option maxRecDepth 1000000 in
theorem mj_ci2 : mj_C 2 ∈ mj_T := mj_tin (q := 90) rfl rfl
set_option maxRecDepth 1000000 in
theorem mj_ci3 : mj_C 3 ∈ mj_T := mj_tin (q := 97) rfl rfl
set_option maxRecDepth 1000000 in
theorem mj_ci4 : mj_C 4 ∈ mj_T := mj_tin (q := 104) rfl rfl
set_option maxRecDepth 1000000 in
theorem mj_ci5 : mj_C 5 ∈ mj_T := mj_tin (q := 111) rfl rfl
set_option maxRecDepth 1000000 in
theorem mj_ci6 : mj_C 6 ∈ mj_T := mj_tin (q := 118) rfl rfl
set_option maxRecDepth 1000000 in
theorem mj_ci7 : mj_C 7 ∈ mj_T := mj_tin (q := 127) rfl rfl
set_option maxRecDepth 1000000 in
theorem mj_ci8 : mj_C 8 ∈ mj_T := mj_tin (q := 152) rfl rfl
set_option maxRecDepth 1000000 in
theorem mj_ci9 : mj_C 9 ∈ mj_T := mj_tin (q := 202) rfl rfl
set_option maxRecDepth 1000000 in
theorem mj_ci10 : mj_C 10 ∈ mj_T := mj_tin (q := 226) rfl rfl
set_option maxRecDepth 1000000 in
theorem mj_ci11 : mj_C 11 ∈ mj_T := mj_tin (q := 244) rfl rfl
set_option maxRecDepth 1000000 in
theorem mj_ci12 : mj_C 12 ∈ mj_T := mj_tin (q := 306) rfl rfl
set_option maxRecDepth 1000000 in
theorem mj_ci13 : mj_C 13 ∈ mj_T := mj_tin (q := 309) rfl rfl
set_option maxRecDepth 1000000 in
theorem mj_ci14 : mj_C 14 ∈ mj_T := mj_tin (q := 312) rfl rfl
set_option maxRecDepth 1000000 in
theorem mj_ci15 : mj_C 15 ∈ mj_T := mj_tin (q := 315) rfl rfl
set_option maxRecDepth 1000000 in
theorem mj_ci16 : mj_C 16 ∈ mj_T := mj_tin (q := 318) rfl rfl
set_option maxRecDepth 1000000 in
theorem mj_ci17 : mj_C 17 ∈ mj_T := mj_tin (q := 324) rfl rfl
set_option maxRecDepth 1000000 in
theorem mj_ci18 : mj_C 18 ∈ mj_T := mj_tin (q := 328) rfl rfl
set_option maxRecDepth 1000000 in
theorem mj_ci19 : mj_C 19 ∈ mj_T := mj_tin (q := 332) rfl rfl
set_option maxRecDepth 1000000 in
theorem mj_ci20 : mj_C 20 ∈ mj_T := mj_tin (q := 336) rfl rfl
set_option maxRecDepth 1000000 in
theorem mj_ci21 : mj_C 21 ∈ mj_T := mj_tin (q := 340) rfl rfl
set_option maxRecDepth 1000000 in
theorem mj_ci22 : mj_C 22 ∈ mj_T := mj_tin (q := 344) rfl rfl
set_option maxRecDepth 1000000 in
theorem mj_ci23 : mj_C 23 ∈ mj_T := mj_tin (q := 347) rfl rfl
set_option maxRecDepth 1000000 in
theorem mj_ci24 : mj_C 24 ∈ mj_T := mj_tin (q := 351) rfl rfl
set_option maxRecDepth 1000000 in
theorem mj_ci25 : mj_C 25 ∈ mj_T := mj_tin (q := 354) rfl rfl
set_option maxRecDepth 1000000 in
theorem mj_ci26 : mj_C 26 ∈ mj_T := mj_tin (q := 367) rfl rfl
set_option maxRecDepth 1000000 in
theorem mj_ci27 : mj_C 27 ∈ mj_T := mj_tin (q := 370) rfl rfl
set_option maxRecDepth 1000000 in
theorem mj_ci28 : mj_C 28 ∈ mj_T := mj_tin (q := 374) rfl rfl
set_option maxRecDepth 1000000 in
theorem mj_ci29 : mj_C 29 ∈ mj_T := mj_tin (q := 377) rfl rfl
set_option maxRecDepth 1000000 in
theorem mj_ci30 : mj_C 30 ∈ mj_T := mj_tin (q := 381) rfl rfl
set_option maxRecDepth 1000000 in
theorem mj_ci31 : mj_C 31 ∈ mj_T := mj_tin (q := 385) rfl rfl
set_option maxRecDepth 1000000 in
theorem mj_ci32 : mj_C 32 ∈ mj_T := mj_tin (q := 389) rfl rfl
set_option maxRecDepth 1000000 in
theorem mj_ci33 : mj_C 33 ∈ mj_T := mj_tin (q := 398) rfl rfl
set_option maxRecDepth 1000000 in
theorem mj_ci34 : mj_C 34 ∈ mj_T := mj_tin (q := 401) rfl rfl
set_option maxRecDepth 1000000 in
theorem mj_ci35 : mj_C 35 ∈ mj_T := mj_tin (q := 404) rfl rfl
set_option maxRecDepth 1000000 in
theorem mj_ci36 : mj_C 36 ∈ mj_T := mj_tin (q := 407) rfl rfl
set_option maxRecDepth 1000000 in
theorem mj_ci37 : mj_C 37 ∈ mj_T := mj_tin (q := 410) rfl rfl
set_option maxRecDepth 1000000 in
theorem mj_ci38 : mj_C 38 ∈ mj_T := mj_tin (q := 417) rfl rfl
set_option maxRecDepth 1000000 in
theorem mj_ci39 : mj_C 39 ∈ mj_T := mj_tin (q := 420) rfl rfl
set_option maxRecDepth 1000000 in
theorem mj_ci40 : mj_C 40 ∈ mj_T := mj_tin (q := 423) rfl rfl
set_option maxRecDepth 1000000 in
theorem mj_ci41 : mj_C 41 ∈ mj_T := mj_tin (q := 426) rfl rfl
set_option maxRecDepth 1000000 in
theorem mj_ci42 : mj_C 42 ∈ mj_T := mj_tin (q := 429) rfl rfl
set_option maxRecDepth 1000000 in
theorem mj_ci43 : mj_C 43 ∈ mj_T := mj_tin (q := 432) rfl rfl
set_option maxRecDepth 1000000 in
theorem mj_ci44 : mj_C 44 ∈ mj_T := mj_tin (q := 436) rfl rfl
set_option maxRecDepth 1000000 in
theorem mj_ci45 : mj_C 45 ∈ mj_T := mj_tin (q := 439) rfl rfl
set_option maxRecDepth 1000000 in
theorem mj_ci46 : mj_C 46 ∈ mj_T := mj_tin (q := 443) rfl rfl
set_option maxRecDepth 1000000 in
theorem mj_ci47 : mj_C 47 ∈ mj_T := mj_tin (q := 450) rfl rfl
set_option maxRecDepth 1000000 in
theorem mj_ci48 : mj_C 48 ∈ mj_T := mj_tin (q := 453) rfl rfl
set_option maxRecDepth 1000000 in
theorem mj_ci49 : mj_C 49 ∈ mj_T := mj_tin (q := 457) rfl rfl
set_option maxRecDepth 1000000 in
theorem mj_ci50 : mj_C 50 ∈ mj_T := mj_tin (q := 461) rfl rfl
set_option maxRecDepth 1000000 in
theorem mj_ci51 : mj_C 51 ∈ mj_T := mj_tin (q := 465) rfl rfl
set_option maxRecDepth 1000000 in
theorem mj_ci52 : mj_C 52 ∈ mj_T := mj_tin (q := 468) rfl rfl
set_option maxRecDepth 1000000 in
theorem mj_ci53 : mj_C 53 ∈ mj_T := mj_tin (q := 473) rfl rfl
set_option maxRecDepth 1000000 in
theorem mj_ci54 : mj_C 54 ∈ mj_T := mj_tin (q := 477) rfl rfl
set_option maxRecDepth 1000000 in
theorem mj_ci55 : mj_C 55 ∈ mj_T := mj_tin (q := 481) rfl rfl
set_option maxRecDepth 1000000 in
theorem mj_ci56 : mj_C 56 ∈ mj_T := mj_tin (q := 485) rfl rfl
set_option maxRecDepth 1000000 in
theorem mj_ci57 : mj_C 57 ∈ mj_T := mj_tin (q := 489) rfl rfl
set_option maxRecDepth 1000000 in
theorem mj_ci58 : mj_C 58 ∈ mj_T := mj_tin (q := 493) rfl rfl
set_option maxRecDepth 1000000 in
theorem mj_ci59 : mj_C 59 ∈ mj_T := mj_tin (q := 497) rfl rfl
set_option maxRecDepth 1000000 in
theorem mj_ci60 : mj_C 60 ∈ mj_T := mj_tin (q := 502) rfl rfl
set_option maxRecDepth 1000000 in
theorem mj_ci61 : mj_C 61 ∈ mj_T := mj_tin (q := 506) rfl rfl
set_option maxRecDepth 1000000 in
theorem mj_ci62 : mj_C 62 ∈ mj_T := mj_tin (q := 510) rfl rfl
set_option maxRecDepth 1000000 in
theorem mj_ci63 : mj_C 63 ∈ mj_T := mj_tin (q := 514) rfl rfl
set_option maxRecDepth 1000000 in
theorem mj_ci64 : mj_C 64 ∈ mj_T := mj_tin (q := 519) rfl rfl
set_option maxRecDepth 1000000 in
theorem mj_ci65 : mj_C 65 ∈ mj_T := mj_tin (q := 526) rfl rfl
set_option maxRecDepth 1000000 in
theorem mj_ci66 : mj_C 66 ∈ mj_T := mj_tin (q := 531) rfl rfl
set_option maxRecDepth 1000000 in
theorem mj_ci67 : mj_C 67 ∈ mj_T := mj_tin (q := 535) rfl rfl
set_option maxRecDepth 1000000 in
theorem mj_ci68 : mj_C 68 ∈ mj_T := mj_tin (q := 539) rfl rfl
set_option maxRecDepth 1000000 in
theorem mj_ci69 : mj_C 69 ∈ mj_T := mj_tin (q := 543) rfl rfl
set_option maxRecDepth 1000000 in
theorem mj_ci70 : mj_C 70 ∈ mj_T := mj_tin (q := 547) rfl rfl
set_option maxRecDepth 1000000 in
theorem mj_ci71 : mj_C 71 ∈ mj_T := mj_tin (q := 554) rfl rfl
set_option maxRecDepth 1000000 in
theorem mj_ci72 : mj_C 72 ∈ mj_T := mj_tin (q := 559) rfl rfl
set_option maxRecDepth 1000000 in
theorem mj_ci73 : mj_C 73 ∈ mj_T := mj_tin (q := 562) rfl rfl
set_option maxRecDepth 1000000 in
theorem mj_ci74 : mj_C 74 ∈ mj_T := mj_tin (q := 566) rfl rfl
set_option maxRecDepth 1000000 in
theorem mj_ci75 : mj_C 75 ∈ mj_T := mj_tin (q := 570) rfl rfl
set_option maxRecDepth 1000000 in
theorem mj_ci76 : mj_C 76 ∈ mj_T := mj_tin (q := 574) rfl rfl
set_option maxRecDepth 1000000 in
theorem mj_ci77 : mj_C 77 ∈ mj_T := mj_tin (q := 578) rfl rfl
set_option maxRecDepth 1000000 in
theorem mj_ci78 : mj_C 78 ∈ mj_T := mj_tin (q := 582) rfl rfl
set_option maxRecDepth 1000000 in
theorem mj_ci79 : mj_C 79 ∈ mj_T := mj_tin (q := 586) rfl rfl
set_option maxRecDepth 1000000 in
theorem mj_ci80 : mj_C 80 ∈ mj_T := mj_tin (q := 590) rfl rfl
set_option maxRecDepth 1000000 in
theorem mj_ci81 : mj_C 81 ∈ mj_T := mj_tin (q := 594) rfl rfl
set_option maxRecDepth 1000000 in
theorem mj_ci82 : mj_C 82 ∈ mj_T := mj_tin (q := 598) rfl rfl
set_option maxRecDepth 1000000 in
theorem mj_ci83 : mj_C 83 ∈ mj_T := mj_tin (q := 602) rfl rfl
set_option maxRecDepth 1000000 in
theorem mj_ci84 : mj_C 84 ∈ mj_T := mj_tin (q := 605) rfl rfl
set_option maxRecDepth 1000000 in
theorem mj_ci85 : mj_C 85 ∈ mj_T := mj_tin (q := 609) rfl rfl
set_option maxRecDepth 1000000 in
theorem mj_ci86 : mj_C 86 ∈ mj_T := mj_tin (q := 614) rfl rfl
set_option maxRecDepth 1000000 in
theorem mj_ci87 : mj_C 87 ∈ mj_T := mj_tin (q := 618) rfl rfl
set_option maxRecDepth 1000000 in
theorem mj_ci88 : mj_C 88 ∈ mj_T := mj_tin (q := 626) rfl rfl
set_option maxRecDepth 1000000 in
theorem mj_ci89 : mj_C 89 ∈ mj_T := mj_tin (q := 631) rfl rfl
set_option maxRecDepth 1000000 in
theorem mj_ci90 : mj_C 90 ∈ mj_T := mj_tin (q := 635) rfl rfl
set_option maxRecDepth 1000000 in
theorem mj_ci91 : mj_C 91 ∈ mj_T := mj_tin (q := 639) rfl rfl
set_option maxRecDepth 1000000 in
theorem mj_ci92 : mj_C 92 ∈ mj_T := mj_tin (q := 643) rfl rfl
set_option maxRecDepth 1000000 in
theorem mj_ci93 : mj_C 93 ∈ mj_T := mj_tin (q := 647) rfl rfl
set_option maxRecDepth 1000000 in
theorem mj_ci94 : mj_C 94 ∈ mj_T := mj_tin (q := 651) rfl rfl
set_option maxRecDepth 1000000 in
theorem mj_ci95 : mj_C 95 ∈ mj_T := mj_tin (q := 655) rfl rfl
set_option maxRecDepth 1000000 in
theorem mj_ci96 : mj_C 96 ∈ mj_T := mj_tin (q := 658) rfl rfl
set_option maxRecDepth 1000000 in
theorem mj_ci97 : mj_C 97 ∈ mj_T := mj_tin (q := 662) rfl rfl
set_option maxRecDepth 1000000 in
theorem mj_ci98 : mj_C 98 ∈ mj_T := mj_tin (q := 667) rfl rfl
set_option maxRecDepth 1000000 in
theorem mj_ci99 : mj_C 99 ∈ mj_T := mj_tin (q := 721) rfl rfl
set_option maxRecDepth 1000000 in
theorem mj_ci100 : mj_C 100 ∈ mj_T := mj_tin (q := 725) rfl rfl
set_option maxRecDepth 1000000 in
theorem mj_ci101 : mj_C 101 ∈ mj_T := mj_tin (q := 729) rfl rfl
set_option maxRecDepth 1000000 in
theorem mj_ci102 : mj_C 102 ∈ mj_T := mj_tin (q := 734) rfl rfl
set_option maxRecDepth 1000000 in
theorem mj_ci103 : mj_C 103 ∈ mj_T := mj_tin (q := 793) rfl rfl
set_option maxRecDepth 1000000 in
theorem mj_ci104 : mj_C 104 ∈ mj_T := mj_tin (q := 797) rfl rfl
set_option maxRecDepth 1000000 in
theorem mj_ci105 : mj_C 105 ∈ mj_T := mj_tin (q := 803) rfl rfl
set_option maxRecDepth 1000000 in
theorem mj_ci106 : mj_C 106 ∈ mj_T := mj_tin (q := 807) rfl rfl
set_option maxRecDepth 1000000 in
theorem mj_ci107 : mj_C 107 ∈ mj_T := mj_tin (q := 814) rfl rfl
set_option maxRecDepth 1000000 in
theorem mj_ci108 : mj_C 108 ∈ mj_T := mj_tin (q := 818) rfl rfl
set_option maxRecDepth 1000000 in
theorem mj_ci109 : mj_C 109 ∈ mj_T := mj_tin (q := 822) rfl rfl
set_option maxRecDepth 1000000 in
theorem mj_ci110 : mj_C 110 ∈ mj_T := mj_tin (q := 825) rfl rfl
set_option maxRecDepth 1000000 in
theorem mj_ci111 : mj_C 111 ∈ mj_T := mj_tin (q := 835) rfl rfl
set_option maxRecDepth 1000000 in
theorem mj_ci112 : mj_C 112 ∈ mj_T := mj_tin (q := 839) rfl rfl
set_option maxRecDepth 1000000 in
theorem mj_ci113 : mj_C 113 ∈ mj_T := mj_tin (q := 843) rfl rfl
set_option maxRecDepth 1000000 in
theorem mj_ci114 : mj_C 114 ∈ mj_T := mj_tin (q := 848) rfl rfl
set_option maxRecDepth 1000000 in
theorem mj_ci115 : mj_C 115 ∈ mj_T := mj_tin (q := 852) rfl rfl
set_option maxRecDepth 1000000 in
theorem mj_ci116 : mj_C 116 ∈ mj_T := mj_tin (q := 856) rfl rfl
set_option maxRecDepth 1000000 in
theorem mj_ci117 : mj_C 117 ∈ mj_T := mj_tin (q := 863) rfl rfl
set_option maxRecDepth 1000000 in
theorem mj_ci118 : mj_C 118 ∈ mj_T := mj_tin (q := 868) rfl rfl
set_option maxRecDepth 1000000 in
theorem mj_ci119 : mj_C 119 ∈ mj_T := mj_tin (q := 872) rfl rfl
set_option maxRecDepth 1000000 in
theorem mj_ci120 : mj_C 120 ∈ mj_T := mj_tin (q := 877) rfl rfl
set_option maxRecDepth 1000000 in
theorem mj_ci121 : mj_C 121 ∈ mj_T := mj_tin (q := 880) rfl rfl
set_option maxRecDepth 1000000 in
theorem mj_ci122 : mj_C 122 ∈ mj_T := mj_tin (q := 884) rfl rfl
set_option maxRecDepth 1000000 in
theorem mj_ci123 : mj_C 123 ∈ mj_T := mj_tin (q := 889) rfl rfl
set_option maxRecDepth 1000000 in
theorem mj_ci124 : mj_C 124 ∈ mj_T := mj_tin (q := 893) rfl rfl
set_option maxRecDepth 1000000 in
theorem mj_ci125 : mj_C 125 ∈ mj_T := mj_tin (q := 897) rfl rfl
set_option maxRecDepth 1000000 in
theorem mj_ci126 : mj_C 126 ∈ mj_T := mj_tin (q := 902) rfl rfl
set_option maxRecDepth 1000000 in
theorem mj_ci127 : mj_C 127 ∈ mj_T := mj_tin (q := 906) rfl rfl
set_option maxRecDepth 1000000 in
theorem mj_ci128 : mj_C 128 ∈ mj_T := mj_tin (q := 910) rfl rfl
set_option maxRecDepth 1000000 in
theorem mj_ci129 : mj_C 129 ∈ mj_T := mj_tin (q := 914) rfl rfl
set_option maxRecDepth 1000000 in
theorem mj_ci130 : mj_C 130 ∈ mj_T := mj_tin (q := 918) rfl rfl
set_option maxRecDepth 1000000 in
theorem mj_ci131 : mj_C 131 ∈ mj_T := mj_tin (q := 922) rfl rfl
set_option maxRecDepth 1000000 in
theorem mj_ci132 : mj_C 132 ∈ mj_T := mj_tin (q := 927) rfl rfl
set_option maxRecDepth 1000000 in
theorem mj_ci133 : mj_C 133 ∈ mj_T := mj_tin (q := 1037) rfl rfl
set_option maxRecDepth 1000000 in
theorem mj_ci134 : mj_C 134 ∈ mj_T := mj_tin (q := 1040) rfl rfl
set_option maxRecDepth 1000000 in
theorem mj_ci135 : mj_C 135 ∈ mj_T := mj_tin (q := 1046) rfl rfl
set_option maxRecDepth 1000000 in
theorem mj_ci136 : mj_C 136 ∈ mj_T := mj_tin (q := 1050) rfl rfl
set_option maxRecDepth 1000000 in
theorem mj_ci137 : mj_C 137 ∈ mj_T := mj_tin (q := 1054) rfl rfl
set_option maxRecDepth 1000000 in
theorem mj_ci138 : mj_C 138 ∈ mj_T := mj_tin (q := 1057) rfl rfl
set_option maxRecDepth 1000000 in
theorem mj_ci139 : mj_C 139 ∈ mj_T := mj_tin (q := 1061) rfl rfl
set_option maxRecDepth 1000000 in
theorem mj_ci140 : mj_C 140 ∈ mj_T := mj_tin (q := 1065) rfl rfl
set_option maxRecDepth 1000000 in
theorem mj_ci141 : mj_C 141 ∈ mj_T := mj_tin (q := 1069) rfl rfl
set_option maxRecDepth 1000000 in
theorem mj_ci142 : mj_C 142 ∈ mj_T := mj_tin (q := 1073) rfl rfl
set_option maxRecDepth 1000000 in
theorem mj_ci143 : mj_C 143 ∈ mj_T := mj_tin (q := 1076) rfl rfl
set_option maxRecDepth 1000000 in
theorem mj_ci144 : mj_C 144 ∈ mj_T := mj_tin (q := 1079) rfl rfl
set_option maxRecDepth 1000000 in
theorem mj_ci145 : mj_C 145 ∈ mj_T := mj_tin (q := 1083) rfl rfl
set_option maxRecDepth 1000000 in
theorem mj_ci146 : mj_C 146 ∈ mj_T := mj_tin (q := 1087) rfl rfl
set_option maxRecDepth 1000000 in
theorem mj_ci147 : mj_C 147 ∈ mj_T := mj_tin (q := 1091) rfl rfl
set_option maxRecDepth 1000000 in
theorem mj_ci148 : mj_C 148 ∈ mj_T := mj_tin (q := 1095) rfl rfl
set_option maxRecDepth 1000000 in
theorem mj_ci149 : mj_C 149 ∈ mj_T := mj_tin (q := 1099) rfl rfl
set_option maxRecDepth 1000000 in
theorem mj_ci150 : mj_C 150 ∈ mj_T := mj_tin (q := 1102) rfl rfl
set_option maxRecDepth 1000000 in
theorem mj_ci151 : mj_C 151 ∈ mj_T := mj_tin (q := 1107) rfl rfl
set_option maxRecDepth 1000000 in
theorem mj_ci152 : mj_C 152 ∈ mj_T := mj_tin (q := 1111) rfl rfl
set_option maxRecDepth 1000000 in
theorem mj_ci153 : mj_C 153 ∈ mj_T := mj_tin (q := 1115) rfl rfl
set_option maxRecDepth 1000000 in
theorem mj_ci154 : mj_C 154 ∈ mj_T := mj_tin (q := 1119) rfl rfl
set_option maxRecDepth 1000000 in
theorem mj_ci155 : mj_C 155 ∈ mj_T := mj_tin (q := 1123) rfl rfl
set_option maxRecDepth 1000000 in
theorem mj_ci156 : mj_C 156 ∈ mj_T := mj_tin (q := 1127) rfl rfl
set_option maxRecDepth 1000000 in
theorem mj_ci157 : mj_C 157 ∈ mj_T := mj_tin (q := 1131) rfl rfl
set_option maxRecDepth 1000000 in
theorem mj_ci158 : mj_C 158 ∈ mj_T := mj_tin (q := 1135) rfl rfl
set_option maxRecDepth 1000000 in
theorem mj_ci159 : mj_C 159 ∈ mj_T := mj_tin (q := 1140) rfl rfl
set_option maxRecDepth 1000000 in
theorem mj_ci160 : mj_C 160 ∈ mj_T := mj_tin (q := 1144) rfl rfl
set_option maxRecDepth 1000000 in
theorem mj_ci161 : mj_C 161 ∈ mj_T := mj_tin (q := 1148) rfl rfl
set_option maxRecDepth 1000000 in
theorem mj_ci162 : mj_C 162 ∈ mj_T := mj_tin (q := 1152) rfl rfl
set_option maxRecDepth 1000000 in
theorem mj_ci163 : mj_C 163 ∈ mj_T := mj_tin (q := 1156) rfl rfl
set_option maxRecDepth 1000000 in
theorem mj_ci164 : mj_C 164 ∈ mj_T := mj_tin (q := 1160) rfl rfl
set_option maxRecDepth 1000000 in
theorem mj_ci165 : mj_C 165 ∈ mj_T := mj_tin (q := 1164) rfl rfl
set_option maxRecDepth 1000000 in
theorem mj_ci166 : mj_C 166 ∈ mj_T := mj_tin (q := 1168) rfl rfl
set_option maxRecDepth 1000000 in
theorem mj_ci167 : mj_C 167 ∈ mj_T := mj_tin (q := 1172) rfl rfl
set_option maxRecDepth 1000000 in
theorem mj_ci168 : mj_C 168 ∈ mj_T := mj_tin (q := 1176) rfl rfl
set_option maxRecDepth 1000000 in
theorem mj_ci169 : mj_C 169 ∈ mj_T := mj_tin (q := 1180) rfl rfl
set_option maxRecDepth 1000000 in
theorem mj_ci170 : mj_C 170 ∈ mj_T := mj_tin (q := 1184) rfl rfl
set_option maxRecDepth 1000000 in
theorem mj_ci171 : mj_C 171 ∈ mj_T := mj_tin (q := 1188) rfl rfl
set_option maxRecDepth 1000000 in
theorem mj_ci172 : mj_C 172 ∈ mj_T := mj_tin (q := 1192) rfl rfl
set_option maxRecDepth 1000000 in
theorem mj_ci173 : mj_C 173 ∈ mj_T := mj_tin (q := 1196) rfl rfl
set_option maxRecDepth 1000000 in
theorem mj_ci174 : mj_C 174 ∈ mj_T := mj_tin (q := 1201) rfl rfl
set_option maxRecDepth 1000000 in
theorem mj_ci175 : mj_C 175 ∈ mj_T := mj_tin (q := 1205) rfl rfl
set_option maxRecDepth 1000000 in
theorem mj_ci176 : mj_C 176 ∈ mj_T := mj_tin (q := 1209) rfl rfl
set_option maxRecDepth 1000000 in
theorem mj_ci177 : mj_C 177 ∈ mj_T := mj_tin (q := 1213) rfl rfl
set_option maxRecDepth 1000000 in
theorem mj_ci178 : mj_C 178 ∈ mj_T := mj_tin (q := 1217) rfl rfl
set_option maxRecDepth 1000000 in
theorem mj_ci179 : mj_C 179 ∈ mj_T := mj_tin (q := 1221) rfl rfl
set_option maxRecDepth 1000000 in
theorem mj_ci180 : mj_C 180 ∈ mj_T := mj_tin (q := 1225) rfl rfl
set_option maxRecDepth 1000000 in
theorem mj_ci181 : mj_C 181 ∈ mj_T := mj_tin (q := 1229) rfl rfl
set_option maxRecDepth 1000000 in
theorem mj_ci182 : mj_C 182 ∈ mj_T := mj_tin (q := 1232) rfl rfl
set_option maxRecDepth 1000000 in
theorem mj_ci183 : mj_C 183 ∈ mj_T := mj_tin (q := 1237) rfl rfl
set_option maxRecDepth 1000000 in
theorem mj_ci184 : mj_C 184 ∈ mj_T := mj_tin (q := 1241) rfl rfl
set_option maxRecDepth 1000000 in
theorem mj_ci185 : mj_C 185 ∈ mj_T := mj_tin (q := 1245) rfl rfl
set_option maxRecDepth 1000000 in
theorem mj_ci186 : mj_C 186 ∈ mj_T := mj_tin (q := 1249) rfl rfl
set_option maxRecDepth 1000000 in
theorem mj_ci187 : mj_C 187 ∈ mj_T := mj_tin (q := 1253) rfl rfl
set_option maxRecDepth 1000000 in
theorem mj_ci188 : mj_C 188 ∈ mj_T := mj_tin (q := 1257) rfl rfl
set_option maxRecDepth 1000000 in
theorem mj_ci189 : mj_C 189 ∈ mj_T := mj_tin (q := 1261) rfl rfl
set_option maxRecDepth 1000000 in
theorem mj_ci190 : mj_C 190 ∈ mj_T := mj_tin (q := 1265) rfl rfl
set_option maxRecDepth 1000000 in
theorem mj_ci191 : mj_C 191 ∈ mj_T := mj_tin (q := 1269) rfl rfl
set_option maxRecDepth 1000000 in
theorem mj_ci192 : mj_C 192 ∈ mj_T := mj_tin (q := 1273) rfl rfl
set_option maxRecDepth 1000000 in
theorem mj_ci193 : mj_C 193 ∈ mj_T := mj_tin (q := 1277) rfl rfl
set_option maxRecDepth 1000000 in
theorem mj_ci194 : mj_C 194 ∈ mj_T := mj_tin (q := 1281) rfl rfl
set_option maxRecDepth 1000000 in
theorem mj_ci195 : mj_C 195 ∈ mj_T := mj_tin (q := 1285) rfl rfl
set_option maxRecDepth 1000000 in
theorem mj_ci196 : mj_C 196 ∈ mj_T := mj_tin (q := 1289) rfl rfl
set_option maxRecDepth 1000000 in
theorem mj_ci197 : mj_C 197 ∈ mj_T := mj_tin (q := 1292) rfl rfl
set_option maxRecDepth 1000000 in
theorem mj_ci198 : mj_C 198 ∈ mj_T := mj_tin (q := 1296) rfl rfl
set_option maxRecDepth 1000000 in
theorem mj_ci199 : mj_C 199 ∈ mj_T := mj_tin (q := 1300) rfl rfl
set_option maxRecDepth 1000000 in
theorem mj_ci200 : mj_C 200 ∈ mj_T := mj_tin (q := 1304) rfl rfl
set_option maxRecDepth 1000000 in
theorem mj_ci201 : mj_C 201 ∈ mj_T := mj_tin (q := 1308) rfl rfl
set_option maxRecDepth 1000000 in
theorem mj_ci202 : mj_C 202 ∈ mj_T := mj_tin (q := 1312) rfl rfl
set_option maxRecDepth 1000000 in
theorem mj_ci203 : mj_C 203 ∈ mj_T := mj_tin (q := 1317) rfl rfl
set_option maxRecDepth 1000000 in
theorem mj_ci204 : mj_C 204 ∈ mj_T := mj_tin (q := 1324) rfl rfl
set_option maxRecDepth 1000000 in
theorem mj_ci205 : mj_C 205 ∈ mj_T := mj_tin (q := 1328) rfl rfl
set_option maxRecDepth 1000000 in
theorem mj_ci206 : mj_C 206 ∈ mj_T := mj_tin (q := 1332) rfl rfl
set_option maxRecDepth 1000000 in
theorem mj_ci207 : mj_C 207 ∈ mj_T := mj_tin (q := 1336) rfl rfl
set_option maxRecDepth 1000000 in
theorem mj_ci208 : mj_C 208 ∈ mj_T := mj_tin (q := 1339) rfl rfl
set_option maxRecDepth 1000000 in
theorem mj_ci209 : mj_C 209 ∈ mj_T := mj_tin (q := 1343) rfl rfl
set_option maxRecDepth 1000000 in
theorem mj_ci210 : mj_C 210 ∈ mj_T := mj_tin (q := 1347) rfl rfl
set_option maxRecDepth 1000000 in
theorem mj_ci211 : mj_C 211 ∈ mj_T := mj_tin (q := 1351) rfl rfl
set_option maxRecDepth 1000000 in
theorem mj_ci212 : mj_C 212 ∈ mj_T := mj_tin (q := 1356) rfl rfl
set_option maxRecDepth 1000000 in
theorem mj_ci213 : mj_C 213 ∈ mj_T := mj_tin (q := 1360) rfl rfl
set_option maxRecDepth 1000000 in
theorem mj_ci214 : mj_C 214 ∈ mj_T := mj_tin (q := 1363) rfl rfl
set_option maxRecDepth 1000000 in
theorem mj_ci215 : mj_C 215 ∈ mj_T := mj_tin (q := 1367) rfl rfl
set_option maxRecDepth 1000000 in
theorem mj_ci216 : mj_C 216 ∈ mj_T := mj_tin (q := 1371) rfl rfl
set_option maxRecDepth 1000000 in
theorem mj_ci217 : mj_C 217 ∈ mj_T := mj_tin (q := 1375) rfl rfl
set_option maxRecDepth 1000000 in
theorem mj_ci218 : mj_C 218 ∈ mj_T := mj_tin (q := 1379) rfl rfl
theorem mj_cb0 : ∀ y ∈ ([0, 1, 2, 3, 4, 5, 6, 7, 8, 9, 10, 11, 12, 13, 14, 15, 16, 17, 18, 19, 20, 21, 22, 23, 24, 25, 26, 27, 28, 29, 30, 31, 32, 33, 34, 35, 36, 37, 38, 39] : List Nat), mj_C y ∈ mj_T := List.forall_mem_cons.mpr ⟨mj_ci0, List.forall_mem_cons.mpr ⟨mj_ci1, List.forall_mem_cons.mpr ⟨mj_ci2, List.forall_mem_cons.mpr ⟨mj_ci3, List.forall_mem_cons.mpr ⟨mj_ci4, List.forall_mem_cons.mpr ⟨mj_ci5, List.forall_mem_cons.mpr ⟨mj_ci6, List.forall_mem_cons.mpr ⟨mj_ci7, List.forall_mem_cons.mpr ⟨mj_ci8, List.forall_mem_cons.mpr ⟨mj_ci9, List.forall_mem_cons.mpr ⟨mj_ci10, List.forall_mem_cons.mpr ⟨mj_ci11, List.forall_mem_cons.mpr ⟨mj_ci12, List.forall_mem_cons.mpr ⟨mj_ci13, List.forall_mem_cons.mpr ⟨mj_ci14, List.forall_mem_cons.mpr ⟨mj_ci15, List.forall_mem_cons.mpr ⟨mj_ci16, List.forall_mem_cons.mpr ⟨mj_ci17, List.forall_mem_cons.mpr ⟨mj_ci18, List.forall_mem_cons.mpr ⟨mj_ci19, List.forall_mem_cons.mpr ⟨mj_ci20, List.forall_mem_cons.mpr ⟨mj_ci21, List.forall_mem_cons.mpr ⟨mj_ci22, List.forall_mem_cons.mpr ⟨mj_ci23, List.forall_mem_cons.mpr ⟨mj_ci24, List.forall_mem_cons.mpr ⟨mj_ci25, List.forall_mem_cons.mpr ⟨mj_ci26, List.forall_mem_cons.mpr ⟨mj_ci27, List.forall_mem_cons.mpr ⟨mj_ci28, List.forall_mem_cons.mpr ⟨mj_ci29, List.forall_mem_cons.mpr ⟨mj_ci30, List.forall_mem_cons.mpr ⟨mj_ci31, List.forall_mem_cons.mpr ⟨mj_ci32, List.forall_mem_cons.mpr ⟨mj_ci33, List.forall_mem_cons.mpr ⟨mj_ci34, List.forall_mem_cons.mpr ⟨mj_ci35, List.forall_mem_cons.mpr ⟨mj_ci36, List.forall_mem_cons.mpr ⟨mj_ci37, List.forall_mem_cons.mpr ⟨mj_ci38, List.forall_mem_cons.mpr ⟨mj_ci39, fun _ h => absurd h List.not_mem_nil⟩⟩⟩⟩⟩⟩⟩⟩⟩⟩⟩⟩⟩⟩⟩⟩⟩⟩⟩⟩⟩⟩⟩⟩⟩⟩⟩⟩⟩⟩⟩⟩⟩⟩⟩⟩⟩⟩⟩⟩
theorem mj_cb40 : ∀ y ∈ ([40, 41, 42, 43, 44, 45, 46, 47, 48, 49, 50, 51, 52, 53, 54, 55, 56, 57, 58, 59, 60, 61, 62, 63, 64, 65, 66, 67, 68, 69, 70, 71, 72, 73, 74, 75, 76, 77, 78, 79] : List Nat), mj_C y ∈ mj_T := List.forall_mem_cons.mpr ⟨mj_ci40, List.forall_mem_cons.mpr ⟨mj_ci41, List.forall_mem_cons.mpr ⟨mj_ci42, List.forall_mem_cons.mpr ⟨mj_ci43, List.forall_mem_cons.mpr ⟨mj_ci44, List.forall_mem_cons.mpr ⟨mj_ci45, List.forall_mem_cons.mpr ⟨mj_ci46, List.forall_mem_cons.mpr ⟨mj_ci47, List.forall_mem_cons.mpr ⟨mj_ci48, List.forall_mem_cons.mpr ⟨mj_ci49, List.forall_mem_cons.mpr ⟨mj_ci50, List.forall_mem_cons.mpr ⟨mj_ci51, List.forall_mem_cons.mpr ⟨mj_ci52, List.forall_mem_cons.mpr ⟨mj_ci53, List.forall_mem_cons.mpr ⟨mj_ci54, List.forall_mem_cons.mpr ⟨mj_ci55, List.forall_mem_cons.mpr ⟨mj_ci56, List.forall_mem_cons.mpr ⟨mj_ci57, List.forall_mem_cons.mpr ⟨mj_ci58, List.forall_mem_cons.mpr ⟨mj_ci59, List.forall_mem_cons.mpr ⟨mj_ci60, List.forall_mem_cons.mpr ⟨mj_ci61, List.forall_mem_cons.mpr ⟨mj_ci62, List.forall_mem_cons.mpr ⟨mj_ci63, List.forall_mem_cons.mpr ⟨mj_ci64, List.forall_mem_cons.mpr ⟨mj_ci65, List.forall_mem_cons.mpr ⟨mj_ci66, List.forall_mem_cons.mpr ⟨mj_ci67, List.forall_mem_cons.mpr ⟨mj_ci68, List.forall_mem_cons.mpr ⟨mj_ci69, List.forall_mem_cons.mpr ⟨mj_ci70, List.forall_mem_cons.mpr ⟨mj_ci71, List.forall_mem_cons.mpr ⟨mj_ci72, List.forall_mem_cons.mpr ⟨mj_ci73, List.forall_mem_cons.mpr ⟨mj_ci74, List.forall_mem_cons.mpr ⟨mj_ci75, List.forall_mem_cons.mpr ⟨mj_ci76, List.forall_mem_cons.mpr ⟨mj_ci77, List.forall_mem_cons.mpr ⟨mj_ci78, List.forall_mem_cons.mpr ⟨mj_ci79, fun _ h => absurd h List.not_mem_nil⟩⟩⟩⟩⟩⟩⟩⟩⟩⟩⟩⟩⟩⟩⟩⟩⟩⟩⟩⟩⟩⟩⟩⟩⟩⟩⟩⟩⟩⟩⟩⟩⟩⟩⟩⟩⟩⟩⟩⟩
theorem mj_cb80 : ∀ y ∈ ([80, 81, 82, 83, 84, 85, 86, 87, 88, 89, 90, 91, 92, 93, 94, 95, 96, 97, 98, 99, 100, 101, 102, 103, 104, 105, 106, 107, 108, 109, 110, 111, 112, 113, 114, 115, 116, 117, 118, 119] : List Nat), mj_C y ∈ mj_T := List.forall_mem_cons.mpr ⟨mj_ci80, List.forall_mem_cons.mpr ⟨mj_ci81, List.forall_mem_cons.mpr ⟨mj_ci82, List.forall_mem_cons.mpr ⟨mj_ci83, List.forall_mem_cons.mpr ⟨mj_ci84, List.forall_mem_cons.mpr ⟨mj_ci85, List.forall_mem_cons.mpr ⟨mj_ci86, List.forall_mem_cons.mpr ⟨mj_ci87, List.forall_mem_cons.mpr ⟨mj_ci88, List.forall_mem_cons.mpr ⟨mj_ci89, List.forall_mem_cons.mpr ⟨mj_ci90, List.forall_mem_cons.mpr ⟨mj_ci91, List.forall_mem_cons.mpr ⟨mj_ci92, List.forall_mem_cons.mpr ⟨mj_ci93, List.forall_mem_cons.mpr ⟨mj_ci94, List.forall_mem_cons.mpr ⟨mj_ci95, List.forall_mem_cons.mpr ⟨mj_ci96, List.forall_mem_cons.mpr ⟨mj_ci97, List.forall_mem_cons.mpr ⟨mj_ci98, List.forall_mem_cons.mpr ⟨mj_ci99, List.forall_mem_cons.mpr ⟨mj_ci100, List.forall_mem_cons.mpr ⟨mj_ci101, List.forall_mem_cons.mpr ⟨mj_ci102, List.forall_mem_cons.mpr ⟨mj_ci103, List.forall_mem_cons.mpr ⟨mj_ci104, List.forall_mem_cons.mpr ⟨mj_ci105, List.forall_mem_cons.mpr ⟨mj_ci106, List.forall_mem_cons.mpr ⟨mj_ci107, List.forall_mem_cons.mpr ⟨mj_ci108, List.forall_mem_cons.mpr ⟨mj_ci109, List.forall_mem_cons.mpr ⟨mj_ci110, List.forall_mem_cons.mpr ⟨mj_ci111, List.forall_mem_cons.mpr ⟨mj_ci112, List.forall_mem_cons.mpr ⟨mj_ci113, List.forall_mem_cons.mpr ⟨mj_ci114, List.forall_mem_cons.mpr ⟨mj_ci115, List.forall_mem_cons.mpr ⟨mj_ci116, List.forall_mem_cons.mpr ⟨mj_ci117, List.forall_mem_cons.mpr ⟨mj_ci118, List.forall_mem_cons.mpr ⟨mj_ci119, fun _ h => absurd h List.not_mem_nil⟩⟩⟩⟩⟩⟩⟩⟩⟩⟩⟩⟩⟩⟩⟩⟩⟩⟩⟩⟩⟩⟩⟩⟩⟩⟩⟩⟩⟩⟩⟩⟩⟩⟩⟩⟩⟩⟩⟩⟩
theorem mj_cb120 : ∀ y ∈ ([120, 121, 122, 123, 124, 125, 126, 127, 128, 129, 130, 131, 132, 133, 134, 135, 136, 137, 138, 139, 140, 141, 142, 143, 144, 145, 146, 147, 148, 149, 150, 151, 152, 153, 154, 155, 156, 157, 158, 159] : List Nat), mj_C y ∈ mj_T := List.forall_mem_cons.mpr ⟨mj_ci120, List.forall_mem_cons.mpr ⟨mj_ci121, List.forall_mem_cons.mpr ⟨mj_ci122, List.forall_mem_cons.mpr ⟨mj_ci123, List.forall_mem_cons.mpr ⟨mj_ci124, List.forall_mem_cons.mpr ⟨mj_ci125, List.forall_mem_cons.mpr ⟨mj_ci126, List.forall_mem_cons.mpr ⟨mj_ci127, List.forall_mem_cons.mpr ⟨mj_ci128, List.forall_mem_cons.mpr ⟨mj_ci129, List.forall_mem_cons.mpr ⟨mj_ci130, List.forall_mem_cons.mpr ⟨mj_ci131, List.forall_mem_cons.mpr ⟨mj_ci132, List.forall_mem_cons.mpr ⟨mj_ci133, List.forall_mem_cons.mpr ⟨mj_ci134, List.forall_mem_cons.mpr ⟨mj_ci135, List.forall_mem_cons.mpr ⟨mj_ci136, List.forall_mem_cons.mpr ⟨mj_ci137, List.forall_mem_cons.mpr ⟨mj_ci138, List.forall_mem_cons.mpr ⟨mj_ci139, List.forall_mem_cons.mpr ⟨mj_ci140, List.forall_mem_cons.mpr ⟨mj_ci141, List.forall_mem_cons.mpr ⟨mj_ci142, List.forall_mem_cons.mpr ⟨mj_ci143, List.forall_mem_cons.mpr ⟨mj_ci144, List.forall_mem_cons.mpr ⟨mj_ci145, List.forall_mem_cons.mpr ⟨mj_ci146, List.forall_mem_cons.mpr ⟨mj_ci147, List.forall_mem_cons.mpr ⟨mj_ci148, List.forall_mem_cons.mpr ⟨mj_ci149, List.forall_mem_cons.mpr ⟨mj_ci150, List.forall_mem_cons.mpr ⟨mj_ci151, List.forall_mem_cons.mpr ⟨mj_ci152, List.forall_mem_cons.mpr ⟨mj_ci153, List.forall_mem_cons.mpr ⟨mj_ci154, List.forall_mem_cons.mpr ⟨mj_ci155, List.forall_mem_cons.mpr ⟨mj_ci156, List.forall_mem_cons.mpr ⟨mj_ci157, List.forall_mem_cons.mpr ⟨mj_ci158, List.forall_mem_cons.mpr ⟨mj_ci159, fun _ h => absurd h List.not_mem_nil⟩⟩⟩⟩⟩⟩⟩⟩⟩⟩⟩⟩⟩⟩⟩⟩⟩⟩⟩⟩⟩⟩⟩⟩⟩⟩⟩⟩⟩⟩⟩⟩⟩⟩⟩⟩⟩⟩⟩⟩
theorem mj_cb160 : ∀ y ∈ ([160, 161, 162, 163, 164, 165, 166, 167, 168, 169, 170, 171, 172, 173, 174, 175, 176, 177, 178, 179, 180, 181, 182, 183, 184, 185, 186, 187, 188, 189, 190, 191, 192, 193, 194, 195, 196, 197, 198, 199] : List Nat), mj_C y ∈ mj_T := List.forall_mem_cons.mpr ⟨mj_ci160, List.forall_mem_cons.mpr ⟨mj_ci161, List.forall_mem_cons.mpr ⟨mj_ci162, List.forall_mem_cons.mpr ⟨mj_ci163, List.forall_mem_cons.mpr ⟨mj_ci164, List.forall_mem_cons.mpr ⟨mj_ci165, List.forall_mem_cons.mpr ⟨mj_ci166, List.forall_mem_cons.mpr ⟨mj_ci167, List.forall_mem_cons.mpr ⟨mj_ci168, List.forall_mem_cons.mpr ⟨mj_ci169, List.forall_mem_cons.mpr ⟨mj_ci170, List.forall_mem_cons.mpr ⟨mj_ci171, List.forall_mem_cons.mpr ⟨mj_ci172, List.forall_mem_cons.mpr ⟨mj_ci173, List.forall_mem_cons.mpr ⟨mj_ci174, List.forall_mem_cons.mpr ⟨mj_ci175, List.forall_mem_cons.mpr ⟨mj_ci176, List.forall_mem_cons.mpr ⟨mj_ci177, List.forall_mem_cons.mpr ⟨mj_ci178, List.forall_mem_cons.mpr ⟨mj_ci179, List.forall_mem_cons.mpr ⟨mj_ci180, List.forall_mem_cons.mpr ⟨mj_ci181, List.forall_mem_cons.mpr ⟨mj_ci182, List.forall_mem_cons.mpr ⟨mj_ci183, List.forall_mem_cons.mpr ⟨mj_ci184, List.forall_mem_cons.mpr ⟨mj_ci185, List.forall_mem_cons.mpr ⟨mj_ci186, List.forall_mem_cons.mpr ⟨mj_ci187, List.forall_mem_cons.mpr ⟨mj_ci188, List.forall_mem_cons.mpr ⟨mj_ci189, List.forall_mem_cons.mpr ⟨mj_ci190, List.forall_mem_cons.mpr ⟨mj_ci191, List.forall_mem_cons.mpr ⟨mj_ci192, List.forall_mem_cons.mpr ⟨mj_ci193, List.forall_mem_cons.mpr ⟨mj_ci194, List.forall_mem_cons.mpr ⟨mj_ci195, List.forall_mem_cons.mpr ⟨mj_ci196, List.forall_mem_cons.mpr ⟨mj_ci197, List.forall_mem_cons.mpr ⟨mj_ci198, List.forall_mem_cons.mpr ⟨mj_ci199, fun _ h => absurd h List.not_mem_nil⟩⟩⟩⟩⟩⟩⟩⟩⟩⟩⟩⟩⟩⟩⟩⟩⟩⟩⟩⟩⟩⟩⟩⟩⟩⟩⟩⟩⟩⟩⟩⟩⟩⟩⟩⟩⟩⟩⟩⟩
theorem mj_cb200 : ∀ y ∈ ([200, 201, 202, 203, 204, 205, 206, 207, 208, 209, 210, 211, 212, 213, 214, 215, 216, 217, 218] : List Nat), mj_C y ∈ mj_T := List.forall_mem_cons.mpr ⟨mj_ci200, List.forall_mem_cons.mpr ⟨mj_ci201, List.forall_mem_cons.mpr ⟨mj_ci202, List.forall_mem_cons.mpr ⟨mj_ci203, List.forall_mem_cons.mpr ⟨mj_ci204, List.forall_mem_cons.mpr ⟨mj_ci205, List.forall_mem_cons.mpr ⟨mj_ci206, List.forall_mem_cons.mpr ⟨mj_ci207, List.forall_mem_cons.mpr ⟨mj_ci208, List.forall_mem_cons.mpr ⟨mj_ci209, List.forall_mem_cons.mpr ⟨mj_ci210, List.forall_mem_cons.mpr ⟨mj_ci211, List.forall_mem_cons.mpr ⟨mj_ci212, List.forall_mem_cons.mpr ⟨mj_ci213, List.forall_mem_cons.mpr ⟨mj_ci214, List.forall_mem_cons.mpr ⟨mj_ci215, List.forall_mem_cons.mpr ⟨mj_ci216, List.forall_mem_cons.mpr ⟨mj_ci217, List.forall_mem_cons.mpr ⟨mj_ci218, fun _ h => absurd h List.not_mem_nil⟩⟩⟩⟩⟩⟩⟩⟩⟩⟩⟩⟩⟩⟩⟩⟩⟩⟩⟩
theorem mj_cin {y : Nat} (hy : y < 219) : mj_C y ∈ mj_T := by
  rcases Nat.lt_or_ge y 40 with h | h
  · exact mj_cb0 y (by (have : ∀ z, z < 40 → 0 ≤ z → z ∈ ([0, 1, 2, 3, 4, 5, 6, 7, 8, 9, 10, 11, 12, 13, 14, 15, 16, 17, 18, 19, 20, 21, 22, 23, 24, 25, 26, 27, 28, 29, 30, 31, 32, 33, 34, 35, 36, 37, 38, 39] : List Nat) := by decide +kernel); exact this y h (by omega))
  rcases Nat.lt_or_ge y 80 with h | h
  · exact mj_cb40 y (by (have : ∀ z, z < 80 → 40 ≤ z → z ∈ ([40, 41, 42, 43, 44, 45, 46, 47, 48, 49, 50, 51, 52, 53, 54, 55, 56, 57, 58, 59, 60, 61, 62, 63, 64, 65, 66, 67, 68, 69, 70, 71, 72, 73, 74, 75, 76, 77, 78, 79] : List Nat) := by decide +kernel); exact this y h (by omega))
  rcases Nat.lt_or_ge y 120 with h | h
  · exact mj_cb80 y (by (have : ∀ z, z < 120 → 80 ≤ z → z ∈ ([80, 81, 82, 83, 84, 85, 86, 87, 88, 89, 90, 91, 92, 93, 94, 95, 96, 97, 98, 99, 100, 101, 102, 103, 104, 105, 106, 107, 108, 109, 110, 111, 112, 113, 114, 115, 116, 117, 118, 119] : List Nat) := by decide +kernel); exact this y h (by omega))
  rcases Nat.lt_or_ge y 160 with h | h
  · exact mj_cb120 y (by (have : ∀ z, z < 160 → 120 ≤ z → z ∈ ([120, 121, 122, 123, 124, 125, 126, 127, 128, 129, 130, 131, 132, 133, 134, 135, 136, 137, 138, 139, 140, 141, 142, 143, 144, 145, 146, 147, 148, 149, 150, 151, 152, 153, 154, 155, 156, 157, 158, 159] : List Nat) := by decide +kernel); exact this y h (by omega))
  rcases Nat.lt_or_ge y 200 with h | h
  · exact mj_cb160 y (by (have : ∀ z, z < 200 → 160 ≤ z → z ∈ ([160, 161, 162, 163, 164, 165, 166, 167, 168, 169, 170, 171, 172, 173, 174, 175, 176, 177, 178, 179, 180, 181, 182, 183, 184, 185, 186, 187, 188, 189, 190, 191, 192, 193, 194, 195, 196, 197, 198, 199] : List Nat) := by decide +kernel); exact this y h (by omega))
  exact mj_cb200 y (by (have : ∀ z, z < 219 → 200 ≤ z → z ∈ ([200, 201, 202, 203, 204, 205, 206, 207, 208, 209, 210, 211, 212, 213, 214, 215, 216, 217, 218] : List Nat) := by decide +kernel); exact this y hy h)
