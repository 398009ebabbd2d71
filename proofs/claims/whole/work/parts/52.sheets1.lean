/-! ===== SHEETS, SLOTS: what is to be answered; the model ===== -/
/-- SHEETS and SLOTS of the model: 0 sorts, 1 sizes, 2 places, 3 what a SLOT holds, 4 and 5 of it, 6 places of a SHEET that it holds -/
def mW (I : Nat → Nat → Int32) : Nat → Nat → Int32 := fun i k => if i < 7 then I (140 + i) k else 0
theorem mW_u {I : Nat → Nat → Int32} {i k : Nat} {v : Int32} (hi : i < 7) : mW (mg_u I (140 + i) k v) = mg_u (mW I) i k v := by
  funext a b
  unfold mW mg_u
  dsimp only
  by_cases h : a < 7
  · rw [if_pos h, if_pos h]
    by_cases e : a = i ∧ b = k
    · rw [if_pos e, if_pos ⟨by omega, e.2⟩]
    · rw [if_neg e, if_neg (fun z => e ⟨by omega, z.2⟩)]
  · rw [if_neg h, if_neg h, if_neg (fun z => by omega)]
theorem mW_w {I : Nat → Nat → Int32} {i : Nat} {f : Nat → Int32} (hi : i < 7) : mW (mw I (140 + i) f) = mw (mW I) i f := by
  funext a b
  unfold mW mw
  dsimp only
  by_cases h : a < 7
  · rw [if_pos h, if_pos h]
    by_cases e : a = i
    · rw [if_pos e, if_pos (by omega)]
    · rw [if_neg e, if_neg (by omega)]
  · rw [if_neg h, if_neg h, if_neg (by omega)]
theorem mW_fr {S : List Nat} {I I' : Nat → Nat → Int32} (h : mFr S I I') (hd : ∀ i : Nat, i < 7 → 140 + i ∉ S) : mW I' = mW I := by
  funext a b
  unfold mW
  by_cases e : a < 7
  · rw [if_pos e, if_pos e]; exact h _ _ (hd a e)
  · rw [if_neg e, if_neg e]
def sN (W : Nat → Nat → Int32) (j : Nat) : Nat := (W 1 j).toNatClampNeg
def sN2 (W : Nat → Nat → Int32) (j : Nat) : Nat := (W 4 j).toNatClampNeg
/-- what is always so of them -/
def mWk (W : Nat → Nat → Int32) : Prop := (∀ j : Nat, j < 4 → W 1 j = nI (sN W j) ∧ sN W j ≤ 24 ∧ (W 0 j = -1 ∨ W 0 j = nI 0 ∨ W 0 j = nI 1) ∧ ∀ k : Nat, k < sN W j → W 2 (24 * j + k) = (-1000000005) ∨ (-99999 ≤ W 2 (24 * j + k) ∧ W 2 (24 * j + k) ≤ nI 99999)) ∧
  ∀ j : Nat, j < 5 → ∃ t : Nat, W 3 j = nI t ∧ t < 4 ∧ (t = 1 → W 4 j = nI (sN2 W j) ∧ sN2 W j < 6) ∧ (t = 2 → W 4 j = nI (sN2 W j) ∧ sN2 W j ≤ 24)
def sp_shW (W : Nat → Nat → Int32) (j : Nat) (so m : Int32) : Nat → Nat → Int32 := mw (mg_u (mg_u W 0 j so) 1 j m) 2 (fun k => if 24 * j ≤ k ∧ k < 24 * j + 24 then nI 0 else W 2 k)
def sp_sheet (W : Nat → Nat → Int32) (a so m : Int32) : Int32 × (Nat → Nat → Int32) := match sp_rg 4 a with
  | none => ((-1000000001), W)
  | some j => if (-1) ≤ so ∧ so ≤ nI 1 then (if so < 0 then (nI 0, sp_shW W j so (nI 0)) else if m ≤ nI 24 then (if 0 ≤ m then (m, sp_shW W j so m) else ((-1000000014), W)) else ((-1000000001), W)) else ((-1000000001), W)
def sp_mark (W : Nat → Nat → Int32) (a pl v : Int32) : Int32 × (Nat → Nat → Int32) := match sp_rg 4 a with
  | none => ((-1000000001), W)
  | some j => if W 0 j < 0 then ((-1000000011), W) else match sp_rg (sN W j) pl with
    | none => ((-1000000013), W)
    | some p => if W 0 j = nI 0 then (if v = (-1000000005) then ((-1000000012), W) else (nI 1, mg_u W 2 (24 * j + p) v.toInt16.toInt32))
      else if v = (-1000000005) then (nI 1, mg_u W 2 (24 * j + p) v) else if (-99999) ≤ v ∧ v ≤ nI 99999 then (nI 1, mg_u W 2 (24 * j + p) v) else ((-1000000001), W)
def sp_prv (W : Nat → Nat → Int32) (s : Nat → Int32) (j p : Nat) : Int32 := if W 2 (24 * j + p) = (-1000000005) then s (5 + p) else sp_within (W 2 (24 * j + p)) (-9) (nI 9)
def sp_prS (W : Nat → Nat → Int32) (s : Nat → Int32) (j : Nat) : Nat → Nat → Int32
  | 0 => s
  | p + 1 => up (sp_prS W s j p) (5 + p) (sp_prv W s j p)
def sp_prC (W : Nat → Nat → Int32) (s : Nat → Int32) (j : Nat) : Nat → Int32
  | 0 => nI 0
  | p + 1 => sp_prC W s j p + (if s (5 + p) = sp_prv W s j p then nI 0 else nI 1)
def sp_pour (W : Nat → Nat → Int32) (s : Nat → Int32) (a : Int32) : Int32 × (Nat → Int32) := match sp_rg 4 a with
  | none => ((-1000000001), s)
  | some j => if W 0 j < 0 then ((-1000000011), s) else (sp_prC W s j (min (sN W j) 12), sp_prS W s j (min (sN W j) 12))
/-- from the place N - m on -/
def sp_rds (W : Nat → Nat → Int32) (s : Nat → Int32) (n j N : Nat) : Nat → Int32
  | 0 => (-1000000005)
  | m + 1 => if W 2 (24 * j + (N - (m + 1))) = (-1000000005) then sp_rds W s n j N m else if N - (m + 1) < n then (if W 2 (24 * j + (N - (m + 1))) = s (53 + 7 * (N - (m + 1)) + 1) then sp_rds W s n j N m else nI (N - (m + 1))) else nI (N - (m + 1))
def sp_reads (W : Nat → Nat → Int32) (s : Nat → Int32) (n : Nat) (a : Int32) : Int32 := match sp_rg 4 a with
  | none => (-1000000001)
  | some j => if W 0 j < 0 then (-1000000011) else sp_rds W s n j (sN W j) (sN W j)
def sp_cpW (W : Nat → Nat → Int32) (f t pl at_ m : Nat) : Nat → Nat → Int32 := mw W 2 (fun k => if 24 * t + at_ ≤ k ∧ k < 24 * t + at_ + m then W 2 (24 * f + pl + (k - (24 * t + at_))) else W 2 k)
def sp_copy (W : Nat → Nat → Int32) (f pl t at_ m : Int32) : Int32 × (Nat → Nat → Int32) := match sp_rg 4 f with
  | none => ((-1000000001), W)
  | some j => match sp_rg 4 t with
    | none => ((-1000000001), W)
    | some i => if W 0 j < 0 then ((-1000000011), W) else if W 0 i < 0 then ((-1000000011), W) else if W 0 j = W 0 i then
        (if (0 ≤ pl ∧ 0 ≤ m ∧ pl.toNatClampNeg + m.toNatClampNeg ≤ sN W j) ∧ (0 ≤ at_ ∧ at_.toNatClampNeg + m.toNatClampNeg ≤ sN W i) then (m, sp_cpW W j i pl.toNatClampNeg at_.toNatClampNeg m.toNatClampNeg) else ((-1000000013), W)) else ((-1000000012), W)
def sp_lyW (W : Nat → Nat → Int32) (l : Nat) (t A B : Int32) : Nat → Nat → Int32 := mg_u (mg_u (mg_u W 3 l t) 4 l A) 5 l B
def sp_lay (W : Nat → Nat → Int32) (s : Nat → Int32) (n : Nat) (sl th k : Int32) : Int32 × (Nat → Nat → Int32) := match sp_rg 5 sl with
  | none => ((-1000000001), W)
  | some l => match sp_rg 4 th with
    | none => ((-1000000001), W)
    | some 1 => (match sp_rg n k with
      | none => ((-1000000001), W)
      | some c => (W 3 l, sp_lyW W l (nI 1) (s (53 + 7 * c + 0)) (sp_worth (sQ s c) (s (53 + 7 * c + 2)))))
    | some 2 => (match sp_rg 4 k with
      | none => ((-1000000001), W)
      | some j => if W 0 j < 0 then ((-1000000011), W) else (W 3 l, mw (sp_lyW W l (nI 2) (W 1 j) (nI 0)) 6 (fun q => if 24 * l ≤ q ∧ q < 24 * l + 24 then W 2 (24 * j + (q - 24 * l)) else W 6 q)))
    | some t => (W 3 l, sp_lyW W l (nI t) k (nI 0))
def sp_ask (W : Nat → Nat → Int32) (sl kd : Int32) : Int32 := match sp_rg 5 sl with
  | none => (-1000000001)
  | some l => match sp_rg 6 kd with
    | none => (-1000000001)
    | some o => if W 3 l = nI 0 then (-1000000011) else if W 3 l = nI 1 then (if sp_under (sN2 W l) o then W 5 l else (-1000000012)) else (-1000000012)
def sp_item (W : Nat → Nat → Int32) (sl pl : Int32) : Int32 := match sp_rg 5 sl with
  | none => (-1000000001)
  | some l => if W 3 l = nI 0 then (-1000000011) else if W 3 l = nI 2 then (match sp_rg (sN2 W l) pl with
    | none => (-1000000013)
    | some p => if W 6 (24 * l + p) = (-1000000005) then (-1000000012) else W 6 (24 * l + p)) else (-1000000012)
def sp_rest (W : Nat → Nat → Int32) (sl v : Int32) : Int32 := match sp_rg 5 sl with
  | none => (-1000000001)
  | some l => if W 3 l = nI 0 then (-1000000011) else if W 3 l = nI 3 then (if v = 0 then (-1000000002) else if v = (-1) then nI 0 else W 4 l % v) else (-1000000012)
theorem mWk.sz {W : Nat → Nat → Int32} (h : mWk W) {j : Nat} (hj : j < 4) : W 1 j = nI (sN W j) := (h.1 j hj).1
theorem mWk.le {W : Nat → Nat → Int32} (h : mWk W) {j : Nat} (hj : j < 4) : sN W j ≤ 24 := (h.1 j hj).2.1
theorem mWk.so {W : Nat → Nat → Int32} (h : mWk W) {j : Nat} (hj : j < 4) : W 0 j = -1 ∨ W 0 j = nI 0 ∨ W 0 j = nI 1 := (h.1 j hj).2.2.1
theorem mWk.vl {W : Nat → Nat → Int32} (h : mWk W) {j k : Nat} (hj : j < 4) (hk : k < sN W j) : W 2 (24 * j + k) = (-1000000005) ∨ (-99999 ≤ W 2 (24 * j + k) ∧ W 2 (24 * j + k) ≤ nI 99999) := (h.1 j hj).2.2.2 k hk
theorem mWk.tg {W : Nat → Nat → Int32} (h : mWk W) {j : Nat} (hj : j < 5) : ∃ t : Nat, W 3 j = nI t ∧ t < 4 ∧ (t = 1 → W 4 j = nI (sN2 W j) ∧ sN2 W j < 6) ∧ (t = 2 → W 4 j = nI (sN2 W j) ∧ sN2 W j ≤ 24) := h.2 j hj
theorem mI_so {v : Int32} (h : -1 ≤ v ∧ v ≤ nI 1) : v = -1 ∨ v = nI 0 ∨ v = nI 1 := by
  have h1 := h.1
  have h2 := h.2
  rw [Int32.le_iff_toInt_le] at h1 h2
  have e1 : (-1 : Int32).toInt = -1 := by decide
  have e2 : (nI 1).toInt = 1 := by decide
  have e0 : (nI 0).toInt = 0 := by decide
  rw [e1] at h1
  rw [e2] at h2
  rcases (show v.toInt = -1 ∨ v.toInt = 0 ∨ v.toInt = 1 by omega) with e | e | e
  · exact Or.inl (Int32.toInt_inj.mp (e.trans e1.symm))
  · exact Or.inr (Or.inl (Int32.toInt_inj.mp (e.trans e0.symm)))
  · exact Or.inr (Or.inr (Int32.toInt_inj.mp (e.trans e2.symm)))
theorem mw_z0 {J : Nat → Nat → Int32} {a : Nat} : mw J 142 (fun q => if 24 * a ≤ q ∧ q < 24 * a + 0 then nI 0 else J 142 q) = J := by
  funext q r
  by_cases e : q = 142
  · subst e
    rw [mw_eq]
    exact if_neg (by omega)
  · exact mw_ne e
theorem mI_b24 {v : Int32} (h0 : 0 ≤ v) (h : v ≤ nI 24) : ∃ m : Nat, v = nI m ∧ m ≤ 24 := by
  obtain ⟨m, rfl, hm⟩ := mI_of h0
  exact ⟨m, rfl, (cI_le hm (by decide)).mp h⟩
theorem lp_Msheet {d L : Nat} {xs : Nat → Int32} {J : Nat → Nat → Int32} {Q : Option Value → mj_H → Prop} {a : Nat} {so m : Int32} (ha : a < 4) (hQ : Q (some (.int (J 141 a))) (mg_h L xs (mw J 142 (fun q => if 24 * a ≤ q ∧ q < 24 * a + 24 then nI 0 else J 142 q)))) : ∀ k : Nat, k ≤ 24 → mj_Ev (d + 2) 202 65 [.ref 127, .int (nI a), .int so, .int m, .int (nI k)] [] (mg_h L xs (mw J 142 (fun q => if 24 * a ≤ q ∧ q < 24 * a + k then nI 0 else J 142 q))) Q := by
  refine loop_ind (n := 24) (fun k hk ih => ?_)
  refine me_iload (p' := 67) k202_65 rfl rfl ?_
  refine me_bipush (p' := 69) k202_67 rfl (v := nI 24) (by decide) ?_
  refine me_ic_ge (p' := 72) k202_69 rfl (fun c1 => ?_) (fun c1 => ?_)
  · skip
    rw [cI_le (a := 24) (b := k) (by omega) (by omega)] at c1
    refine me_aload_n (p' := 92) k202_91 rfl rfl ?_
    refine me_gfr (p' := 95) k202_92 rfl (by decide) rfl (b := 141) rfl ?_
    refine me_iload_n (p' := 96) k202_95 rfl rfl ?_
    refine me_iald (p' := 97) k202_96 rfl (by decide) rfl (j := a) rfl (by omega) (by decide) rfl ?_
    refine me_reti k202_97 rt_202 rfl ?_
    have e8 : k = 24 := by omega
    subst e8
    rw [mw_ne (by decide)]
    exact hQ
  · skip
    rw [cI_le (a := 24) (b := k) (by omega) (by omega)] at c1
    refine me_aload_n (p' := 73) k202_72 rfl rfl ?_
    refine me_gfr (p' := 76) k202_73 rfl (by decide) rfl (b := 142) rfl ?_
    refine me_bipush (p' := 78) k202_76 rfl (v := nI 24) (by decide) ?_
    refine me_iload_n (p' := 79) k202_78 rfl rfl ?_
    refine me_imul (p' := 80) k202_79 rfl (v := nI (24 * a)) (mI_mul _ _) ?_
    refine me_iload (p' := 82) k202_80 rfl rfl ?_
    refine me_iadd (p' := 83) k202_82 rfl (v := nI ((24 * a) + k)) (mI_add _ _) ?_
    refine me_iconst (p' := 84) k202_83 rfl (v := nI 0) (by decide) ?_
    refine me_iast (p' := 85) k202_84 rfl (by decide) rfl (j := (24 * a) + k) rfl (by omega) (by decide) rfl ?_
    refine me_iinc (p' := 88) k202_85 rfl rfl rfl (v := nI (k + 1)) (mI_inc (by decide)) rfl ?_
    refine me_goto k202_88 ?_
    rw [mw_u, show up (fun q => if 24 * a ≤ q ∧ q < 24 * a + k then nI 0 else J 142 q) (24 * a + k) (nI 0) = (fun q => if 24 * a ≤ q ∧ q < 24 * a + (k + 1) then nI 0 else J 142 q) from by
      funext q
      unfold up
      by_cases e : q = 24 * a + k
      · subst e; simp
      · by_cases e2 : 24 * a ≤ q ∧ q < 24 * a + k
        · rw [if_neg e]; dsimp only; rw [if_pos e2, if_pos (by omega)]
        · rw [if_neg e]; dsimp only; rw [if_neg e2, if_neg (by omega)]]
    exact ih (by omega)
theorem ct_Msheet {d L : Nat} {xs : Nat → Int32} {I : Nat → Nat → Int32} {Q : Option Value → mj_H → Prop} {W : Nat → Nat → Int32} (hW : mW I = W) (hwk : mWk W) {a so m : Int32} (hQ : ∀ I2, mFr [140, 141, 142, 143, 144, 145, 146] I I2 → mW I2 = (sp_sheet W a so m).2 → Q (some (.int (sp_sheet W a so m).1)) (mg_h L xs I2)) : mj_Cl (d + 2) 202 [.ref 127, .int a, .int so, .int m] (mg_h L xs I) Q := by
  refine cl_start mx_202 (ls := [.ref 127, .int a, .int so, .int m, mj_no]) rfl ?_
  refine me_iload_n (p' := 1) k202_0 rfl rfl ?_
  refine me_cs (p' := 4) k202_1 rfl rfl rfl rfl rfl (cl_le mx_182 rfl) (by decide) (cl_sum rfl) (ct_MisSheet (fun k321 hk322 he => ?_) (fun hz323 => ?_))
  · skip
    subst he
    refine me_if_eq (p' := 7) k202_4 rfl (fun h => absurd h (by decide)) (fun _ => ?_)
    refine me_iload_n (p' := 8) k202_7 rfl rfl ?_
    refine me_iconst (p' := 9) k202_8 rfl (v := (-1)) (by decide) ?_
    refine me_iconst (p' := 10) k202_9 rfl (v := nI 1) (by decide) ?_
    refine me_cs (p' := 13) k202_10 rfl rfl rfl rfl rfl (cl_le mx_134 rfl) (by decide) (cl_sum rfl) (ct_in (fun e324 => ?_) (fun e324 => ?_))
    · skip
      refine me_if_eq (p' := 16) k202_13 rfl (fun h => absurd h (by decide)) (fun _ => ?_)
      rcases mI_so e324 with rfl | rfl | rfl
      · skip
        refine me_iload_n (p' := 17) k202_16 rfl rfl ?_
        refine me_if_lt (p' := 20) k202_17 rfl (fun c1 => ?_) (fun c1 => ?_)
        · skip
          refine me_iload_n (p' := 30) k202_29 rfl rfl ?_
          refine me_if_lt (p' := 33) k202_30 rfl (fun c2 => ?_) (fun c2 => ?_)
          · skip
            refine me_aload_n (p' := 41) k202_40 rfl rfl ?_
            refine me_gfr (p' := 44) k202_41 rfl (by decide) rfl (b := 140) rfl ?_
            refine me_iload_n (p' := 45) k202_44 rfl rfl ?_
            refine me_iload_n (p' := 46) k202_45 rfl rfl ?_
            refine me_iast (p' := 47) k202_46 rfl (by decide) rfl (j := k321) rfl (by omega) (by decide) rfl ?_
            refine me_aload_n (p' := 48) k202_47 rfl rfl ?_
            refine me_gfr (p' := 51) k202_48 rfl (by decide) rfl (b := 141) rfl ?_
            refine me_iload_n (p' := 52) k202_51 rfl rfl ?_
            refine me_iload_n (p' := 53) k202_52 rfl rfl ?_
            refine me_if_ge (p' := 56) k202_53 rfl (fun c3 => ?_) (fun c3 => ?_)
            · skip
              exact absurd c3 (by decide)
            · skip
              refine me_iconst (p' := 57) k202_56 rfl (v := nI 0) (by decide) ?_
              refine me_goto k202_57 ?_
              refine me_iast (p' := 62) k202_61 rfl (by decide) rfl (j := k321) rfl (by omega) (by decide) rfl ?_
              refine me_iconst (p' := 63) k202_62 rfl (v := nI 0) (by decide) ?_
              refine me_istore (p' := 65) k202_63 rfl ⟨Nat.le_of_ble_eq_true rfl, rfl⟩ rfl ?_
              have hE := fun hq => lp_Msheet (d := d) (L := L) (xs := xs) (Q := Q) (J := (mg_u (mg_u I 140 k321 (-1)) 141 k321 (nI 0))) (a := k321) (so := (-1)) (m := m) (by omega) hq 0 (by decide)
              rw [mw_z0] at hE
              refine hE ?_
              simp only [sp_sheet, sp_rg_s hk322 (by omega), if_pos e324, (show ((-1) : Int32) < 0 by decide), c1, c2, c3, if_true, if_false] at hQ
              rw [mg_ueq]
              refine hQ _ (((mFr.up (by decide)).tr (mFr.up (by decide))).tr (mFr.w (by decide))) ?_
              rw [mW_w (i := 2) (by decide), mW_u (i := 1) (by decide), mW_u (i := 0) (by decide), hW]
              unfold sp_shW
              congr 1
              funext q
              rw [mg_un1 (by decide), mg_un1 (by decide), ← hW]
              rfl
          · skip
            exact absurd (by decide) c2
        · skip
          exact absurd (by decide) c1
      · skip
        refine me_iload_n (p' := 17) k202_16 rfl rfl ?_
        refine me_if_lt (p' := 20) k202_17 rfl (fun h => absurd h (by decide)) (fun _ => ?_)
        refine me_iload_n (p' := 21) k202_20 rfl rfl ?_
        refine me_bipush (p' := 23) k202_21 rfl (v := nI 24) (by decide) ?_
        refine me_ic_le (p' := 26) k202_23 rfl (fun c4 => ?_) (fun c4 => ?_)
        · skip
          refine me_iload_n (p' := 30) k202_29 rfl rfl ?_
          refine me_if_lt (p' := 33) k202_30 rfl (fun h => absurd h (by decide)) (fun _ => ?_)
          refine me_iload_n (p' := 34) k202_33 rfl rfl ?_
          refine me_if_ge (p' := 37) k202_34 rfl (fun c5 => ?_) (fun c5 => ?_)
          · skip
            refine me_aload_n (p' := 41) k202_40 rfl rfl ?_
            refine me_gfr (p' := 44) k202_41 rfl (by decide) rfl (b := 140) rfl ?_
            refine me_iload_n (p' := 45) k202_44 rfl rfl ?_
            refine me_iload_n (p' := 46) k202_45 rfl rfl ?_
            refine me_iast (p' := 47) k202_46 rfl (by decide) rfl (j := k321) rfl (by omega) (by decide) rfl ?_
            refine me_aload_n (p' := 48) k202_47 rfl rfl ?_
            refine me_gfr (p' := 51) k202_48 rfl (by decide) rfl (b := 141) rfl ?_
            refine me_iload_n (p' := 52) k202_51 rfl rfl ?_
            refine me_iload_n (p' := 53) k202_52 rfl rfl ?_
            refine me_if_ge (p' := 56) k202_53 rfl (fun _ => ?_) (fun h => absurd (by decide) h)
            refine me_iload_n (p' := 61) k202_60 rfl rfl ?_
            refine me_iast (p' := 62) k202_61 rfl (by decide) rfl (j := k321) rfl (by omega) (by decide) rfl ?_
            refine me_iconst (p' := 63) k202_62 rfl (v := nI 0) (by decide) ?_
            refine me_istore (p' := 65) k202_63 rfl ⟨Nat.le_of_ble_eq_true rfl, rfl⟩ rfl ?_
            have hE := fun hq => lp_Msheet (d := d) (L := L) (xs := xs) (Q := Q) (J := (mg_u (mg_u I 140 k321 (nI 0)) 141 k321 m)) (a := k321) (so := (nI 0)) (m := m) (by omega) hq 0 (by decide)
            rw [mw_z0] at hE
            refine hE ?_
            simp only [sp_sheet, sp_rg_s hk322 (by omega), if_pos e324, (show ¬ (nI 0 : Int32) < 0 by decide), c4, c5, if_true, if_false] at hQ
            rw [mg_ueq]
            refine hQ _ (((mFr.up (by decide)).tr (mFr.up (by decide))).tr (mFr.w (by decide))) ?_
            rw [mW_w (i := 2) (by decide), mW_u (i := 1) (by decide), mW_u (i := 0) (by decide), hW]
            unfold sp_shW
            congr 1
            funext q
            rw [mg_un1 (by decide), mg_un1 (by decide), ← hW]
            rfl
          · skip
            refine me_ldc (p' := 39) k202_37 rfl (v := (-1000000014)) (by decide) ?_
            refine me_reti k202_39 rt_202 rfl ?_
            simp only [sp_sheet, sp_rg_s hk322 (by omega), if_pos e324, (show ¬ (nI 0 : Int32) < 0 by decide), c4, c5, if_true, if_false] at hQ
            exact hQ _ mFr.rf hW
        · skip
          refine me_ldc (p' := 28) k202_26 rfl (v := (-1000000001)) (by decide) ?_
          refine me_reti k202_28 rt_202 rfl ?_
          simp only [sp_sheet, sp_rg_s hk322 (by omega), if_pos e324, (show ¬ (nI 0 : Int32) < 0 by decide), c4, if_true, if_false] at hQ
          exact hQ _ mFr.rf hW
      · skip
        refine me_iload_n (p' := 17) k202_16 rfl rfl ?_
        refine me_if_lt (p' := 20) k202_17 rfl (fun h => absurd h (by decide)) (fun _ => ?_)
        refine me_iload_n (p' := 21) k202_20 rfl rfl ?_
        refine me_bipush (p' := 23) k202_21 rfl (v := nI 24) (by decide) ?_
        refine me_ic_le (p' := 26) k202_23 rfl (fun c6 => ?_) (fun c6 => ?_)
        · skip
          refine me_iload_n (p' := 30) k202_29 rfl rfl ?_
          refine me_if_lt (p' := 33) k202_30 rfl (fun h => absurd h (by decide)) (fun _ => ?_)
          refine me_iload_n (p' := 34) k202_33 rfl rfl ?_
          refine me_if_ge (p' := 37) k202_34 rfl (fun c7 => ?_) (fun c7 => ?_)
          · skip
            refine me_aload_n (p' := 41) k202_40 rfl rfl ?_
            refine me_gfr (p' := 44) k202_41 rfl (by decide) rfl (b := 140) rfl ?_
            refine me_iload_n (p' := 45) k202_44 rfl rfl ?_
            refine me_iload_n (p' := 46) k202_45 rfl rfl ?_
            refine me_iast (p' := 47) k202_46 rfl (by decide) rfl (j := k321) rfl (by omega) (by decide) rfl ?_
            refine me_aload_n (p' := 48) k202_47 rfl rfl ?_
            refine me_gfr (p' := 51) k202_48 rfl (by decide) rfl (b := 141) rfl ?_
            refine me_iload_n (p' := 52) k202_51 rfl rfl ?_
            refine me_iload_n (p' := 53) k202_52 rfl rfl ?_
            refine me_if_ge (p' := 56) k202_53 rfl (fun _ => ?_) (fun h => absurd (by decide) h)
            refine me_iload_n (p' := 61) k202_60 rfl rfl ?_
            refine me_iast (p' := 62) k202_61 rfl (by decide) rfl (j := k321) rfl (by omega) (by decide) rfl ?_
            refine me_iconst (p' := 63) k202_62 rfl (v := nI 0) (by decide) ?_
            refine me_istore (p' := 65) k202_63 rfl ⟨Nat.le_of_ble_eq_true rfl, rfl⟩ rfl ?_
            have hE := fun hq => lp_Msheet (d := d) (L := L) (xs := xs) (Q := Q) (J := (mg_u (mg_u I 140 k321 (nI 1)) 141 k321 m)) (a := k321) (so := (nI 1)) (m := m) (by omega) hq 0 (by decide)
            rw [mw_z0] at hE
            refine hE ?_
            simp only [sp_sheet, sp_rg_s hk322 (by omega), if_pos e324, (show ¬ (nI 1 : Int32) < 0 by decide), c6, c7, if_true, if_false] at hQ
            rw [mg_ueq]
            refine hQ _ (((mFr.up (by decide)).tr (mFr.up (by decide))).tr (mFr.w (by decide))) ?_
            rw [mW_w (i := 2) (by decide), mW_u (i := 1) (by decide), mW_u (i := 0) (by decide), hW]
            unfold sp_shW
            congr 1
            funext q
            rw [mg_un1 (by decide), mg_un1 (by decide), ← hW]
            rfl
          · skip
            refine me_ldc (p' := 39) k202_37 rfl (v := (-1000000014)) (by decide) ?_
            refine me_reti k202_39 rt_202 rfl ?_
            simp only [sp_sheet, sp_rg_s hk322 (by omega), if_pos e324, (show ¬ (nI 1 : Int32) < 0 by decide), c6, c7, if_true, if_false] at hQ
            exact hQ _ mFr.rf hW
        · skip
          refine me_ldc (p' := 28) k202_26 rfl (v := (-1000000001)) (by decide) ?_
          refine me_reti k202_28 rt_202 rfl ?_
          simp only [sp_sheet, sp_rg_s hk322 (by omega), if_pos e324, (show ¬ (nI 1 : Int32) < 0 by decide), c6, if_true, if_false] at hQ
          exact hQ _ mFr.rf hW
    · skip
      refine me_if_eq (p' := 16) k202_13 rfl (fun _ => ?_) (fun h => absurd (by decide) h)
      refine me_ldc (p' := 28) k202_26 rfl (v := (-1000000001)) (by decide) ?_
      refine me_reti k202_28 rt_202 rfl ?_
      simp only [sp_sheet, sp_rg_s hk322 (by omega), if_neg e324, if_true, if_false] at hQ
      exact hQ _ mFr.rf hW
  · skip
    refine me_if_eq (p' := 7) k202_4 rfl (fun _ => ?_) (fun h => absurd (by decide) h)
    refine me_ldc (p' := 28) k202_26 rfl (v := (-1000000001)) (by decide) ?_
    refine me_reti k202_28 rt_202 rfl ?_
    simp only [sp_sheet, sp_rg_n (by omega) hz323, if_true, if_false] at hQ
    exact hQ _ mFr.rf hW
