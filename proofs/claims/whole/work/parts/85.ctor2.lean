/-! ===== the constructors: the other cells ===== -/
theorem cChk_2 : (List.range' 59 45).all cChk = true := by decide +kernel
theorem cChk_3 : (List.range' 104 24).all cChk = true := by decide +kernel
theorem cChk_4 : cChk 128 = true := by decide +kernel
theorem cChk_5 : cChk 129 = true := by decide +kernel
theorem cChk_6 : cChk 130 = true := by decide +kernel
theorem cChk_7 : (List.range' 131 18).all cChk = true := by decide +kernel
theorem cChk_all {i : Nat} (hi : i < 149) : cChk i = true := by
  by_cases h1 : i < 59
  · exact List.all_eq_true.mp cChk_1 i (List.mem_range'_1.mpr ⟨by omega, by omega⟩)
  · by_cases h2 : i < 104
    · exact List.all_eq_true.mp cChk_2 i (List.mem_range'_1.mpr ⟨by omega, by omega⟩)
    · by_cases h3 : i < 128
      · exact List.all_eq_true.mp cChk_3 i (List.mem_range'_1.mpr ⟨by omega, by omega⟩)
      · rcases (show i = 128 ∨ i = 129 ∨ i = 130 ∨ 131 ≤ i by omega) with rfl | rfl | rfl | h4
        · exact cChk_4
        · exact cChk_5
        · exact cChk_6
        · exact List.all_eq_true.mp cChk_7 i (List.mem_range'_1.mpr ⟨by omega, by omega⟩)
theorem mE.end {L : Nat} {xs : Nat → Int32} {h : mj_H} (E : mE L xs hC4 h) : mE L xs (mg_h L xs mI0) h := by
  have e4 := hC4_n
  refine ⟨E.n.trans e4.1, E.m.trans e4.2, (show 149 ≤ 1000000 by decide), fun i hi => ?_, E.2.2.2.2.1, E.2.2.2.2.2.1, Or.inr ⟨?_, fun k => ?_⟩⟩
  · have hi : i < 149 := hi
    have hX : ¬ i = mj_X := by show ¬ i = 1000000; omega
    have hc := cChk_all hi
    unfold cChk at hc
    rw [Bool.and_eq_true, decide_eq_true_eq] at hc
    have e1 : mg_sh L i = mg_tbl.getD i (99, 0) := by unfold mg_sh; rw [if_neg hX]
    have hi4 : i < hC4.1 := by rw [e4.1]; exact hi
    refine ⟨(E.s hi4).trans (hc.1.trans e1.symm), fun k hk => ?_⟩
    have hk : k < (mg_sh L i).2 ∨ ((mg_sh L i).1 < 20 ∧ k < 40) := hk
    rw [e1] at hk
    have hb : k < cBd (mg_tbl.getD i (99, 0)) := by
      unfold cBd
      split
      · omega
      · omega
    have h2 := vEq_of (List.all_eq_true.mp hc.2 k (List.mem_range.mpr hb))
    rw [E.v hi4 (by rw [hc.1]; exact hk), ← h2]
    show mg_V (fun _ => 0) mI0 i k = mg_V xs mI0 i k
    unfold mg_V
    rw [if_neg hX, if_neg hX]
  · show mg_sh L mj_X = (20, L)
    unfold mg_sh
    rw [if_pos rfl]
  · show mg_V xs mI0 mj_X k = _
    unfold mg_V
    rw [if_pos rfl]
