/-! ===== the model: the TEXT that counts, PACE ===== -/
/-- the TEXTS of a state: nt of them, their KEYS, words, and how many NUMBERS and NAMES they have -/
def mTxs (I : Nat → Nat → Int32) (nt : Nat) (kf : Nat → Nat) (tk : Nat → List Nat) (na : Nat → Nat) : Prop :=
  I 128 4 = nI nt ∧ nt ≤ 14 ∧ ∀ t : Nat, t < nt → kf t < 3 ∧ (tk t).length ≤ 96 ∧ sp_ok (tk t) 0 = true ∧ I 128 (109 + 2 * t) = nI (1000 * kf t + (tk t).length) ∧ I 128 (109 + 2 * t + 1) = nI (na t) ∧ (∀ j : Nat, j < (tk t).length → I 128 (137 + 96 * t + j) = sp_mc ((tk t).getD j 0)) ∧ (kf t ≠ 0 → ∀ x ∈ tk t, x ≠ 10002)
def sp_counts (kf : Nat → Nat) (key : Nat) : Nat → Option Nat
  | 0 => none
  | n + 1 => if kf n = key then some n else sp_counts kf key n
def sp_val (nt : Nat) (kf : Nat → Nat) (tk : Nat → List Nat) (key : Nat) (dflt f0 f1 f2 : Int32) : Int32 := match sp_counts kf key nt with
  | none => dflt
  | some t => (sp_ev (fun j => [f0, f1, f2].getD j 0) (tk t) []).headD 0
theorem sp_counts_lt {kf : Nat → Nat} {key : Nat} : ∀ {n t : Nat}, sp_counts kf key n = some t → t < n ∧ kf t = key
  | 0, _, h => by cases h
  | n + 1, t, h => by
    unfold sp_counts at h
    split at h
    · rename_i h0
      cases h
      exact ⟨by omega, h0⟩
    · have := sp_counts_lt h
      exact ⟨by omega, this.2⟩
theorem mg_un1 {I : Nat → Nat → Int32} {i k a b : Nat} {v : Int32} (h : a ≠ i) : mg_u I i k v a b = I a b := mg_une (fun z => h z.1)
theorem ct_worksOut {d L : Nat} {xs : Nat → Int32} {I : Nat → Nat → Int32} {Q : Option Value → mj_H → Prop} {t key : Nat} {l : List Nat} {fa : Nat → Int32} (ht : t < 14) (hkey : key < 3) (hfa : ∀ j, j < 3 → I 139 j = fa j) (hT : I 128 (109 + 2 * t) = nI (1000 * key + l.length)) (hlen : l.length ≤ 96) (hok : sp_ok l 0 = true) (hcode : ∀ j, j < l.length → I 128 (137 + 96 * t + j) = sp_mc (l.getD j 0)) (hQ : ∀ I2, mFr [138] I I2 → Q (some (.int ((sp_ev fa l []).headD 0))) (mg_h L xs I2)) : mj_Cl (d + 1) 142 [.ref 127, .int (nI t)] (mg_h L xs I) Q := by
  refine cl_start mx_142 (ls := [.ref 127, .int (nI t), mj_no, mj_no, mj_no, mj_no]) rfl ?_
  refine me_iconst (p' := 1) k142_0 rfl (v := nI 0) (by decide) ?_
  refine me_istore_n (p' := 2) k142_1 rfl ⟨Nat.le_of_ble_eq_true rfl, rfl⟩ rfl ?_
  refine me_aload_n (p' := 3) k142_2 rfl rfl ?_
  refine me_gfr (p' := 6) k142_3 rfl (by decide) rfl (b := 128) rfl ?_
  refine me_bipush (p' := 8) k142_6 rfl (v := nI 109) (by decide) ?_
  refine me_iconst (p' := 9) k142_8 rfl (v := nI 2) (by decide) ?_
  refine me_iload_n (p' := 10) k142_9 rfl rfl ?_
  refine me_imul (p' := 11) k142_10 rfl (v := nI (2 * t)) (mI_mul _ _) ?_
  refine me_iadd (p' := 12) k142_11 rfl (v := nI (109 + (2 * t))) (mI_add _ _) ?_
  refine me_iald (p' := 13) k142_12 rfl (by decide) rfl (j := 109 + (2 * t)) rfl (by omega) (by decide) rfl ?_
  rw [hT]
  refine me_sipush (p' := 16) k142_13 rfl (v := nI 1000) (by decide) ?_
  refine me_irem (p' := 17) k142_16 rfl (nI_ne0 (by omega) (by omega)) (v := nI ((1000 * key + l.length) % 1000)) (mI_mod (by omega) (by omega)) ?_
  rw [show (1000 * key + l.length) % 1000 = l.length from by omega]
  refine me_istore_n (p' := 18) k142_17 rfl ⟨Nat.le_of_ble_eq_true rfl, rfl⟩ rfl ?_
  refine me_iconst (p' := 19) k142_18 rfl (v := nI 0) (by decide) ?_
  refine me_istore (p' := 21) k142_19 rfl ⟨Nat.le_of_ble_eq_true rfl, rfl⟩ rfl ?_
  exact lp_worksOut (m := l.length) ht (by omega) hfa l 0 [] I _ mFr.rf (fun j hj => by simp at hj) hok (by omega) (by omega) (fun j hj => by rw [Nat.zero_add]; exact hcode j hj) (by simp) hQ
theorem mI_pred (m : Nat) : nI (m + 1) - nI 1 = nI m := by rw [mI_sub (by omega)]; rfl
theorem mI_dec (m : Nat) : nI m + Int32.ofInt (-1) = nI m - nI 1 := by rw [show Int32.ofInt (-1) = - nI 1 from by decide, ← Int32.sub_eq_add_neg]
theorem lp_counts {d L : Nat} {xs : Nat → Int32} {I : Nat → Nat → Int32} {Q : Option Value → mj_H → Prop} {nt key : Nat} {kf : Nat → Nat} {tk : Nat → List Nat} {na : Nat → Nat} (hx : mTxs I nt kf tk na) (hkey : key < 3) : ∀ m : Nat, m ≤ nt → (hQ : Q (some (.int (oI (sp_counts kf key m)))) (mg_h L xs I)) → mj_Ev d 140 9 [.ref 127, .int (nI key), .int (nI m - nI 1)] [] (mg_h L xs I) Q := by
  intro m
  induction m with
  | zero =>
    intro hm hQ
    refine me_iload_n (p' := 10) k140_9 rfl rfl ?_
    refine me_if_lt (p' := 13) k140_10 rfl (fun c1 => ?_) (fun c1 => ?_)
    · skip
      refine me_iconst (p' := 41) k140_40 rfl (v := (-1)) (by decide) ?_
      refine me_reti k140_41 rt_140 rfl ?_
      exact hQ
    · skip
      exact absurd (by decide) c1
  | succ m ih =>
    intro hm hQ
    have hnt := hx.2.1
    have hx := hx.2.2 m (by omega)
    have hx1 := hx.1
    have hx2 := hx.2.1
    rw [mI_pred]
    refine me_iload_n (p' := 10) k140_9 rfl rfl ?_
    refine me_if_lt (p' := 13) k140_10 rfl (fun c1 => ?_) (fun c1 => ?_)
    · skip
      rw [cI_lt0 (a := m) (by omega)] at c1
      exact c1.elim
    · skip
      rw [cI_lt0 (a := m) (by omega)] at c1
      refine me_aload_n (p' := 14) k140_13 rfl rfl ?_
      refine me_gfr (p' := 17) k140_14 rfl (by decide) rfl (b := 128) rfl ?_
      refine me_bipush (p' := 19) k140_17 rfl (v := nI 109) (by decide) ?_
      refine me_iconst (p' := 20) k140_19 rfl (v := nI 2) (by decide) ?_
      refine me_iload_n (p' := 21) k140_20 rfl rfl ?_
      refine me_imul (p' := 22) k140_21 rfl (v := nI (2 * m)) (mI_mul _ _) ?_
      refine me_iadd (p' := 23) k140_22 rfl (v := nI (109 + (2 * m))) (mI_add _ _) ?_
      refine me_iald (p' := 24) k140_23 rfl (by decide) rfl (j := 109 + (2 * m)) rfl (by omega) (by decide) rfl ?_
      rw [hx.2.2.2.1]
      refine me_sipush (p' := 27) k140_24 rfl (v := nI 1000) (by decide) ?_
      refine me_idiv (p' := 28) k140_27 rfl (nI_ne0 (by omega) (by omega)) (v := nI ((1000 * kf m + (tk m).length) / 1000)) (mI_div (by omega) (by omega)) ?_
      rw [show (1000 * kf m + (tk m).length) / 1000 = kf m from by omega]
      refine me_iload_n (p' := 29) k140_28 rfl rfl ?_
      refine me_ic_ne (p' := 32) k140_29 rfl (fun c2 => ?_) (fun c2 => ?_)
      · skip
        rw [cI_eq (a := kf m) (b := key) (by omega) (by omega)] at c2
        refine me_iload_n (p' := 33) k140_32 rfl rfl ?_
        refine me_reti k140_33 rt_140 rfl ?_
        rw [sp_counts, if_pos c2] at hQ
        exact hQ
      · skip
        rw [cI_eq (a := kf m) (b := key) (by omega) (by omega)] at c2
        refine me_iinc (p' := 37) k140_34 rfl rfl rfl rfl rfl ?_
        refine me_goto k140_37 ?_
        rw [mI_dec]
        exact ih (by omega) (by rw [sp_counts, if_neg c2] at hQ; exact hQ)
theorem ct_counts {d L : Nat} {xs : Nat → Int32} {I : Nat → Nat → Int32} {Q : Option Value → mj_H → Prop} {nt key : Nat} {kf : Nat → Nat} {tk : Nat → List Nat} {na : Nat → Nat} (hx : mTxs I nt kf tk na) (hkey : key < 3) (hQ : Q (some (.int (oI (sp_counts kf key nt)))) (mg_h L xs I)) : mj_Cl d 140 [.ref 127, .int (nI key)] (mg_h L xs I) Q := by
  refine cl_start mx_140 (ls := [.ref 127, .int (nI key), mj_no]) rfl ?_
  refine me_aload_n (p' := 1) k140_0 rfl rfl ?_
  refine me_gfr (p' := 4) k140_1 rfl (by decide) rfl (b := 128) rfl ?_
  refine me_iconst (p' := 5) k140_4 rfl (v := nI 4) (by decide) ?_
  refine me_iald (p' := 6) k140_5 rfl (by decide) rfl (j := 4) rfl (by omega) (by decide) rfl ?_
  rw [hx.1]
  refine me_iconst (p' := 7) k140_6 rfl (v := nI 1) (by decide) ?_
  refine me_isub (p' := 8) k140_7 rfl rfl ?_
  refine me_istore_n (p' := 9) k140_8 rfl ⟨Nat.le_of_ble_eq_true rfl, rfl⟩ rfl ?_
  exact lp_counts hx hkey nt (Nat.le_refl _) hQ
def sp_heavy (pl r : Int32) : Int32 := sp_within (if 0 ≤ r then pl else pl + nI 2) (nI 1) (nI 20)
def sp_light (pl : Int32) : Int32 := sp_within (pl / nI 2) (nI 1) (nI 20)
/-- PACE by KIND, out of what a CAR does (within 1 .. 20), RISE and BRAKE -/
def sp_gain : Nat → Int32 → Int32 → Int32 → Int32
  | 0, pl, _, _ => pl
  | 1, pl, r, _ => sp_heavy pl r
  | 2, pl, _, _ => sp_light pl
  | 3, pl, r, _ => sp_within (if r ≤ 0 then sp_heavy pl r else sp_heavy pl r - nI 1) (nI 1) (nI 20)
  | 4, pl, _, b => if b < nI 5 then sp_light pl else nI 1
  | _, _, _, _ => nI 7
theorem lp_pace85 {d L : Nat} {xs : Nat → Int32} {I : Nat → Nat → Int32} {Q : Option Value → mj_H → Prop} {c p q : Nat} {r0 b0 g0 tq : Int32} (hc : c < 8) (hk : I 128 (53 + 7 * c + 0) = nI q) (hq : q < 6) (hQ : Q (some (.int (sp_gain q (sp_within g0 (nI 1) (nI 20)) r0 b0))) (mg_h L xs I)) : mj_Ev (d + 2) 139 85 [.ref 127, .int (nI c), .int (nI p), .int r0, .int b0, .int tq, mj_no, mj_no, mj_no] [.int g0] (mg_h L xs I) Q := by
  refine me_iconst (p' := 86) k139_85 rfl (v := nI 1) (by decide) ?_
  refine me_bipush (p' := 88) k139_86 rfl (v := nI 20) (by decide) ?_
  refine me_cs (p' := 91) k139_88 rfl rfl rfl rfl rfl (cl_le mx_144 rfl) (by decide) (cl_sum rfl) (ct_within ?_)
  refine me_istore (p' := 93) k139_91 rfl ⟨Nat.le_of_ble_eq_true rfl, rfl⟩ rfl ?_
  refine me_iload_n (p' := 94) k139_93 rfl rfl ?_
  refine me_if_ge (p' := 97) k139_94 rfl (fun c1 => ?_) (fun c1 => ?_)
  · skip
    refine me_iload (p' := 106) k139_104 rfl rfl ?_
    refine me_iconst (p' := 107) k139_106 rfl (v := nI 1) (by decide) ?_
    refine me_bipush (p' := 109) k139_107 rfl (v := nI 20) (by decide) ?_
    refine me_cs (p' := 112) k139_109 rfl rfl rfl rfl rfl (cl_le mx_144 rfl) (by decide) (cl_sum rfl) (ct_within ?_)
    refine me_istore (p' := 114) k139_112 rfl ⟨Nat.le_of_ble_eq_true rfl, rfl⟩ rfl ?_
    refine me_iload (p' := 116) k139_114 rfl rfl ?_
    refine me_iconst (p' := 117) k139_116 rfl (v := nI 2) (by decide) ?_
    refine me_idiv (p' := 118) k139_117 rfl (nI_ne0 (by omega) (by omega)) rfl ?_
    refine me_iconst (p' := 119) k139_118 rfl (v := nI 1) (by decide) ?_
    refine me_bipush (p' := 121) k139_119 rfl (v := nI 20) (by decide) ?_
    refine me_cs (p' := 124) k139_121 rfl rfl rfl rfl rfl (cl_le mx_144 rfl) (by decide) (cl_sum rfl) (ct_within ?_)
    refine me_istore (p' := 126) k139_124 rfl ⟨Nat.le_of_ble_eq_true rfl, rfl⟩ rfl ?_
    refine me_aload_n (p' := 127) k139_126 rfl rfl ?_
    refine me_iload_n (p' := 128) k139_127 rfl rfl ?_
    refine me_iconst (p' := 129) k139_128 rfl (v := nI 0) (by decide) ?_
    refine me_cv (p' := 132) k139_129 rfl rfl (by decide) rfl (by decide) (by decide) dp_141 rfl rfl (cl_le mx_141 rfl) (by decide) (cl_sum rfl) (ct_of (by omega) ?_)
    rw [hk]
    rcases (show q = 0 ∨ q = 1 ∨ q = 2 ∨ q = 3 ∨ q = 4 ∨ q = 5 by omega) with rfl | rfl | rfl | rfl | rfl | rfl
    · skip
      refine me_tsw (p' := 210) k139_132 (by decide) ?_
      refine me_iload (p' := 212) k139_210 rfl rfl ?_
      refine me_reti k139_212 rt_139 rfl ?_
      simp only [sp_gain, sp_heavy, sp_light, c1, if_true, if_false] at hQ
      exact hQ
    · skip
      refine me_tsw (p' := 168) k139_132 (by decide) ?_
      refine me_iload (p' := 170) k139_168 rfl rfl ?_
      refine me_reti k139_170 rt_139 rfl ?_
      simp only [sp_gain, sp_heavy, sp_light, c1, if_true, if_false] at hQ
      exact hQ
    · skip
      refine me_tsw (p' := 171) k139_132 (by decide) ?_
      refine me_iload (p' := 173) k139_171 rfl rfl ?_
      refine me_reti k139_173 rt_139 rfl ?_
      simp only [sp_gain, sp_heavy, sp_light, c1, if_true, if_false] at hQ
      exact hQ
    · skip
      refine me_tsw (p' := 174) k139_132 (by decide) ?_
      refine me_iload_n (p' := 175) k139_174 rfl rfl ?_
      refine me_if_le (p' := 178) k139_175 rfl (fun c2 => ?_) (fun c2 => ?_)
      · skip
        refine me_iload (p' := 187) k139_185 rfl rfl ?_
        refine me_iconst (p' := 188) k139_187 rfl (v := nI 1) (by decide) ?_
        refine me_bipush (p' := 190) k139_188 rfl (v := nI 20) (by decide) ?_
        refine me_cs (p' := 193) k139_190 rfl rfl rfl rfl rfl (cl_le mx_144 rfl) (by decide) (cl_sum rfl) (ct_within ?_)
        refine me_reti k139_193 rt_139 rfl ?_
        simp only [sp_gain, sp_heavy, sp_light, c1, c2, if_true, if_false] at hQ
        exact hQ
      · skip
        refine me_iload (p' := 180) k139_178 rfl rfl ?_
        refine me_iconst (p' := 181) k139_180 rfl (v := nI 1) (by decide) ?_
        refine me_isub (p' := 182) k139_181 rfl rfl ?_
        refine me_goto k139_182 ?_
        refine me_iconst (p' := 188) k139_187 rfl (v := nI 1) (by decide) ?_
        refine me_bipush (p' := 190) k139_188 rfl (v := nI 20) (by decide) ?_
        refine me_cs (p' := 193) k139_190 rfl rfl rfl rfl rfl (cl_le mx_144 rfl) (by decide) (cl_sum rfl) (ct_within ?_)
        refine me_reti k139_193 rt_139 rfl ?_
        simp only [sp_gain, sp_heavy, sp_light, c1, c2, if_true, if_false] at hQ
        exact hQ
    · skip
      refine me_tsw (p' := 194) k139_132 (by decide) ?_
      refine me_iload (p' := 196) k139_194 rfl rfl ?_
      refine me_iconst (p' := 197) k139_196 rfl (v := nI 5) (by decide) ?_
      refine me_ic_lt (p' := 200) k139_197 rfl (fun c3 => ?_) (fun c3 => ?_)
      · skip
        refine me_iload (p' := 206) k139_204 rfl rfl ?_
        refine me_reti k139_206 rt_139 rfl ?_
        simp only [sp_gain, sp_heavy, sp_light, c1, c3, if_true, if_false] at hQ
        exact hQ
      · skip
        refine me_iconst (p' := 201) k139_200 rfl (v := nI 1) (by decide) ?_
        refine me_goto k139_201 ?_
        refine me_reti k139_206 rt_139 rfl ?_
        simp only [sp_gain, sp_heavy, sp_light, c1, c3, if_true, if_false] at hQ
        exact hQ
    · skip
      refine me_tsw (p' := 207) k139_132 (by decide) ?_
      refine me_bipush (p' := 209) k139_207 rfl (v := nI 7) (by decide) ?_
      refine me_reti k139_209 rt_139 rfl ?_
      simp only [sp_gain, sp_heavy, sp_light, c1, if_true, if_false] at hQ
      exact hQ
  · skip
    refine me_iload (p' := 99) k139_97 rfl rfl ?_
    refine me_iconst (p' := 100) k139_99 rfl (v := nI 2) (by decide) ?_
    refine me_iadd (p' := 101) k139_100 rfl rfl ?_
    refine me_goto k139_101 ?_
    refine me_iconst (p' := 107) k139_106 rfl (v := nI 1) (by decide) ?_
    refine me_bipush (p' := 109) k139_107 rfl (v := nI 20) (by decide) ?_
    refine me_cs (p' := 112) k139_109 rfl rfl rfl rfl rfl (cl_le mx_144 rfl) (by decide) (cl_sum rfl) (ct_within ?_)
    refine me_istore (p' := 114) k139_112 rfl ⟨Nat.le_of_ble_eq_true rfl, rfl⟩ rfl ?_
    refine me_iload (p' := 116) k139_114 rfl rfl ?_
    refine me_iconst (p' := 117) k139_116 rfl (v := nI 2) (by decide) ?_
    refine me_idiv (p' := 118) k139_117 rfl (nI_ne0 (by omega) (by omega)) rfl ?_
    refine me_iconst (p' := 119) k139_118 rfl (v := nI 1) (by decide) ?_
    refine me_bipush (p' := 121) k139_119 rfl (v := nI 20) (by decide) ?_
    refine me_cs (p' := 124) k139_121 rfl rfl rfl rfl rfl (cl_le mx_144 rfl) (by decide) (cl_sum rfl) (ct_within ?_)
    refine me_istore (p' := 126) k139_124 rfl ⟨Nat.le_of_ble_eq_true rfl, rfl⟩ rfl ?_
    refine me_aload_n (p' := 127) k139_126 rfl rfl ?_
    refine me_iload_n (p' := 128) k139_127 rfl rfl ?_
    refine me_iconst (p' := 129) k139_128 rfl (v := nI 0) (by decide) ?_
    refine me_cv (p' := 132) k139_129 rfl rfl (by decide) rfl (by decide) (by decide) dp_141 rfl rfl (cl_le mx_141 rfl) (by decide) (cl_sum rfl) (ct_of (by omega) ?_)
    rw [hk]
    rcases (show q = 0 ∨ q = 1 ∨ q = 2 ∨ q = 3 ∨ q = 4 ∨ q = 5 by omega) with rfl | rfl | rfl | rfl | rfl | rfl
    · skip
      refine me_tsw (p' := 210) k139_132 (by decide) ?_
      refine me_iload (p' := 212) k139_210 rfl rfl ?_
      refine me_reti k139_212 rt_139 rfl ?_
      simp only [sp_gain, sp_heavy, sp_light, c1, if_true, if_false] at hQ
      exact hQ
    · skip
      refine me_tsw (p' := 168) k139_132 (by decide) ?_
      refine me_iload (p' := 170) k139_168 rfl rfl ?_
      refine me_reti k139_170 rt_139 rfl ?_
      simp only [sp_gain, sp_heavy, sp_light, c1, if_true, if_false] at hQ
      exact hQ
    · skip
      refine me_tsw (p' := 171) k139_132 (by decide) ?_
      refine me_iload (p' := 173) k139_171 rfl rfl ?_
      refine me_reti k139_173 rt_139 rfl ?_
      simp only [sp_gain, sp_heavy, sp_light, c1, if_true, if_false] at hQ
      exact hQ
    · skip
      refine me_tsw (p' := 174) k139_132 (by decide) ?_
      refine me_iload_n (p' := 175) k139_174 rfl rfl ?_
      refine me_if_le (p' := 178) k139_175 rfl (fun c4 => ?_) (fun c4 => ?_)
      · skip
        refine me_iload (p' := 187) k139_185 rfl rfl ?_
        refine me_iconst (p' := 188) k139_187 rfl (v := nI 1) (by decide) ?_
        refine me_bipush (p' := 190) k139_188 rfl (v := nI 20) (by decide) ?_
        refine me_cs (p' := 193) k139_190 rfl rfl rfl rfl rfl (cl_le mx_144 rfl) (by decide) (cl_sum rfl) (ct_within ?_)
        refine me_reti k139_193 rt_139 rfl ?_
        simp only [sp_gain, sp_heavy, sp_light, c1, c4, if_true, if_false] at hQ
        exact hQ
      · skip
        refine me_iload (p' := 180) k139_178 rfl rfl ?_
        refine me_iconst (p' := 181) k139_180 rfl (v := nI 1) (by decide) ?_
        refine me_isub (p' := 182) k139_181 rfl rfl ?_
        refine me_goto k139_182 ?_
        refine me_iconst (p' := 188) k139_187 rfl (v := nI 1) (by decide) ?_
        refine me_bipush (p' := 190) k139_188 rfl (v := nI 20) (by decide) ?_
        refine me_cs (p' := 193) k139_190 rfl rfl rfl rfl rfl (cl_le mx_144 rfl) (by decide) (cl_sum rfl) (ct_within ?_)
        refine me_reti k139_193 rt_139 rfl ?_
        simp only [sp_gain, sp_heavy, sp_light, c1, c4, if_true, if_false] at hQ
        exact hQ
    · skip
      refine me_tsw (p' := 194) k139_132 (by decide) ?_
      refine me_iload (p' := 196) k139_194 rfl rfl ?_
      refine me_iconst (p' := 197) k139_196 rfl (v := nI 5) (by decide) ?_
      refine me_ic_lt (p' := 200) k139_197 rfl (fun c5 => ?_) (fun c5 => ?_)
      · skip
        refine me_iload (p' := 206) k139_204 rfl rfl ?_
        refine me_reti k139_206 rt_139 rfl ?_
        simp only [sp_gain, sp_heavy, sp_light, c1, c5, if_true, if_false] at hQ
        exact hQ
      · skip
        refine me_iconst (p' := 201) k139_200 rfl (v := nI 1) (by decide) ?_
        refine me_goto k139_201 ?_
        refine me_reti k139_206 rt_139 rfl ?_
        simp only [sp_gain, sp_heavy, sp_light, c1, c5, if_true, if_false] at hQ
        exact hQ
    · skip
      refine me_tsw (p' := 207) k139_132 (by decide) ?_
      refine me_bipush (p' := 209) k139_207 rfl (v := nI 7) (by decide) ?_
      refine me_reti k139_209 rt_139 rfl ?_
      simp only [sp_gain, sp_heavy, sp_light, c1, if_true, if_false] at hQ
      exact hQ
def sp_pace (nt : Nat) (kf : Nat → Nat) (tk : Nat → List Nat) (s : Nat → Int32) (c p q : Nat) : Int32 :=
  sp_gain q (sp_within (sp_val nt kf tk 0 (nI 6 + s (53 + 7 * c + 2) / nI 20 - s (5 + p) - s (17 + p)) (s (53 + 7 * c + 2)) (s (5 + p)) (s (17 + p))) (nI 1) (nI 20)) (s (5 + p)) (s (17 + p))
theorem ct_paceIn {d L : Nat} {xs : Nat → Int32} {I : Nat → Nat → Int32} {Q : Option Value → mj_H → Prop} {nt c p q : Nat} {kf : Nat → Nat} {tk : Nat → List Nat} {na : Nat → Nat} (hx : mTxs I nt kf tk na) (hc : c < 8) (hp : p < 12) (hk : I 128 (53 + 7 * c + 0) = nI q) (hq : q < 6) (hQ : ∀ I2, mFr [138, 139] I I2 → Q (some (.int (sp_pace nt kf tk (I 128) c p q))) (mg_h L xs I2)) : mj_Cl (d + 2) 139 [.ref 127, .int (nI c), .int (nI p)] (mg_h L xs I) Q := by
  refine cl_start mx_139 (ls := [.ref 127, .int (nI c), .int (nI p), mj_no, mj_no, mj_no, mj_no, mj_no, mj_no]) rfl ?_
  refine me_aload_n (p' := 1) k139_0 rfl rfl ?_
  refine me_gfr (p' := 4) k139_1 rfl (by decide) rfl (b := 128) rfl ?_
  refine me_iconst (p' := 5) k139_4 rfl (v := nI 5) (by decide) ?_
  refine me_iload_n (p' := 6) k139_5 rfl rfl ?_
  refine me_iadd (p' := 7) k139_6 rfl (v := nI (5 + p)) (mI_add _ _) ?_
  refine me_iald (p' := 8) k139_7 rfl (by decide) rfl (j := 5 + p) rfl (by omega) (by decide) rfl ?_
  refine me_istore_n (p' := 9) k139_8 rfl ⟨Nat.le_of_ble_eq_true rfl, rfl⟩ rfl ?_
  refine me_aload_n (p' := 10) k139_9 rfl rfl ?_
  refine me_gfr (p' := 13) k139_10 rfl (by decide) rfl (b := 128) rfl ?_
  refine me_bipush (p' := 15) k139_13 rfl (v := nI 17) (by decide) ?_
  refine me_iload_n (p' := 16) k139_15 rfl rfl ?_
  refine me_iadd (p' := 17) k139_16 rfl (v := nI (17 + p)) (mI_add _ _) ?_
  refine me_iald (p' := 18) k139_17 rfl (by decide) rfl (j := 17 + p) rfl (by omega) (by decide) rfl ?_
  refine me_istore (p' := 20) k139_18 rfl ⟨Nat.le_of_ble_eq_true rfl, rfl⟩ rfl ?_
  refine me_aload_n (p' := 21) k139_20 rfl rfl ?_
  refine me_iconst (p' := 22) k139_21 rfl (v := nI 0) (by decide) ?_
  refine me_cv (p' := 25) k139_22 rfl rfl (by decide) rfl (by decide) (by decide) dp_140 rfl rfl (cl_le mx_140 rfl) (by decide) (cl_sum rfl) (ct_counts hx (by decide) ?_)
  refine me_istore (p' := 27) k139_25 rfl ⟨Nat.le_of_ble_eq_true rfl, rfl⟩ rfl ?_
  refine me_aload_n (p' := 28) k139_27 rfl rfl ?_
  refine me_gfr (p' := 31) k139_28 rfl (by decide) rfl (b := 139) rfl ?_
  refine me_iconst (p' := 32) k139_31 rfl (v := nI 0) (by decide) ?_
  refine me_aload_n (p' := 33) k139_32 rfl rfl ?_
  refine me_iload_n (p' := 34) k139_33 rfl rfl ?_
  refine me_iconst (p' := 35) k139_34 rfl (v := nI 2) (by decide) ?_
  refine me_cv (p' := 38) k139_35 rfl rfl (by decide) rfl (by decide) (by decide) dp_141 rfl rfl (cl_le mx_141 rfl) (by decide) (cl_sum rfl) (ct_of (by omega) ?_)
  refine me_iast (p' := 39) k139_38 rfl (by decide) rfl (j := 0) rfl (by omega) (by decide) rfl ?_
  refine me_aload_n (p' := 40) k139_39 rfl rfl ?_
  refine me_gfr (p' := 43) k139_40 rfl (by decide) rfl (b := 139) rfl ?_
  refine me_iconst (p' := 44) k139_43 rfl (v := nI 1) (by decide) ?_
  refine me_iload_n (p' := 45) k139_44 rfl rfl ?_
  refine me_iast (p' := 46) k139_45 rfl (by decide) rfl (j := 1) rfl (by omega) (by decide) rfl ?_
  refine me_aload_n (p' := 47) k139_46 rfl rfl ?_
  refine me_gfr (p' := 50) k139_47 rfl (by decide) rfl (b := 139) rfl ?_
  refine me_iconst (p' := 51) k139_50 rfl (v := nI 2) (by decide) ?_
  refine me_iload (p' := 53) k139_51 rfl rfl ?_
  refine me_iast (p' := 54) k139_53 rfl (by decide) rfl (j := 2) rfl (by omega) (by decide) rfl ?_
  have hfr : mFr [139] I (mg_u (mg_u (mg_u I 139 0 (I 128 (53 + 7 * c + 2))) 139 1 (I 128 (5 + p))) 139 2 (I 128 (17 + p))) := (mFr.up (by decide)).tr ((mFr.up (by decide)).tr (mFr.up (by decide)))
  refine me_iload (p' := 56) k139_54 rfl rfl ?_
  refine me_if_ge (p' := 59) k139_56 rfl (fun c1 => ?_) (fun c1 => ?_)
  · skip
    obtain ⟨t, hct, ht⟩ : ∃ t, sp_counts kf 0 nt = some t ∧ t < nt := by
      cases hcn : sp_counts kf 0 nt with
      | none => rw [hcn] at c1; exact absurd c1 (by decide)
      | some t => exact ⟨t, rfl, (sp_counts_lt hcn).1⟩
    rw [hct]
    obtain ⟨ht1, ht2, ht3, ht4, ht5, ht6⟩ := hx.2.2 t ht
    have hnt := hx.2.1
    show mj_Ev _ _ _ [.ref 127, .int (nI c), .int (nI p), .int (I 128 (5 + p)), .int (I 128 (17 + p)), .int (nI t), mj_no, mj_no, mj_no] _ _ _
    refine me_aload_n (p' := 80) k139_79 rfl rfl ?_
    refine me_iload (p' := 82) k139_80 rfl rfl ?_
    refine me_cv (p' := 85) k139_82 rfl rfl (by decide) rfl (by decide) (by decide) dp_142 rfl rfl (cl_le mx_142 rfl) (by decide) (cl_sum rfl) (ct_worksOut (fa := fun j => [I 128 (53 + 7 * c + 2), I 128 (5 + p), I 128 (17 + p)].getD j 0) (by omega) ht1 (fun j hj => by rcases (show j = 0 ∨ j = 1 ∨ j = 2 by omega) with rfl | rfl | rfl <;> simp [mg_u]) (by rw [mg_un1 (by decide), mg_un1 (by decide), mg_un1 (by decide)]; exact ht4) ht2 ht3 (fun j hj => by rw [mg_un1 (by decide), mg_un1 (by decide), mg_un1 (by decide)]; exact ht6.1 j hj) (fun I2 hI2 => ?_))
    have hfr2 : mFr [138, 139] I I2 := (hfr.mono (by simp)).tr (hI2.mono (by simp))
    refine lp_pace85 hc (by rw [hfr2 128 _ (by decide)]; exact hk) hq ?_
    have := hQ I2 hfr2
    unfold sp_pace sp_val at this
    rw [hct] at this
    exact this
  · skip
    refine me_bipush (p' := 61) k139_59 rfl (v := nI 6) (by decide) ?_
    refine me_aload_n (p' := 62) k139_61 rfl rfl ?_
    refine me_iload_n (p' := 63) k139_62 rfl rfl ?_
    refine me_iconst (p' := 64) k139_63 rfl (v := nI 2) (by decide) ?_
    refine me_cv (p' := 67) k139_64 rfl rfl (by decide) rfl (by decide) (by decide) dp_141 rfl rfl (cl_le mx_141 rfl) (by decide) (cl_sum rfl) (ct_of (by omega) ?_)
    rw [mg_un1 (by decide), mg_un1 (by decide), mg_un1 (by decide)]
    refine me_bipush (p' := 69) k139_67 rfl (v := nI 20) (by decide) ?_
    refine me_idiv (p' := 70) k139_69 rfl (nI_ne0 (by omega) (by omega)) rfl ?_
    refine me_iadd (p' := 71) k139_70 rfl rfl ?_
    refine me_iload_n (p' := 72) k139_71 rfl rfl ?_
    refine me_isub (p' := 73) k139_72 rfl rfl ?_
    refine me_iload (p' := 75) k139_73 rfl rfl ?_
    refine me_isub (p' := 76) k139_75 rfl rfl ?_
    refine me_goto k139_76 ?_
    refine lp_pace85 hc (by rw [mg_un1 (by decide), mg_un1 (by decide), mg_un1 (by decide)]; exact hk) hq ?_
    have := hQ _ (hfr.mono (by simp))
    unfold sp_pace sp_val at this
    have hcn : sp_counts kf 0 nt = none := by
      cases hcn : sp_counts kf 0 nt with
      | none => rfl
      | some t => exact absurd (by rw [hcn]; exact nI_pos' (by have := (sp_counts_lt hcn).1; have := hx.2.1; omega)) c1
    rw [hcn] at this
    exact this
