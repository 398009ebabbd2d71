/-! ===== the JDK's text members: canEncode, indexOfChar ===== -/
def jw_enc : List Cond := [.code yJ1_canEncode_9a6ad cJ1_canEncode_9a6ad 1 (some .boolean)]
theorem jd_enc_0 : decode cJ1_canEncode_9a6ad 0 = .ok (.iload_n 0, 1) := by decide +kernel
theorem jd_enc_1 : decode cJ1_canEncode_9a6ad 1 = .ok (.ifCond .lt 14, 3) := by decide +kernel
theorem jd_enc_4 : decode cJ1_canEncode_9a6ad 4 = .ok (.iload_n 0, 1) := by decide +kernel
theorem jd_enc_5 : decode cJ1_canEncode_9a6ad 5 = .ok (.sipush 255, 3) := by decide +kernel
theorem jd_enc_8 : decode cJ1_canEncode_9a6ad 8 = .ok (.if_icmp .gt 7, 3) := by decide +kernel
theorem jd_enc_11 : decode cJ1_canEncode_9a6ad 11 = .ok (.iconst 1, 1) := by decide +kernel
theorem jd_enc_12 : decode cJ1_canEncode_9a6ad 12 = .ok (.goto 4, 3) := by decide +kernel
theorem jd_enc_15 : decode cJ1_canEncode_9a6ad 15 = .ok (.iconst 0, 1) := by decide +kernel
theorem jd_enc_16 : decode cJ1_canEncode_9a6ad 16 = .ok (.ireturn, 1) := by decide +kernel
set_option maxHeartbeats 4000000 in
set_option maxRecDepth 100000 in
theorem jc_enc (l : Launch) (g : mj_G) (Hf : Heap) (x : Int32) : Met l yJ1_canEncode_9a6ad jw_enc ({ frames := 0, cells := 0, slots := 0, locals := 0 }) (va_Pc [.int x] (fun U : State => U.heap = Hf)) (va_Qi (fun (r : Int32) (_ : Unit) => r = if ¬ x < 0 ∧ ¬ (255 : Int32) < x then 1 else 0) (fun _ t => t.heap = Hf) jN) 0 0 jN := by
  refine Met.ofW (cc := cJ1_canEncode_9a6ad) (maxL := 1) (ret := (some .boolean)) (by decide) rfl ?_
  intro p e s m args below meth c s₁ B hml hv
  obtain ⟨rfl, hH⟩ := hv
  have hx := B.exec
  have hb := B.bytes
  have hr := B.returns
  have hlocks := B.notSynchronized
  have hS : va_S (jA g) s.heap s.heap [] := va_S.rf
  have hN : va_S jN s.heap s.heap [] := va_S.rf
  have hl := lv_entry ([.int x]) (n := 1) (Nat.le_of_ble_eq_true rfl)
  rw [lg_entry_eq]
  generalize (lg_sl ([.int x]) ++ List.replicate (1 - (lg_sl ([.int x])).length) Slot.unset).toArray = ls at hl ⊢
  have hl : lv_has ls 1 [(0, .int x)] := hl
  refine lv_iload_n hx hb jd_enc_0 rfl (lv_at hl 0 rfl) ?_
  refine lv_if_lt (tgt := 15) hx hb jd_enc_1 (by decide) (fun h1 => ?_) (fun h1 => ?_)
  · refine lv_iconst (v := 0) hx hb jd_enc_15 (by decide) ?_
    exact W.zret (v := 0) hx hb hr (by decide) (fun t ht hW => ⟨⟨_, (), rfl, (if_neg (fun z => z.1 h1)).symm, ht.trans hH⟩, hN.F ht⟩) hN.2.2 jd_enc_16 hlocks
  refine lv_iload_n hx hb jd_enc_4 rfl (lv_at hl 0 rfl) ?_
  refine lv_sipush (v := 255) hx hb jd_enc_5 (by decide) ?_
  refine lv_icmp_gt (tgt := 15) hx hb jd_enc_8 (by decide) (fun h2 => ?_) (fun h2 => ?_)
  · refine lv_iconst (v := 0) hx hb jd_enc_15 (by decide) ?_
    exact W.zret (v := 0) hx hb hr (by decide) (fun t ht hW => ⟨⟨_, (), rfl, (if_neg (fun z => z.2 h2)).symm, ht.trans hH⟩, hN.F ht⟩) hN.2.2 jd_enc_16 hlocks
  refine lv_iconst (v := 1) hx hb jd_enc_11 (by decide) ?_
  refine lv_goto (tgt := 16) hx hb jd_enc_12 (by decide) ?_
  exact W.zret (v := 1) hx hb hr (by decide) (fun t ht hW => ⟨⟨_, (), rfl, (if_pos ⟨h1, h2⟩).symm, ht.trans hH⟩, hN.F ht⟩) hN.2.2 jd_enc_16 hlocks
theorem jf_cons (c : Int32) (l : List Nat) (k : Nat) (h : k < l.length) : mj_find c (l.drop k) k = if c = nI (l.getD k 0) then nI k else mj_find c (l.drop (k + 1)) (k + 1) := by
  rw [List.drop_eq_getElem_cons h, List.getD_eq_getElem?_getD, List.getElem?_eq_getElem h]
  rfl
theorem jf_end (c : Int32) (l : List Nat) : mj_find c (l.drop l.length) l.length = -1 := by
  rw [List.drop_length]
  rfl
theorem jf_out {c : Int32} (h : ¬ (¬ c < 0 ∧ ¬ (255 : Int32) < c)) : ∀ (l : List Nat) (k : Nat), (∀ x ∈ l, x < 128) → mj_find c l k = -1
  | [], _, _ => rfl
  | x :: l, k, hx => by
    unfold mj_find
    rw [if_neg, jf_out h l (k + 1) (fun y hy => hx y (List.mem_cons_of_mem _ hy))]
    rintro rfl
    have h1 := hx x List.mem_cons_self
    exact h ⟨nI_pos (n := x) (by omega), nI_nlt (a := 255) (b := x) (by omega) (by omega)⟩
theorem jl_128 : ∀ i, i < 14 → ∀ x ∈ mj_txt.getD i [], x < 128 := by decide
set_option maxRecDepth 100000 in
theorem jl_b : ∀ n, n < 256 → ∀ i, i < 14 → ∀ k, k < tLen.getD i 0 → ((tByt.getD i []).getD k 0 = (nI n).toInt8.toInt32 ↔ nI n = nI ((mj_txt.getD i []).getD k 0)) := by decide +kernel
def jw_ioc : List Cond := [.code yJ1_indexOfChar_4cfef cJ1_indexOfChar_4cfef 6 (some .int)]
theorem jd_ioc_0 : decode cJ1_indexOfChar_4cfef 0 = .ok (.iload_n 1, 1) := by decide +kernel
theorem jd_ioc_1 : decode cJ1_indexOfChar_4cfef 1 = .ok (.i2b, 1) := by decide +kernel
theorem jd_ioc_2 : decode cJ1_indexOfChar_4cfef 2 = .ok (.istore 4, 2) := by decide +kernel
theorem jd_ioc_4 : decode cJ1_indexOfChar_4cfef 4 = .ok (.iload_n 2, 1) := by decide +kernel
theorem jd_ioc_5 : decode cJ1_indexOfChar_4cfef 5 = .ok (.istore 5, 2) := by decide +kernel
theorem jd_ioc_7 : decode cJ1_indexOfChar_4cfef 7 = .ok (.iload 5, 2) := by decide +kernel
theorem jd_ioc_9 : decode cJ1_indexOfChar_4cfef 9 = .ok (.iload_n 3, 1) := by decide +kernel
theorem jd_ioc_10 : decode cJ1_indexOfChar_4cfef 10 = .ok (.if_icmp .ge 21, 3) := by decide +kernel
theorem jd_ioc_13 : decode cJ1_indexOfChar_4cfef 13 = .ok (.aload_n 0, 1) := by decide +kernel
theorem jd_ioc_14 : decode cJ1_indexOfChar_4cfef 14 = .ok (.iload 5, 2) := by decide +kernel
theorem jd_ioc_16 : decode cJ1_indexOfChar_4cfef 16 = .ok (.baload, 1) := by decide +kernel
theorem jd_ioc_17 : decode cJ1_indexOfChar_4cfef 17 = .ok (.iload 4, 2) := by decide +kernel
theorem jd_ioc_19 : decode cJ1_indexOfChar_4cfef 19 = .ok (.if_icmp .ne 6, 3) := by decide +kernel
theorem jd_ioc_22 : decode cJ1_indexOfChar_4cfef 22 = .ok (.iload 5, 2) := by decide +kernel
theorem jd_ioc_24 : decode cJ1_indexOfChar_4cfef 24 = .ok (.ireturn, 1) := by decide +kernel
theorem jd_ioc_25 : decode cJ1_indexOfChar_4cfef 25 = .ok (.iinc 5 1, 3) := by decide +kernel
theorem jd_ioc_28 : decode cJ1_indexOfChar_4cfef 28 = .ok (.goto (-21), 3) := by decide +kernel
theorem jd_ioc_31 : decode cJ1_indexOfChar_4cfef 31 = .ok (.iconst (-1), 1) := by decide +kernel
theorem jd_ioc_32 : decode cJ1_indexOfChar_4cfef 32 = .ok (.ireturn, 1) := by decide +kernel
set_option maxHeartbeats 4000000 in
set_option maxRecDepth 100000 in
theorem jc_ioc (l : Launch) (g : mj_G) (adV : Nat → Nat) (fm : Value) (Hf : Heap) (i n : Nat) (hi : i < 14) (hn : n < 256) : Met l yJ1_indexOfChar_4cfef jw_ioc ({ frames := 0, cells := 0, slots := 0, locals := 0 }) (va_Pc [.ref (adV i), .int (nI n), .int 0, .int (nI (tLen.getD i 0))] (jP g adV fm Hf)) (va_Qi (fun (r : Int32) (_ : Unit) => r = mj_find (nI n) (mj_txt.getD i []) 0) (fun _ t => t.heap = Hf) jN) 0 0 jN := by
  have hsm := (jl_sm i hi).1
  have hlen := tLen_ok i hi
  refine Met.ofW (cc := cJ1_indexOfChar_4cfef) (maxL := 6) (ret := (some .int)) (by decide) rfl ?_
  intro p e s m args below meth c s₁ B hml hv
  obtain ⟨rfl, hP⟩ := hv
  have hz := hP.1
  have hH := hP.2
  have hx := B.exec
  have hb := B.bytes
  have hr := B.returns
  have hlocks := B.notSynchronized
  have hS : va_S (jA g) s.heap s.heap [] := va_S.rf
  have hN : va_S jN s.heap s.heap [] := va_S.rf
  have hl := lv_entry ([.ref (adV i), .int (nI n), .int 0, .int (nI (tLen.getD i 0))]) (n := 6) (Nat.le_of_ble_eq_true rfl)
  rw [lg_entry_eq]
  generalize (lg_sl ([.ref (adV i), .int (nI n), .int 0, .int (nI (tLen.getD i 0))]) ++ List.replicate (6 - (lg_sl ([.ref (adV i), .int (nI n), .int 0, .int (nI (tLen.getD i 0))])).length) Slot.unset).toArray = ls at hl ⊢
  have hl : lv_has ls 6 [(0, .ref (adV i)), (1, .int (nI n)), (2, .int 0), (3, .int (nI (tLen.getD i 0)))] := hl
  refine lv_iload_n hx hb jd_ioc_0 rfl (lv_at hl 1 rfl) ?_
  refine lv_i2b (v := (nI n).toInt8.toInt32) hx hb jd_ioc_1 rfl ?_
  refine lv_istore (i := 4) hx hb jd_ioc_2 hl (by decide) rfl (fun ls1 hl1 => ?_)
  have hl1 : lv_has ls1 6 [(4, .int (nI n).toInt8.toInt32), (0, .ref (adV i)), (1, .int (nI n)), (2, .int 0), (3, .int (nI (tLen.getD i 0)))] := hl1
  refine lv_iload_n hx hb jd_ioc_4 rfl (lv_at hl1 3 rfl) ?_
  refine lv_istore (i := 5) hx hb jd_ioc_5 hl1 (by decide) rfl (fun ls2 hl2 => ?_)
  obtain ⟨k, hk0⟩ : ∃ k : Nat, k = 0 := ⟨0, rfl⟩
  have hl3 : lv_has ls2 6 [(5, .int (nI k)), (4, .int (nI n).toInt8.toInt32), (0, .ref (adV i)), (1, .int (nI n)), (2, .int 0), (3, .int (nI (tLen.getD i 0)))] := by
    rw [hk0]
    exact hl2
  have hf : mj_find (nI n) (mj_txt.getD i []) 0 = mj_find (nI n) ((mj_txt.getD i []).drop k) k := by
    rw [hk0]
    rfl
  obtain ⟨d, hd⟩ : ∃ d : Nat, k + d = tLen.getD i 0 := ⟨tLen.getD i 0, by omega⟩
  clear hk0 hl2
  induction d generalizing k ls2 with
  | zero =>
    refine lv_iload hx hb jd_ioc_7 (lv_at hl3 0 rfl) ?_
    refine lv_iload_n hx hb jd_ioc_9 rfl (lv_at hl3 5 rfl) ?_
    refine lv_icmp_ge (tgt := 31) hx hb jd_ioc_10 (by decide) (fun _ => ?_) (fun h => absurd (nI_le (by omega) (by omega)) h)
    refine lv_iconst (v := -1) hx hb jd_ioc_31 (by decide) ?_
    have e : mj_find (nI n) (mj_txt.getD i []) 0 = -1 := by
      rw [hf, show k = (mj_txt.getD i []).length by omega]
      exact jf_end _ _
    exact W.iret (v := -1) hx hb hr (fun t ht hW => ⟨⟨_, (), rfl, e.symm, ht.trans hH⟩, hN.F ht⟩) hN.2.2 jd_ioc_32
  | succ d ih =>
    have hc := jf_cons (nI n) (mj_txt.getD i []) k (by omega)
    refine lv_iload hx hb jd_ioc_7 (lv_at hl3 0 rfl) ?_
    refine lv_iload_n hx hb jd_ioc_9 rfl (lv_at hl3 5 rfl) ?_
    refine lv_icmp_ge (tgt := 31) hx hb jd_ioc_10 (by decide) (fun h => absurd h (nI_ge (by omega) (by omega))) (fun _ => ?_)
    refine lv_aload_n hx hb jd_ioc_13 rfl (lv_at hl3 2 rfl) ?_
    refine lv_iload hx hb jd_ioc_14 (lv_at hl3 0 rfl) ?_
    refine va_tb (A := jA g) hx hb (hz.1.1 i hi).2.2.2 hS (i := nI k) (fun z => z.elim (nI_pos (by omega)) (fun z => by rw [nI_clamp (by omega)] at z; omega)) (v := .int ((tByt.getD i []).getD k 0)) (by rw [nI_clamp (by omega)]) jd_ioc_16 ?_
    refine lv_iload hx hb jd_ioc_17 (lv_at hl3 1 rfl) ?_
    refine lv_icmp_ne (tgt := 25) hx hb jd_ioc_19 (by decide) (fun h => ?_) (fun h => ?_)
    · refine lv_iinc (k := 0) (v := nI (k + 1)) hx hb jd_ioc_25 hl3 rfl (by rw [show Int32.ofInt 1 = 1 from by decide]; exact nI_1 k) (by decide) rfl (fun ls4 hl4 => ?_)
      refine lv_goto (tgt := 7) hx hb jd_ioc_28 (by decide) ?_
      rw [if_neg (fun z => h ((jl_b n hn i hi k (by omega)).mpr z))] at hc
      exact ih ls4 (k + 1) hl4 (hf.trans hc) (by omega)
    · refine lv_iload hx hb jd_ioc_22 (lv_at hl3 0 rfl) ?_
      rw [if_pos ((jl_b n hn i hi k (by omega)).mp h)] at hc
      exact W.iret (v := nI k) hx hb hr (fun t ht hW => ⟨⟨_, (), rfl, (hf.trans hc).symm, ht.trans hH⟩, hN.F ht⟩) hN.2.2 jd_ioc_24
