/-! ===== the text constants: what holds of them ===== -/
def tLen : List Nat := [4, 3, 4, 1, 1, 1, 3, 2, 2, 1, 1, 3, 2, 2]
def tByt : List (List Int32) := mj_txt.map fun l => l.map Int32.ofNat
def tIdx : List Nat := [104, 109, 111, 60, 62, 64, 119, 121, 123, 89, 91, 93, 95, 97]
def tNm14 : List String := ["pace", "fee", "fine", "!", "(", ")", "wrb", "st", "fm", "|", "&", "<=>", "+-", "*/"]
def tTm (i : Nat) : Term := .string "GhostTrain$Tape" (tIdx.getD i 0)
def tVal (i : Nat) : Term := .field (tTm i) "java/lang/String" "value" "[B"
theorem tTl : ∀ r ∈ mj_tl, r.1 = 9 ∧ r.2.2 < 14 ∧ r.2.1 = tIdx.getD r.2.2 0 := by decide +kernel
theorem tLen_ok : ∀ i, i < 14 → tLen.getD i 0 = (mj_txt.getD i []).length := by decide
/-- what Z is: the constants lie where they are, the two static words of the JDK -/
def mZt (g : mj_G) (adV : Nat → Nat) (fm : Value) (U : State) : Prop :=
  vk_S 14 tLen tByt g.2.2 adV (fun q => g.1 ≤ q) U U.heap ∧ (∀ i, i < 14 → vk_R "GhostTrain$Tape" (tIdx.getD i 0) (tNm14.getD i "") (g.2.2 i) U) ∧
  va_Z "java/lang/String" "COMPACT_STRINGS" "Z" (.int 1) (fun q => g.1 ≤ q) U U.heap ∧ va_Z "jdk/internal/util/Preconditions" "SIOOBE_FORMATTER" "Ljava/util/function/BiFunction;" fm (fun q => g.1 ≤ q) U U.heap
theorem mZt_ZZ (g : mj_G) (adV : Nat → Nat) (fm : Value) : mj_ZZ g (mZt g adV fm) := by
  refine ⟨fun u U hv hh h => ?_, fun s U hW hk h => ?_⟩
  · have hA : u.vm.Alike U.vm := by rw [hv]; exact Vm.Alike.refl _
    obtain ⟨h1, h2, h3, h4⟩ := h
    unfold mZt
    rw [hh]
    exact ⟨h1.moved hA, fun i hi => (h2 i hi).same hv, h3.moved hA, h4.moved hA⟩
  · have hA := hW.alike
    have hq : ∀ a : Nat, a < s.heap.size → ¬ g.1 ≤ a → U.heap[a]? = s.heap[a]? := fun a _ hn => hk a (Nat.lt_of_not_le hn)
    obtain ⟨h1, h2, h3, h4⟩ := h
    exact ⟨(h1.moved hA).kept hq, fun i hi => (h2 i hi).warm hW, (h3.moved hA).kept hq, (h4.moved hA).kept hq⟩
theorem tF_ex : ∀ i, i < 14 → Cond.exactly (tTm i) "java/lang/String" ∈ flatC (Jvm.Cond.and given_1 narrow_1) := by decide +kernel
theorem tF_co : ∀ i, i < 14 → Cond.eq (.field (tTm i) "java/lang/String" "coder" "B") (.int 0) ∈ flatC (Jvm.Cond.and given_1 narrow_1) := by decide +kernel
theorem tF_ar : ∀ i, i < 14 → Cond.arrayOf (tVal i) .byte ∈ flatC (Jvm.Cond.and given_1 narrow_1) := by decide +kernel
theorem tF_le : ∀ i, i < 14 → Cond.eq (.length (tVal i)) (.int (Int32.ofNat (tLen.getD i 0))) ∈ flatC (Jvm.Cond.and given_1 narrow_1) := by decide +kernel
theorem tF_el : ∀ i, i < 14 → ∀ j, j < tLen.getD i 0 → Cond.eq (.elem (tVal i) (.int (Int32.ofNat j))) (.int ((tByt.getD i []).getD j 0)) ∈ flatC (Jvm.Cond.and given_1 narrow_1) := by decide +kernel
def tPo : List Nat := [0, 71, 80, 87, 95, 104, 116, 128, 141, 154, 168, 185, 202, 220, 71, 0, 81, 88, 96, 105, 117, 129, 142, 155, 169, 186, 203, 221, 80, 81, 0, 89, 97, 106, 118, 130, 143, 156, 170, 187, 204, 222, 87, 88, 89, 0, 98, 107, 119, 131, 144, 157, 171, 188, 205, 223, 95, 96, 97, 98, 0, 108, 120, 132, 145, 158, 172, 189, 206, 224, 104, 105, 106, 107, 108, 0, 121, 133, 146, 159, 173, 190, 207, 225, 116, 117, 118, 119, 120, 121, 0, 134, 147, 160, 174, 191, 208, 226, 128, 129, 130, 131, 132, 133, 134, 0, 148, 161, 175, 192, 209, 227, 141, 142, 143, 144, 145, 146, 147, 148, 0, 162, 176, 193, 210, 228, 154, 155, 156, 157, 158, 159, 160, 161, 162, 0, 177, 194, 211, 229, 168, 169, 170, 171, 172, 173, 174, 175, 176, 177, 0, 195, 212, 230, 185, 186, 187, 188, 189, 190, 191, 192, 193, 194, 195, 0, 213, 231, 202, 203, 204, 205, 206, 207, 208, 209, 210, 211, 212, 213, 0, 232, 220, 221, 222, 223, 224, 225, 226, 227, 228, 229, 230, 231, 232, 0]
theorem tF_neP : ∀ i, i < 14 → ∀ j, j < 14 → i ≠ j → (flatC (Jvm.Cond.and given_1 narrow_1))[tPo.getD (14 * i + j) 0]? = some (Cond.not (Cond.eq (tTm i) (tTm j))) ∨ (flatC (Jvm.Cond.and given_1 narrow_1))[tPo.getD (14 * i + j) 0]? = some (Cond.not (Cond.eq (tTm j) (tTm i))) := by decide +kernel
theorem tF_ne (i : Nat) (hi : i < 14) (j : Nat) (hj : j < 14) (hij : i ≠ j) : Cond.not (Cond.eq (tTm i) (tTm j)) ∈ flatC (Jvm.Cond.and given_1 narrow_1) ∨ Cond.not (Cond.eq (tTm j) (tTm i)) ∈ flatC (Jvm.Cond.and given_1 narrow_1) :=
  (tF_neP i hi j hj hij).imp List.mem_of_getElem? List.mem_of_getElem?
theorem tF_cs : Cond.eq (.static "java/lang/String" "COMPACT_STRINGS" "Z") (.int 1) ∈ flatC (Jvm.Cond.and given_1 narrow_1) := by decide +kernel
theorem tF_fm : Cond.isRef (.static "jdk/internal/util/Preconditions" "SIOOBE_FORMATTER" "Ljava/util/function/BiFunction;") ∈ flatC (Jvm.Cond.and given_1 narrow_1) := by decide +kernel
theorem tF_sr : ∀ i, i < 14 → Cond.stringRef "GhostTrain$Tape" (tIdx.getD i 0) (tNm14.getD i "") ∈ lw_tbl := by decide +kernel
theorem tF_ls : Cond.laysStatic "java/lang/String" "COMPACT_STRINGS" "Z" ∈ lw_tbl ∧ Cond.initialized "java/lang/String" ∈ lw_tbl ∧ Cond.laysStatic "jdk/internal/util/Preconditions" "SIOOBE_FORMATTER" "Ljava/util/function/BiFunction;" ∈ lw_tbl ∧ Cond.initialized "jdk/internal/util/Preconditions" ∈ lw_tbl := by decide +kernel
theorem mZt_of {s : State} {A : Array Value} (b : Nat) (hts : ∀ w ∈ lw_tbl, w.before A s = true) (hgv : (Jvm.Cond.and given_1 narrow_1).before A s = true) : ∃ (tc adV : Nat → Nat) (fm : Value), mZt (s.heap.size, b, tc) adV fm s := by
  have hs := flat_of_before _ hgv
  have hA : ∀ a : Nat, a < s.heap.size → ¬ (fun q : Nat => s.heap.size ≤ q) a := fun a h => Nat.not_le.mpr h
  obtain ⟨tc, adV, h1, h2⟩ := vk_Sof (N := 14) (tm := tTm) (len := tLen) (byt := tByt) (A := fun q : Nat => s.heap.size ≤ q) (by decide) (fun i hi => hs _ (tF_ex i hi)) (fun i hi => hs _ (tF_co i hi)) (fun i hi => hs _ (tF_ar i hi)) (fun i hi => hs _ (tF_le i hi)) (fun i hi j hj => hs _ (tF_el i hi j hj)) (fun i j hi hj hij => (tF_ne i hi j hj hij).imp (hs _) (hs _)) hA
  have hfm := hs _ tF_fm
  cases hv : (Term.static "jdk/internal/util/Preconditions" "SIOOBE_FORMATTER" "Ljava/util/function/BiFunction;").eval A s none [] s with
  | none => simp [Cond.before, Cond.holds, Cond.value, hv] at hfm
  | some fm => exact ⟨tc, adV, fm, h1, fun i hi => vk_R.of (hts _ (tF_sr i hi)) (h2 i hi), va_Zof (hts _ tF_ls.1) (hts _ tF_ls.2.1) (va_eqi (hs _ tF_cs)) hA, va_Zof (hts _ tF_ls.2.2.1) (hts _ tF_ls.2.2.2) hv hA⟩
