/-! ===== the program is checked, a method a row (written by a program) ===== -/
set_option maxRecDepth 1000000 in
theorem mj_k118 : mj_mok 118 = true := by decide +kernel
set_option maxRecDepth 1000000 in
theorem mj_k119 : mj_mok 119 = true := by decide +kernel
set_option maxRecDepth 1000000 in
theorem mj_k120 : mj_mok 120 = true := by decide +kernel
set_option maxRecDepth 1000000 in
theorem mj_k121 : mj_mok 121 = true := by decide +kernel
set_option maxRecDepth 1000000 in
theorem mj_k122 : mj_mok 122 = true := by decide +kernel
set_option maxRecDepth 1000000 in
theorem mj_k123 : mj_mok 123 = true := by decide +kernel
set_option maxRecDepth 1000000 in
theorem mj_k124 : mj_mok 124 = true := by decide +kernel
set_option maxRecDepth 1000000 in
theorem mj_k125 : mj_mok 125 = true := by decide +kernel
set_option maxRecDepth 1000000 in
theorem mj_k126 : mj_mok 126 = true := by decide +kernel
set_option maxRecDepth 1000000 in
theorem mj_k127 : mj_mok 127 = true := by decide +kernel
set_option maxRecDepth 1000000 in
theorem mj_k128 : mj_mok 128 = true := by decide +kernel
set_option maxRecDepth 1000000 in
theorem mj_k129 : mj_mok 129 = true := by decide +kernel
set_option maxRecDepth 1000000 in
theorem mj_k130 : mj_mok 130 = true := by decide +kernel
set_option maxRecDepth 1000000 in
theorem mj_k131 : mj_mok 131 = true := by decide +kernel
set_option maxRecDepth 1000000 in
theorem mj_k132 : mj_mok 132 = true := by decide +kernel
set_option maxRecDepth 1000000 in
theorem mj_k133 : mj_mok 133 = true := by decide +kernel
set_option maxRecDepth 1000000 in
theorem mj_k134 : mj_mok 134 = true := by decide +kernel
set_option maxRecDepth 1000000 in
theorem mj_k135 : mj_mok 135 = true := by decide +kernel
set_option maxRecDepth 1000000 in
theorem mj_k136 : mj_mok 136 = true := by decide +kernel
set_option maxRecDepth 1000000 in
theorem mj_k137 : mj_mok 137 = true := by decide +kernel
set_option maxRecDepth 1000000 in
theorem mj_k138 : mj_mok 138 = true := by decide +kernel
set_option maxRecDepth 1000000 in
theorem mj_k139 : mj_mok 139 = true := by decide +kernel
set_option maxRecDepth 1000000 in
theorem mj_k140 : mj_mok 140 = true := by decide +kernel
set_option maxRecDepth 1000000 in
theorem mj_k141 : mj_mok 141 = true := by decide +kernel
set_option maxRecDepth 1000000 in
theorem mj_k142 : mj_mok 142 = true := by decide +kernel
set_option maxRecDepth 1000000 in
theorem mj_k143 : mj_mok 143 = true := by decide +kernel
set_option maxRecDepth 1000000 in
theorem mj_k144 : mj_mok 144 = true := by decide +kernel
set_option maxRecDepth 1000000 in
theorem mj_k145 : mj_mok 145 = true := by decide +kernel
set_option maxRecDepth 1000000 in
theorem mj_k146 : mj_mok 146 = true := by decide +kernel
set_option maxRecDepth 1000000 in
theorem mj_k147 : mj_mok 147 = true := by decide +kernel
set_option maxRecDepth 1000000 in
theorem mj_k148 : mj_mok 148 = true := by decide +kernel
set_option maxRecDepth 1000000 in
theorem mj_k149 : mj_mok 149 = true := by decide +kernel
set_option maxRecDepth 1000000 in
theorem mj_k150 : mj_mok 150 = true := by decide +kernel
set_option maxRecDepth 1000000 in
theorem mj_k151 : mj_mok 151 = true := by decide +kernel
set_option maxRecDepth 1000000 in
theorem mj_k152 : mj_mok 152 = true := by decide +kernel
set_option maxRecDepth 1000000 in
theorem mj_k153 : mj_mok 153 = true := by decide +kernel
set_option maxRecDepth 1000000 in
theorem mj_k154 : mj_mok 154 = true := by decide +kernel
set_option maxRecDepth 1000000 in
theorem mj_k155 : mj_mok 155 = true := by decide +kernel
set_option maxRecDepth 1000000 in
theorem mj_k156 : mj_mok 156 = true := by decide +kernel
set_option maxRecDepth 1000000 in
theorem mj_k157 : mj_mok 157 = true := by decide +kernel
set_option maxRecDepth 1000000 in
theorem mj_k158 : mj_mok 158 = true := by decide +kernel
set_option maxRecDepth 1000000 in
theorem mj_k159 : mj_mok 159 = true := by decide +kernel
set_option maxRecDepth 1000000 in
theorem mj_k160 : mj_mok 160 = true := by decide +kernel
set_option maxRecDepth 1000000 in
theorem mj_k161 : mj_mok 161 = true := by decide +kernel
set_option maxRecDepth 1000000 in
theorem mj_k162 : mj_mok 162 = true := by decide +kernel
set_option maxRecDepth 1000000 in
theorem mj_k163 : mj_mok 163 = true := by decide +kernel
set_option maxRecDepth 1000000 in
theorem mj_k164 : mj_mok 164 = true := by decide +kernel
set_option maxRecDepth 1000000 in
theorem mj_k165 : mj_mok 165 = true := by decide +kernel
set_option maxRecDepth 1000000 in
theorem mj_k166 : mj_mok 166 = true := by decide +kernel
set_option maxRecDepth 1000000 in
theorem mj_k167 : mj_mok 167 = true := by decide +kernel
set_option maxRecDepth 1000000 in
theorem mj_k168 : mj_mok 168 = true := by decide +kernel
set_option maxRecDepth 1000000 in
theorem mj_k169 : mj_mok 169 = true := by decide +kernel
set_option maxRecDepth 1000000 in
theorem mj_k170 : mj_mok 170 = true := by decide +kernel
set_option maxRecDepth 1000000 in
theorem mj_k171 : mj_mok 171 = true := by decide +kernel
set_option maxRecDepth 1000000 in
theorem mj_k172 : mj_mok 172 = true := by decide +kernel
set_option maxRecDepth 1000000 in
theorem mj_k173 : mj_mok 173 = true := by decide +kernel
set_option maxRecDepth 1000000 in
theorem mj_k174 : mj_mok 174 = true := by decide +kernel
set_option maxRecDepth 1000000 in
theorem mj_k175 : mj_mok 175 = true := by decide +kernel
set_option maxRecDepth 1000000 in
theorem mj_k176 : mj_mok 176 = true := by decide +kernel
set_option maxRecDepth 1000000 in
theorem mj_k177 : mj_mok 177 = true := by decide +kernel
set_option maxRecDepth 1000000 in
theorem mj_k178 : mj_mok 178 = true := by decide +kernel
set_option maxRecDepth 1000000 in
theorem mj_k179 : mj_mok 179 = true := by decide +kernel
set_option maxRecDepth 1000000 in
theorem mj_k180 : mj_mok 180 = true := by decide +kernel
set_option maxRecDepth 1000000 in
theorem mj_k181 : mj_mok 181 = true := by decide +kernel
set_option maxRecDepth 1000000 in
theorem mj_k182 : mj_mok 182 = true := by decide +kernel
set_option maxRecDepth 1000000 in
theorem mj_k183 : mj_mok 183 = true := by decide +kernel
set_option maxRecDepth 1000000 in
theorem mj_k184 : mj_mok 184 = true := by decide +kernel
set_option maxRecDepth 1000000 in
theorem mj_k185 : mj_mok 185 = true := by decide +kernel
set_option maxRecDepth 1000000 in
theorem mj_k186 : mj_mok 186 = true := by decide +kernel
set_option maxRecDepth 1000000 in
theorem mj_k187 : mj_mok 187 = true := by decide +kernel
set_option maxRecDepth 1000000 in
theorem mj_k188 : mj_mok 188 = true := by decide +kernel
set_option maxRecDepth 1000000 in
theorem mj_k189 : mj_mok 189 = true := by decide +kernel
set_option maxRecDepth 1000000 in
theorem mj_k190 : mj_mok 190 = true := by decide +kernel
set_option maxRecDepth 1000000 in
theorem mj_k191 : mj_mok 191 = true := by decide +kernel
set_option maxRecDepth 1000000 in
theorem mj_k192 : mj_mok 192 = true := by decide +kernel
set_option maxRecDepth 1000000 in
theorem mj_k193 : mj_mok 193 = true := by decide +kernel
set_option maxRecDepth 1000000 in
theorem mj_k194 : mj_mok 194 = true := by decide +kernel
set_option maxRecDepth 1000000 in
theorem mj_k195 : mj_mok 195 = true := by decide +kernel
set_option maxRecDepth 1000000 in
theorem mj_k196 : mj_mok 196 = true := by decide +kernel
set_option maxRecDepth 1000000 in
theorem mj_k197 : mj_mok 197 = true := by decide +kernel
set_option maxRecDepth 1000000 in
theorem mj_k198 : mj_mok 198 = true := by decide +kernel
set_option maxRecDepth 1000000 in
theorem mj_k199 : mj_mok 199 = true := by decide +kernel
set_option maxRecDepth 1000000 in
theorem mj_k200 : mj_mok 200 = true := by decide +kernel
set_option maxRecDepth 1000000 in
theorem mj_k201 : mj_mok 201 = true := by decide +kernel
set_option maxRecDepth 1000000 in
theorem mj_k202 : mj_mok 202 = true := by decide +kernel
set_option maxRecDepth 1000000 in
theorem mj_k203 : mj_mok 203 = true := by decide +kernel
set_option maxRecDepth 1000000 in
theorem mj_k204 : mj_mok 204 = true := by decide +kernel
set_option maxRecDepth 1000000 in
theorem mj_k205 : mj_mok 205 = true := by decide +kernel
set_option maxRecDepth 1000000 in
theorem mj_k206 : mj_mok 206 = true := by decide +kernel
set_option maxRecDepth 1000000 in
theorem mj_k207 : mj_mok 207 = true := by decide +kernel
set_option maxRecDepth 1000000 in
theorem mj_k208 : mj_mok 208 = true := by decide +kernel
set_option maxRecDepth 1000000 in
theorem mj_k209 : mj_mok 209 = true := by decide +kernel
set_option maxRecDepth 1000000 in
theorem mj_k210 : mj_mok 210 = true := by decide +kernel
set_option maxRecDepth 1000000 in
theorem mj_k211 : mj_mok 211 = true := by decide +kernel
set_option maxRecDepth 1000000 in
theorem mj_k212 : mj_mok 212 = true := by decide +kernel
set_option maxRecDepth 1000000 in
theorem mj_k213 : mj_mok 213 = true := by decide +kernel
set_option maxRecDepth 1000000 in
theorem mj_k214 : mj_mok 214 = true := by decide +kernel
set_option maxRecDepth 1000000 in
theorem mj_k215 : mj_mok 215 = true := by decide +kernel
set_option maxRecDepth 1000000 in
theorem mj_k216 : mj_mok 216 = true := by decide +kernel
set_option maxRecDepth 1000000 in
theorem mj_k217 : mj_mok 217 = true := by decide +kernel
set_option maxRecDepth 1000000 in
theorem mj_k218 : mj_mok 218 = true := by decide +kernel
def mj_lchk (q : Nat × mj_I) : Bool := decide (decode (mj_m 219).2.1 q.1 = .ok (q.2.1, q.2.2.1)) && mj_chk (mj_oc 219) (decide ((mj_Y 219).name = "<init>")) q.1 q.2
set_option maxRecDepth 1000000 in
theorem mj_lc0 : (((mj_prog 219).drop (60 * 0)).take 60).all mj_lchk = true := by decide +kernel
set_option maxRecDepth 1000000 in
theorem mj_lc1 : (((mj_prog 219).drop (60 * 1)).take 60).all mj_lchk = true := by decide +kernel
set_option maxRecDepth 1000000 in
theorem mj_lc2 : (((mj_prog 219).drop (60 * 2)).take 60).all mj_lchk = true := by decide +kernel
set_option maxRecDepth 1000000 in
theorem mj_lc3 : (((mj_prog 219).drop (60 * 3)).take 60).all mj_lchk = true := by decide +kernel
set_option maxRecDepth 1000000 in
theorem mj_lc4 : (((mj_prog 219).drop (60 * 4)).take 60).all mj_lchk = true := by decide +kernel
set_option maxRecDepth 1000000 in
theorem mj_lc5 : (((mj_prog 219).drop (60 * 5)).take 60).all mj_lchk = true := by decide +kernel
set_option maxRecDepth 1000000 in
theorem mj_lc6 : (((mj_prog 219).drop (60 * 6)).take 60).all mj_lchk = true := by decide +kernel
set_option maxRecDepth 1000000 in
theorem mj_lc7 : (((mj_prog 219).drop (60 * 7)).take 60).all mj_lchk = true := by decide +kernel
set_option maxRecDepth 1000000 in
theorem mj_lc8 : (((mj_prog 219).drop (60 * 8)).take 60).all mj_lchk = true := by decide +kernel
set_option maxRecDepth 1000000 in
theorem mj_lc9 : (((mj_prog 219).drop (60 * 9)).take 60).all mj_lchk = true := by decide +kernel
set_option maxRecDepth 1000000 in
theorem mj_lc10 : (((mj_prog 219).drop (60 * 10)).take 60).all mj_lchk = true := by decide +kernel
set_option maxRecDepth 1000000 in
theorem mj_lc11 : (((mj_prog 219).drop (60 * 11)).take 60).all mj_lchk = true := by decide +kernel
set_option maxRecDepth 1000000 in
theorem mj_lc12 : (((mj_prog 219).drop (60 * 12)).take 60).all mj_lchk = true := by decide +kernel
set_option maxRecDepth 1000000 in
theorem mj_lc13 : (((mj_prog 219).drop (60 * 13)).take 60).all mj_lchk = true := by decide +kernel
set_option maxRecDepth 1000000 in
theorem mj_lc14 : (((mj_prog 219).drop (60 * 14)).take 60).all mj_lchk = true := by decide +kernel
set_option maxRecDepth 1000000 in
theorem mj_lc15 : (((mj_prog 219).drop (60 * 15)).take 60).all mj_lchk = true := by decide +kernel
set_option maxRecDepth 1000000 in
theorem mj_lc16 : (((mj_prog 219).drop (60 * 16)).take 60).all mj_lchk = true := by decide +kernel
set_option maxRecDepth 1000000 in
theorem mj_lc17 : (((mj_prog 219).drop (60 * 17)).take 60).all mj_lchk = true := by decide +kernel
set_option maxRecDepth 1000000 in
theorem mj_lc18 : (((mj_prog 219).drop (60 * 18)).take 60).all mj_lchk = true := by decide +kernel
theorem mj_k219 : mj_mok 219 = true := by
  have h : (mj_prog 219).all mj_lchk = true := by
    refine mj_chunk (n := 60) (m := 19) (by decide +kernel) (by decide) fun i hi => ?_
    match i, hi with
    | 0, _ => exact mj_lc0
    | 1, _ => exact mj_lc1
    | 2, _ => exact mj_lc2
    | 3, _ => exact mj_lc3
    | 4, _ => exact mj_lc4
    | 5, _ => exact mj_lc5
    | 6, _ => exact mj_lc6
    | 7, _ => exact mj_lc7
    | 8, _ => exact mj_lc8
    | 9, _ => exact mj_lc9
    | 10, _ => exact mj_lc10
    | 11, _ => exact mj_lc11
    | 12, _ => exact mj_lc12
    | 13, _ => exact mj_lc13
    | 14, _ => exact mj_lc14
    | 15, _ => exact mj_lc15
    | 16, _ => exact mj_lc16
    | 17, _ => exact mj_lc17
    | 18, _ => exact mj_lc18
    | k + 19, h => omega
  have h2 : (decide (mj_own (mj_oc 219) = (mj_Y 219).cls) && plainName (mj_Y 219).cls) = true := by decide +kernel
  rw [Bool.and_eq_true] at h2
  unfold mj_mok
  rw [Bool.and_eq_true, Bool.and_eq_true]
  exact ⟨⟨h, h2.1⟩, h2.2⟩
theorem mj_kb0 : ∀ y ∈ ([0, 1, 2, 3, 4, 5, 6, 7, 8, 9, 10, 11, 12, 13, 14, 15, 16, 17, 18, 19, 20, 21, 22, 23, 24, 25, 26, 27, 28, 29, 30, 31, 32, 33, 34, 35, 36, 37, 38, 39] : List Nat), mj_mok y = true := List.forall_mem_cons.mpr ⟨mj_k0, List.forall_mem_cons.mpr ⟨mj_k1, List.forall_mem_cons.mpr ⟨mj_k2, List.forall_mem_cons.mpr ⟨mj_k3, List.forall_mem_cons.mpr ⟨mj_k4, List.forall_mem_cons.mpr ⟨mj_k5, List.forall_mem_cons.mpr ⟨mj_k6, List.forall_mem_cons.mpr ⟨mj_k7, List.forall_mem_cons.mpr ⟨mj_k8, List.forall_mem_cons.mpr ⟨mj_k9, List.forall_mem_cons.mpr ⟨mj_k10, List.forall_mem_cons.mpr ⟨mj_k11, List.forall_mem_cons.mpr ⟨mj_k12, List.forall_mem_cons.mpr ⟨mj_k13, List.forall_mem_cons.mpr ⟨mj_k14, List.forall_mem_cons.mpr ⟨mj_k15, List.forall_mem_cons.mpr ⟨mj_k16, List.forall_mem_cons.mpr ⟨mj_k17, List.forall_mem_cons.mpr ⟨mj_k18, List.forall_mem_cons.mpr ⟨mj_k19, List.forall_mem_cons.mpr ⟨mj_k20, List.forall_mem_cons.mpr ⟨mj_k21, List.forall_mem_cons.mpr ⟨mj_k22, List.forall_mem_cons.mpr ⟨mj_k23, List.forall_mem_cons.mpr ⟨mj_k24, List.forall_mem_cons.mpr ⟨mj_k25, List.forall_mem_cons.mpr ⟨mj_k26, List.forall_mem_cons.mpr ⟨mj_k27, List.forall_mem_cons.mpr ⟨mj_k28, List.forall_mem_cons.mpr ⟨mj_k29, List.forall_mem_cons.mpr ⟨mj_k30, List.forall_mem_cons.mpr ⟨mj_k31, List.forall_mem_cons.mpr ⟨mj_k32, List.forall_mem_cons.mpr ⟨mj_k33, List.forall_mem_cons.mpr ⟨mj_k34, List.forall_mem_cons.mpr ⟨mj_k35, List.forall_mem_cons.mpr ⟨mj_k36, List.forall_mem_cons.mpr ⟨mj_k37, List.forall_mem_cons.mpr ⟨mj_k38, List.forall_mem_cons.mpr ⟨mj_k39, fun _ h => absurd h List.not_mem_nil⟩⟩⟩⟩⟩⟩⟩⟩⟩⟩⟩⟩⟩⟩⟩⟩⟩⟩⟩⟩⟩⟩⟩⟩⟩⟩⟩⟩⟩⟩⟩⟩⟩⟩⟩⟩⟩⟩⟩⟩
theorem mj_kb40 : ∀ y ∈ ([40, 41, 42, 43, 44, 45, 46, 47, 48, 49, 50, 51, 52, 53, 54, 55, 56, 57, 58, 59, 60, 61, 62, 63, 64, 65, 66, 67, 68, 69, 70, 71, 72, 73, 74, 75, 76, 77, 78, 79] : List Nat), mj_mok y = true := List.forall_mem_cons.mpr ⟨mj_k40, List.forall_mem_cons.mpr ⟨mj_k41, List.forall_mem_cons.mpr ⟨mj_k42, List.forall_mem_cons.mpr ⟨mj_k43, List.forall_mem_cons.mpr ⟨mj_k44, List.forall_mem_cons.mpr ⟨mj_k45, List.forall_mem_cons.mpr ⟨mj_k46, List.forall_mem_cons.mpr ⟨mj_k47, List.forall_mem_cons.mpr ⟨mj_k48, List.forall_mem_cons.mpr ⟨mj_k49, List.forall_mem_cons.mpr ⟨mj_k50, List.forall_mem_cons.mpr ⟨mj_k51, List.forall_mem_cons.mpr ⟨mj_k52, List.forall_mem_cons.mpr ⟨mj_k53, List.forall_mem_cons.mpr ⟨mj_k54, List.forall_mem_cons.mpr ⟨mj_k55, List.forall_mem_cons.mpr ⟨mj_k56, List.forall_mem_cons.mpr ⟨mj_k57, List.forall_mem_cons.mpr ⟨mj_k58, List.forall_mem_cons.mpr ⟨mj_k59, List.forall_mem_cons.mpr ⟨mj_k60, List.forall_mem_cons.mpr ⟨mj_k61, List.forall_mem_cons.mpr ⟨mj_k62, List.forall_mem_cons.mpr ⟨mj_k63, List.forall_mem_cons.mpr ⟨mj_k64, List.forall_mem_cons.mpr ⟨mj_k65, List.forall_mem_cons.mpr ⟨mj_k66, List.forall_mem_cons.mpr ⟨mj_k67, List.forall_mem_cons.mpr ⟨mj_k68, List.forall_mem_cons.mpr ⟨mj_k69, List.forall_mem_cons.mpr ⟨mj_k70, List.forall_mem_cons.mpr ⟨mj_k71, List.forall_mem_cons.mpr ⟨mj_k72, List.forall_mem_cons.mpr ⟨mj_k73, List.forall_mem_cons.mpr ⟨mj_k74, List.forall_mem_cons.mpr ⟨mj_k75, List.forall_mem_cons.mpr ⟨mj_k76, List.forall_mem_cons.mpr ⟨mj_k77, List.forall_mem_cons.mpr ⟨mj_k78, List.forall_mem_cons.mpr ⟨mj_k79, fun _ h => absurd h List.not_mem_nil⟩⟩⟩⟩⟩⟩⟩⟩⟩⟩⟩⟩⟩⟩⟩⟩⟩⟩⟩⟩⟩⟩⟩⟩⟩⟩⟩⟩⟩⟩⟩⟩⟩⟩⟩⟩⟩⟩⟩⟩
theorem mj_kb80 : ∀ y ∈ ([80, 81, 82, 83, 84, 85, 86, 87, 88, 89, 90, 91, 92, 93, 94, 95, 96, 97, 98, 99, 100, 101, 102, 103, 104, 105, 106, 107, 108, 109, 110, 111, 112, 113, 114, 115, 116, 117, 118, 119] : List Nat), mj_mok y = true := List.forall_mem_cons.mpr ⟨mj_k80, List.forall_mem_cons.mpr ⟨mj_k81, List.forall_mem_cons.mpr ⟨mj_k82, List.forall_mem_cons.mpr ⟨mj_k83, List.forall_mem_cons.mpr ⟨mj_k84, List.forall_mem_cons.mpr ⟨mj_k85, List.forall_mem_cons.mpr ⟨mj_k86, List.forall_mem_cons.mpr ⟨mj_k87, List.forall_mem_cons.mpr ⟨mj_k88, List.forall_mem_cons.mpr ⟨mj_k89, List.forall_mem_cons.mpr ⟨mj_k90, List.forall_mem_cons.mpr ⟨mj_k91, List.forall_mem_cons.mpr ⟨mj_k92, List.forall_mem_cons.mpr ⟨mj_k93, List.forall_mem_cons.mpr ⟨mj_k94, List.forall_mem_cons.mpr ⟨mj_k95, List.forall_mem_cons.mpr ⟨mj_k96, List.forall_mem_cons.mpr ⟨mj_k97, List.forall_mem_cons.mpr ⟨mj_k98, List.forall_mem_cons.mpr ⟨mj_k99, List.forall_mem_cons.mpr ⟨mj_k100, List.forall_mem_cons.mpr ⟨mj_k101, List.forall_mem_cons.mpr ⟨mj_k102, List.forall_mem_cons.mpr ⟨mj_k103, List.forall_mem_cons.mpr ⟨mj_k104, List.forall_mem_cons.mpr ⟨mj_k105, List.forall_mem_cons.mpr ⟨mj_k106, List.forall_mem_cons.mpr ⟨mj_k107, List.forall_mem_cons.mpr ⟨mj_k108, List.forall_mem_cons.mpr ⟨mj_k109, List.forall_mem_cons.mpr ⟨mj_k110, List.forall_mem_cons.mpr ⟨mj_k111, List.forall_mem_cons.mpr ⟨mj_k112, List.forall_mem_cons.mpr ⟨mj_k113, List.forall_mem_cons.mpr ⟨mj_k114, List.forall_mem_cons.mpr ⟨mj_k115, List.forall_mem_cons.mpr ⟨mj_k116, List.forall_mem_cons.mpr ⟨mj_k117, List.forall_mem_cons.mpr ⟨mj_k118, List.forall_mem_cons.mpr ⟨mj_k119, fun _ h => absurd h List.not_mem_nil⟩⟩⟩⟩⟩⟩⟩⟩⟩⟩⟩⟩⟩⟩⟩⟩⟩⟩⟩⟩⟩⟩⟩⟩⟩⟩⟩⟩⟩⟩⟩⟩⟩⟩⟩⟩⟩⟩⟩⟩
theorem mj_kb120 : ∀ y ∈ ([120, 121, 122, 123, 124, 125, 126, 127, 128, 129, 130, 131, 132, 133, 134, 135, 136, 137, 138, 139, 140, 141, 142, 143, 144, 145, 146, 147, 148, 149, 150, 151, 152, 153, 154, 155, 156, 157, 158, 159] : List Nat), mj_mok y = true := List.forall_mem_cons.mpr ⟨mj_k120, List.forall_mem_cons.mpr ⟨mj_k121, List.forall_mem_cons.mpr ⟨mj_k122, List.forall_mem_cons.mpr ⟨mj_k123, List.forall_mem_cons.mpr ⟨mj_k124, List.forall_mem_cons.mpr ⟨mj_k125, List.forall_mem_cons.mpr ⟨mj_k126, List.forall_mem_cons.mpr ⟨mj_k127, List.forall_mem_cons.mpr ⟨mj_k128, List.forall_mem_cons.mpr ⟨mj_k129, List.forall_mem_cons.mpr ⟨mj_k130, List.forall_mem_cons.mpr ⟨mj_k131, List.forall_mem_cons.mpr ⟨mj_k132, List.forall_mem_cons.mpr ⟨mj_k133, List.forall_mem_cons.mpr ⟨mj_k134, List.forall_mem_cons.mpr ⟨mj_k135, List.forall_mem_cons.mpr ⟨mj_k136, List.forall_mem_cons.mpr ⟨mj_k137, List.forall_mem_cons.mpr ⟨mj_k138, List.forall_mem_cons.mpr ⟨mj_k139, List.forall_mem_cons.mpr ⟨mj_k140, List.forall_mem_cons.mpr ⟨mj_k141, List.forall_mem_cons.mpr ⟨mj_k142, List.forall_mem_cons.mpr ⟨mj_k143, List.forall_mem_cons.mpr ⟨mj_k144, List.forall_mem_cons.mpr ⟨mj_k145, List.forall_mem_cons.mpr ⟨mj_k146, List.forall_mem_cons.mpr ⟨mj_k147, List.forall_mem_cons.mpr ⟨mj_k148, List.forall_mem_cons.mpr ⟨mj_k149, List.forall_mem_cons.mpr ⟨mj_k150, List.forall_mem_cons.mpr ⟨mj_k151, List.forall_mem_cons.mpr ⟨mj_k152, List.forall_mem_cons.mpr ⟨mj_k153, List.forall_mem_cons.mpr ⟨mj_k154, List.forall_mem_cons.mpr ⟨mj_k155, List.forall_mem_cons.mpr ⟨mj_k156, List.forall_mem_cons.mpr ⟨mj_k157, List.forall_mem_cons.mpr ⟨mj_k158, List.forall_mem_cons.mpr ⟨mj_k159, fun _ h => absurd h List.not_mem_nil⟩⟩⟩⟩⟩⟩⟩⟩⟩⟩⟩⟩⟩⟩⟩⟩⟩⟩⟩⟩⟩⟩⟩⟩⟩⟩⟩⟩⟩⟩⟩⟩⟩⟩⟩⟩⟩⟩⟩⟩
theorem mj_kb160 : ∀ y ∈ ([160, 161, 162, 163, 164, 165, 166, 167, 168, 169, 170, 171, 172, 173, 174, 175, 176, 177, 178, 179, 180, 181, 182, 183, 184, 185, 186, 187, 188, 189, 190, 191, 192, 193, 194, 195, 196, 197, 198, 199] : List Nat), mj_mok y = true := List.forall_mem_cons.mpr ⟨mj_k160, List.forall_mem_cons.mpr ⟨mj_k161, List.forall_mem_cons.mpr ⟨mj_k162, List.forall_mem_cons.mpr ⟨mj_k163, List.forall_mem_cons.mpr ⟨mj_k164, List.forall_mem_cons.mpr ⟨mj_k165, List.forall_mem_cons.mpr ⟨mj_k166, List.forall_mem_cons.mpr ⟨mj_k167, List.forall_mem_cons.mpr ⟨mj_k168, List.forall_mem_cons.mpr ⟨mj_k169, List.forall_mem_cons.mpr ⟨mj_k170, List.forall_mem_cons.mpr ⟨mj_k171, List.forall_mem_cons.mpr ⟨mj_k172, List.forall_mem_cons.mpr ⟨mj_k173, List.forall_mem_cons.mpr ⟨mj_k174, List.forall_mem_cons.mpr ⟨mj_k175, List.forall_mem_cons.mpr ⟨mj_k176, List.forall_mem_cons.mpr ⟨mj_k177, List.forall_mem_cons.mpr ⟨mj_k178, List.forall_mem_cons.mpr ⟨mj_k179, List.forall_mem_cons.mpr ⟨mj_k180, List.forall_mem_cons.mpr ⟨mj_k181, List.forall_mem_cons.mpr ⟨mj_k182, List.forall_mem_cons.mpr ⟨mj_k183, List.forall_mem_cons.mpr ⟨mj_k184, List.forall_mem_cons.mpr ⟨mj_k185, List.forall_mem_cons.mpr ⟨mj_k186, List.forall_mem_cons.mpr ⟨mj_k187, List.forall_mem_cons.mpr ⟨mj_k188, List.forall_mem_cons.mpr ⟨mj_k189, List.forall_mem_cons.mpr ⟨mj_k190, List.forall_mem_cons.mpr ⟨mj_k191, List.forall_mem_cons.mpr ⟨mj_k192, List.forall_mem_cons.mpr ⟨mj_k193, List.forall_mem_cons.mpr ⟨mj_k194, List.forall_mem_cons.mpr ⟨mj_k195, List.forall_mem_cons.mpr ⟨mj_k196, List.forall_mem_cons.mpr ⟨mj_k197, List.forall_mem_cons.mpr ⟨mj_k198, List.forall_mem_cons.mpr ⟨mj_k199, fun _ h => absurd h List.not_mem_nil⟩⟩⟩⟩⟩⟩⟩⟩⟩⟩⟩⟩⟩⟩⟩⟩⟩⟩⟩⟩⟩⟩⟩⟩⟩⟩⟩⟩⟩⟩⟩⟩⟩⟩⟩⟩⟩⟩⟩⟩
theorem mj_kb200 : ∀ y ∈ ([200, 201, 202, 203, 204, 205, 206, 207, 208, 209, 210, 211, 212, 213, 214, 215, 216, 217, 218, 219] : List Nat), mj_mok y = true := List.forall_mem_cons.mpr ⟨mj_k200, List.forall_mem_cons.mpr ⟨mj_k201, List.forall_mem_cons.mpr ⟨mj_k202, List.forall_mem_cons.mpr ⟨mj_k203, List.forall_mem_cons.mpr ⟨mj_k204, List.forall_mem_cons.mpr ⟨mj_k205, List.forall_mem_cons.mpr ⟨mj_k206, List.forall_mem_cons.mpr ⟨mj_k207, List.forall_mem_cons.mpr ⟨mj_k208, List.forall_mem_cons.mpr ⟨mj_k209, List.forall_mem_cons.mpr ⟨mj_k210, List.forall_mem_cons.mpr ⟨mj_k211, List.forall_mem_cons.mpr ⟨mj_k212, List.forall_mem_cons.mpr ⟨mj_k213, List.forall_mem_cons.mpr ⟨mj_k214, List.forall_mem_cons.mpr ⟨mj_k215, List.forall_mem_cons.mpr ⟨mj_k216, List.forall_mem_cons.mpr ⟨mj_k217, List.forall_mem_cons.mpr ⟨mj_k218, List.forall_mem_cons.mpr ⟨mj_k219, fun _ h => absurd h List.not_mem_nil⟩⟩⟩⟩⟩⟩⟩⟩⟩⟩⟩⟩⟩⟩⟩⟩⟩⟩⟩⟩
theorem mj_mok_in {y : Nat} (hy : y < 220) : mj_mok y = true := by
  rcases Nat.lt_or_ge y 40 with h | h
  · exact mj_kb0 y (by (have : ∀ z, z < 40 → 0 ≤ z → z ∈ ([0, 1, 2, 3, 4, 5, 6, 7, 8, 9, 10, 11, 12, 13, 14, 15, 16, 17, 18, 19, 20, 21, 22, 23, 24, 25, 26, 27, 28, 29, 30, 31, 32, 33, 34, 35, 36, 37, 38, 39] : List Nat) := by decide +kernel); exact this y h (by omega))
  rcases Nat.lt_or_ge y 80 with h | h
  · exact mj_kb40 y (by (have : ∀ z, z < 80 → 40 ≤ z → z ∈ ([40, 41, 42, 43, 44, 45, 46, 47, 48, 49, 50, 51, 52, 53, 54, 55, 56, 57, 58, 59, 60, 61, 62, 63, 64, 65, 66, 67, 68, 69, 70, 71, 72, 73, 74, 75, 76, 77, 78, 79] : List Nat) := by decide +kernel); exact this y h (by omega))
  rcases Nat.lt_or_ge y 120 with h | h
  · exact mj_kb80 y (by (have : ∀ z, z < 120 → 80 ≤ z → z ∈ ([80, 81, 82, 83, 84, 85, 86, 87, 88, 89, 90, 91, 92, 93, 94, 95, 96, 97, 98, 99, 100, 101, 102, 103, 104, 105, 106, 107, 108, 109, 110, 111, 112, 113, 114, 115, 116, 117, 118, 119] : List Nat) := by decide +kernel); exact this y h (by omega))
  rcases Nat.lt_or_ge y 160 with h | h
  · exact mj_kb120 y (by (have : ∀ z, z < 160 → 120 ≤ z → z ∈ ([120, 121, 122, 123, 124, 125, 126, 127, 128, 129, 130, 131, 132, 133, 134, 135, 136, 137, 138, 139, 140, 141, 142, 143, 144, 145, 146, 147, 148, 149, 150, 151, 152, 153, 154, 155, 156, 157, 158, 159] : List Nat) := by decide +kernel); exact this y h (by omega))
  rcases Nat.lt_or_ge y 200 with h | h
  · exact mj_kb160 y (by (have : ∀ z, z < 200 → 160 ≤ z → z ∈ ([160, 161, 162, 163, 164, 165, 166, 167, 168, 169, 170, 171, 172, 173, 174, 175, 176, 177, 178, 179, 180, 181, 182, 183, 184, 185, 186, 187, 188, 189, 190, 191, 192, 193, 194, 195, 196, 197, 198, 199] : List Nat) := by decide +kernel); exact this y h (by omega))
  exact mj_kb200 y (by (have : ∀ z, z < 220 → 200 ≤ z → z ∈ ([200, 201, 202, 203, 204, 205, 206, 207, 208, 209, 210, 211, 212, 213, 214, 215, 216, 217, 218, 219] : List Nat) := by decide +kernel); exact this y hy h)
