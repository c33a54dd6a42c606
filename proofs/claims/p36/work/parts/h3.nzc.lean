/-! ===== the tables' words that N stands on (printed by gennz.py) ===== -/
def rty : FieldType → Bool
  | .object _ => true
  | .array _ => true
  | _ => false
/-- what is known of the class k -/
def nzOKc (k : Nat) : Prop := ∃ (C : String) (T : u_T) (N : Nat) (ty : Nat → FieldType), vwCl[k]? = some (C, T, N) ∧ C = cnm k ∧ N = nzNF.getD k 0 ∧ (∀ w ∈ u_ws C T N, w ∈ WS) ∧ (∀ i, i < N → parseFieldDescriptor (T i).2.2.1 = some (ty i)) ∧ (∀ a, a < N → ∀ b, b < N → a ≠ b → (T a).2.1 ≠ (T b).2.1) ∧ Cond.instantiable C N ∈ WS ∧ Cond.initialized C ∈ WS ∧ (∀ i, i < N → rty (ty i) = frf k i ∧ (T i).1 = C ∧ (frf k i = false → ty i = .int ∨ ty i = .boolean))
theorem nzk0 : nzOKc 0 := ⟨RX0, TX0, 5, tyX0, rfl, rfl, rfl, uW0, tyX0_ok, nmX0, (wt1 69 (by decide +kernel) (by decide +kernel)), (wt1 5 (by decide +kernel) (by decide +kernel)), by decide +kernel⟩
theorem nzk1 : nzOKc 1 := ⟨RX1, TX1, 3, tyX1, rfl, rfl, rfl, uW1, tyX1_ok, nmX1, (wt1 173 (by decide +kernel) (by decide +kernel)), (wt1 9 (by decide +kernel) (by decide +kernel)), by decide +kernel⟩
theorem nzk2 : nzOKc 2 := ⟨RX2, TX2, 5, tyX2, rfl, rfl, rfl, uW2, tyX2_ok, nmX2, (wt1 197 (by decide +kernel) (by decide +kernel)), (wt1 11 (by decide +kernel) (by decide +kernel)), by decide +kernel⟩
theorem nzk3 : nzOKc 3 := ⟨RX3, TX3, 2, tyX3, rfl, rfl, rfl, uW3, tyX3_ok, nmX3, (wt2 2 (by decide +kernel) (by decide +kernel)), (wt1 12 (by decide +kernel) (by decide +kernel)), by decide +kernel⟩
theorem nzk4 : nzOKc 4 := ⟨RX4, TX4, 7, tyX4, rfl, rfl, rfl, uW4, tyX4_ok, nmX4, (wt1 34 (by decide +kernel) (by decide +kernel)), (wt1 3 (by decide +kernel) (by decide +kernel)), by decide +kernel⟩
theorem nzk5 : nzOKc 5 := ⟨RX5, TX5, 2, tyX5, rfl, rfl, rfl, uW5, tyX5_ok, nmX5, (wt1 93 (by decide +kernel) (by decide +kernel)), (wt1 6 (by decide +kernel) (by decide +kernel)), by decide +kernel⟩
theorem nzk6 : nzOKc 6 := ⟨RX6, TX6, 5, tyX6, rfl, rfl, rfl, uW6, tyX6_ok, nmX6, (wt1 191 (by decide +kernel) (by decide +kernel)), (wt1 10 (by decide +kernel) (by decide +kernel)), by decide +kernel⟩
theorem nzk7 : nzOKc 7 := ⟨RX7, TX7, 2, tyX7, rfl, rfl, rfl, uW7, tyX7_ok, nmX7, (wt1 159 (by decide +kernel) (by decide +kernel)), (wt1 8 (by decide +kernel) (by decide +kernel)), by decide +kernel⟩
theorem nzk8 : nzOKc 8 := ⟨RX8, TX8, 5, tyX8, rfl, rfl, rfl, uW8, tyX8_ok, nmX8, (wt1 28 (by decide +kernel) (by decide +kernel)), (wt1 2 (by decide +kernel) (by decide +kernel)), by decide +kernel⟩
theorem nzk9 : nzOKc 9 := ⟨RX9, TX9, 2, tyX9, rfl, rfl, rfl, uW9, tyX9_ok, nmX9, (wt1 130 (by decide +kernel) (by decide +kernel)), (wt1 7 (by decide +kernel) (by decide +kernel)), by decide +kernel⟩
theorem nzk10 : nzOKc 10 := ⟨RX10, TX10, 14, tyX10, rfl, rfl, rfl, uW10, tyX10_ok, nmX10, (wt1 20 (by decide +kernel) (by decide +kernel)), (wt1 1 (by decide +kernel) (by decide +kernel)), by decide +kernel⟩
theorem nzk_all : ∀ k, k < 11 → nzOKc k := by
  intro k h
  match k, h with
  | 0, _ => exact nzk0
  | 1, _ => exact nzk1
  | 2, _ => exact nzk2
  | 3, _ => exact nzk3
  | 4, _ => exact nzk4
  | 5, _ => exact nzk5
  | 6, _ => exact nzk6
  | 7, _ => exact nzk7
  | 8, _ => exact nzk8
  | 9, _ => exact nzk9
  | 10, _ => exact nzk10
def nzLKc (q : Nat × Nat × Nat) : Prop := Cond.classLink (cnm q.1) q.2.1 (cnm q.2.2) ∈ WS ∧ q.2.2 < 11
theorem nzl0 : nzLKc (12, 8, 10) := ⟨(wt1 19 (by decide +kernel) (by decide +kernel)), by decide⟩
theorem nzl1 : nzLKc (10, 7, 8) := ⟨(wt1 27 (by decide +kernel) (by decide +kernel)), by decide⟩
theorem nzl2 : nzLKc (8, 15, 4) := ⟨(wt1 33 (by decide +kernel) (by decide +kernel)), by decide⟩
theorem nzl3 : nzLKc (8, 24, 0) := ⟨(wt1 68 (by decide +kernel) (by decide +kernel)), by decide⟩
theorem nzl4 : nzLKc (8, 31, 5) := ⟨(wt1 92 (by decide +kernel) (by decide +kernel)), by decide⟩
theorem nzl5 : nzLKc (10, 19, 9) := ⟨(wt1 129 (by decide +kernel) (by decide +kernel)), by decide⟩
theorem nzl6 : nzLKc (10, 38, 4) := ⟨(wt1 152 (by decide +kernel) (by decide +kernel)), by decide⟩
theorem nzl7 : nzLKc (10, 47, 0) := ⟨(wt1 154 (by decide +kernel) (by decide +kernel)), by decide⟩
theorem nzl8 : nzLKc (10, 54, 5) := ⟨(wt1 156 (by decide +kernel) (by decide +kernel)), by decide⟩
theorem nzl9 : nzLKc (10, 61, 7) := ⟨(wt1 158 (by decide +kernel) (by decide +kernel)), by decide⟩
theorem nzl10 : nzLKc (10, 68, 1) := ⟨(wt1 172 (by decide +kernel) (by decide +kernel)), by decide⟩
theorem nzl11 : nzLKc (10, 81, 6) := ⟨(wt1 190 (by decide +kernel) (by decide +kernel)), by decide⟩
theorem nzl12 : nzLKc (6, 9, 2) := ⟨(wt1 196 (by decide +kernel) (by decide +kernel)), by decide⟩
theorem nzl13 : nzLKc (2, 9, 4) := ⟨(wt1 202 (by decide +kernel) (by decide +kernel)), by decide⟩
theorem nzl14 : nzLKc (2, 20, 0) := ⟨(wt1 204 (by decide +kernel) (by decide +kernel)), by decide⟩
theorem nzl15 : nzLKc (2, 27, 5) := ⟨(wt1 206 (by decide +kernel) (by decide +kernel)), by decide⟩
theorem nzl16 : nzLKc (6, 18, 4) := ⟨(wt1 223 (by decide +kernel) (by decide +kernel)), by decide⟩
theorem nzl17 : nzLKc (10, 88, 3) := ⟨(wt2 1 (by decide +kernel) (by decide +kernel)), by decide⟩
theorem nzl18 : nzLKc (3, 9, 2) := ⟨(wt2 7 (by decide +kernel) (by decide +kernel)), by decide⟩
theorem nzCL_ok : ∀ q ∈ nzCL, nzLKc q := List.forall_mem_cons.mpr ⟨nzl0, List.forall_mem_cons.mpr ⟨nzl1, List.forall_mem_cons.mpr ⟨nzl2, List.forall_mem_cons.mpr ⟨nzl3, List.forall_mem_cons.mpr ⟨nzl4, List.forall_mem_cons.mpr ⟨nzl5, List.forall_mem_cons.mpr ⟨nzl6, List.forall_mem_cons.mpr ⟨nzl7, List.forall_mem_cons.mpr ⟨nzl8, List.forall_mem_cons.mpr ⟨nzl9, List.forall_mem_cons.mpr ⟨nzl10, List.forall_mem_cons.mpr ⟨nzl11, List.forall_mem_cons.mpr ⟨nzl12, List.forall_mem_cons.mpr ⟨nzl13, List.forall_mem_cons.mpr ⟨nzl14, List.forall_mem_cons.mpr ⟨nzl15, List.forall_mem_cons.mpr ⟨nzl16, List.forall_mem_cons.mpr ⟨nzl17, List.forall_mem_cons.mpr ⟨nzl18, fun _ h => absurd h List.not_mem_nil⟩⟩⟩⟩⟩⟩⟩⟩⟩⟩⟩⟩⟩⟩⟩⟩⟩⟩⟩
/-- what is known of the constructor m -/
def nzOKm (m : Nat) : Prop := Cond.code (mY m) (mB m) (mML m) none ∈ WS ∧ Cond.initialized (mY m).cls ∈ WS ∧ Cond.instanceMethod (mY m) ∈ WS ∧ (mY m).name = "<init>" ∧ ((mY m).cls ≠ "java/lang/invoke/MethodHandle" ∧ (mY m).cls ≠ "java/lang/invoke/VarHandle" ∧ (parseMethodDescriptor (mY m).desc).map (fun d => d.parameters.length) = some (mNA m - 1)) ∧ plainName (mY m).cls = true ∧ mTy m = none ∧ 1 ≤ mNA m ∧ mML m ≤ 21 ∧ (mY m).cls = cnm (mCI m)
theorem nzm0 : nzOKm 0 := ⟨(wt1 72 (by decide +kernel) (by decide +kernel)), (wt1 5 (by decide +kernel) (by decide +kernel)), (wt1 71 (by decide +kernel) (by decide +kernel)), by decide +kernel, by decide +kernel, by decide +kernel, by decide +kernel, by decide +kernel, by decide +kernel, by decide +kernel⟩
theorem nzm12 : nzOKm 12 := ⟨(wt1 176 (by decide +kernel) (by decide +kernel)), (wt1 9 (by decide +kernel) (by decide +kernel)), (wt1 175 (by decide +kernel) (by decide +kernel)), by decide +kernel, by decide +kernel, by decide +kernel, by decide +kernel, by decide +kernel, by decide +kernel, by decide +kernel⟩
theorem nzm25 : nzOKm 25 := ⟨(wt1 200 (by decide +kernel) (by decide +kernel)), (wt1 11 (by decide +kernel) (by decide +kernel)), (wt1 199 (by decide +kernel) (by decide +kernel)), by decide +kernel, by decide +kernel, by decide +kernel, by decide +kernel, by decide +kernel, by decide +kernel, by decide +kernel⟩
theorem nzm37 : nzOKm 37 := ⟨(wt2 5 (by decide +kernel) (by decide +kernel)), (wt1 12 (by decide +kernel) (by decide +kernel)), (wt2 4 (by decide +kernel) (by decide +kernel)), by decide +kernel, by decide +kernel, by decide +kernel, by decide +kernel, by decide +kernel, by decide +kernel, by decide +kernel⟩
theorem nzm44 : nzOKm 44 := ⟨(wt1 37 (by decide +kernel) (by decide +kernel)), (wt1 3 (by decide +kernel) (by decide +kernel)), (wt1 36 (by decide +kernel) (by decide +kernel)), by decide +kernel, by decide +kernel, by decide +kernel, by decide +kernel, by decide +kernel, by decide +kernel, by decide +kernel⟩
theorem nzm73 : nzOKm 73 := ⟨(wt1 96 (by decide +kernel) (by decide +kernel)), (wt1 6 (by decide +kernel) (by decide +kernel)), (wt1 95 (by decide +kernel) (by decide +kernel)), by decide +kernel, by decide +kernel, by decide +kernel, by decide +kernel, by decide +kernel, by decide +kernel, by decide +kernel⟩
theorem nzm85 : nzOKm 85 := ⟨(wt1 194 (by decide +kernel) (by decide +kernel)), (wt1 10 (by decide +kernel) (by decide +kernel)), (wt1 193 (by decide +kernel) (by decide +kernel)), by decide +kernel, by decide +kernel, by decide +kernel, by decide +kernel, by decide +kernel, by decide +kernel, by decide +kernel⟩
theorem nzm97 : nzOKm 97 := ⟨(wt1 162 (by decide +kernel) (by decide +kernel)), (wt1 8 (by decide +kernel) (by decide +kernel)), (wt1 161 (by decide +kernel) (by decide +kernel)), by decide +kernel, by decide +kernel, by decide +kernel, by decide +kernel, by decide +kernel, by decide +kernel, by decide +kernel⟩
theorem nzm101 : nzOKm 101 := ⟨(wt1 31 (by decide +kernel) (by decide +kernel)), (wt1 2 (by decide +kernel) (by decide +kernel)), (wt1 30 (by decide +kernel) (by decide +kernel)), by decide +kernel, by decide +kernel, by decide +kernel, by decide +kernel, by decide +kernel, by decide +kernel, by decide +kernel⟩
theorem nzm104 : nzOKm 104 := ⟨(wt1 133 (by decide +kernel) (by decide +kernel)), (wt1 7 (by decide +kernel) (by decide +kernel)), (wt1 132 (by decide +kernel) (by decide +kernel)), by decide +kernel, by decide +kernel, by decide +kernel, by decide +kernel, by decide +kernel, by decide +kernel, by decide +kernel⟩
theorem nzm113 : nzOKm 113 := ⟨(wt1 23 (by decide +kernel) (by decide +kernel)), (wt1 1 (by decide +kernel) (by decide +kernel)), (wt1 22 (by decide +kernel) (by decide +kernel)), by decide +kernel, by decide +kernel, by decide +kernel, by decide +kernel, by decide +kernel, by decide +kernel, by decide +kernel⟩
theorem nzCt_ok : ∀ m ∈ nzCt, nzOKm m := List.forall_mem_cons.mpr ⟨nzm0, List.forall_mem_cons.mpr ⟨nzm12, List.forall_mem_cons.mpr ⟨nzm25, List.forall_mem_cons.mpr ⟨nzm37, List.forall_mem_cons.mpr ⟨nzm44, List.forall_mem_cons.mpr ⟨nzm73, List.forall_mem_cons.mpr ⟨nzm85, List.forall_mem_cons.mpr ⟨nzm97, List.forall_mem_cons.mpr ⟨nzm101, List.forall_mem_cons.mpr ⟨nzm104, List.forall_mem_cons.mpr ⟨nzm113, fun _ h => absurd h List.not_mem_nil⟩⟩⟩⟩⟩⟩⟩⟩⟩⟩⟩
def nzIKc (q : Nat × Nat × Nat) : Prop := Cond.methodLink (cnm q.1) q.2.1 (mY q.2.2) ∈ WS ∧ q.2.2 ∈ nzCt
theorem nzi0 : nzIKc (12, 96, 113) := ⟨(wt1 21 (by decide +kernel) (by decide +kernel)), by decide⟩
theorem nzi1 : nzIKc (8, 17, 44) := ⟨(wt1 35 (by decide +kernel) (by decide +kernel)), by decide⟩
theorem nzi2 : nzIKc (8, 26, 0) := ⟨(wt1 70 (by decide +kernel) (by decide +kernel)), by decide⟩
theorem nzi3 : nzIKc (8, 33, 73) := ⟨(wt1 94 (by decide +kernel) (by decide +kernel)), by decide⟩
theorem nzi4 : nzIKc (10, 40, 44) := ⟨(wt1 153 (by decide +kernel) (by decide +kernel)), by decide⟩
theorem nzi5 : nzIKc (10, 49, 0) := ⟨(wt1 155 (by decide +kernel) (by decide +kernel)), by decide⟩
theorem nzi6 : nzIKc (10, 56, 73) := ⟨(wt1 157 (by decide +kernel) (by decide +kernel)), by decide⟩
theorem nzi7 : nzIKc (2, 11, 44) := ⟨(wt1 203 (by decide +kernel) (by decide +kernel)), by decide⟩
theorem nzi8 : nzIKc (2, 22, 0) := ⟨(wt1 205 (by decide +kernel) (by decide +kernel)), by decide⟩
theorem nzi9 : nzIKc (2, 29, 73) := ⟨(wt1 207 (by decide +kernel) (by decide +kernel)), by decide⟩
theorem nzi10 : nzIKc (6, 20, 44) := ⟨(wt1 224 (by decide +kernel) (by decide +kernel)), by decide⟩
theorem nzIL_ok : ∀ q ∈ nzIL, nzIKc q := List.forall_mem_cons.mpr ⟨nzi0, List.forall_mem_cons.mpr ⟨nzi1, List.forall_mem_cons.mpr ⟨nzi2, List.forall_mem_cons.mpr ⟨nzi3, List.forall_mem_cons.mpr ⟨nzi4, List.forall_mem_cons.mpr ⟨nzi5, List.forall_mem_cons.mpr ⟨nzi6, List.forall_mem_cons.mpr ⟨nzi7, List.forall_mem_cons.mpr ⟨nzi8, List.forall_mem_cons.mpr ⟨nzi9, List.forall_mem_cons.mpr ⟨nzi10, fun _ h => absurd h List.not_mem_nil⟩⟩⟩⟩⟩⟩⟩⟩⟩⟩⟩
theorem nzo0 : Cond.methodLink (cnm 0) 3 Lib.objectInit ∈ WS := (wt1 73 (by decide +kernel) (by decide +kernel))
theorem nzo1 : Cond.methodLink (cnm 1) 3 Lib.objectInit ∈ WS := (wt1 177 (by decide +kernel) (by decide +kernel))
theorem nzo2 : Cond.methodLink (cnm 2) 3 Lib.objectInit ∈ WS := (wt1 201 (by decide +kernel) (by decide +kernel))
theorem nzo3 : Cond.methodLink (cnm 3) 3 Lib.objectInit ∈ WS := (wt2 6 (by decide +kernel) (by decide +kernel))
theorem nzo4 : Cond.methodLink (cnm 4) 3 Lib.objectInit ∈ WS := (wt1 38 (by decide +kernel) (by decide +kernel))
theorem nzo5 : Cond.methodLink (cnm 5) 3 Lib.objectInit ∈ WS := (wt1 97 (by decide +kernel) (by decide +kernel))
theorem nzo6 : Cond.methodLink (cnm 6) 3 Lib.objectInit ∈ WS := (wt1 195 (by decide +kernel) (by decide +kernel))
theorem nzo7 : Cond.methodLink (cnm 7) 3 Lib.objectInit ∈ WS := (wt1 163 (by decide +kernel) (by decide +kernel))
theorem nzo8 : Cond.methodLink (cnm 8) 3 Lib.objectInit ∈ WS := (wt1 32 (by decide +kernel) (by decide +kernel))
theorem nzo9 : Cond.methodLink (cnm 9) 3 Lib.objectInit ∈ WS := (wt1 134 (by decide +kernel) (by decide +kernel))
theorem nzo10 : Cond.methodLink (cnm 10) 1 Lib.objectInit ∈ WS := (wt1 24 (by decide +kernel) (by decide +kernel))
theorem nzOL_ok : ∀ q ∈ nzOL, Cond.methodLink (cnm q.1) q.2 Lib.objectInit ∈ WS := List.forall_mem_cons.mpr ⟨nzo0, List.forall_mem_cons.mpr ⟨nzo1, List.forall_mem_cons.mpr ⟨nzo2, List.forall_mem_cons.mpr ⟨nzo3, List.forall_mem_cons.mpr ⟨nzo4, List.forall_mem_cons.mpr ⟨nzo5, List.forall_mem_cons.mpr ⟨nzo6, List.forall_mem_cons.mpr ⟨nzo7, List.forall_mem_cons.mpr ⟨nzo8, List.forall_mem_cons.mpr ⟨nzo9, List.forall_mem_cons.mpr ⟨nzo10, fun _ h => absurd h List.not_mem_nil⟩⟩⟩⟩⟩⟩⟩⟩⟩⟩⟩
theorem nzOb_ok : Cond.instanceMethod Lib.objectInit ∈ WS ∧ Cond.code Lib.objectInit ⟨#[0xb1]⟩ 1 none ∈ WS := ⟨(wt1 25 (by decide +kernel) (by decide +kernel)), (wt1 26 (by decide +kernel) (by decide +kernel))⟩
theorem nzAr_ok : Cond.arrayClass .int ∈ WS ∧ Cond.arrayClass .byte ∈ WS ∧ Cond.arrayClass .boolean ∈ WS ∧ Cond.arrayClass .long ∈ WS := ⟨(wt1 67 (by decide +kernel) (by decide +kernel)), (wt3 228 (by decide +kernel) (by decide +kernel)), (wt2 0 (by decide +kernel) (by decide +kernel)), (wt1 189 (by decide +kernel) (by decide +kernel))⟩
theorem nzFT_ok : Cond.fieldLink RX10 26 RX10 "FIRST_TIMES" "[I" ∈ WS ∧ Cond.methodLink RX10 30 ⟨"[I", "clone", "()Ljava/lang/Object;"⟩ ∈ WS ∧ Cond.sameMethod "[I" "java/lang/Object" "clone" "()Ljava/lang/Object;" ∈ WS ∧ Cond.native ⟨"java/lang/Object", "clone", "()Ljava/lang/Object;"⟩ ∈ WS ∧ Cond.instanceMethod ⟨"java/lang/Object", "clone", "()Ljava/lang/Object;"⟩ ∈ WS ∧ Cond.selects "[I" ⟨"[I", "clone", "()Ljava/lang/Object;"⟩ ⟨"java/lang/Object", "clone", "()Ljava/lang/Object;"⟩ ∈ WS ∧ Cond.classLink RX10 31 "[I" ∈ WS := ⟨(wt1 143 (by decide +kernel) (by decide +kernel)), (wt1 145 (by decide +kernel) (by decide +kernel)), (wt1 146 (by decide +kernel) (by decide +kernel)), (wt1 147 (by decide +kernel) (by decide +kernel)), (wt1 148 (by decide +kernel) (by decide +kernel)), (wt1 149 (by decide +kernel) (by decide +kernel)), (wt1 151 (by decide +kernel) (by decide +kernel))⟩
theorem nzMA_ok : Cond.classLink RX0 25 "[[I" ∈ WS := (wt1 74 (by decide +kernel) (by decide +kernel))
