/-! ===== the law's entry: the machine, the classes, what stands from the start ===== -/
theorem nz_len {args : Array Value} {s : State} {t : Term} {z : Int32} (h : (Term.length t).eval args s none [] s = some (.int z)) : ∃ a cell, t.eval args s none [] s = some (.ref a) ∧ s.arrayAt? a = some cell ∧ cell.slots.size < 2147483648 ∧ cell.slots.size.toInt32 = z := by
  simp only [Term.eval, Option.bind_eq_bind] at h
  cases ht : t.eval args s none [] s with
  | none => simp [ht] at h
  | some x =>
    cases x <;> simp [ht] at h
    case ref a =>
      obtain ⟨cell, hcell, h⟩ := Option.bind_eq_some_iff.mp h
      by_cases hn : cell.slots.size < 2147483648
      · rw [if_pos hn] at h; cases h; exact ⟨a, cell, rfl, hcell, hn, rfl⟩
      · rw [if_neg hn] at h; cases h
def tFT : Term := .static "GatesOnBoard" "FIRST_TIMES" "[I"
def tOE : Term := .static "GatesOnBoard" "ONE_EACH" "[I"
def tST : Term := .string "GatesOnBoard$Tape" 47
def nzFTv (j : Nat) : Int32 := if j < 3 then 1 else if j < 5 then 3 else 6
section NZM
variable {p : Program} {s : State} {m : MethodId} {meth : Method} {c : Code} {b L : Nat} {xs : Nat → Int32}
theorem nz_old : ∀ a : Nat, a < s.heap.size → ¬ (fun q : Nat => s.heap.size ≤ q) a := fun a h => Nat.not_le.mpr h
theorem nz_env (C0 : lw_At p s m meth c b L xs) : ∃ ft, nzEnv ft (fun q : Nat => s.heap.size ≤ q) s s.heap := by
  obtain ⟨hx, hb, hr, hml, hown, hts, hX, hbl, hlocks, hgv⟩ := C0
  have hgs := flat_of_before _ hgv
  have hlen : (Term.length tFT).eval #[Value.ref b] s none [] s = some (.int 6) := va_eqt (hgs (Cond.eq (.length tFT) (.int 6)) (by decide +kernel))
  have har : (Cond.arrayOf tFT .int).before #[Value.ref b] s = true := hgs _ (by decide +kernel)
  have hex : (Cond.exactly tFT "[I").before #[Value.ref b] s = true := hgs _ (by decide +kernel)
  have hel : ∀ j : Nat, j < 6 → (Term.elem tFT (.int (Int32.ofNat j))).eval #[Value.ref b] s none [] s = some (.int (nzFTv j)) := by
    intro j hj
    rcases (show j = 0 ∨ j = 1 ∨ j = 2 ∨ j = 3 ∨ j = 4 ∨ j = 5 by omega) with rfl | rfl | rfl | rfl | rfl | rfl
    · exact va_eqt (hgs (Cond.eq (.elem tFT (.int 0)) (.int 1)) (by decide +kernel))
    · exact va_eqt (hgs (Cond.eq (.elem tFT (.int 1)) (.int 1)) (by decide +kernel))
    · exact va_eqt (hgs (Cond.eq (.elem tFT (.int 2)) (.int 1)) (by decide +kernel))
    · exact va_eqt (hgs (Cond.eq (.elem tFT (.int 3)) (.int 3)) (by decide +kernel))
    · exact va_eqt (hgs (Cond.eq (.elem tFT (.int 4)) (.int 3)) (by decide +kernel))
    · exact va_eqt (hgs (Cond.eq (.elem tFT (.int 5)) (.int 6)) (by decide +kernel))
  obtain ⟨t, ht, cell, h1, h2, h3, h4, h5, h6, h7⟩ := va_Tof (N := 6) (f := fun j => .int (nzFTv j)) (A := fun q : Nat => s.heap.size ≤ q) (by decide) har hlen hel nz_old
  obtain ⟨a', cell', g1, g2, g3, g4⟩ := nz_len hlen
  cases ht.symm.trans g1
  have hcell' := (State.arrayAt?_spec g2).1
  cases h1.symm.trans hcell'
  have hsz : cell.slots.size = 6 := by
    have e1 : (Int32.ofNat cell.slots.size) = Int32.ofNat 6 := h5
    have e2 := congrArg Int32.toInt e1
    rw [Int32.toInt_ofNat_of_lt g3, Int32.toInt_ofNat_of_lt (by decide)] at e2
    omega
  obtain ⟨a2, cC, cell2, kC, f1, f2, f3, f4, f5, f6, -⟩ := Cond.exactly_spec (args := #[Value.ref b]) (first := s) (o := none) (s := s) (idx := []) hex
  cases ht.symm.trans f1
  cases h1.symm.trans f3
  refine ⟨t, fun q hq => ?_, va_Nw.of rfl (A := #[Value.ref b]) (hts _ (by decide +kernel)), (show (Cond.arrayOver (.array .int)).before #[Value.ref b] s = true from hts _ (by decide +kernel)), va_Zref (args := #[Value.ref b]) (hts _ (by decide +kernel)) (hts _ (by decide +kernel)) ht nz_old, nz_old t (Array.getElem?_eq_some_iff.mp h1).1, (Array.getElem?_eq_some_iff.mp h1).1, cell, h1, h2.1, h3, by rw [f6]; exact f2, ?_⟩
  · simp only [nzNL, List.mem_cons, List.not_mem_nil, or_false] at hq
    rcases hq with rfl | rfl | rfl | rfl | rfl | rfl | rfl | rfl <;> exact va_Nw.of rfl (A := #[Value.ref b]) (hts _ (by decide +kernel))
  · refine Array.ext (by rw [hsz]; rfl) fun i i1 i2 => ?_
    have hi : i < 6 := by omega
    have := h6 i hi
    rw [Array.getElem?_eq_getElem i1] at this
    rw [Option.some.inj this]
    rcases (show i = 0 ∨ i = 1 ∨ i = 2 ∨ i = 3 ∨ i = 4 ∨ i = 5 by omega) with rfl | rfl | rfl | rfl | rfl | rfl <;> rfl
theorem nz_one (C0 : lw_At p s m meth c b L xs) : ∃ t, va_Z RX10 "ONE_EACH" "[I" (.ref t) (fun q : Nat => s.heap.size ≤ q) s s.heap ∧ va_T .int t 6 (fun _ => .int 1) (fun q : Nat => s.heap.size ≤ q) s s.heap := by
  obtain ⟨hx, hb, hr, hml, hown, hts, hX, hbl, hlocks, hgv⟩ := C0
  have hgs := flat_of_before _ hgv
  have hlen : (Term.length tOE).eval #[Value.ref b] s none [] s = some (.int 6) := va_eqt (hgs (Cond.eq (.length tOE) (.int 6)) (by decide +kernel))
  have har : (Cond.arrayOf tOE .int).before #[Value.ref b] s = true := hgs _ (by decide +kernel)
  have hel : ∀ j : Nat, j < 6 → (Term.elem tOE (.int (Int32.ofNat j))).eval #[Value.ref b] s none [] s = some (.int 1) := by
    intro j hj
    rcases (show j = 0 ∨ j = 1 ∨ j = 2 ∨ j = 3 ∨ j = 4 ∨ j = 5 by omega) with rfl | rfl | rfl | rfl | rfl | rfl
    · exact va_eqt (hgs (Cond.eq (.elem tOE (.int 0)) (.int 1)) (by decide +kernel))
    · exact va_eqt (hgs (Cond.eq (.elem tOE (.int 1)) (.int 1)) (by decide +kernel))
    · exact va_eqt (hgs (Cond.eq (.elem tOE (.int 2)) (.int 1)) (by decide +kernel))
    · exact va_eqt (hgs (Cond.eq (.elem tOE (.int 3)) (.int 1)) (by decide +kernel))
    · exact va_eqt (hgs (Cond.eq (.elem tOE (.int 4)) (.int 1)) (by decide +kernel))
    · exact va_eqt (hgs (Cond.eq (.elem tOE (.int 5)) (.int 1)) (by decide +kernel))
  obtain ⟨t, ht, hT⟩ := va_Tof (N := 6) (f := fun _ => .int 1) (A := fun q : Nat => s.heap.size ≤ q) (by decide) har hlen hel nz_old
  exact ⟨t, va_Zref (args := #[Value.ref b]) (hts _ (by decide +kernel)) (hts _ (by decide +kernel)) ht nz_old, hT⟩
theorem nz_str (C0 : lw_At p s m meth c b L xs) : ∃ a, strE a (fun q : Nat => s.heap.size ≤ q) s s.heap := by
  obtain ⟨hx, hb, hr, hml, hown, hts, hX, hbl, hlocks, hgv⟩ := C0
  have hgs := flat_of_before _ hgv
  obtain ⟨adK, adV, hS, hE⟩ := vk_Sof (args := #[Value.ref b]) (s := s) (N := 1) (tm := fun _ => tST) (len := [6]) (byt := [[114, 104, 120, 99, 100, 119]]) (A := fun q : Nat => s.heap.size ≤ q)
    (fun i hi => by rw [show i = 0 by omega]; decide) (fun i _ => hgs _ (by decide +kernel)) (fun i _ => hgs _ (by decide +kernel)) (fun i _ => hgs _ (by decide +kernel)) (fun i hi => by rw [show i = 0 by omega]; exact hgs _ (by decide +kernel))
    (fun i hi j hj => by
      have hi0 : i = 0 := by omega
      subst hi0
      have hj6 : j < 6 := hj
      rcases (show j = 0 ∨ j = 1 ∨ j = 2 ∨ j = 3 ∨ j = 4 ∨ j = 5 by omega) with rfl | rfl | rfl | rfl | rfl | rfl <;> exact hgs _ (by decide +kernel))
    (fun i j hi hj hij => absurd (by omega) hij) nz_old
  refine ⟨adK 0, vk_R.of (A := #[Value.ref b]) (hts _ (by decide +kernel)) (hE 0 (by decide)), adV 0, ⟨fun i hi => ?_, fun i j hi hj _ => by omega⟩, va_Zof (args := #[Value.ref b]) (hts _ (by decide +kernel)) (hts _ (by decide +kernel)) (va_eqt (hgs (Cond.eq (.static "java/lang/String" "COMPACT_STRINGS" "Z") (.int 1)) (by decide +kernel))) nz_old⟩
  rw [show i = 0 by omega]
  exact hS.1 0 (by decide)
theorem nz_arr {ty : FieldType} {args : Array Value} (h : (Cond.arrayClass ty).before args s = true) (hr : ∀ c, va_RA s c ty = (s.vm.findClass ("[" ++ ty.toString) = some c)) : ∃ cA, ArrOfT s cA ty ∧ va_RA s cA ty := by
  obtain ⟨cA, k, comp, h1, h2, h3⟩ := Cond.arrayClass_spec (args := args) (first := s) (o := none) (s := s) (idx := []) h
  exact ⟨cA, fun n z => ⟨(fun k h => by cases h), k, h2, comp, h3⟩, by rw [hr]; exact h1⟩
theorem nz_K (C0 : lw_At p s m meth c b L xs) : ∃ (D : va_G) (cT : Nat → ClassId), va_K D vwCl (tyL cT) s := by
  obtain ⟨hx, hb, hr, hml, hown, hts, hX, hbl, hlocks, hgv⟩ := C0
  have hk : ∀ k : Nat, ∃ q : ClassId × (Nat → Nat), ∀ v : vw_C, vwCl[k]? = some v → u_Kn s v.1 v.2.1 v.2.2 q.1 q.2 := by
    intro k
    by_cases h : k < 11
    · obtain ⟨C, T, N, ty, g1, g2, g3, g4, g5, g6, g7, g8, g9⟩ := nzk_all k h
      obtain ⟨cC, iS, hKn⟩ := u_known (C := C) (T := T) (N := N) (n := N) (ws := lw_tbl) hts (fun w hw => WS_tbl w (g4 w hw)) (hts _ (WS_tbl _ g7))
      refine ⟨(cC, iS), fun v hv => ?_⟩
      cases g1.symm.trans hv
      exact hKn
    · refine ⟨(0, fun _ => 0), fun v hv => ?_⟩
      rw [List.getElem?_eq_none (by show 11 ≤ k; omega)] at hv
      cases hv
  obtain ⟨f, hf⟩ := Classical.axiomOfChoice hk
  obtain ⟨a0, i0, r0⟩ := nz_arr (hts _ (WS_tbl _ nzAr_ok.1)) (fun _ => rfl)
  obtain ⟨a1, i1, r1⟩ := nz_arr (hts _ (WS_tbl _ nzAr_ok.2.1)) (fun _ => rfl)
  obtain ⟨a2, i2, r2⟩ := nz_arr (hts _ (WS_tbl _ nzAr_ok.2.2.1)) (fun _ => rfl)
  obtain ⟨a3, i3, r3⟩ := nz_arr (hts _ (WS_tbl _ nzAr_ok.2.2.2)) (fun _ => rfl)
  have hao : (Cond.arrayOver (.array .int)).before #[Value.ref b] s = true := hts _ (by decide +kernel)
  obtain ⟨comp, a4, k4, q1, q2, q3, q4, q5⟩ := arrayOverA_spec hao
  refine ⟨(fun k => (f k).1, fun k => (f k).2), fun k => if k = 0 then a0 else if k = 1 then a1 else if k = 2 then a2 else if k = 3 then a3 else a4, fun k v hv => hf k v hv, fun k v hv => ?_⟩
  match k, hv with
  | 0, hv => cases hv; exact ⟨i0, r0⟩
  | 1, hv => cases hv; exact ⟨i1, r1⟩
  | 2, hv => cases hv; exact ⟨i2, r2⟩
  | 3, hv => cases hv; exact ⟨i3, r3⟩
  | 4, hv => cases hv; exact ⟨fun n z => ⟨(fun k h => by cases h), k4, q3, comp, q4⟩, q5⟩
  | k + 5, hv => simp [tyL] at hv
end NZM
