/-! ===== N against the machine: locals, jumps, constants; Object's own constructor; the copy of the first times ===== -/
section NZE
variable {p : Program} {l : Launch} {e : Env} {R : Room} {s : State} {mid : MethodId} {args : Array Value} {below : List Frame} {meth : Method} {c : Code} {H : Heap} {locs : List Loc} {Q : State → Prop}
variable {D : va_G} {cT : Nat → ClassId} {φ : Nat → Nat} {w : List NzC} {A : Nat → Prop} {ft : Nat} {arr : Array Slot} {ls : List (Option MV)} {st : List MV} {d m pc len x1 x2 nc ns : Nat} {S : NzS} {i : Instr}
theorem nz_simple (hX : NzX p R s mid args meth c D cT d m) (hs : nzStep d m pc ls st w nc ns i len x1 x2 = some (.inl S)) (hd : decode (mB m) pc = .ok (i, len)) (hC : NzF D cT φ w A s (mML m) arr ls H locs ft)
    (hi : (∃ k, i = .aload_n k) ∨ (∃ k, i = .iload_n k) ∨ (∃ z, i = .iconst z) ∨ (∃ z, i = .bipush z) ∨ (∃ z, i = .sipush z) ∨ i = .dup ∨ (∃ k, i = .istore_n k) ∨ (∃ k, i = .astore_n k) ∨ (∃ k z, i = .iinc k z) ∨ (∃ z, i = .goto z) ∨ (∃ z, i = .if_icmp .ge z))
    (kk : Nzk p l e R s mid args below meth c Q D cT A (mML m) ft φ w.length S) : W p l e R s mid args below meth c H locs nc ns Q (F0 mid pc arr (st.map (eV φ))) := by
  obtain ⟨hx, hb, hml, hown, hts, hK, hf, hlo, hin⟩ := hX
  rcases hi with ⟨k, rfl⟩ | ⟨k, rfl⟩ | ⟨z, rfl⟩ | ⟨z, rfl⟩ | ⟨z, rfl⟩ | rfl | ⟨k, rfl⟩ | ⟨k, rfl⟩ | ⟨k, z, rfl⟩ | ⟨z, rfl⟩ | ⟨z, rfl⟩
  · simp only [nzStep] at hs
    split at hs
    · rename_i x hv
      split at hs
      · rename_i hl; subst hl
        exact lv_aload_n hx hb hd rfl (hC.1.at hv) (Nzk.go kk hs hC)
      · cases hs
    · cases hs
  · simp only [nzStep] at hs
    split at hs
    · rename_i x hv
      split at hs
      · rename_i hl; subst hl
        exact lv_iload_n hx hb hd rfl (hC.1.at hv) (Nzk.go kk hs hC)
      · cases hs
    · cases hs
  · simp only [nzStep] at hs
    split at hs
    · rename_i hl; subst hl
      exact lv_iconst hx hb hd rfl (Nzk.go kk hs hC)
    · cases hs
  · simp only [nzStep] at hs
    split at hs
    · rename_i hl; obtain ⟨hl, hz⟩ := hl; subst hl
      exact lv_bipush hx hb hd rfl (W.vI (by have h9 := Int32.ofInt_int8ToInt (Int8.ofInt z); rw [hz] at h9; exact h9) (Nzk.go kk hs hC))
    · cases hs
  · simp only [nzStep] at hs
    split at hs
    · rename_i hl; obtain ⟨hl, hz⟩ := hl; subst hl
      exact lv_sipush hx hb hd rfl (W.vI (by have h9 := Int32.ofInt_int16ToInt (Int16.ofInt z); rw [hz] at h9; exact h9) (Nzk.go kk hs hC))
    · cases hs
  · simp only [nzStep] at hs
    split at hs
    · split at hs
      · rename_i hl; subst hl
        exact lv_dup hx hb hd rfl (Nzk.go kk hs hC)
      · cases hs
    · cases hs
  · simp only [nzStep] at hs
    split at hs
    · split at hs
      · rename_i hl; obtain ⟨hl, hi⟩ := hl; subst hl
        exact lv_istore_n hx hb hd rfl hC.1.1 (by rw [← hC.1.2]; exact hi) rfl (fun arr9 hl9 => Nzk.goL kk hs hC (LH.put hC.1.2 hl9))
      · cases hs
    · cases hs
  · simp only [nzStep] at hs
    split at hs
    · split at hs
      · rename_i hl; obtain ⟨hl, hi⟩ := hl; subst hl
        exact lv_astore_n hx hb hd rfl hC.1.1 (by rw [← hC.1.2]; exact hi) rfl (fun arr9 hl9 => Nzk.goL kk hs hC (LH.put hC.1.2 hl9))
      · cases hs
    · cases hs
  · simp only [nzStep] at hs
    split at hs
    · rename_i x hv
      split at hs
      · rename_i hl; subst hl
        obtain ⟨i9, hi9⟩ := hC.1.place hv
        have hk9 : k < mML m := by rw [← hC.1.2]; exact (List.getElem?_eq_some_iff.mp hv).1
        exact lv_iinc hx hb hd hC.1.1 hi9 (oI_add x z).symm hk9 rfl (fun arr9 hl9 => Nzk.goL kk hs hC (LH.put hC.1.2 hl9))
      · cases hs
    · cases hs
  · simp only [nzStep] at hs
    split at hs
    · rename_i hl; obtain ⟨hl, ht⟩ := hl; subst hl
      exact lv_goto hx hb hd ht (Nzk.go kk hs hC)
    · cases hs
  · simp only [nzStep] at hs
    split at hs
    · rename_i y x r
      split at hs
      · rename_i hl; obtain ⟨hl, ht⟩ := hl; subst hl
        refine lv_icmp_ge hx hb hd ht ?_ ?_
        · intro q
          rw [if_neg (fun z => Int32.not_lt.mpr q ((oI_lt _ _).mpr z))] at hs
          exact Nzk.go kk hs hC
        · intro q
          rw [if_pos ((oI_lt _ _).mp (Int32.not_le.mp q))] at hs
          exact Nzk.go kk hs hC
      · cases hs
    · cases hs
theorem nz_max {k : Nat} (hX : NzX p R s mid args meth c D cT d m) (hk4 : x2 = 4 → (mCI m, k) ∈ mxL) (hs : nzStep d m pc ls st w nc ns (.invokestatic k) len x1 x2 = some (.inl S)) (hd : decode (mB m) pc = .ok (.invokestatic k, len)) (hC : NzF D cT φ w A s (mML m) arr ls H locs ft)
    (h1 : S.2.2.2.2.1 ≤ R.cells) (h2 : S.2.2.2.2.2 ≤ R.slots) (kk : Nzk p l e R s mid args below meth c Q D cT A (mML m) ft φ w.length S) : W p l e R s mid args below meth c H locs nc ns Q (F0 mid pc arr (st.map (eV φ))) := by
  obtain ⟨hx, hb, hml, hown, hts, hK, hf, hlo, hin⟩ := hX
  simp only [nzStep] at hs
  split at hs
  · rename_i y x r
    split at hs
    · rename_i hc
      obtain ⟨hl, h4, hd1, hcs⟩ := hc
      subst hl
      have hcnt : S.2.2.2.2.1 = nc ∧ S.2.2.2.2.2 = ns := by unfold nzGo at hs; cases hs; exact ⟨rfl, rfl⟩
      have hsz : c.maxLocals = arr.size := hml.trans hC.1.1.1.symm
      refine va_mmax hx hb hsz hown (hts _ (mxL_ok _ (hk4 h4))) (hts _ mx_ok.1) (hts _ mx_ok.2.1) (hts _ mx_ok.2.2) (by omega) (by rw [mcs_sum]; omega) (by omega) (by omega) hd (W.vI ?_ (Nzk.go kk hs hC))
      unfold mmx
      by_cases h : wi x < wi y
      · rw [if_pos h, if_pos ((oI_lt _ _).mpr h)]
      · rw [if_neg h, if_neg (fun z => h ((oI_lt _ _).mp z))]
    · cases hs
  · cases hs
theorem nz_obj {k : Nat} (hX : NzX p R s mid args meth c D cT d m) (hk : nzOL.contains (mCI m, k) = true) (hs : nzStep d m pc ls st w nc ns (.invokespecial k) len x1 x2 = some (.inl S)) (hd : decode (mB m) pc = .ok (.invokespecial k, len)) (hC : NzF D cT φ w A s (mML m) arr ls H locs ft)
    (kk : Nzk p l e R s mid args below meth c Q D cT A (mML m) ft φ w.length S) : W p l e R s mid args below meth c H locs nc ns Q (F0 mid pc arr (st.map (eV φ))) := by
  obtain ⟨hx, hb, hml, hown, hts, hK, hf, hlo, hin⟩ := hX
  simp only [nzStep, if_pos hk] at hs
  split at hs
  · rename_i a r
    split at hs
    · rename_i hc
      obtain ⟨hl, hd1, hcs⟩ := hc
      subst hl
      refine W.objInit hx hb hown (hts _ (nzOL_ok _ (List.contains_iff_mem.mp hk))) (hts _ nzOb_ok.1) (hts _ nzOb_ok.2) rfl (by rw [hml]; exact hC.1.1.1) (rest := r.map (eV φ)) rfl hd (by omega) (by rw [mcs_sum]; show 2 * 0 + _ + 12 ≤ _; omega) ?_
      exact W.eq (g2 := F0 mid (pc + 3) arr (r.map (eV φ))) rfl (Nzk.go kk hs hC)
    · cases hs
  · cases hs
theorem nz_ftc (cA : ClassId) : ({ cls := cA, slots := #[Value.int 1, .int 1, .int 1, .int 3, .int 3, .int 6] } : Cell) = vp_cell cA (6, .inl (fun j => Int32.ofInt (nzI ([some (mI 1), some (mI 1), some (mI 1), some (mI 3), some (mI 3), some (mI 6)] : List (Option MV))[j]?))) := by
  rfl
theorem nz_first {k : Nat} (hX : NzX p R s mid args meth c D cT d m) (hA : ∀ q, s.heap.size ≤ q → A q) (hs : nzStep d m pc ls st w nc ns (.getstatic k) len x1 x2 = some (.inl S)) (hd : decode (mB m) pc = .ok (.getstatic k, len)) (hC : NzF D cT φ w A s (mML m) arr ls H locs ft)
    (h1 : S.2.2.2.2.1 ≤ R.cells) (h2 : S.2.2.2.2.2 ≤ R.slots) (kk : Nzk p l e R s mid args below meth c Q D cT A (mML m) ft φ w.length S) : W p l e R s mid args below meth c H locs nc ns Q (F0 mid pc arr (st.map (eV φ))) := by
  obtain ⟨hx, hb, hml, hown, hts, hK, hf, hlo, hin⟩ := hX
  simp only [nzStep] at hs
  split at hs
  · rename_i hc
    obtain ⟨rfl, rfl, hd1, hcs⟩ := hc
    have hcnt : S.2.2.2.2.1 = nc + 1 ∧ S.2.2.2.2.2 = ns + 6 := by
      unfold nzAl at hs
      split at hs
      · unfold nzGo at hs; cases hs; exact ⟨rfl, rfl⟩
      · cases hs
    have d38 : decode (mB 113) 38 = .ok (.getstatic 26, 3) := mcode_dec (m := 113) (pc := 38) (e := (.getstatic 26, 3, 0, 0)) (by decide +kernel)
    have d41 : decode (mB 113) 41 = .ok (.invokevirtual 30, 3) := mcode_dec (m := 113) (pc := 41) (e := (.invokevirtual 30, 3, 0, 9)) (by decide +kernel)
    have d44 : decode (mB 113) 44 = .ok (.checkcast 31, 3) := mcode_dec (m := 113) (pc := 44) (e := (.checkcast 31, 3, 0, 0)) (by decide +kernel)
    obtain ⟨w1, w2, w3, w4, w5, w6, w7⟩ := nzFT_ok
    have hown' : s.vm.findClass RX10 = some mid.cls := hown
    obtain ⟨n1, n2, n3, n4, n5, n6, cell, g1, g2, g3, g4, g5⟩ := id hC.2.2.2.2
    refine va_gets hx hb n4 hC.2.2.2.1 hown' (hts _ w1) (fun _ h => h) d38 ?_
    intro T hT X
    have hcA : s.vm.findClass "[I" = some (cT 0) := (hK.2 0 _ rfl).2
    have hcls : cell.cls = cT 0 := Option.some.inj (g4.symm.trans hcA)
    have hcellT : T.heap[ft]? = some cell := by rw [hT, hC.2.2.2.1.2.1 ft n6 n5]; exact g1
    obtain ⟨c0, t0', f1, f2, f3⟩ := Cond.castable_spec (va_Nw.use (A := args) rfl n2)
    cases hcA.symm.trans f1
    obtain ⟨-, kA, hkA, comp, hkind⟩ := State.isArrayOf_alike X.warmed.alike ((hK.2 0 _ rfl).1 0 (fun _ => .null))
    obtain ⟨-, kS, hkS, compS, hkindS⟩ := (hK.2 0 _ rfl).1 0 (fun _ => .null)
    have hsz : cell.slots.size = 6 := by rw [g5]; rfl
    obtain ⟨vm', X', stp⟩ := X.cloneArray hx hown' (hts _ w2) (hts _ w3) (hts _ w4) (hts _ w5) (hts _ w6) (a := ft) (cell := cell) hcellT g2 g3 g4 f2 (by rw [hcls]; exact f3)
      (fun i v hv => by
        rw [hcls]
        have hk' : T.vm.classes[cT 0]? = some kA := hkA
        have hvi : ∃ z, v = .int z := by
          rw [g5] at hv
          rcases i with _ | _ | _ | _ | _ | _ | i
          · exact ⟨_, (Option.some.inj hv).symm⟩
          · exact ⟨_, (Option.some.inj hv).symm⟩
          · exact ⟨_, (Option.some.inj hv).symm⟩
          · exact ⟨_, (Option.some.inj hv).symm⟩
          · exact ⟨_, (Option.some.inj hv).symm⟩
          · exact ⟨_, (Option.some.inj hv).symm⟩
          · rw [Array.getElem?_eq_none (by show 6 ≤ i + 6; omega)] at hv; cases hv
        obtain ⟨z, rfl⟩ := hvi
        simp [State.fitsSlot, State.slotType?, hk', hkind, fits])
      (g := F0 mid 41 arr (.ref ft :: st.map (eV φ))) rfl (by rw [hml]; exact hC.1.1.1) rfl (by rw [hb]; exact d41) (by omega) (by rw [mcs_sum]; show 2 * 0 + _ + 14 ≤ _; omega) (by omega) (by rw [hsz]; omega) (hloader := by rw [hcls]; exact Vm.clonesLoader_of_array hkS hkindS)
    rw [hsz] at X'
    have hce : ({ cls := cell.cls, slots := cell.slots } : Cell) = vp_cell (cT 0) (6, .inl (fun j => Int32.ofInt (nzI ([some (mI 1), some (mI 1), some (mI 1), some (mI 3), some (mI 3), some (mI 6)] : List (Option MV))[j]?))) := by
      rw [hcls, g5]; exact nz_ftc _
    rw [hce] at X' stp
    generalize hv : vp_cell (cT 0) (6, .inl (fun j => Int32.ofInt (nzI ([some (mI 1), some (mI 1), some (mI 1), some (mI 3), some (mI 3), some (mI 6)] : List (Option MV))[j]?))) = ce at X' stp
    generalize hH1 : H.push ce = H1
    have z1 : H1.size = H.size + 1 := by rw [← hH1, Array.size_push]
    have e1 : H1[H.size]? = some ce := by rw [← hH1, Array.getElem?_push_size]
    have o1 : ∀ q : Nat, q < H.size → H1[q]? = H[q]? := fun q hq => by rw [← hH1, Array.getElem?_push, if_neg (Nat.ne_of_lt hq)]
    have hk : ∀ (k : Nat) (y : Nat × va_E), (nzW cT φ w)[k]? = some y → H1[y.1]? = H[y.1]? := fun k y hy => o1 y.1 ((hC.2.1 k y hy).lt)
    have hxe : nzE cT φ (0, 6, [some (mI 1), some (mI 1), some (mI 1), some (mI 3), some (mI 3), some (mI 6)]) = .inl (cT 0, 6, .inl (fun j => Int32.ofInt (nzI ([some (mI 1), some (mI 1), some (mI 1), some (mI 3), some (mI 3), some (mI 6)] : List (Option MV))[j]?))) := nzE_i (kd := 0) rfl (by decide)
    have hP1 : va_P D vwCl (nzW cT φ w ++ [(H.size, nzE cT φ (0, 6, [some (mI 1), some (mI 1), some (mI 1), some (mI 3), some (mI 3), some (mI 6)]))]) H1 := by
      refine (hC.2.1.kept hk).app (fun k y hy => ?_)
      have hz : k < 1 := (List.getElem?_eq_some_iff.mp hy).1
      rw [show k = 0 by omega] at hy
      cases hy
      rw [hxe]
      show H1[H.size]? = some (vp_cell _ _)
      rw [hv]
      exact e1
    have hD1 : va_D A (nzW cT φ w ++ [(H.size, nzE cT φ (0, 6, [some (mI 1), some (mI 1), some (mI 1), some (mI 3), some (mI 3), some (mI 6)]))]) := hC.2.2.1.push hC.2.1 rfl (hA _ hC.2.2.2.1.1)
    have hS1 : va_S A s.heap H1 locs := ⟨Nat.le_trans hC.2.2.2.1.1 (by omega), fun y h1 h2 => (o1 y (Nat.lt_of_lt_of_le h1 hC.2.2.2.1.1)).trans (hC.2.2.2.1.2.1 y h1 h2), hC.2.2.2.1.2.2⟩
    have hcast : W p l e R s mid args below meth c H1 locs (nc + 1) (ns + 6) Q (F0 mid 44 arr (.ref H.size :: st.map (eV φ))) := by
      have hat : (nzW cT φ w ++ [(H.size, nzE cT φ (0, 6, [some (mI 1), some (mI 1), some (mI 1), some (mI 3), some (mI 3), some (mI 6)]))])[w.length]? = some (H.size, .inl (cT 0, 6, .inl (fun j => Int32.ofInt (nzI ([some (mI 1), some (mI 1), some (mI 1), some (mI 3), some (mI 3), some (mI 6)] : List (Option MV))[j]?)))) := by
        rw [List.getElem?_append_right (by rw [nzW_len]; exact Nat.le_refl _), nzW_len, Nat.sub_self, hxe]
        rfl
      exact va_castA hx hb hown' (hts _ w7) hP1 w.length (a := H.size) (cA := cT 0) hat hcA d44 (Nzk.al kk hs hC rfl H.size H1 locs hP1 hD1 hS1)
    obtain ⟨t, b1, b2⟩ := hcast ((T.setVm vm').pushCell ce) (by rw [← hH1, ← hT]; rfl) X'
    refine ⟨t, stp t ?_, b2⟩
    rw [hT]
    exact b1
  · cases hs
end NZE
