/-! ===== N against the machine: a step ===== -/
theorem rty_null {t : FieldType} (h : rty t = true) : defaultValue t = .null ∧ ∀ a, narrow t (.ref a) = .ref a ∧ fits t (.ref a) = true := by
  cases t <;> first | exact ⟨rfl, fun _ => ⟨rfl, rfl⟩⟩ | cases h
section NZE
variable {p : Program} {l : Launch} {e : Env} {R : Room} {s : State} {mid : MethodId} {args : Array Value} {below : List Frame} {meth : Method} {c : Code} {H : Heap} {locs : List Loc} {Q : State → Prop}
variable {D : va_G} {cT : Nat → ClassId} {φ : Nat → Nat} {w : List NzC} {A : Nat → Prop} {nL ft : Nat} {arr : Array Slot} {ls : List (Option MV)} {st : List MV} {d m pc len x1 x2 nc ns : Nat} {S : NzS}
theorem nz_new {i : Nat} (hX : NzX p R s mid args meth c D cT d m) (hA : ∀ q, s.heap.size ≤ q → A q) (hs : nzStep d m pc ls st w nc ns (.new i) len x1 x2 = some (.inl S)) (hd : decode (mB m) pc = .ok (.new i, len)) (hC : NzF D cT φ w A s nL arr ls H locs ft) (h1 : S.2.2.2.2.1 ≤ R.cells) (h2 : S.2.2.2.2.2 ≤ R.slots)
    (kk : Nzk p l e R s mid args below meth c Q D cT A nL ft φ w.length S) : W p l e R s mid args below meth c H locs nc ns Q (F0 mid pc arr (st.map (eV φ))) := by
  obtain ⟨hx, hb, hml, hown, hts, hK, hf, hlo, hin⟩ := hX
  simp only [nzStep] at hs
  split at hs
  · rename_i q hq
    split at hs
    · rename_i hl; subst hl
      have hmem : q ∈ nzCL ∧ q.1 = mCI m ∧ q.2.1 = i := by
        unfold nzFind at hq
        have h := List.find?_some hq
        simp only [Bool.and_eq_true, beq_iff_eq] at h
        exact ⟨List.mem_of_find?_eq_some hq, h.1, h.2⟩
      obtain ⟨hm, rfl', rfl⟩ := hmem
      obtain ⟨hlk, h12⟩ := nzCL_ok q hm
      obtain ⟨C, T, N, ty, g1, g2, g3, g4, g5, g6, g7, g8, g9⟩ := nzk_all q.2.2 h12
      subst g2; subst g3
      rw [rfl'] at hlk
      have hcnt : S.2.2.2.2.1 = nc + 1 ∧ S.2.2.2.2.2 = ns + nzNF.getD q.2.2 0 := by
        unfold nzAl at hs
        split at hs
        · unfold nzGo at hs; cases hs; exact ⟨rfl, rfl⟩
        · cases hs
      refine va_new hx hb hts g4 ty g5 hown (hts _ hlk) (hts _ g7) (hts _ g8) hK hC.2.1 hC.2.2.1 hC.2.2.2.1 hA g1 (fs := (nzNew q.2.2).2.2.map (nzV φ)) ?_ (by omega) (by omega) hd (fun q' H1 hP hD hS => Nzk.al kk hs hC (nzE_o rfl) q' H1 locs hP hD hS)
      intro j hj
      obtain ⟨r1, r2, r3⟩ := g9 j hj
      have e1 : vp_V ((nzNew q.2.2).2.2.map (nzV φ)) j = nzV φ (bif frf q.2.2 j then none else some (mI 0)) := by
        unfold vp_V nzNew
        rw [List.getD_eq_getElem?_getD, List.getElem?_map, List.getElem?_map, List.getElem?_range hj]
        rfl
      rw [e1]
      cases hfr : frf q.2.2 j with
      | true => exact (rty_null (r1.trans hfr)).1
      | false =>
        rcases r3 hfr with h | h <;> rw [h] <;> rfl
    · cases hs
  · cases hs
theorem nz_newarr {t : ArrayType} (hX : NzX p R s mid args meth c D cT d m) (hA : ∀ q, s.heap.size ≤ q → A q) (hs : nzStep d m pc ls st w nc ns (.newarray t) len x1 x2 = some (.inl S)) (hd : decode (mB m) pc = .ok (.newarray t, len)) (hC : NzF D cT φ w A s nL arr ls H locs ft) (h1 : S.2.2.2.2.1 ≤ R.cells) (h2 : S.2.2.2.2.2 ≤ R.slots)
    (kk : Nzk p l e R s mid args below meth c Q D cT A nL ft φ w.length S) : W p l e R s mid args below meth c H locs nc ns Q (F0 mid pc arr (st.map (eV φ))) := by
  obtain ⟨hx, hb, hml, hown, hts, hK, hf, hlo, hin⟩ := hX
  simp only [nzStep] at hs
  split at hs
  · rename_i n r
    split at hs
    · rename_i hc
      obtain ⟨hl, hn0, hwn, hn9⟩ := hc
      subst hl
      split at hs
      · rename_i c1 hc1
        have hcnt : S.2.2.2.2.1 = nc + 1 ∧ S.2.2.2.2.2 = ns + n.toNat := by
          unfold nzAl at hs
          split at hs
          · unfold nzGo at hs; cases hs; exact ⟨rfl, rfl⟩
          · cases hs
        have hneg : ¬ Int32.ofInt n < 0 := by rw [oI_lt0]; omega
        have hcl : (Int32.ofInt n).toNatClampNeg = n.toNat := by rw [oI_cl, hwn]
        cases t with
        | int =>
          cases hc1
          have e0 : (fun j : Nat => Int32.ofInt (nzI (List.replicate n.toNat (some (mI 0)))[j]?)) = fun _ => 0 := by
            funext j
            rw [List.getElem?_replicate]
            split <;> rfl
          refine va_newa (atype := .int) (ty := .int) hx hb (hts _ nzAr_ok.1) rfl hK hC.2.1 hC.2.2.1 hC.2.2.2.1 hA (a0 := (n.toNat, .inl (fun _ => 0))) (fun cA => rfl) hneg hcl (by show _ * 4 ≤ _; omega) (by omega) (by omega) hd (fun q cA H1 hK1 hP hD hS => ?_)
          have hcA := pz_ct (k := 0) (fun _ => rfl) rfl hK1
          subst hcA
          exact Nzk.al kk hs hC ((nzE_i (kd := 0) rfl (by decide)).trans (by show Sum.inl (_, _, Sum.inl _) = _; rw [e0])) q H1 locs hP hD hS
        | byte =>
          cases hc1
          refine va_newa (atype := .byte) (ty := .byte) hx hb (hts _ nzAr_ok.2.1) rfl hK hC.2.1 hC.2.2.1 hC.2.2.2.1 hA (a0 := (n.toNat, .inl (fun _ => 0))) (fun cA => rfl) hneg hcl (by show _ * 1 ≤ _; omega) (by omega) (by omega) hd (fun q cA H1 hK1 hP hD hS => ?_)
          have hcA := pz_ct (k := 1) (fun _ => rfl) rfl hK1
          subst hcA
          exact Nzk.al kk hs hC (nzE_i (kd := 1) rfl (by decide)) q H1 locs hP hD hS
        | boolean =>
          cases hc1
          refine va_newa (atype := .boolean) (ty := .boolean) hx hb (hts _ nzAr_ok.2.2.1) rfl hK hC.2.1 hC.2.2.1 hC.2.2.2.1 hA (a0 := (n.toNat, .inl (fun _ => 0))) (fun cA => rfl) hneg hcl (by show _ * 1 ≤ _; omega) (by omega) (by omega) hd (fun q cA H1 hK1 hP hD hS => ?_)
          have hcA := pz_ct (k := 2) (fun _ => rfl) rfl hK1
          subst hcA
          exact Nzk.al kk hs hC (nzE_i (kd := 2) rfl (by decide)) q H1 locs hP hD hS
        | long =>
          cases hc1
          refine va_newa (atype := .long) (ty := .long) hx hb (hts _ nzAr_ok.2.2.2) rfl hK hC.2.1 hC.2.2.1 hC.2.2.2.1 hA (a0 := (n.toNat, .inr (.inl (fun _ => 0)))) (fun cA => rfl) hneg hcl (by show _ * 8 ≤ _; omega) (by omega) (by omega) hd (fun q cA H1 hK1 hP hD hS => ?_)
          have hcA := pz_ct (k := 3) (fun _ => rfl) rfl hK1
          subst hcA
          exact Nzk.al kk hs hC (nzE_l rfl) q H1 locs hP hD hS
        | _ => cases hc1
      · cases hs
    · cases hs
  · cases hs
end NZE
