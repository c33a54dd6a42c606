/-! ===== N against the machine: a step (on) ===== -/
section NZE
variable {p : Program} {l : Launch} {e : Env} {R : Room} {s : State} {mid : MethodId} {args : Array Value} {below : List Frame} {meth : Method} {c : Code} {H : Heap} {locs : List Loc} {Q : State → Prop}
variable {D : va_G} {cT : Nat → ClassId} {φ : Nat → Nat} {w : List NzC} {A : Nat → Prop} {nL ft : Nat} {arr : Array Slot} {ls : List (Option MV)} {st : List MV} {d m pc len x1 x2 nc ns : Nat} {S : NzS}
theorem nz_putfield {i : Nat} (hX : NzX p R s mid args meth c D cT d m) (hF : FOK (mCI m, i, x1, x2)) (hs : nzStep d m pc ls st w nc ns (.putfield i) len x1 x2 = some (.inl S)) (hd : decode (mB m) pc = .ok (.putfield i, len)) (hC : NzF D cT φ w A s nL arr ls H locs ft)
    (kk : Nzk p l e R s mid args below meth c Q D cT A nL ft φ w.length S) : W p l e R s mid args below meth c H locs nc ns Q (F0 mid pc arr (st.map (eV φ))) := by
  obtain ⟨hx, hb, hml, hown, hts, hK, hf, hlo, hin⟩ := hX
  obtain ⟨C, T, N, ty, g1, g2, g3, g4, g5, g6, g7⟩ := hF
  simp only [nzStep] at hs
  split at hs
  · rename_i v a r
    split at hs
    · rename_i c1 hc1
      split at hs
      · rename_i hc
        obtain ⟨hl, hk, hn, hfr, hbl⟩ := hc
        subst hl
        obtain ⟨f1, f2⟩ := g7 hfr
        have hnar : narrow (ty x2) (.int (Int32.ofInt v)) = .int (Int32.ofInt v) ∧ fits (ty x2) (.int (Int32.ofInt v)) = true := by
          rw [show ty x2 = _ from f2]
          cases hq : fbl x1 x2 with
          | false => exact ⟨vp_nar_int _, rfl⟩
          | true => rcases hbl hq with rfl | rfl <;> exact ⟨rfl, rfl⟩
        have hg := nzW_at (cT := cT) (φ := φ) hc1
        rw [nzE_o hk] at hg
        refine va_put hx hb hts g4 ty g5 g6 hown hK hC.2.1 hC.2.2.1 hC.2.2.2.1 a hg g1 x2 g2 (hts _ g3) (fun _ h => h) f1 (g5 x2 g2) hnar.1 hnar.2 (by simpa using hn) hd (fun H1 locs1 hP hD hS => Nzk.goW kk hs hC ((nzE_o (c := (c1.1, c1.2.1, c1.2.2.set x2 (some (mI v)))) hk).trans ?_) hP hD hS)
        rw [List.map_set]
        rfl
      · cases hs
    · cases hs
  · rename_i v a r
    split at hs
    · rename_i c1 hc1
      split at hs
      · rename_i hc
        obtain ⟨hl, hk, hn, hfr, hxm, hmc⟩ := hc
        subst hl
        have hin := hin (List.contains_iff_mem.mp hmc)
        have h12 : x1 < 11 := by
          have := (List.getElem?_eq_some_iff.mp g1).1
          simpa [vwCl] using this
        obtain ⟨C', T', N', ty', k1, k2, k3, k4, k5, k6, k7, k8, k9⟩ := nzk_all x1 h12
        have e9 : (C', T', N') = (C, T, N) := Option.some.inj (k1.symm.trans g1)
        cases e9
        obtain ⟨r1, r2, -⟩ := k9 x2 g2
        have hr := (rty_null (r1.trans hfr)).2
        have hg := nzW_at (cT := cT) (φ := φ) hc1
        rw [nzE_o hk] at hg
        have hfin : ∀ (H1 : Heap) (locs1 : List Loc), va_P D vwCl ((nzW cT φ w).set a (φ a, .inr (x1, (c1.2.2.map (nzV φ)).set x2 (.ref (φ v))))) H1 → va_D A ((nzW cT φ w).set a (φ a, .inr (x1, (c1.2.2.map (nzV φ)).set x2 (.ref (φ v))))) → va_S A s.heap H1 locs1 → W p l e R s mid args below meth c H1 locs1 nc ns Q (F0 mid (pc + 3) arr (r.map (eV φ))) := by
          intro H1 locs1 hP hD hS
          refine Nzk.goW kk hs hC ((nzE_o (c := (c1.1, c1.2.1, c1.2.2.set x2 (some (mR v)))) hk).trans ?_) hP hD hS
          rw [List.map_set]
          rfl
        cases hfn : (T x2).2.2.2 with
        | false => exact va_put hx hb hts k4 ty' k5 k6 hown hK hC.2.1 hC.2.2.1 hC.2.2.2.1 a hg g1 x2 g2 (hts _ g3) (fun _ h => h) hfn (k5 x2 g2) (hr (φ v)).1 (hr (φ v)).2 (by simpa using hn) hd hfin
        | true => exact va_putF hx hb hts k4 ty' k5 k6 hown hK hC.2.1 hC.2.2.1 hC.2.2.2.1 a hg g1 x2 g2 (hts _ g3) (fun _ h => h) hfn hin (by rw [r2, k2, hxm]) (k5 x2 g2) (hr (φ v)).1 (hr (φ v)).2 (by simpa using hn) hd hfin
      · cases hs
    · cases hs
  · cases hs
theorem nz_getfield {i : Nat} (hX : NzX p R s mid args meth c D cT d m) (hF : FOK (mCI m, i, x1, x2)) (hs : nzStep d m pc ls st w nc ns (.getfield i) len x1 x2 = some (.inl S)) (hd : decode (mB m) pc = .ok (.getfield i, len)) (hC : NzF D cT φ w A s nL arr ls H locs ft)
    (kk : Nzk p l e R s mid args below meth c Q D cT A nL ft φ w.length S) : W p l e R s mid args below meth c H locs nc ns Q (F0 mid pc arr (st.map (eV φ))) := by
  obtain ⟨hx, hb, hml, hown, hts, hK, hf, hlo, hin⟩ := hX
  obtain ⟨C, T, N, ty, g1, g2, g3, g4, g5, g6, g7⟩ := hF
  simp only [nzStep] at hs
  split at hs
  · rename_i a r
    split at hs
    · rename_i c1 hc1
      split at hs
      · rename_i hc
        obtain ⟨hl, hk⟩ := hc
        subst hl
        split at hs
        · rename_i v hv
          have hg := nzW_at (cT := cT) (φ := φ) hc1
          rw [nzE_o hk] at hg
          refine va_get hx hb hts g4 hown hK hC.2.1 a hg g1 x2 g2 (hts _ g3) (fun _ h => h) (v := eV φ v) ?_ hd (Nzk.go kk hs hC)
          rw [List.getElem?_map, hv]
          rfl
        · cases hs
      · cases hs
    · cases hs
  · cases hs
theorem nz_iastore (hX : NzX p R s mid args meth c D cT d m) (hs : nzStep d m pc ls st w nc ns .iastore len x1 x2 = some (.inl S)) (hd : decode (mB m) pc = .ok (.iastore, len)) (hC : NzF D cT φ w A s nL arr ls H locs ft)
    (kk : Nzk p l e R s mid args below meth c Q D cT A nL ft φ w.length S) : W p l e R s mid args below meth c H locs nc ns Q (F0 mid pc arr (st.map (eV φ))) := by
  obtain ⟨hx, hb, hml, hown, hts, hK, hf, hlo, hin⟩ := hX
  simp only [nzStep] at hs
  split at hs
  · rename_i v i a r
    split at hs
    · rename_i c1 hc1
      split at hs
      · rename_i hc
        obtain ⟨hl, hk, h0, h1, h2⟩ := hc
        subst hl
        have hg := nzW_at (cT := cT) (φ := φ) hc1
        rw [nzE_i hk (by omega)] at hg
        refine va_iast hx hb hK hC.2.1 hC.2.2.1 hC.2.2.2.1 a 0 hg rfl ((oI_in _ _).mpr ⟨h0, h1⟩) hd (fun H1 locs1 hP hD hS => Nzk.goW kk hs hC ((nzE_i (c := (c1.1, c1.2.1, c1.2.2.set (wi i).toNat (some (mI v)))) (kd := 0) hk (by omega)).trans ?_) hP hD hS)
        refine congrArg (fun z => Sum.inl (cT 0, c1.2.1, Sum.inl z)) ?_
        funext j
        show Int32.ofInt (nzI (c1.2.2.set (wi i).toNat (some (mI v)))[j]?) = upd _ _ _ j
        rw [oI_cl, upd, List.getElem?_set]
        by_cases e : (wi i).toNat = j
        · rw [if_pos e, if_pos (by omega), if_pos e.symm]; rfl
        · rw [if_neg e, if_neg (fun z => e z.symm)]
      · cases hs
    · cases hs
  · cases hs
theorem nz_aaload (hX : NzX p R s mid args meth c D cT d m) (hs : nzStep d m pc ls st w nc ns .aaload len x1 x2 = some (.inl S)) (hd : decode (mB m) pc = .ok (.aaload, len)) (hC : NzF D cT φ w A s nL arr ls H locs ft)
    (kk : Nzk p l e R s mid args below meth c Q D cT A nL ft φ w.length S) : W p l e R s mid args below meth c H locs nc ns Q (F0 mid pc arr (st.map (eV φ))) := by
  obtain ⟨hx, hb, hml, hown, hts, hK, hf, hlo, hin⟩ := hX
  simp only [nzStep] at hs
  split at hs
  · rename_i i a r
    split at hs
    · rename_i c1 hc1
      split at hs
      · rename_i hc
        obtain ⟨hl, hk, h0, h1⟩ := hc
        subst hl
        split at hs
        · rename_i x hv
          have hg := nzW_at (cT := cT) (φ := φ) hc1
          rw [nzE_r hk] at hg
          have hi9 : (wi i).toNat < c1.2.1 := by omega
          exact W.aald (ty := .array .int) hx hb (hC.2.1 _ _ hg) ((hK.2 4 _ rfl).1 c1.2.1 (fun j => .ref (nzF φ c1.2.2[j]?))) rfl (fun q => by cases q) (by
            show ¬ (_ ∨ (arrV _ _ _).slots.size ≤ _)
            rw [arrV_size]; exact (oI_in _ _).mpr ⟨h0, h1⟩) (by show (arrV _ _ _).slots[_]? = _; rw [oI_cl, arrV_read _ _ hi9]; show some (Value.ref (nzF φ c1.2.2[(wi i).toNat]?)) = _; rw [hv]; rfl) rfl rfl hd (Nzk.go kk hs hC)
        · cases hs
      · cases hs
    · cases hs
  · cases hs
end NZE
