/-! ===== N against the machine: calls, and all of a run ===== -/
abbrev nzRm (d mc ms : Nat) : Room := { frames := d, cells := mc, slots := ms, locals := 40 * d }
def NzPre (D : va_G) (cT : Nat → ClassId) (φ : Nat → Nat) (w : List NzC) (as : List MV) (ft sz : Nat) : Array Value → State → Prop := va_Pc (as.map (eV φ)) (fun U => U.heap.size = sz ∧ va_P D vwCl (nzW cT φ w) U.heap ∧ va_K D vwCl (tyL cT) U ∧ va_D (fun _ => True) (nzW cT φ w) ∧ nzEnv ft (va_A (nzW cT φ w) sz) U U.heap)
theorem NzPre_blind {D : va_G} {cT : Nat → ClassId} {φ : Nat → Nat} {w : List NzC} {as : List MV} {ft sz : Nat} : FrameBlind (NzPre D cT φ w as ft sz) := by
  intro a U g mk h
  obtain ⟨h0, h1, h2, h3, h4, h5⟩ := h
  exact ⟨h0, h1, h2, va_K.moved (u := U) (U := U.calling g mk a) (Vm.Alike.refl U.vm) h3, h4, nzEnv.blind (U := U) (U' := U.calling g mk a) rfl h5⟩
/-- a method that N runs, as its callers see it: from the world w to the world w1 -/
def NzMet (l : Launch) (D : va_G) (cT : Nat → ClassId) (φ : Nat → Nat) (d m : Nat) (as : List MV) (w : List NzC) (ft : Nat) (w1 : List NzC) (mc ms : Nat) : Prop :=
  ∀ sz : Nat, Met l (mY m) (mWs m) (nzRm d mc ms) (NzPre D cT φ w as ft sz) (va_Qv (fun φ' : Nat → Nat => nzAg w.length φ φ') (fun φ' t => va_P D vwCl (nzW cT φ' w1) t.heap ∧ va_D (va_A (nzW cT φ w) sz) (nzW cT φ' w1)) (va_A (nzW cT φ w) sz)) mc ms (va_A (nzW cT φ w) sz)
def NzP (n : Nat) : Prop := ∀ (d m : Nat) (S S' : NzS), nzEv n d m S = some S' →
  ∀ (p : Program) (l : Launch) (e : Env) (R : Room) (s : State) (mid : MethodId) (args : Array Value) (below : List Frame) (meth : Method) (c : Code) (Q : State → Prop) (D : va_G) (cT : Nat → ClassId) (φ : Nat → Nat) (A : Nat → Prop) (arr : Array Slot) (H : Heap) (locs : List Loc) (ft : Nat),
  NzX p R s mid args meth c D cT d m → (∀ q, s.heap.size ≤ q → A q) → S'.2.2.2.2.1 ≤ R.cells → S'.2.2.2.2.2 ≤ R.slots → NzF D cT φ S.2.2.2.1 A s (mML m) arr S.2.1 H locs ft →
  Nzk p l e R s mid args below meth c Q D cT A (mML m) ft φ S.2.2.2.1.length S' →
  W p l e R s mid args below meth c H locs S.2.2.2.2.1 S.2.2.2.2.2 Q (F0 mid S.1 arr (S.2.2.1.map (eV φ)))
theorem nz_met {n : Nat} (hP : NzP n) {l : Launch} {D : va_G} {cT : Nat → ClassId} {φ : Nat → Nat} {d m ft : Nat} {as : List MV} {w : List NzC} {S' : NzS} (he : nzEv n d m (0, ment m as, [], w, 0, 0) = some S') (hm : (ments as).length ≤ mML m) (h288 : m ≠ 288)
    (hpl : plainName (mY m).cls = true) (hty : mTy m = none) (hcl : (mY m).cls = cnm (mCI m)) : NzMet l D cT φ d m as w ft S'.2.2.2.1 S'.2.2.2.2.1 S'.2.2.2.2.2 := by
  intro sz
  refine Met.ofW (cc := mB m) (maxL := mML m) (ret := none) hpl (ws' := WS) (by unfold mWs; rw [hty]) ?_
  intro p e s mid args below meth c s₁ B hml hv
  obtain ⟨rfl, hsz, hP0, hK, hD0, hE⟩ := hv
  subst hsz
  have hown : s.vm.findClass (cnm (mCI m)) = some mid.cls := by rw [← hcl]; exact findClass_of_methodNamed B.named
  have hts := atoms_spec (ws := mWs m) B.pre
  have hin : m ∈ nzCt → meth.name = "<init>" := fun hm => by
    rw [(name_of_methodNamed B.named B.method).1]
    exact (nzCt_ok m hm).2.2.2.1
  rw [lg_entry_eq]
  obtain ⟨e1, e2⟩ := nzEv_end _ _ _ _ _ he h288
  refine hP d m _ S' he p l e _ s mid _ below meth c _ D cT φ (va_A (nzW cT φ w) s.heap.size) _ s.heap [] ft ⟨B.exec, B.bytes, hml, hown, fun w hw => hts w (List.mem_cons_of_mem _ hw), hK, Nat.le_refl _, Nat.le_refl _, hin⟩ (fun q h => Or.inr h) (Nat.le_refl _) (Nat.le_refl _) ⟨LH.entry hm, hP0, hD0.self, va_S.rf, hE⟩ ?_
  intro φ' arr' H' locs' hag hC
  have hlocks : meth.locks = false := B.notSynchronized
  rw [e1]
  exact W.vret B.exec B.bytes B.returns (fun t ht hW => ⟨⟨φ', rfl, hag, by rw [ht]; exact hC.2.1, hC.2.2.1⟩, hC.2.2.2.1.F ht⟩) hC.2.2.2.1.2.2 e2
theorem nzWok_r {w : List NzC} {ls : List (Option MV)} {as r : List MV} (h : nzWok w ls (as ++ r) = true) : nzWok w ls r = true := by
  unfold nzWok at h ⊢
  rw [Bool.and_eq_true, Bool.and_eq_true, List.all_append, Bool.and_eq_true] at h
  rw [Bool.and_eq_true, Bool.and_eq_true]
  exact ⟨h.1, h.2.1, h.2.2.2⟩
section NZJ
variable {p : Program} {l : Launch} {e : Env} {R : Room} {s : State} {mid : MethodId} {args : Array Value} {below : List Frame} {meth : Method} {c : Code} {H : Heap} {locs : List Loc} {Q : State → Prop}
variable {D : va_G} {cT : Nat → ClassId} {φ : Nat → Nat} {w w1 : List NzC} {A : Nat → Prop} {ft : Nat} {arr : Array Slot} {ls : List (Option MV)} {st : List MV} {d m pc len x1 x2 nc ns mc ms : Nat} {S : NzS} {i : Instr}
/-- what comes behind a call -/
theorem nz_back {as r : List MV} {st0 : List Value} {a0 : Array Value} (hC : NzF D cT φ w A s (mML m) arr ls H locs ft) (hA : ∀ q, s.heap.size ≤ q → A q) (hw : nzWok w ls (as ++ r) = true)
    (hr : va_Run p l e R s mid args below meth c H locs nc ns mc ms (F0 mid pc arr st0) (r.map (eV φ)) (va_Qv (fun φ' : Nat → Nat => nzAg w.length φ φ') (fun φ' t => va_P D vwCl (nzW cT φ' w1) t.heap ∧ va_D (va_A (nzW cT φ w) H.size) (nzW cT φ' w1)) (va_A (nzW cT φ w) H.size) a0) (va_A (nzW cT φ w) H.size))
    (kk : ∀ (φ' : Nat → Nat) (H1 : Heap) (locs1 : List Loc), nzAg w.length φ φ' → NzF D cT φ' w1 A s (mML m) arr ls H1 locs1 ft → W p l e R s mid args below meth c H1 locs1 (nc + mc) (ns + ms) Q (F0 mid (pc + 3) arr (r.map (eV φ')))) : W p l e R s mid args below meth c H locs nc ns Q (F0 mid pc arr st0) := by
  have hF : ∀ q, va_A (nzW cT φ w) H.size q → A q := va_free hC.2.2.1 hC.2.2.2.1 hA (List.range w.length) (by
    refine List.ext_getElem? fun k => ?_
    by_cases hk : k < w.length
    · have h1 : k < (nzW cT φ w).length := by rw [nzW_len]; exact hk
      rw [List.getElem?_map, List.getElem?_range hk, List.getElem?_map, List.getElem?_eq_getElem h1]
      show some (nzW cT φ w)[k]? = _
      rw [List.getElem?_eq_getElem h1]
      rfl
    · rw [List.getElem?_eq_none (by simpa using hk), List.getElem?_eq_none (by simpa [nzW_len] using hk)])
  refine va_callv hr hC.2.2.2.1 (fun q _ h => hF q h) hF (fun φ' t H1 locs1 ht hvm hag hB hz hk hS1 => ?_)
  have hr2 := nzSt_ag (nzWok_r hw) hag
  rw [← hr2]
  refine kk φ' H1 locs1 hag ⟨nzLs_ag hw hag hC.1, by rw [← ht]; exact hB.1, hB.2.weaken (fun _ q _ h => hF q.1 h), hS1, hC.2.2.2.2⟩
theorem nz_call {c1 : Nat} {as r : List MV} (hX : NzX p R s mid args meth c D cT (d + 1) m) (hA : ∀ q, s.heap.size ≤ q → A q) (hmc : mcode m pc = some (i, len, x1, x2)) (hs : nzStep (d + 1) m pc ls st w nc ns i len x1 x2 = some (.inr (.inl (c1, as, r)))) (hC : NzF D cT φ w A s (mML m) arr ls H locs ft) (hw : nzWok w ls (as ++ r) = true) (h1 : nc + mc ≤ R.cells) (h2 : ns + ms ≤ R.slots)
    (hM : (ments as).length ≤ mML c1 → c1 ≠ 288 → plainName (mY c1).cls = true → mTy c1 = none → (mY c1).cls = cnm (mCI c1) → NzMet l D cT φ d c1 as w ft w1 mc ms)
    (kk : ∀ (φ' : Nat → Nat) (H1 : Heap) (locs1 : List Loc), nzAg w.length φ φ' → NzF D cT φ' w1 A s (mML m) arr ls H1 locs1 ft → W p l e R s mid args below meth c H1 locs1 (nc + mc) (ns + ms) Q (F0 mid (pc + 3) arr (r.map (eV φ')))) : W p l e R s mid args below meth c H locs nc ns Q (F0 mid pc arr (st.map (eV φ))) := by
  obtain ⟨hx, hb, hml, hown, hts, hK, hf, hlo, hin⟩ := hX
  have hd := mcode_dec hmc
  have hk := mcode_chk hmc
  unfold chk at hk
  rw [Bool.and_eq_true] at hk
  replace hk := hk.2
  have hF : ∀ q, va_A (nzW cT φ w) H.size q → A q := va_free hC.2.2.1 hC.2.2.2.1 hA (List.range w.length) (by
    refine List.ext_getElem? fun k => ?_
    by_cases hk : k < w.length
    · have h1 : k < (nzW cT φ w).length := by rw [nzW_len]; exact hk
      rw [List.getElem?_map, List.getElem?_range hk, List.getElem?_map, List.getElem?_eq_getElem h1]
      show some (nzW cT φ w)[k]? = _
      rw [List.getElem?_eq_getElem h1]
      rfl
    · rw [List.getElem?_eq_none (by simpa using hk), List.getElem?_eq_none (by simpa [nzW_len] using hk)])
  have hPc : ∀ U : State, U.heap = H → s.WarmedH U.vm → NzPre D cT φ w as ft H.size ((as.map (eV φ)).toArray) U := by
    intro U hU hW
    exact ⟨rfl, by rw [hU], by rw [hU]; exact hC.2.1, va_K.moved hW.alike hK, hC.2.2.1.weaken (fun _ _ _ _ => trivial), by rw [hU]; exact nzEnv.call hC.2.2.2.2 hC.2.2.2.1 hF hW⟩
  have hctor : ∀ (hct : c1 ∈ nzCt) (a : Nat) (As : List MV), as = mR a :: As → mNA c1 = As.length + 1 → (ments as).length ≤ mML c1 → NzMet l D cT φ d c1 as w ft w1 mc ms ∧ GoodIn WS (mWs c1) ∧ mWs c1 = Cond.code (mY c1) (mB c1) (mML c1) none :: WS ∧ (Cond.initialized (mY c1).cls).before args s = true ∧ (Cond.instanceMethod (mY c1)).before args s = true ∧ (mY c1).name = "<init>" ∧ ((mY c1).cls ≠ "java/lang/invoke/MethodHandle" ∧ (mY c1).cls ≠ "java/lang/invoke/VarHandle" ∧ (parseMethodDescriptor (mY c1).desc).map (fun d => d.parameters.length) = some As.length) ∧ (d + 1 ≤ R.frames ∧ 8 + (mML c1 + 11) + 40 * d ≤ R.locals) := by
    intro hct a As has hn hm
    obtain ⟨m1, m2, m3, m4, m5, m6, m7, m8, m9, m10⟩ := nzCt_ok c1 hct
    have h288 : c1 ≠ 288 := by
      intro h
      subst h
      exact absurd hct (by decide)
    refine ⟨hM hm h288 m6 m7 m10, WS_GoodIn _ (by rw [m7]; exact m1), by unfold mWs; rw [m7], hts _ m2, hts _ m3, m4, ⟨m5.1, m5.2.1, ?_⟩, hf, by omega⟩
    rw [m5.2.2, hn]
    rfl
  cases i with
  | invokespecial k =>
    simp only [nzStep] at hs
    split at hs
    · repeat' split at hs
      all_goals first | (cases hs; done) | (unfold nzGo at hs; cases hs; done)
    · split at hs
      · rename_i q hq
        split at hs
        · rename_i hl; subst hl
          obtain ⟨he, a, As, has, hn, hm, hcs, hst, htk⟩ := nzCall_sp hs
          have hmem : q ∈ nzIL ∧ q.1 = mCI m ∧ q.2.1 = k := by
            unfold nzFind at hq
            have h := List.find?_some hq
            simp only [Bool.and_eq_true, beq_iff_eq] at h
            exact ⟨List.mem_of_find?_eq_some hq, h.1, h.2⟩
          obtain ⟨hq0, q1, q2⟩ := hmem
          obtain ⟨hlk, hct⟩ := nzIL_ok q hq0
          rw [he] at hlk hct
          rw [q1, q2] at hlk
          obtain ⟨k1, k2, k3, k4, k5, k6, k7, k8⟩ := hctor hct a As has hn hm
          have hsm : st.map (eV φ) = (As.map (eV φ)).reverse ++ Value.ref (φ a) :: r.map (eV φ) := by rw [hst]; simp [eV]
          rw [hsm]
          have hPc' := hPc
          rw [has] at hPc' k1
          exact nz_back hC hA hw (va_runI (As := As.map (eV φ)) ⟨hx, hb, hml, hown, hts⟩ (k1 H.size) (cwI As.length hts k2 k3 rfl rfl k4 (hts _ hlk) k5 k6 k7 k8) ⟨NzPre_blind, hPc'⟩ rfl (by simp) hC.1.1.1 rfl (lv_room (by rw [mcs_sum]; exact hcs)) hd ⟨h1, h2⟩) kk
        · cases hs
      · split at hs
        · rename_i q hq
          split at hs
          · rename_i hl; subst hl
            obtain ⟨he, a, As, has, hn, hm, hcs, hst, htk⟩ := nzCall_sp hs
            have hmem : q ∈ nzNL ∧ q.1 = mCI m ∧ q.2.1 = k := by
              unfold nzFind at hq
              have h := List.find?_some hq
              simp only [Bool.and_eq_true, beq_iff_eq] at h
              exact ⟨List.mem_of_find?_eq_some hq, h.1, h.2⟩
            obtain ⟨hq0, q1, q2⟩ := hmem
            have hct : q.2.2 ∈ nzCt := (show ∀ q ∈ nzNL, q.2.2 ∈ nzCt from by decide) q hq0
            have hlk := hC.2.2.2.2.1 q hq0
            rw [he] at hlk hct
            rw [q1, q2] at hlk
            obtain ⟨k1, k2, k3, k4, k5, k6, k7, k8⟩ := hctor hct a As has hn hm
            have hsm : st.map (eV φ) = (As.map (eV φ)).reverse ++ Value.ref (φ a) :: r.map (eV φ) := by rw [hst]; simp [eV]
            rw [hsm]
            have hPc' := hPc
            rw [has] at hPc' k1
            exact nz_back hC hA hw (va_runIN (As := As.map (eV φ)) ⟨hx, hb, hml, hown, hts⟩ (k1 H.size) ⟨va_cnB As.length hts k2 k3 rfl rfl hlk k4 k7 k8, k6, k5⟩ ⟨NzPre_blind, hPc'⟩ rfl (by simp) hC.1.1.1 rfl (lv_room (by rw [mcs_sum]; exact hcs)) hd ⟨h1, h2⟩) kk
          · cases hs
        · cases hs
  | invokevirtual k =>
    simp only [nzStep] at hs
    split at hs
    · rename_i h9
      obtain ⟨hl, h0, hs0, hr0, hrc⟩ := h9
      subst hl; subst h0
      obtain ⟨he, a, As, has, hn, hm, hcs, hst, htk⟩ := nzCall_sp hs
      subst he
      obtain ⟨hlk, hMO⟩ : Cond.methodLink (cnm (mCI m)) k (mY x1) ∈ WS ∧ MOK x1 := CL_ok _ (List.contains_iff_mem.mp hk)
      obtain ⟨m1, m2, m3, m4, m5, m6, m7, m8, m9, m10, m11⟩ := id hMO
      obtain ⟨q1, q2⟩ := m4 hs0
      obtain ⟨q3, q4⟩ := m10 hs0
      have hty : mTy x1 = none := by rw [m9, hr0]; rfl
      have h288 : x1 ≠ 288 := by
        intro h
        subst h
        exact absurd hs0 (by decide)
      have hcell : ∃ c2, w[a]? = some c2 ∧ c2.1 = 5 + mCI x1 := by
        unfold nzRecv at hrc
        rw [htk, has] at hrc
        simp only at hrc
        split at hrc
        · rename_i c2 hc2
          exact ⟨c2, hc2, of_decide_eq_true hrc⟩
        · cases hrc
      obtain ⟨c2, hc2, hk2⟩ := hcell
      have hg := nzW_at (cT := cT) (φ := φ) hc2
      rw [nzE_o hk2] at hg
      obtain ⟨T9, N9, hcl⟩ := vwCl_g _ q4
      have hrecv := va_recv hK hC.2.1 hcl hg
      have k1 := hM hm h288 m8 hty m5
      have hsm : st.map (eV φ) = (As.map (eV φ)).reverse ++ Value.ref (φ a) :: r.map (eV φ) := by rw [hst]; simp [eV]
      rw [hsm]
      have hPc' := hPc
      rw [has] at hPc' k1
      refine nz_back hC hA hw (va_runV (bytes := mB x1) (maxL := mML x1) (ret := mTy x1) (C := cnm (mCI x1)) (own := cnm (mCI m)) (Ts := WS) (n := mNA x1 - 1) (As := As.map (eV φ)) ⟨hx, hb, hml, hown, hts⟩ (k1 H.size) ?_ ⟨NzPre_blind, hrecv, hPc'⟩ rfl (by simp [hn]) hC.1.1.1 rfl (lv_room (by rw [mcs_sum]; exact hcs)) hd ⟨h1, h2⟩) kk
      refine ⟨callB_of _ hts (WS_GoodIn _ m1) rfl rfl rfl (hts _ m2) (hts _ hlk) ⟨m6.1, m6.2, ?_⟩ ⟨hf, ?_⟩, hts _ q1, ?_⟩
      · rw [m7, if_neg (by omega)]
      · show 8 + (mML x1 + 11) + 40 * d ≤ R.locals
        omega
      · rw [← m5]; exact hts _ q2
    · cases hs
  | if_icmp cd off =>
    cases cd <;> simp only [nzStep, nzGo] at hs <;> (repeat' split at hs) <;> cases hs
  | _ =>
    simp only [nzStep, nzAl, nzAl5, nzGo] at hs
    repeat' split at hs
    all_goals cases hs
end NZJ
/-- N comes to an end: so does the machine, standing as N does -/
theorem nz_all (hmw : MwRow) : ∀ n, NzP n := by
  intro n
  induction n with
  | zero => intro d m S S' h; simp [nzEv] at h
  | succ n ih =>
    intro d m S S' h p l e R s mid args below meth c Q D cT φ A arr H locs ft hX hA h1 h2 hC kk
    have h0 := h
    rw [nzEv] at h
    split at h
    · cases h
      exact kk φ arr H locs nzAg.rf hC
    · split at h
      · cases h
      · rename_i x hx
        obtain ⟨i, len, x1, x2⟩ := x
        split at h
        · cases h
        · rename_i S1 hs
          have u1 := nzStep_up hs
          have u2 := nzEv_up _ _ _ _ _ h
          refine nz_step hmw hX hA hx hs hC (Nat.le_trans u2.2.1 h1) (Nat.le_trans u2.2.2 h2) ?_
          intro φ1 arr1 H1 locs1 hag hC1
          exact ih d m S1 S' h p l e R s mid args below meth c Q D cT φ1 A arr1 H1 locs1 ft hX hA h1 h2 hC1 (fun φ2 arr2 H2 locs2 hag2 hC2 => kk φ2 arr2 H2 locs2 (hag.tr hag2 u1.1) hC2)
        · rename_i c1 as r hs
          split at h
          · cases h
          · rename_i d'
            split at h
            · rename_i hw
              split at h
              · cases h
              · rename_i C hc
                have u1 := nzEv_up _ _ _ _ _ hc
                have u2 := nzEv_up _ _ _ _ _ h
                simp only at u1 u2
                refine nz_call (w1 := C.2.2.2.1) (mc := C.2.2.2.2.1) (ms := C.2.2.2.2.2) hX hA hx hs hC hw (Nat.le_trans u2.2.1 h1) (Nat.le_trans u2.2.2 h2) (fun hm h288 hpl hty hcl => nz_met ih hc hm h288 hpl hty hcl) ?_
                intro φ1 H1 locs1 hag hC1
                exact ih (d' + 1) m _ S' h p l e R s mid args below meth c Q D cT φ1 A arr H1 locs1 ft hX hA h1 h2 hC1 (fun φ2 arr2 H2 locs2 hag2 hC2 => kk φ2 arr2 H2 locs2 (hag.tr hag2 u1.1) hC2)
            · cases h
        · cases h
          exact kk φ arr H locs nzAg.rf hC
