/-! ===== M against the machine: calls, and all of a run ===== -/
def mWs (m : Nat) : List Cond := Cond.code (mY m) (mB m) (mML m) (mTy m) :: WS
abbrev mRm (d : Nat) : Room := { frames := d, cells := 0, slots := 0, locals := 40 * d }
def mPre (D : va_G) (cT : Nat → ClassId) (φ : Nat → Nat) (sh : Shp) (σ : Mem) (as : List MV) (sz : Nat) : Array Value → State → Prop := va_Pc (as.map (eV φ)) (fun U => U.heap.size = sz ∧ va_P D vwCl (wE cT φ sh σ) U.heap ∧ va_K D vwCl (tyL cT) U ∧ va_D (fun _ => True) (wE cT φ sh σ) ∧ envA φ sh σ (va_A (wE cT φ sh σ) sz) U U.heap)
def mPost (D : va_G) (cT : Nat → ClassId) (φ : Nat → Nat) (sh : Shp) (σ' : Mem) (r : Option MV) (A : Nat → Prop) : Array Value → State → Outcome → State → Prop := fun _ st oc t => (oc = .returned (r.map (eV φ)) ∧ va_P D vwCl (wE cT φ sh σ') t.heap) ∧ va_F A st t
theorem mPre_blind {D : va_G} {cT : Nat → ClassId} {φ : Nat → Nat} {sh : Shp} {σ : Mem} {as : List MV} {sz : Nat} : FrameBlind (mPre D cT φ sh σ as sz) := by
  intro a U g mk h
  obtain ⟨h0, h1, h2, h3, h4, h5⟩ := h
  exact ⟨h0, h1, h2, va_K.moved (u := U) (U := U.calling g mk a) (Vm.Alike.refl U.vm) h3, h4, envA.blind (U := U) (U' := U.calling g mk a) rfl h5⟩
theorem WS_GoodIn (m : Nat) (h : Cond.code (mY m) (mB m) (mML m) (mTy m) ∈ WS) : GoodIn WS (mWs m) := by
  intro w hw
  rcases List.mem_cons.mp hw with rfl | h1
  · exact ⟨h, good_of_word (WS_good _ h)⟩
  · exact ⟨h1, good_of_word (WS_good _ h1)⟩
theorem vwCl_g : ∀ ci, ci < 11 → ∃ (T : u_T) (N : Nat), vwCl[ci]? = some (cnm ci, T, N) := by
  intro ci h
  match ci, h with
  | 0, _ => exact ⟨_, _, rfl⟩
  | 1, _ => exact ⟨_, _, rfl⟩
  | 2, _ => exact ⟨_, _, rfl⟩
  | 3, _ => exact ⟨_, _, rfl⟩
  | 4, _ => exact ⟨_, _, rfl⟩
  | 5, _ => exact ⟨_, _, rfl⟩
  | 6, _ => exact ⟨_, _, rfl⟩
  | 7, _ => exact ⟨_, _, rfl⟩
  | 8, _ => exact ⟨_, _, rfl⟩
  | 9, _ => exact ⟨_, _, rfl⟩
  | 10, _ => exact ⟨_, _, rfl⟩
/-- the worlds of two memories lie at the same places -/
theorem wE_A {cT : Nat → ClassId} {φ : Nat → Nat} {sh : Shp} {σ σ' : Mem} {A : Nat → Prop} (h : va_D A (wE cT φ sh σ)) : va_D A (wE cT φ sh σ') := by
  have key : ∀ (k : Nat) (q : Nat × va_E), (wE cT φ sh σ')[k]? = some q → ∃ q0, (wE cT φ sh σ)[k]? = some q0 ∧ q0.1 = q.1 := by
    intro k q hq
    have hk : k < sh.1 := by
      have := (List.getElem?_eq_some_iff.mp hq).1
      rwa [wE_len] at this
    rw [wE_get hk] at hq
    cases hq
    exact ⟨_, wE_get hk, rfl⟩
  refine ⟨fun i j x y hi hj hxy => ?_, fun k q hk => ?_⟩
  · obtain ⟨x0, h1, h2⟩ := key i x hi
    obtain ⟨y0, h3, h4⟩ := key j y hj
    exact h.1 i j x0 y0 h1 h3 (h2.trans (hxy.trans h4.symm))
  · obtain ⟨q0, h1, h2⟩ := key k q hk
    rw [← h2]
    exact h.2 k q0 h1
theorem mex_ro {sh : Shp} {d rt pc pc' len x1 x2 : Nat} {ls ls' : List (Option MV)} {st st' : List MV} {σ σ' : Mem} {i : Instr} (hs : mex sh d rt pc ls st σ i len x1 x2 = some (.inl (pc', ls', st', σ'))) {b : Nat} (hb : sh.1 ≤ b) : σ'.1 b = σ.1 b := by
  cases i with
  | invokevirtual i =>
    simp only [mex, mcall, mnx] at hs
    repeat' split at hs
    all_goals first | (cases hs; done) | (cases hs; rfl) | (cases hs; exact upA_ne (by omega))
  | invokestatic i =>
    simp only [mex, mcall, mnx] at hs
    repeat' split at hs
    all_goals first | (cases hs; done) | (cases hs; rfl) | (cases hs; exact upA_ne (by omega))
  | _ =>
    simp only [mex, mldI, mldL, mldR, mstI, mstL, mstR, mb2, ml2, mls, m1I, m1L, mif, mald, mast, mnx] at hs
    repeat' split at hs
    all_goals first | (cases hs; done) | (cases hs; rfl) | (cases hs; exact upA_ne (by omega))
theorem evF_ro {sh : Shp} : ∀ (n d m pc : Nat) (ls : List (Option MV)) (st : List MV) (σ : Mem) (r : Option MV) (σ' : Mem), evF sh n d m pc ls st σ = some (r, σ') → ∀ b, sh.1 ≤ b → σ'.1 b = σ.1 b := by
  intro n
  induction n with
  | zero => intro d m pc ls st σ r σ' h; simp [evF] at h
  | succ n ih =>
    intro d m pc ls st σ r σ' h b hb
    rw [evF] at h
    cases hs : mstep sh d m pc ls st σ with
    | none => rw [hs] at h; cases h
    | some x =>
      rw [hs] at h
      rcases x with ⟨pc', ls', st', σ1⟩ | ⟨c, args, rest⟩ | q
      · rw [ih _ _ _ _ _ _ _ _ h b hb]
        unfold mstep at hs
        cases hc : mcode m pc with
        | none => rw [hc] at hs; cases hs
        | some y => rw [hc] at hs; exact mex_ro hs hb
      · cases d with
        | zero => cases h
        | succ d' =>
          simp only at h
          cases hc : evF sh n d' c 0 (ment c args) [] σ with
          | none => rw [hc] at h; cases h
          | some y =>
            obtain ⟨r1, σ1⟩ := y
            rw [hc] at h
            rw [ih _ _ _ _ _ _ _ _ h b hb]
            exact ih _ _ _ _ _ _ _ _ hc b hb
      · cases h; rfl
section SNC
variable {p : Program} {l : Launch} {e : Env} {R : Room} {s : State} {mid : MethodId} {args : Array Value} {below : List Frame} {meth : Method} {c : Code} {H : Heap} {locs : List Loc} {cells slots : Nat} {Q : State → Prop}
variable {D : va_G} {cT : Nat → ClassId} {φ : Nat → Nat} {sh : Shp} {σ σ' : Mem} {A : Nat → Prop} {nL : Nat} {arr : Array Slot} {ls ls' : List (Option MV)} {st st' : List MV} {cc : ByteArray} {d rt pc pc' len x1 x2 : Nat} {rest : List Value}
theorem my_call {r : Option MV} {A1 : Nat → Prop} {a : Array Value} {st0 : List Value} (hr : va_Run p l e R s mid args below meth c H locs cells slots 0 0 (F0 mid pc arr st0) rest (mPost D cT φ sh σ' r A1 a) A1) (hS : va_S A s.heap H locs) (hA : ∀ q, A1 q → A q)
    (kk : ∀ (H1 : Heap) (locs1 : List Loc), va_P D vwCl (wE cT φ sh σ') H1 → va_S A s.heap H1 locs1 → W p l e R s mid args below meth c H1 locs1 cells slots Q (F0 mid (pc + 3) arr ((r.map (eV φ)).toList ++ rest))) : W p l e R s mid args below meth c H locs cells slots Q (F0 mid pc arr st0) := by
  intro T hT X
  obtain ⟨v, st₀, t, T', L, h0, X', hL, e1, e2, ⟨⟨hv, hp⟩, hz, hk⟩, stp⟩ := hr T hT X
  cases hv
  rw [h0] at hz hk
  obtain ⟨t2, a1, b1⟩ := kk T'.heap (locs ++ L) (by rw [e1]; exact hp)
    ⟨Nat.le_trans hS.1 (by rw [e1]; exact hz), fun q h1 h2 => by rw [e1, hk q (Nat.lt_of_lt_of_le h1 hS.1) (fun z => h2 (hA q z))]; exact hS.2.1 q h1 h2, fun q hq => by
      rcases List.mem_append.mp hq with h | h
      · exact hS.2.2 q h
      · exact hA _ (hL q h)⟩ T' rfl X'
  exact ⟨t2, stp t2 a1, b1⟩
/-- a method of the system, as its callers see it -/
def MMet (l : Launch) (D : va_G) (cT : Nat → ClassId) (φ : Nat → Nat) (sh : Shp) (d m : Nat) (as : List MV) (σ : Mem) (r : Option MV) (σ' : Mem) : Prop :=
  ∀ sz : Nat, Met l (mY m) (mWs m) (mRm d) (mPre D cT φ sh σ as sz) (mPost D cT φ sh σ' r (va_A (wE cT φ sh σ) sz)) 0 0 (va_A (wE cT φ sh σ) sz)
theorem snd_call {m c1 : Nat} {as r1 : List MV} {r : Option MV} (hX : MCtx p R s mid args c cells slots D cT (d + 1) m) (hA : ∀ q, s.heap.size ≤ q → A q) (hs : mstep sh (d + 1) m pc ls st σ = some (.inr (.inl (c1, as, r1)))) (hC : Cf D cT φ sh σ A s (mML m) arr ls H locs)
    (hM : (ments as).length ≤ mML c1 → MOK c1 → MMet l D cT φ sh d c1 as σ r σ') (kk : Kn p l e R s mid args below meth c cells slots Q D cT φ sh A (mML m) (pc + 3) ls (r.toList ++ r1) σ') (hσ : ∀ b, sh.1 ≤ b → σ'.1 b = σ.1 b) : W p l e R s mid args below meth c H locs cells slots Q (F0 mid pc arr (st.map (eV φ))) := by
  obtain ⟨hx, hb, hml, hown, hts, hK, hf, hlo, hc1, hc2⟩ := hX
  have hF : ∀ q, va_A (wE cT φ sh σ) H.size q → A q := va_free hC.2.2.1 hC.2.2.2.1 hA (List.range sh.1) (by
    refine List.ext_getElem? fun k => ?_
    by_cases hk : k < sh.1
    · simp [wE, hk]
    · rw [List.getElem?_eq_none (by simpa using hk), List.getElem?_eq_none (by simpa [wE] using hk)])
  have hPc : ∀ U : State, U.heap = H → s.WarmedH U.vm → mPre D cT φ sh σ as H.size ((as.map (eV φ)).toArray) U := by
    intro U hU hW
    exact ⟨rfl, by rw [hU], by rw [hU]; exact hC.2.1, va_K.moved hW.alike hK, hC.2.2.1.weaken (fun _ _ _ _ => trivial), by rw [hU]; exact envA.call hC.2.2.2.2 hC.2.2.2.1 hF hW⟩
  have fin : ∀ (H1 : Heap) (locs1 : List Loc), va_P D vwCl (wE cT φ sh σ') H1 → va_S A s.heap H1 locs1 → W p l e R s mid args below meth c H1 locs1 cells slots Q (F0 mid (pc + 3) arr ((r.map (eV φ)).toList ++ r1.map (eV φ))) := by
    intro H1 locs1 hP1 hS1
    have h := kk arr H1 locs1 ⟨hC.1, hP1, wE_A hC.2.2.1, hS1, hC.2.2.2.2.sto hσ⟩
    cases r with
    | none => exact h
    | some v => exact h
  unfold mstep at hs
  cases hc : mcode m pc with
  | none => rw [hc] at hs; cases hs
  | some y =>
    rw [hc] at hs
    obtain ⟨i, len, x1, x2⟩ := y
    have hd := mcode_dec hc
    have hk := mcode_chk hc
    unfold chk at hk
    rw [Bool.and_eq_true] at hk
    replace hk := hk.2
    have hst : ∀ {z : Nat}, mcall z st = some (.inr (.inl (c1, as, r1))) → z = c1 ∧ mNA c1 = as.length ∧ (ments as).length ≤ mML c1 ∧ mcs r1 ≤ 8 ∧ st = as.reverse ++ r1 := by
      intro z hz
      unfold mcall at hz
      split at hz
      · rename_i h9
        cases hz
        exact ⟨rfl, by simp [h9.1], h9.2.1, h9.2.2, by simp⟩
      · cases hz
    cases i with
    | invokevirtual i =>
      simp only [mex] at hs
      split at hs
      · rename_i h9
        obtain ⟨hl, h0, hs0, hrc⟩ := h9
        subst hl; subst h0
        obtain ⟨rfl, hn, hm, hcs, hse⟩ := hst hs
        obtain ⟨hlk, hMO⟩ : Cond.methodLink (cnm (mCI m)) i (mY x1) ∈ WS ∧ MOK x1 := CL_ok _ (List.contains_iff_mem.mp hk)
        obtain ⟨m1, m2, m3, m4, m5, m6, m7, m8, m9, m10, m11⟩ := id hMO
        obtain ⟨q1, q2⟩ := m4 hs0
        obtain ⟨q3, q4⟩ := m10 hs0
        have has : ∃ (b : Nat) (As : List MV), as = .inr (.inr b) :: As ∧ skd sh b = 5 + mCI x1 ∧ b < sh.1 := by
          unfold mrcv at hrc
          have e9 : (st.take (mNA x1)).reverse = as := by rw [hse, hn, List.take_left' (by simp)]; simp
          rw [e9] at hrc
          split at hrc
          · rename_i b As
            simp only [Bool.and_eq_true, decide_eq_true_eq] at hrc
            exact ⟨b, As, rfl, hrc.1, hrc.2⟩
          · cases hrc
        obtain ⟨b, As, rfl, hkb, hbs⟩ := has
        have hg := wE_get (cT := cT) (φ := φ) (σ := σ) hbs
        rw [cE_o hkb] at hg
        obtain ⟨T9, N9, hcl⟩ := vwCl_g _ q4
        have hrecv := va_recv hK hC.2.1 hcl hg
        have hsm : st.map (eV φ) = (As.map (eV φ)).reverse ++ Value.ref (φ b) :: r1.map (eV φ) := by rw [hse]; simp [eV]
        rw [hsm]
        refine my_call (va_runV (bytes := mB x1) (maxL := mML x1) (ret := mTy x1) (C := cnm (mCI x1)) (own := cnm (mCI m)) (Ts := WS) (n := mNA x1 - 1) (As := As.map (eV φ)) ⟨hx, hb, hml, hown, hts⟩ (hM hm hMO H.size) ?_ ⟨mPre_blind, hrecv, hPc⟩ rfl (by simp [hn]) hC.1.1.1 rfl (lv_room (by rw [mcs_sum]; exact hcs)) hd ⟨hc1, hc2⟩) hC.2.2.2.1 hF fin
        refine ⟨callB_of _ hts (WS_GoodIn _ m1) rfl rfl rfl (hts _ m2) (hts _ hlk) ⟨m6.1, m6.2, ?_⟩ ⟨hf, ?_⟩, hts _ q1, ?_⟩
        · rw [m7, if_neg (by omega)]
        · show 8 + (mML x1 + 11) + 40 * d ≤ R.locals
          omega
        · rw [← m5]; exact hts _ q2
      · split at hs
        · rename_i h9
          split at hs
          · split at hs <;> cases hs
          · cases hs
        · cases hs
    | invokestatic i =>
      simp only [mex] at hs
      split at hs
      · rename_i h9
        obtain ⟨hl, h0, hs0⟩ := h9
        subst hl
        obtain ⟨rfl, hn, hm, hcs, hse⟩ := hst hs
        have hsm : st.map (eV φ) = (as.map (eV φ)).reverse ++ r1.map (eV φ) := by rw [hse]; simp
        rcases h0 with rfl | rfl
        · obtain ⟨hlk, hMO⟩ : Cond.methodLink (cnm (mCI m)) i (mY x1) ∈ WS ∧ MOK x1 := CL_ok _ (List.contains_iff_mem.mp hk)
          obtain ⟨m1, m2, m3, m4, m5, m6, m7, m8, m9, m10, m11⟩ := id hMO
          rw [hsm]
          refine my_call (va_runS (bytes := mB x1) (maxL := mML x1) (ret := mTy x1) (own := cnm (mCI m)) (Ts := WS) (n := mNA x1) (As := as.map (eV φ)) ⟨hx, hb, hml, hown, hts⟩ (hM hm hMO H.size) ?_ ⟨mPre_blind, hPc⟩ rfl (by simp [hn]) hC.1.1.1 rfl (lv_room (by rw [mcs_sum]; exact hcs)) hd ⟨hc1, hc2⟩) hC.2.2.2.1 hF fin
          refine ⟨callB_of _ hts (WS_GoodIn _ m1) rfl rfl rfl (hts _ m2) (hts _ hlk) ⟨m6.1, m6.2, ?_⟩ ⟨hf, ?_⟩, hts _ (m3 hs0)⟩
          · rw [m7, if_pos hs0]
          · show 8 + (mML x1 + 11) + 40 * d ≤ R.locals
            omega
        · have hin : (mCI m, i, x1) ∈ NL := List.contains_iff_mem.mp hk
          have hNw : va_Nw (.methodLinkNest (cnm (mCI m)) i (mY x1) RX10) s := hC.2.2.2.2.2.1 (mCI m, i, x1) hin
          have hMO : MOK x1 := (NL_ok (mCI m, i, x1) hin).2.1
          obtain ⟨m1, m2, m3, m4, m5, m6, m7, m8, m9, m10, m11⟩ := id hMO
          rw [hsm]
          refine my_call (va_runSN (bytes := mB x1) (maxL := mML x1) (ret := mTy x1) (own := cnm (mCI m)) (host := RX10) (Ts := WS) (n := mNA x1) (As := as.map (eV φ)) ⟨hx, hb, hml, hown, hts⟩ (hM hm hMO H.size) ⟨?_, hts _ (m3 hs0), trivial⟩ ⟨mPre_blind, hPc⟩ rfl (by simp [hn]) hC.1.1.1 rfl (lv_room (by rw [mcs_sum]; exact hcs)) hd ⟨hc1, hc2⟩) hC.2.2.2.1 hF fin
          refine va_cnB _ hts (WS_GoodIn _ m1) rfl rfl rfl hNw (hts _ m2) ⟨m6.1, m6.2, ?_⟩ ⟨hf, ?_⟩
          · rw [m7, if_pos hs0]
          · show 8 + (mML x1 + 11) + 40 * d ≤ R.locals
            omega
      · split at hs
        · split at hs
          · split at hs <;> cases hs
          · cases hs
        · split at hs
          · split at hs
            · split at hs <;> cases hs
            · cases hs
          · split at hs
            · split at hs
              · split at hs <;> cases hs
              · cases hs
            · cases hs
    | _ =>
      simp only [mex, mldI, mldL, mldR, mstI, mstL, mstR, mb2, ml2, mls, m1I, m1L, mif, mald, mast, mnx] at hs
      repeat' split at hs
      all_goals cases hs
end SNC
