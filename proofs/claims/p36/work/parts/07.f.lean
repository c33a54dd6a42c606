/-! ===== M against the machine: all of a run ===== -/
/-- M comes to an answer: so does the machine. 'fin': from every return instruction that M ends at -/
def SndP (sh : Shp) (n : Nat) : Prop :=
  ∀ (d m pc : Nat) (ls : List (Option MV)) (st : List MV) (σ : Mem) (r : Option MV) (σ' : Mem), evF sh n d m pc ls st σ = some (r, σ') →
  ∀ (p : Program) (l : Launch) (e : Env) (R : Room) (s : State) (mid : MethodId) (args : Array Value) (below : List Frame) (meth : Method) (c : Code) (cells slots : Nat) (Q : State → Prop) (D : va_G) (cT : Nat → ClassId) (φ : Nat → Nat) (A : Nat → Prop) (arr : Array Slot) (H : Heap) (locs : List Loc),
  MCtx p R s mid args c cells slots D cT d m → (∀ q, s.heap.size ≤ q → A q) → Cf D cT φ sh σ A s (mML m) arr ls H locs →
  (∀ (pc' : Nat) (arr' : Array Slot) (H' : Heap) (locs' : List Loc) (ls' : List (Option MV)) (st' : List MV) (i : Instr) (len x1 x2 : Nat), decode (mB m) pc' = .ok (i, len) → mex sh d (mRT m) pc' ls' st' σ' i len x1 x2 = some (.inr (.inr r)) → Cf D cT φ sh σ' A s (mML m) arr' ls' H' locs' → W p l e R s mid args below meth c H' locs' cells slots Q (F0 mid pc' arr' (st'.map (eV φ)))) →
  W p l e R s mid args below meth c H locs cells slots Q (F0 mid pc arr (st.map (eV φ)))
theorem mex_ret {sh : Shp} {d rt pc len x1 x2 : Nat} {ls : List (Option MV)} {st : List MV} {σ : Mem} {i : Instr} {r : Option MV} (hs : mex sh d rt pc ls st σ i len x1 x2 = some (.inr (.inr r))) :
    (∃ v, i = .ireturn ∧ len = 1 ∧ st = [.inl v] ∧ r = some (.inl v) ∧ (rt = 1 ∨ (rt = 2 ∧ (v = 0 ∨ v = 1)))) ∨ (∃ v, i = .lreturn ∧ len = 1 ∧ st = [.inr (.inl v)] ∧ r = some (.inr (.inl v)) ∧ rt = 3) ∨ (i = .return_ ∧ len = 1 ∧ st = [] ∧ r = none ∧ rt = 0) := by
  cases i with
  | ireturn =>
    simp only [mex] at hs
    split at hs
    · split at hs
      · rename_i h; cases hs; exact Or.inl ⟨_, rfl, h.1, rfl, rfl, h.2⟩
      · cases hs
    · cases hs
  | lreturn =>
    simp only [mex] at hs
    split at hs
    · split at hs
      · rename_i h; cases hs; exact Or.inr (Or.inl ⟨_, rfl, h.1, rfl, rfl, h.2⟩)
      · cases hs
    · cases hs
  | return_ =>
    simp only [mex] at hs
    split at hs
    · split at hs
      · rename_i h; cases hs; exact Or.inr (Or.inr ⟨rfl, h.1, rfl, rfl, h.2⟩)
      · cases hs
    · cases hs
  | invokevirtual i =>
    simp only [mex, mcall, mnx] at hs
    repeat' split at hs
    all_goals cases hs
  | invokestatic i =>
    simp only [mex, mcall, mnx] at hs
    repeat' split at hs
    all_goals cases hs
  | _ =>
    simp only [mex, mldI, mldL, mldR, mstI, mstL, mstR, mb2, ml2, mls, m1I, m1L, mif, mald, mast, mnx] at hs
    repeat' split at hs
    all_goals cases hs
theorem met_of {sh : Shp} {n : Nat} (hP : SndP sh n) {l : Launch} {D : va_G} {cT : Nat → ClassId} {φ : Nat → Nat} {d m : Nat} {as : List MV} {σ σ' : Mem} {r : Option MV} (he : evF sh n d m 0 (ment m as) [] σ = some (r, σ')) (hm : (ments as).length ≤ mML m) (hMO : MOK m) : MMet l D cT φ sh d m as σ r σ' := by
  intro sz
  obtain ⟨m1, m2, m3, m4, m5, m6, m7, m8, m9, m10, m11⟩ := hMO
  refine Met.ofW (cc := mB m) (maxL := mML m) (ret := mTy m) m8 rfl ?_
  intro p e s mid args below meth c s₁ B hml hv
  obtain ⟨rfl, hsz, hP0, hK, hD0, hE⟩ := hv
  subst hsz
  have hown : s.vm.findClass (cnm (mCI m)) = some mid.cls := by rw [← m5]; exact findClass_of_methodNamed B.named
  have hts := atoms_spec (ws := mWs m) B.pre
  rw [lg_entry_eq]
  refine hP d m 0 (ment m as) [] σ r σ' he p l e _ s mid _ below meth c 0 0 _ D cT φ (va_A (wE cT φ sh σ) s.heap.size) _ s.heap [] ⟨B.exec, B.bytes, hml, hown, fun w hw => hts w (List.mem_cons_of_mem _ hw), hK, Nat.le_refl _, Nat.le_refl _, Nat.zero_le _, Nat.zero_le _⟩ (fun q h => Or.inr h) ⟨LH.entry hm, hP0, hD0.self, va_S.rf, hE⟩ ?_
  intro pc' arr' H' locs' ls' st' i len x1 x2 hd hx hC
  have hx9 := B.exec
  have hb9 := B.bytes
  have hr9 : meth.sig.returnType = mTy m := B.returns
  have hlocks : meth.locks = false := B.notSynchronized
  rcases mex_ret hx with ⟨v, rfl, rfl, rfl, rfl, h1 | ⟨h2, h3⟩⟩ | ⟨v, rfl, rfl, rfl, rfl, h1⟩ | ⟨rfl, rfl, rfl, rfl, h1⟩
  · exact W.iret (v := Int32.ofInt v) hx9 hb9 (by rw [hr9, m9, h1]; rfl) (fun t ht hW => ⟨⟨rfl, by rw [ht]; exact hC.2.1⟩, hC.2.2.2.1.F ht⟩) hC.2.2.2.1.2.2 hd
  · exact W.zret (v := Int32.ofInt v) (ty := .boolean) hx9 hb9 (by rw [hr9, m9, h2]; rfl) (by rcases h3 with rfl | rfl <;> rfl) (fun t ht hW => ⟨⟨rfl, by rw [ht]; exact hC.2.1⟩, hC.2.2.2.1.F ht⟩) hC.2.2.2.1.2.2 hd
  · exact W.lret (v := Int64.ofInt v) hx9 hb9 (by rw [hr9, m9, h1]; rfl) (fun t ht hW => ⟨⟨rfl, by rw [ht]; exact hC.2.1⟩, hC.2.2.2.1.F ht⟩) hC.2.2.2.1.2.2 hd
  · exact W.vret hx9 hb9 (by rw [hr9, m9, h1]; rfl) (fun t ht hW => ⟨⟨rfl, by rw [ht]; exact hC.2.1⟩, hC.2.2.2.1.F ht⟩) hC.2.2.2.1.2.2 hd
theorem snd_all {sh : Shp} (hwf : wfS sh) : ∀ n, SndP sh n := by
  intro n
  induction n with
  | zero => intro d m pc ls st σ r σ' h; simp [evF] at h
  | succ n ih =>
    intro d m pc ls st σ r σ' h p l e R s mid args below meth c cells slots Q D cT φ A arr H locs hX hA hC fin
    rw [evF] at h
    cases hs : mstep sh d m pc ls st σ with
    | none => rw [hs] at h; cases h
    | some x =>
      rw [hs] at h
      rcases x with ⟨pc', ls', st', σ1⟩ | ⟨c1, as, rest⟩ | q
      · exact snd_step hX hA hwf hs hC (fun arr' H' locs' hC' => ih d m pc' ls' st' σ1 r σ' h p l e R s mid args below meth c cells slots Q D cT φ A arr' H' locs' hX hA hC' fin)
      · cases d with
        | zero => cases h
        | succ d' =>
          simp only at h
          cases hc : evF sh n d' c1 0 (ment c1 as) [] σ with
          | none => rw [hc] at h; cases h
          | some y =>
            obtain ⟨r1, σ1⟩ := y
            rw [hc] at h
            exact snd_call hX hA hs hC (fun hm hMO => met_of ih hc hm hMO) (fun arr' H' locs' hC' => ih (d' + 1) m (pc + 3) ls (r1.toList ++ rest) σ1 r σ' h p l e R s mid args below meth c cells slots Q D cT φ A arr' H' locs' hX hA hC' fin) (evF_ro _ _ _ _ _ _ _ _ _ hc)
      · cases h
        unfold mstep at hs
        cases hc : mcode m pc with
        | none => rw [hc] at hs; cases hs
        | some y =>
          rw [hc] at hs
          exact fin pc arr H locs ls st y.1 y.2.1 y.2.2.1 y.2.2.2 (mcode_dec hc) hs hC
/-- a run of M is a contract of the machine -/
theorem run_met {sh : Shp} (hwf : wfS sh) {l : Launch} {D : va_G} {cT : Nat → ClassId} {φ : Nat → Nat} {d m : Nat} {as : List MV} {σ σ' : Mem} {r : Option MV} (h : run sh d m as σ = some (r, σ')) (hm : (ments as).length ≤ mML m) (hMO : MOK m) : MMet l D cT φ sh d m as σ r σ' := by
  obtain ⟨n, hn⟩ := ev_iff.mp h
  exact met_of (snd_all hwf n) hn hm hMO
