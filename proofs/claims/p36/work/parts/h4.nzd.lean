/-! ===== N against the machine: what it stands on ===== -/
def nzAO (U : State) : Prop := (Cond.arrayOver (.array .int)).before #[] U = true
theorem nzAO.moved {u U : State} (hvm : u.vm.Alike U.vm) (h : nzAO u) : nzAO U := by
  obtain ⟨comp, c, k, h1, h2, h3, h4, h5⟩ := arrayOverA_spec h
  obtain ⟨k', hk', he⟩ := hvm.2.2 _ _ h3
  have hi : (U.vm.classes.findIdx? fun (x : Class) => match x.kind with | .array component _ => component == comp | _ => false) = some c := by
    have hb : U.vm.bare = u.vm.bare := by first | exact hvm.bare_eq | exact hvm.bare_eq.symm
    refine (va_idx_bare U.vm comp).symm.trans ?_
    rw [hb]
    exact (va_idx_bare u.vm comp).trans h2
  have hkind : k'.kind = .array comp (.array .int) := by rw [he]; exact h4
  have f1 : U.vm.findClass (FieldType.array .int).toString = some comp := by rw [hvm.findClass]; exact h1
  have f2 : U.vm.findClass ("[" ++ (FieldType.array .int).toString) = some c := by rw [hvm.findClass]; exact h5
  unfold nzAO Cond.before Cond.holds
  simp only [Cond.value]
  rw [f1, Option.bind_some]
  refine (congrArg (fun o : Option Nat => (o.bind (fun c => (U.vm.classes[c]?).map fun (k : Class) => match k.kind with | .array _ ty => decide (ty = FieldType.array .int) && decide (U.vm.findClass ("[" ++ (FieldType.array .int).toString) = some c) | _ => false) == some true)) hi).trans ?_
  simp [hk', hkind, f2]
/-- the row of times at the start: what is known of it -/
def nzFT (ft : Nat) (U : State) (H : Heap) : Prop := ∃ cell : Cell, H[ft]? = some cell ∧ (∀ k, cell.vm ≠ .statics k) ∧ cell.vm ≠ .unknown ∧ U.vm.findClass "[I" = some cell.cls ∧ cell.slots = #[.int 1, .int 1, .int 1, .int 3, .int 3, .int 6]
def nzEnv (ft : Nat) (A : Nat → Prop) (U : State) (H : Heap) : Prop :=
  (∀ q, q ∈ nzNL → va_Nw (.methodLinkNest (cnm q.1) q.2.1 (mY q.2.2) RX10) U) ∧ va_Nw (.castable "[I" "java/lang/Cloneable") U ∧ nzAO U ∧ va_Z RX10 "FIRST_TIMES" "[I" (.ref ft) A U H ∧ ¬ A ft ∧ ft < H.size ∧ nzFT ft U H
theorem nzEnv.call {ft : Nat} {A B : Nat → Prop} {s U : State} {H : Heap} {locs : List Loc} (h : nzEnv ft A s s.heap) (hS : va_S A s.heap H locs) (hAB : ∀ q, B q → A q) (hW : s.WarmedH U.vm) : nzEnv ft B U H := by
  obtain ⟨h1, h2, h3, h4, h5, h6, cell, g1, g2, g3, g4, g5⟩ := h
  exact ⟨fun q hq => va_Nw.warmM hW (h1 q hq), va_Nw.warmC hW h2, nzAO.moved hW.alike h3, ((h4.kept hS.2.1).narrow hAB).moved hW.alike, fun z => h5 (hAB _ z), Nat.lt_of_lt_of_le h6 hS.1, cell, by rw [hS.2.1 ft h6 h5]; exact g1, g2, g3, by rw [hW.alike.findClass]; exact g4, g5⟩
theorem nzEnv.blind {ft : Nat} {A : Nat → Prop} {U U' : State} {H : Heap} (hv : U.vm = U'.vm) (h : nzEnv ft A U H) : nzEnv ft A U' H := by
  obtain ⟨h1, h2, h3, h4, h5, h6, cell, g1, g2, g3, g4, g5⟩ := h
  have hm : U.vm.Alike U'.vm := by rw [hv]; exact Vm.Alike.refl _
  exact ⟨fun q hq => va_Nw.same rfl hv (h1 q hq), va_Nw.same rfl hv h2, nzAO.moved hm h3, h4.moved hm, h5, h6, cell, g1, g2, g3, by rw [← hv]; exact g4, g5⟩
def NzX (p : Program) (R : Room) (s : State) (mid : MethodId) (args : Array Value) (meth : Method) (c : Code) (D : va_G) (cT : Nat → ClassId) (d m : Nat) : Prop :=
  p.tables.exec = Jvm.exec ∧ c.code = mB m ∧ c.maxLocals = mML m ∧ s.vm.findClass (cnm (mCI m)) = some mid.cls ∧ (∀ w ∈ WS, w.before args s = true) ∧ va_K D vwCl (tyL cT) s ∧ d ≤ R.frames ∧ 40 * d ≤ R.locals ∧ (m ∈ nzCt → meth.name = "<init>")
/-- the machine stands as N does -/
def NzF (D : va_G) (cT : Nat → ClassId) (φ : Nat → Nat) (w : List NzC) (A : Nat → Prop) (s : State) (nL : Nat) (arr : Array Slot) (ls : List (Option MV)) (H : Heap) (locs : List Loc) (ft : Nat) : Prop :=
  LH φ arr nL ls ∧ va_P D vwCl (nzW cT φ w) H ∧ va_D A (nzW cT φ w) ∧ va_S A s.heap H locs ∧ nzEnv ft A s s.heap
def Nzk (p : Program) (l : Launch) (e : Env) (R : Room) (s : State) (mid : MethodId) (args : Array Value) (below : List Frame) (meth : Method) (c : Code) (Q : State → Prop) (D : va_G) (cT : Nat → ClassId) (A : Nat → Prop) (nL ft : Nat) (φ0 : Nat → Nat) (n0 : Nat) (S : NzS) : Prop :=
  ∀ (φ' : Nat → Nat) (arr : Array Slot) (H : Heap) (locs : List Loc), nzAg n0 φ0 φ' → NzF D cT φ' S.2.2.2.1 A s nL arr S.2.1 H locs ft → W p l e R s mid args below meth c H locs S.2.2.2.2.1 S.2.2.2.2.2 Q (F0 mid S.1 arr (S.2.2.1.map (eV φ')))
section NZD
variable {p : Program} {l : Launch} {e : Env} {R : Room} {s : State} {mid : MethodId} {args : Array Value} {below : List Frame} {meth : Method} {c : Code} {H : Heap} {locs : List Loc} {Q : State → Prop}
variable {D : va_G} {cT : Nat → ClassId} {φ : Nat → Nat} {w : List NzC} {A : Nat → Prop} {nL ft : Nat} {arr : Array Slot} {ls : List (Option MV)} {st : List MV} {d m pc len x1 x2 nc ns : Nat} {S : NzS} {cc : ByteArray}
/-- nothing of the world changed -/
theorem Nzk.go {pc' : Nat} {st' : List MV} (kk : Nzk p l e R s mid args below meth c Q D cT A nL ft φ w.length S) (hs : nzGo pc' ls st' w nc ns = some (.inl S)) (hC : NzF D cT φ w A s nL arr ls H locs ft) : W p l e R s mid args below meth c H locs nc ns Q (F0 mid pc' arr (st'.map (eV φ))) := by
  unfold nzGo at hs; cases hs
  exact kk φ arr H locs nzAg.rf hC
/-- only the locals -/
theorem Nzk.goL {pc' : Nat} {ls' : List (Option MV)} {st' : List MV} {arr' : Array Slot} (kk : Nzk p l e R s mid args below meth c Q D cT A nL ft φ w.length S) (hs : nzGo pc' ls' st' w nc ns = some (.inl S)) (hC : NzF D cT φ w A s nL arr ls H locs ft) (hL : LH φ arr' nL ls') : W p l e R s mid args below meth c H locs nc ns Q (F0 mid pc' arr' (st'.map (eV φ))) := by
  unfold nzGo at hs; cases hs
  exact kk φ arr' H locs nzAg.rf ⟨hL, hC.2⟩
/-- one cell of the world changed -/
theorem Nzk.goW {pc' a : Nat} {st' : List MV} {c1 : NzC} {x : va_E} {H1 : Heap} {locs1 : List Loc} (kk : Nzk p l e R s mid args below meth c Q D cT A nL ft φ w.length S) (hs : nzGo pc' ls st' (w.set a c1) nc ns = some (.inl S)) (hC : NzF D cT φ w A s nL arr ls H locs ft) (hx : nzE cT φ c1 = x)
    (hP : va_P D vwCl ((nzW cT φ w).set a (φ a, x)) H1) (hD : va_D A ((nzW cT φ w).set a (φ a, x))) (hS : va_S A s.heap H1 locs1) : W p l e R s mid args below meth c H1 locs1 nc ns Q (F0 mid pc' arr (st'.map (eV φ))) := by
  unfold nzGo at hs; cases hs
  rw [nzW_set hx] at hP hD
  exact kk φ arr H1 locs1 nzAg.rf ⟨hC.1, hP, hD, hS, hC.2.2.2.2⟩
/-- one cell more -/
theorem Nzk.al {pc' sl : Nat} {c1 : NzC} {x : va_E} (kk : Nzk p l e R s mid args below meth c Q D cT A nL ft φ w.length S) (hs : nzAl c1 sl pc' ls st w nc ns = some (.inl S)) (hC : NzF D cT φ w A s nL arr ls H locs ft) (hx : nzE cT φ c1 = x) :
    ∀ (q : Nat) (H1 : Heap) (locs1 : List Loc), va_P D vwCl (nzW cT φ w ++ [(q, x)]) H1 → va_D A (nzW cT φ w ++ [(q, x)]) → va_S A s.heap H1 locs1 → W p l e R s mid args below meth c H1 locs1 (nc + 1) (ns + sl) Q (F0 mid pc' arr (.ref q :: st.map (eV φ))) := by
  intro q H1 locs1 hP hD hS
  unfold nzAl at hs
  split at hs
  · rename_i h
    obtain ⟨hw, hc, h4, hl⟩ := h
    unfold nzGo at hs; cases hs
    subst hx
    have hA : nzAg w.length φ (fun a => if a = w.length then q else φ a) := nzAg_up hl
    have e1 : nzW cT (fun a => if a = w.length then q else φ a) (w ++ [c1]) = nzW cT φ w ++ [(q, nzE cT φ c1)] := by
      rw [nzW_app, nzW_ag hw hA, nzE_ag hc (Or.inr h4) hA]
      simp
    have := kk (fun a => if a = w.length then q else φ a) arr H1 locs1 hA ⟨nzLs_ag hw hA hC.1, by rw [e1]; exact hP, by rw [e1]; exact hD, hS, hC.2.2.2.2⟩
    simp only [List.map_cons, nzSt_ag hw hA] at this
    simpa [eV] using this
  · cases hs
end NZD
