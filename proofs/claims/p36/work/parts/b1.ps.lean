/-! ===== P against the machine ===== -/
/-- shapes: well formed, and what an id holds stands -/
def wfP (sh : Shp) : Prop := wfS sh ∧ ∀ a k, a < sh.1 → srf sh a k < sh.1
/-- the shape has grown -/
def Ex (sh sh' : Shp) : Prop := sh.1 ≤ sh'.1 ∧ sh'.2.1 = sh.2.1 ∧ ∀ a, a < sh.1 ∨ 1000000 ≤ a → sh'.2.2 a = sh.2.2 a
theorem Ex.rf {sh : Shp} : Ex sh sh := ⟨Nat.le_refl _, rfl, fun _ _ => rfl⟩
theorem Ex.tr {sh sh1 sh2 : Shp} (h : Ex sh sh1) (h2 : Ex sh1 sh2) : Ex sh sh2 := ⟨Nat.le_trans h.1 h2.1, h2.2.1.trans h.2.1, fun a ha => (h2.2.2 a (ha.imp (fun z => Nat.lt_of_lt_of_le z h.1) id)).trans (h.2.2 a ha)⟩
theorem Ex.gr {sh : Shp} {kd n : Nat} (hN : sh.1 < 1000000) : Ex sh (pgS sh kd n) := ⟨Nat.le_succ _, rfl, fun a ha => if_neg (by omega)⟩
theorem pgS_at {sh : Shp} {kd n : Nat} : (pgS sh kd n).2.2 sh.1 = (kd, n, fun _ => 0) := if_pos rfl
theorem pgS_ne {sh : Shp} {kd n a : Nat} (h : a ≠ sh.1) : (pgS sh kd n).2.2 a = sh.2.2 a := if_neg h
theorem wfP.gr {sh : Shp} {kd n : Nat} (h : wfP sh) (hN : sh.1 < 1000000) : wfP (pgS sh kd n) := by
  obtain ⟨⟨h1, h2⟩, h3⟩ := h
  refine ⟨⟨hN, fun a ha => ?_⟩, fun a k ha => ?_⟩
  · have ha' : sh.1 + 1 ≤ a := ha
    have e := pgS_ne (sh := sh) (kd := kd) (n := n) (a := a) (by omega)
    have := h2 a (by omega)
    unfold skd at this ⊢
    rw [e]
    exact this
  · have ha' : a < sh.1 + 1 := ha
    show ((pgS sh kd n).2.2 a).2.2 k < sh.1 + 1
    by_cases e : a = sh.1
    · subst e; rw [pgS_at]; exact Nat.succ_pos _
    · rw [pgS_ne e]; exact Nat.lt_succ_of_lt (h3 a k (by omega))
/-- what a run of P keeps -/
def pIv (S S' : PS) : Prop := Ex S.1 S'.1 ∧ S.2.2 ≤ S'.2.2 ∧ (∀ b, 1000000 ≤ b → S'.2.1.1 b = S.2.1.1 b) ∧ wfP S'.1
theorem pIv.tr {S S1 S2 : PS} (h : pIv S S1) (h2 : pIv S1 S2) : pIv S S2 := ⟨h.1.tr h2.1, Nat.le_trans h.2.1 h2.2.1, fun b hb => (h2.2.2.1 b hb).trans (h.2.2.1 b hb), h2.2.2.2⟩
theorem pst_cases {d m pc : Nat} {ls : List (Option MV)} {st : List MV} {S : PS} {x : PR} (h : pst d m pc ls st S = some x) :
    (∃ z r kd, st = .inl z :: r ∧ 0 ≤ wi z ∧ wi z ≤ 4096 ∧ S.1.1 < 1000000 ∧ pwk S.1.1 ls r = true ∧ (∃ x1 x2, (kd = 0 ∧ mcode m pc = some (.newarray .int, 2, x1, x2) ∧ x = .inl (pc + 2, ls, mR S.1.1 :: r, (pgS S.1 0 (wi z).toNat, pgI S.1 S.2.1, S.2.2 + (wi z).toNat))) ∨ (kd = 3 ∧ mcode m pc = some (.newarray .long, 2, x1, x2) ∧ x = .inl (pc + 2, ls, mR S.1.1 :: r, (pgS S.1 3 (wi z).toNat, pgL S.1 S.2.1, S.2.2 + (wi z).toNat))))) ∨
    (∃ a b r x1 x2, mcode m pc = some (.lrem, 1, x1, x2) ∧ st = .inr (.inl b) :: .inr (.inl a) :: r ∧ ¬ wl b = 0 ∧ x = .inl (pc + 1, ls, mL (lrem' a b) :: r, S)) ∨
    (∃ a x1 x2, mcode m pc = some (.areturn, 1, x1, x2) ∧ st = [.inr (.inr a)] ∧ pok S.1.1 (some (mR a)) = true ∧ (mRT m = 4 ∨ mRT m = 5) ∧ x = .inr (.inr (some (mR a)))) ∨
    (∃ e, mcode m pc = some e ∧ plI e.1 = true ∧ pof S (mstep S.1 d m pc ls st S.2.1) = some x) := by
  cases hc : mcode m pc with
  | none => unfold pst at h; rw [hc] at h; cases h
  | some e =>
    by_cases hp : plI e.1 = true
    · rw [pst_pl hc hp] at h
      exact Or.inr (Or.inr (Or.inr ⟨e, rfl, hp, h⟩))
    · obtain ⟨i, len, x1, x2⟩ := e
      unfold pst at h
      rw [hc] at h
      cases i with
      | newarray t =>
        cases t with
        | int =>
          simp only at h
          split at h
          · split at h
            · rename_i z r hq
              obtain ⟨rfl, q1, q2, q3, q4⟩ := hq
              cases h
              exact Or.inl ⟨_, _, 0, rfl, q1, q2, q3, q4, x1, x2, Or.inl ⟨rfl, rfl, rfl⟩⟩
            · cases h
          · cases h
        | long =>
          simp only at h
          split at h
          · split at h
            · rename_i z r hq
              obtain ⟨rfl, q1, q2, q3, q4⟩ := hq
              cases h
              exact Or.inl ⟨_, _, 3, rfl, q1, q2, q3, q4, x1, x2, Or.inr ⟨rfl, rfl, rfl⟩⟩
            · cases h
          · cases h
        | _ => simp [pof, mstep, hc, mex] at h
      | lrem =>
        simp only at h
        split at h
        · split at h
          · rename_i hq
            obtain ⟨rfl, q1⟩ := hq
            cases h
            exact Or.inr (Or.inl ⟨_, _, _, x1, x2, rfl, rfl, q1, rfl⟩)
          · cases h
        · cases h
      | areturn =>
        simp only at h
        split at h
        · split at h
          · rename_i hq
            obtain ⟨rfl, q1, q2⟩ := hq
            cases h
            exact Or.inr (Or.inr (Or.inl ⟨_, x1, x2, rfl, rfl, q1, q2, rfl⟩))
          · cases h
        · cases h
      | _ => exact absurd rfl hp
theorem pof_inl {S S' : PS} {x : Option MR} {pc' : Nat} {ls' : List (Option MV)} {st' : List MV} (h : pof S x = some (.inl (pc', ls', st', S'))) : ∃ σ', x = some (.inl (pc', ls', st', σ')) ∧ S' = (S.1, σ', S.2.2) := by
  unfold pof at h
  split at h
  · cases h
  · cases h; exact ⟨_, rfl, rfl⟩
  · cases h
theorem pof_inr {S : PS} {x : Option MR} {y : (Nat × List MV × List MV) ⊕ Option MV} (h : pof S x = some (.inr y)) : x = some (.inr y) := by
  unfold pof at h
  split at h
  · cases h
  · cases h
  · cases h; rfl
theorem mstep_ro {sh : Shp} {d m pc pc' : Nat} {ls ls' : List (Option MV)} {st st' : List MV} {σ σ' : Mem} (hs : mstep sh d m pc ls st σ = some (.inl (pc', ls', st', σ'))) {b : Nat} (hb : sh.1 ≤ b) : σ'.1 b = σ.1 b := by
  unfold mstep at hs
  cases hc : mcode m pc with
  | none => rw [hc] at hs; cases hs
  | some y => rw [hc] at hs; exact mex_ro hs hb
theorem pvF_iv : ∀ (n d m pc : Nat) (ls : List (Option MV)) (st : List MV) (S S' : PS) (r : Option MV), pvF n d m pc ls st S = some (r, S') → wfP S.1 → pIv S S' := by
  intro n
  induction n with
  | zero => intro d m pc ls st S S' r h; simp [pvF] at h
  | succ n ih =>
    intro d m pc ls st S S' r h hw
    have hN := hw.1.1
    rw [pvF] at h
    cases hs : pst d m pc ls st S with
    | none => rw [hs] at h; cases h
    | some x =>
      rw [hs] at h
      rcases x with ⟨pc', ls', st', S1⟩ | ⟨c, args, rest⟩ | q
      · have e : pIv S S1 := by
          rcases pst_cases hs with ⟨z, r, kd, -, -, -, q3, -, x1, x2, ⟨-, -, hx⟩ | ⟨-, -, hx⟩⟩ | ⟨a, b, r, x1, x2, -, -, -, hx⟩ | ⟨a, x1, x2, -, -, -, -, hx⟩ | ⟨e, -, -, hx⟩
          · cases hx
            exact ⟨Ex.gr q3, Nat.le_add_right _ _, fun b hb => upA_ne (by omega), hw.gr q3⟩
          · cases hx
            exact ⟨Ex.gr q3, Nat.le_add_right _ _, fun b hb => rfl, hw.gr q3⟩
          · cases hx
            exact ⟨Ex.rf, Nat.le_refl _, fun _ _ => rfl, hw⟩
          · cases hx
          · obtain ⟨σ', h1, rfl⟩ := pof_inl hx
            exact ⟨Ex.rf, Nat.le_refl _, fun b hb => mstep_ro h1 (Nat.le_trans hN hb), hw⟩
        exact e.tr (ih _ _ _ _ _ _ _ _ h e.2.2.2)
      · cases d with
        | zero => cases h
        | succ d' =>
          simp only at h
          cases hL : isL c with
          | true =>
            rw [hL] at h
            simp only [cond_true] at h
            split at h
            · cases hc : pvF n d' c 0 (ment c args) [] S with
              | none => rw [hc] at h; cases h
              | some y =>
                obtain ⟨r1, S1⟩ := y
                rw [hc] at h
                have e := ih _ _ _ _ _ _ _ _ hc hw
                exact e.tr (ih _ _ _ _ _ _ _ _ h e.2.2.2)
            · cases h
          | false =>
            rw [hL] at h
            simp only [cond_false] at h
            cases hc : evF S.1 n d' c 0 (ment c args) [] S.2.1 with
            | none => rw [hc] at h; cases h
            | some y =>
              obtain ⟨r1, σ1⟩ := y
              rw [hc] at h
              have e : pIv S (S.1, σ1, S.2.2) := ⟨Ex.rf, Nat.le_refl _, fun b hb => evF_ro _ _ _ _ _ _ _ _ _ hc b (Nat.le_trans hN hb), hw⟩
              exact e.tr (ih _ _ _ _ _ _ _ _ h hw)
      · cases h
        exact ⟨Ex.rf, Nat.le_refl _, fun _ _ => rfl, hw⟩
/-- the same addresses of all that lies below n, and of what is given from the start -/
def pAg (n : Nat) (φ φ' : Nat → Nat) : Prop := ∀ a, a < n ∨ 1000000 ≤ a → φ' a = φ a
theorem pAg.rf {n : Nat} {φ : Nat → Nat} : pAg n φ φ := fun _ _ => rfl
theorem pAg.tr {n k : Nat} {φ φ' ψ : Nat → Nat} (h1 : pAg n φ φ') (h2 : pAg k φ' ψ) (hk : n ≤ k) : pAg n φ ψ := fun a h => by
  rw [h2 a (by omega), h1 a h]
theorem pok_ag {n : Nat} {φ φ' : Nat → Nat} {v : MV} (h : pok n (some v) = true) (hA : pAg n φ φ') : eV φ' v = eV φ v := by
  rcases v with z | z | q
  · rfl
  · rfl
  · simp only [pok, Bool.or_eq_true, decide_eq_true_eq] at h
    show Value.ref (φ' q) = Value.ref (φ q)
    rw [hA q h]
theorem pSt_ag {n : Nat} {φ φ' : Nat → Nat} {ls : List (Option MV)} {st : List MV} (h : pwk n ls st = true) (hA : pAg n φ φ') : st.map (eV φ') = st.map (eV φ) := by
  unfold pwk at h
  rw [Bool.and_eq_true, List.all_eq_true, List.all_eq_true] at h
  exact List.map_congr_left (fun v hv => pok_ag (h.2 v hv) hA)
theorem pLs_ag {n : Nat} {φ φ' : Nat → Nat} {ls : List (Option MV)} {st : List MV} {arr : Array Slot} {nL : Nat} (h : pwk n ls st = true) (hA : pAg n φ φ') (hL : LH φ arr nL ls) : LH φ' arr nL ls := by
  unfold pwk at h
  rw [Bool.and_eq_true, List.all_eq_true, List.all_eq_true] at h
  refine ⟨lv_mono hL.1 (fun q hq => ?_), hL.2⟩
  rw [lvF_mem] at hq ⊢
  obtain ⟨j, v, h1, h2⟩ := hq
  exact ⟨j, v, h1, by rw [h2]; exact congrArg (fun z => (0 + j, z)) (pok_ag (h.1 _ (List.mem_of_getElem? h1)) hA)⟩
theorem pwk_r {n : Nat} {ls : List (Option MV)} {as r : List MV} (h : pwk n ls (as ++ r) = true) : pwk n ls r = true := by
  unfold pwk at h ⊢
  rw [Bool.and_eq_true, List.all_append, Bool.and_eq_true] at h
  rw [Bool.and_eq_true]
  exact ⟨h.1, h.2.2⟩
theorem envA.ex {φ φ' : Nat → Nat} {S S' : PS} {A : Nat → Prop} {U : State} {H : Heap} (h : envA φ S.1 S.2.1 A U H) (hi : pIv S S') (hA : pAg S.1.1 φ φ') : envA φ' S'.1 S'.2.1 A U H := by
  obtain ⟨h1, h2, h3, h4, h5, h6⟩ := h
  obtain ⟨⟨e1, e2, e3⟩, -, e4, ⟨⟨e5, -⟩, -⟩⟩ := hi
  refine ⟨fun i hi => ?_, h2, h3, fun hi => ?_, fun hi => ?_, e5⟩
  · have := h1 i (by rw [← e2]; exact hi)
    have el : sln S'.1 (1000000 + i) = sln S.1 (1000000 + i) := by unfold sln; rw [e3 _ (Or.inr (Nat.le_add_right _ _))]
    rw [hA _ (Or.inr (Nat.le_add_right _ _)), el, e4 _ (Nat.le_add_right _ _)]
    exact this
  · rw [hA _ (Or.inr (Nat.le_refl _))]
    exact h4 (by rw [← e2]; exact hi)
  · rw [hA _ (Or.inr (Nat.le_add_right _ _)), e2]
    exact h5 (by rw [← e2]; exact hi)
/-- the world with one row more -/
theorem wE_gr {cT : Nat → ClassId} {φ : Nat → Nat} {sh : Shp} {σ σ' : Mem} {q kd n : Nat} {x : va_E} (hw : wfP sh) (h1 : ∀ a, a ≠ sh.1 → σ'.1 a = σ.1 a) (h2 : ∀ a, a ≠ sh.1 → σ'.2 a = σ.2 a)
    (hx : cE cT (fun a => if a = sh.1 then q else φ a) (pgS sh kd n) σ' sh.1 = x) : wE cT (fun a => if a = sh.1 then q else φ a) (pgS sh kd n) σ' = wE cT φ sh σ ++ [(q, x)] := by
  have key : ∀ a, a < sh.1 → cE cT (fun a => if a = sh.1 then q else φ a) (pgS sh kd n) σ' a = cE cT φ sh σ a := by
    intro a ha
    have e := pgS_ne (sh := sh) (kd := kd) (n := n) (a := a) (by omega)
    have ek : skd (pgS sh kd n) a = skd sh a := by unfold skd; rw [e]
    have el : sln (pgS sh kd n) a = sln sh a := by unfold sln; rw [e]
    have er : ∀ k, srf (pgS sh kd n) a k = srf sh a k := fun k => by unfold srf; rw [e]
    have ef : ∀ k, (if srf sh a k = sh.1 then q else φ (srf sh a k)) = φ (srf sh a k) := fun k => if_neg (by have := hw.2 a k ha; omega)
    simp only [cE, ek, el, er, ef, h1 a (by omega), h2 a (by omega)]
  unfold wE
  show (List.range (sh.1 + 1)).map _ = _
  rw [List.range_succ, List.map_append]
  congr 1
  · apply List.map_congr_left
    intro a ha
    have ha' := List.mem_range.mp ha
    rw [key a ha']
    show ((if a = sh.1 then q else φ a), cE cT φ sh σ a) = _
    rw [if_neg (by omega)]
  · simp only [List.map_cons, List.map_nil, if_true]
    rw [hx]
section PSS
variable {p : Program} {l : Launch} {e : Env} {R : Room} {s : State} {mid : MethodId} {args : Array Value} {below : List Frame} {meth : Method} {c : Code} {H : Heap} {locs : List Loc} {Q : State → Prop}
variable {D : va_G} {cT : Nat → ClassId} {φ : Nat → Nat} {A : Nat → Prop} {arr : Array Slot} {ls ls' : List (Option MV)} {st st' : List MV} {d m pc pc' nc ns : Nat} {S S' : PS}
/-- the machine stands as P does -/
def Pf (D : va_G) (cT : Nat → ClassId) (φ : Nat → Nat) (S : PS) (A : Nat → Prop) (s : State) (nL : Nat) (arr : Array Slot) (ls : List (Option MV)) (H : Heap) (locs : List Loc) : Prop := Cf D cT φ S.1 S.2.1 A s nL arr ls H locs ∧ wfP S.1
def Pk (p : Program) (l : Launch) (e : Env) (R : Room) (s : State) (mid : MethodId) (args : Array Value) (below : List Frame) (meth : Method) (c : Code) (Q : State → Prop) (D : va_G) (cT : Nat → ClassId) (A : Nat → Prop) (nL : Nat) (φ0 : Nat → Nat) (n0 nc ns pc : Nat) (ls : List (Option MV)) (st : List MV) (S : PS) : Prop :=
  ∀ (φ' : Nat → Nat) (arr : Array Slot) (H : Heap) (locs : List Loc), pAg n0 φ0 φ' → Pf D cT φ' S A s nL arr ls H locs → W p l e R s mid args below meth c H locs nc ns Q (F0 mid pc arr (st.map (eV φ')))
theorem p_newI {z : Int} {r : List MV} {x1 x2 : Nat} (hX : MCtx p R s mid args c nc ns D cT d m) (hA : ∀ q, s.heap.size ≤ q → A q) (hmc : mcode m pc = some (.newarray .int, 2, x1, x2)) (h0 : 0 ≤ wi z) (h1 : wi z ≤ 4096) (hN : S.1.1 < 1000000) (hw : pwk S.1.1 ls r = true) (hC : Pf D cT φ S A s (mML m) arr ls H locs)
    (hc1 : nc + 1 ≤ R.cells) (hc2 : ns + (wi z).toNat ≤ R.slots) (kk : Pk p l e R s mid args below meth c Q D cT A (mML m) φ S.1.1 (nc + 1) (ns + (wi z).toNat) (pc + 2) ls (mR S.1.1 :: r) (pgS S.1 0 (wi z).toNat, pgI S.1 S.2.1, S.2.2 + (wi z).toNat)) : W p l e R s mid args below meth c H locs nc ns Q (F0 mid pc arr ((mI z :: r).map (eV φ))) := by
  obtain ⟨hx, hb, hml, hown, hts, hK, hf, hlo, -, -⟩ := hX
  obtain ⟨hC, hwf⟩ := hC
  have hd := mcode_dec hmc
  have hneg : ¬ Int32.ofInt z < 0 := by rw [oI_lt0]; omega
  have hcl : (Int32.ofInt z).toNatClampNeg = (wi z).toNat := oI_cl _
  refine va_newa (atype := .int) (ty := .int) hx hb (hts _ pzAr_ok.1) rfl hK hC.2.1 hC.2.2.1 hC.2.2.2.1 hA (a0 := ((wi z).toNat, .inl (fun _ => 0))) (fun cA => rfl) hneg hcl (by show _ * 4 ≤ _; omega) (by omega) (by omega) hd (fun q cA H1 hK1 hP hD hS => ?_)
  have hcA := pz_ct (k := 0) (fun _ => rfl) rfl hK1
  subst hcA
  have hag : pAg S.1.1 φ (fun a => if a = S.1.1 then q else φ a) := fun a ha => if_neg (by omega)
  have ew : wE cT (fun a => if a = S.1.1 then q else φ a) (pgS S.1 0 (wi z).toNat) (pgI S.1 S.2.1) = wE cT φ S.1 S.2.1 ++ [(q, .inl (cT 0, (wi z).toNat, .inl (fun _ => 0)))] := wE_gr hwf (fun a ha => upA_ne ha) (fun a ha => rfl) (by
    have ek : skd (pgS S.1 0 (wi z).toNat) S.1.1 = 0 := by unfold skd; rw [pgS_at]
    have el : sln (pgS S.1 0 (wi z).toNat) S.1.1 = (wi z).toNat := by unfold sln; rw [pgS_at]
    rw [cE_i ek (by decide), el]
    have e0 : (pgI S.1 S.2.1).1 S.1.1 = fun _ => 0 := upA_eq
    rw [e0]
    rfl)
  have hIv : pIv S (pgS S.1 0 (wi z).toNat, pgI S.1 S.2.1, S.2.2 + (wi z).toNat) := ⟨Ex.gr hN, Nat.le_add_right _ _, fun b hb => upA_ne (by omega), hwf.gr hN⟩
  have := kk (fun a => if a = S.1.1 then q else φ a) arr H1 locs hag ⟨⟨pLs_ag hw hag hC.1, by rw [ew]; exact hP, by rw [ew]; exact hD, hS, envA.ex hC.2.2.2.2 hIv hag⟩, hwf.gr hN⟩
  simp only [List.map_cons, pSt_ag hw hag] at this
  simpa [eV] using this
theorem p_newL {z : Int} {r : List MV} {x1 x2 : Nat} (hX : MCtx p R s mid args c nc ns D cT d m) (hA : ∀ q, s.heap.size ≤ q → A q) (hmc : mcode m pc = some (.newarray .long, 2, x1, x2)) (h0 : 0 ≤ wi z) (h1 : wi z ≤ 4096) (hN : S.1.1 < 1000000) (hw : pwk S.1.1 ls r = true) (hC : Pf D cT φ S A s (mML m) arr ls H locs)
    (hc1 : nc + 1 ≤ R.cells) (hc2 : ns + (wi z).toNat ≤ R.slots) (kk : Pk p l e R s mid args below meth c Q D cT A (mML m) φ S.1.1 (nc + 1) (ns + (wi z).toNat) (pc + 2) ls (mR S.1.1 :: r) (pgS S.1 3 (wi z).toNat, pgL S.1 S.2.1, S.2.2 + (wi z).toNat)) : W p l e R s mid args below meth c H locs nc ns Q (F0 mid pc arr ((mI z :: r).map (eV φ))) := by
  obtain ⟨hx, hb, hml, hown, hts, hK, hf, hlo, -, -⟩ := hX
  obtain ⟨hC, hwf⟩ := hC
  have hd := mcode_dec hmc
  have hneg : ¬ Int32.ofInt z < 0 := by rw [oI_lt0]; omega
  have hcl : (Int32.ofInt z).toNatClampNeg = (wi z).toNat := oI_cl _
  refine va_newa (atype := .long) (ty := .long) hx hb (hts _ pzAr_ok.2) rfl hK hC.2.1 hC.2.2.1 hC.2.2.2.1 hA (a0 := ((wi z).toNat, .inr (.inl (fun _ => 0)))) (fun cA => rfl) hneg hcl (by show _ * 8 ≤ _; omega) (by omega) (by omega) hd (fun q cA H1 hK1 hP hD hS => ?_)
  have hcA := pz_ct (k := 3) (fun _ => rfl) rfl hK1
  subst hcA
  have hag : pAg S.1.1 φ (fun a => if a = S.1.1 then q else φ a) := fun a ha => if_neg (by omega)
  have ew : wE cT (fun a => if a = S.1.1 then q else φ a) (pgS S.1 3 (wi z).toNat) (pgL S.1 S.2.1) = wE cT φ S.1 S.2.1 ++ [(q, .inl (cT 3, (wi z).toNat, .inr (.inl (fun _ => 0))))] := wE_gr hwf (fun a ha => rfl) (fun a ha => upA_ne ha) (by
    have ek : skd (pgS S.1 3 (wi z).toNat) S.1.1 = 3 := by unfold skd; rw [pgS_at]
    have el : sln (pgS S.1 3 (wi z).toNat) S.1.1 = (wi z).toNat := by unfold sln; rw [pgS_at]
    rw [cE_l ek, el]
    have e0 : (pgL S.1 S.2.1).2 S.1.1 = fun _ => 0 := upA_eq
    rw [e0]
    rfl)
  have hIv : pIv S (pgS S.1 3 (wi z).toNat, pgL S.1 S.2.1, S.2.2 + (wi z).toNat) := ⟨Ex.gr hN, Nat.le_add_right _ _, fun b hb => rfl, hwf.gr hN⟩
  have := kk (fun a => if a = S.1.1 then q else φ a) arr H1 locs hag ⟨⟨pLs_ag hw hag hC.1, by rw [ew]; exact hP, by rw [ew]; exact hD, hS, envA.ex hC.2.2.2.2 hIv hag⟩, hwf.gr hN⟩
  simp only [List.map_cons, pSt_ag hw hag] at this
  simpa [eV] using this
theorem MCtx.up {nc' ns' : Nat} (hX : MCtx p R s mid args c nc ns D cT d m) (h1 : nc' ≤ R.cells) (h2 : ns' ≤ R.slots) : MCtx p R s mid args c nc' ns' D cT d m := by
  obtain ⟨a1, a2, a3, a4, a5, a6, a7, a8, -, -⟩ := hX
  exact ⟨a1, a2, a3, a4, a5, a6, a7, a8, h1, h2⟩
def pPost (D : va_G) (cT : Nat → ClassId) (φ : Nat → Nat) (S S' : PS) (r : Option MV) (A : Nat → Prop) : Array Value → State → Outcome → State → Prop := fun _ st oc t => (∃ φ' : Nat → Nat, pAg S.1.1 φ φ' ∧ oc = .returned (r.map (eV φ')) ∧ va_P D vwCl (wE cT φ' S'.1 S'.2.1) t.heap ∧ va_D A (wE cT φ' S'.1 S'.2.1)) ∧ va_F A st t
abbrev pRm (d mc ms : Nat) : Room := { frames := d, cells := mc, slots := ms, locals := 40 * d }
/-- a method of the law, as its callers see it -/
def PMet (l : Launch) (D : va_G) (cT : Nat → ClassId) (φ : Nat → Nat) (d m : Nat) (as : List MV) (S : PS) (r : Option MV) (S' : PS) : Prop :=
  ∀ sz : Nat, Met l (mY m) (mWs m) (pRm d (S'.1.1 - S.1.1) (S'.2.2 - S.2.2)) (mPre D cT φ S.1 S.2.1 as sz) (pPost D cT φ S S' r (va_A (wE cT φ S.1 S.2.1) sz)) (S'.1.1 - S.1.1) (S'.2.2 - S.2.2) (va_A (wE cT φ S.1 S.2.1) sz)
theorem my_callP {r : Option MV} {A1 : Nat → Prop} {a : Array Value} {st0 rest : List Value} {mc ms : Nat} (hr : va_Run p l e R s mid args below meth c H locs nc ns mc ms (F0 mid pc arr st0) rest (pPost D cT φ S S' r A1 a) A1) (hS : va_S A s.heap H locs) (hA : ∀ q, A1 q → A q)
    (kk : ∀ (φ' : Nat → Nat) (H1 : Heap) (locs1 : List Loc), pAg S.1.1 φ φ' → va_P D vwCl (wE cT φ' S'.1 S'.2.1) H1 → va_D A1 (wE cT φ' S'.1 S'.2.1) → va_S A s.heap H1 locs1 → W p l e R s mid args below meth c H1 locs1 (nc + mc) (ns + ms) Q (F0 mid (pc + 3) arr ((r.map (eV φ')).toList ++ rest))) : W p l e R s mid args below meth c H locs nc ns Q (F0 mid pc arr st0) := by
  intro T hT X
  obtain ⟨v, st₀, t, T', L, h0, X', hL, e1, e2, ⟨⟨φ', hag, hv, hp, hdd⟩, hz, hk⟩, stp⟩ := hr T hT X
  cases hv
  rw [h0] at hz hk
  obtain ⟨t2, a1, b1⟩ := kk φ' T'.heap (locs ++ L) hag (by rw [e1]; exact hp) hdd
    ⟨Nat.le_trans hS.1 (by rw [e1]; exact hz), fun q h1 h2 => by rw [e1, hk q (Nat.lt_of_lt_of_le h1 hS.1) (fun z => h2 (hA q z))]; exact hS.2.1 q h1 h2, fun q hq => by
      rcases List.mem_append.mp hq with h | h
      · exact hS.2.2 q h
      · exact hA _ (hL q h)⟩ T' rfl X'
  exact ⟨t2, stp t2 a1, b1⟩
theorem NL_noL : ∀ q ∈ NL, isL q.2.2 = false := by decide +kernel
theorem p_call {c1 : Nat} {as r1 : List MV} {r : Option MV} (hX : MCtx p R s mid args c nc ns D cT (d + 1) m) (hA : ∀ q, s.heap.size ≤ q → A q) (hs : mstep S.1 (d + 1) m pc ls st S.2.1 = some (.inr (.inl (c1, as, r1)))) (hL : isL c1 = true) (hw : pwk S.1.1 ls (as ++ r1) = true) (hC : Pf D cT φ S A s (mML m) arr ls H locs)
    (hM : (ments as).length ≤ mML c1 → MOK c1 → PMet l D cT φ d c1 as S r S') (hI : pIv S S') (hc1 : nc + (S'.1.1 - S.1.1) ≤ R.cells) (hc2 : ns + (S'.2.2 - S.2.2) ≤ R.slots)
    (kk : Pk p l e R s mid args below meth c Q D cT A (mML m) φ S.1.1 (nc + (S'.1.1 - S.1.1)) (ns + (S'.2.2 - S.2.2)) (pc + 3) ls (r.toList ++ r1) S') : W p l e R s mid args below meth c H locs nc ns Q (F0 mid pc arr (st.map (eV φ))) := by
  obtain ⟨hx, hb, hml, hown, hts, hK, hf, hlo, -, -⟩ := hX
  obtain ⟨hC, hwf⟩ := hC
  have hF : ∀ q, va_A (wE cT φ S.1 S.2.1) H.size q → A q := va_free hC.2.2.1 hC.2.2.2.1 hA (List.range S.1.1) (by
    refine List.ext_getElem? fun k => ?_
    by_cases hk : k < S.1.1
    · simp [wE, hk]
    · rw [List.getElem?_eq_none (by simpa using hk), List.getElem?_eq_none (by simpa [wE] using hk)])
  have hPc : ∀ U : State, U.heap = H → s.WarmedH U.vm → mPre D cT φ S.1 S.2.1 as H.size ((as.map (eV φ)).toArray) U := by
    intro U hU hW
    exact ⟨rfl, by rw [hU], by rw [hU]; exact hC.2.1, va_K.moved hW.alike hK, hC.2.2.1.weaken (fun _ _ _ _ => trivial), by rw [hU]; exact envA.call hC.2.2.2.2 hC.2.2.2.1 hF hW⟩
  have fin : ∀ (φ' : Nat → Nat) (H1 : Heap) (locs1 : List Loc), pAg S.1.1 φ φ' → va_P D vwCl (wE cT φ' S'.1 S'.2.1) H1 → va_D (va_A (wE cT φ S.1 S.2.1) H.size) (wE cT φ' S'.1 S'.2.1) → va_S A s.heap H1 locs1 → W p l e R s mid args below meth c H1 locs1 (nc + (S'.1.1 - S.1.1)) (ns + (S'.2.2 - S.2.2)) Q (F0 mid (pc + 3) arr ((r.map (eV φ')).toList ++ r1.map (eV φ))) := by
    intro φ' H1 locs1 hag hP1 hD1 hS1
    have h := kk φ' arr H1 locs1 hag ⟨⟨pLs_ag hw hag hC.1, hP1, hD1.weaken (fun _ q _ h => hF q.1 h), hS1, envA.ex hC.2.2.2.2 hI hag⟩, hI.2.2.2⟩
    rw [List.map_append, pSt_ag (pwk_r hw) hag] at h
    cases r with
    | none => exact h
    | some v => exact h
  unfold mstep at hs
  cases hc : mcode m pc with
  | none => rw [hc] at hs; cases hs
  | some y =>
    rw [hc] at hs
    obtain ⟨i, len, x1, x2⟩ := y
    have hd := mcode_dec hc
    have hk := mcode_chk hc
    unfold chk at hk
    rw [Bool.and_eq_true] at hk
    replace hk := hk.2
    have hst : ∀ {z : Nat}, mcall z st = some (.inr (.inl (c1, as, r1))) → z = c1 ∧ mNA c1 = as.length ∧ (ments as).length ≤ mML c1 ∧ mcs r1 ≤ 8 ∧ st = as.reverse ++ r1 := by
      intro z hz
      unfold mcall at hz
      split at hz
      · rename_i h9
        cases hz
        exact ⟨rfl, by simp [h9.1], h9.2.1, h9.2.2, by simp⟩
      · cases hz
    cases i with
    | invokevirtual i =>
      simp only [mex] at hs
      split at hs
      · rename_i h9
        obtain ⟨hl, h0, hs0, hrc⟩ := h9
        subst hl; subst h0
        obtain ⟨rfl, hn, hm, hcs, hse⟩ := hst hs
        obtain ⟨hlk, hMO⟩ : Cond.methodLink (cnm (mCI m)) i (mY x1) ∈ WS ∧ MOK x1 := CL_ok _ (List.contains_iff_mem.mp hk)
        obtain ⟨m1, m2, m3, m4, m5, m6, m7, m8, m9, m10, m11⟩ := id hMO
        have := (m10 hs0).2
        unfold isL at hL
        rw [beq_iff_eq] at hL
        omega
      · split at hs
        · split at hs
          · split at hs <;> cases hs
          · cases hs
        · cases hs
    | invokestatic i =>
      simp only [mex] at hs
      split at hs
      · rename_i h9
        obtain ⟨hl, h0, hs0⟩ := h9
        subst hl
        obtain ⟨rfl, hn, hm, hcs, hse⟩ := hst hs
        have hsm : st.map (eV φ) = (as.map (eV φ)).reverse ++ r1.map (eV φ) := by rw [hse]; simp
        rcases h0 with rfl | rfl
        · obtain ⟨hlk, hMO⟩ : Cond.methodLink (cnm (mCI m)) i (mY x1) ∈ WS ∧ MOK x1 := CL_ok _ (List.contains_iff_mem.mp hk)
          obtain ⟨m1, m2, m3, m4, m5, m6, m7, m8, m9, m10, m11⟩ := id hMO
          rw [hsm]
          refine my_callP (va_runS (bytes := mB x1) (maxL := mML x1) (ret := mTy x1) (own := cnm (mCI m)) (Ts := WS) (n := mNA x1) (As := as.map (eV φ)) ⟨hx, hb, hml, hown, hts⟩ (hM hm hMO H.size) ?_ ⟨mPre_blind, hPc⟩ rfl (by simp [hn]) hC.1.1.1 rfl (lv_room (by rw [mcs_sum]; exact hcs)) hd ⟨hc1, hc2⟩) hC.2.2.2.1 hF fin
          refine ⟨callB_of _ hts (WS_GoodIn _ m1) rfl rfl rfl (hts _ m2) (hts _ hlk) ⟨m6.1, m6.2, ?_⟩ ⟨hf, ?_⟩, hts _ (m3 hs0)⟩
          · rw [m7, if_pos hs0]
          · show 8 + (mML x1 + 11) + 40 * d ≤ R.locals
            omega
        · have hin : (mCI m, i, x1) ∈ NL := List.contains_iff_mem.mp hk
          have := NL_noL _ hin
          rw [hL] at this
          cases this
      · split at hs
        · split at hs
          · split at hs <;> cases hs
          · cases hs
        · split at hs
          · split at hs
            · split at hs <;> cases hs
            · cases hs
          · split at hs
            · split at hs
              · split at hs <;> cases hs
              · cases hs
            · cases hs
    | _ =>
      simp only [mex, mldI, mldL, mldR, mstI, mstL, mstR, mb2, ml2, mls, m1I, m1L, mif, mald, mast, mnx] at hs
      repeat' split at hs
      all_goals cases hs
end PSS
/-- the instruction that P ends at -/
def pEnd (d m pc : Nat) (ls : List (Option MV)) (st : List MV) (S : PS) (r : Option MV) : Prop :=
  (∃ (i : Instr) (len x1 x2 : Nat), decode (mB m) pc = .ok (i, len) ∧ mex S.1 d (mRT m) pc ls st S.2.1 i len x1 x2 = some (.inr (.inr r))) ∨ (decode (mB m) pc = .ok (.areturn, 1) ∧ ∃ a, st = [mR a] ∧ r = some (mR a) ∧ (mRT m = 4 ∨ mRT m = 5))
/-- P comes to an answer: so does the machine -/
def SndPP (n : Nat) : Prop :=
  ∀ (d m pc : Nat) (ls : List (Option MV)) (st : List MV) (S : PS) (r : Option MV) (S' : PS), pvF n d m pc ls st S = some (r, S') →
  ∀ (p : Program) (l : Launch) (e : Env) (R : Room) (s : State) (mid : MethodId) (args : Array Value) (below : List Frame) (meth : Method) (c : Code) (nc ns : Nat) (Q : State → Prop) (D : va_G) (cT : Nat → ClassId) (φ : Nat → Nat) (A : Nat → Prop) (arr : Array Slot) (H : Heap) (locs : List Loc),
  MCtx p R s mid args c nc ns D cT d m → (∀ q, s.heap.size ≤ q → A q) → nc + (S'.1.1 - S.1.1) ≤ R.cells → ns + (S'.2.2 - S.2.2) ≤ R.slots → Pf D cT φ S A s (mML m) arr ls H locs →
  (∀ (φ' : Nat → Nat) (pc' : Nat) (arr' : Array Slot) (H' : Heap) (locs' : List Loc) (ls' : List (Option MV)) (st' : List MV), pAg S.1.1 φ φ' → pEnd d m pc' ls' st' S' r → Pf D cT φ' S' A s (mML m) arr' ls' H' locs' → W p l e R s mid args below meth c H' locs' (nc + (S'.1.1 - S.1.1)) (ns + (S'.2.2 - S.2.2)) Q (F0 mid pc' arr' (st'.map (eV φ')))) →
  W p l e R s mid args below meth c H locs nc ns Q (F0 mid pc arr (st.map (eV φ)))
theorem pmet_of {n : Nat} (hP : SndPP n) {l : Launch} {D : va_G} {cT : Nat → ClassId} {φ : Nat → Nat} {d m : Nat} {as : List MV} {S S' : PS} {r : Option MV} (he : pvF n d m 0 (ment m as) [] S = some (r, S')) (hw : wfP S.1) (hm : (ments as).length ≤ mML m) (hMO : MOK m) : PMet l D cT φ d m as S r S' := by
  intro sz
  obtain ⟨m1, m2, m3, m4, m5, m6, m7, m8, m9, m10, m11⟩ := hMO
  refine Met.ofW (cc := mB m) (maxL := mML m) (ret := mTy m) m8 rfl ?_
  intro p e s mid args below meth c s₁ B hml hv
  obtain ⟨rfl, hsz, hP0, hK, hD0, hE⟩ := hv
  subst hsz
  have hown : s.vm.findClass (cnm (mCI m)) = some mid.cls := by rw [← m5]; exact findClass_of_methodNamed B.named
  have hts := atoms_spec (ws := mWs m) B.pre
  rw [lg_entry_eq]
  refine hP d m 0 (ment m as) [] S r S' he p l e _ s mid _ below meth c 0 0 _ D cT φ (va_A (wE cT φ S.1 S.2.1) s.heap.size) _ s.heap [] ⟨B.exec, B.bytes, hml, hown, fun w hw => hts w (List.mem_cons_of_mem _ hw), hK, Nat.le_refl _, Nat.le_refl _, Nat.zero_le _, Nat.zero_le _⟩ (fun q h => Or.inr h) (by rw [Nat.zero_add]; exact Nat.le_refl _) (by rw [Nat.zero_add]; exact Nat.le_refl _) ⟨⟨LH.entry hm, hP0, hD0.self, va_S.rf, hE⟩, hw⟩ ?_
  intro φ' pc' arr' H' locs' ls' st' hag hend hC
  rw [Nat.zero_add, Nat.zero_add]
  have hx9 := B.exec
  have hb9 := B.bytes
  have hr9 : meth.sig.returnType = mTy m := B.returns
  have hlocks : meth.locks = false := B.notSynchronized
  obtain ⟨hC, -⟩ := hC
  rcases hend with ⟨i, len, x1, x2, hd, hx⟩ | ⟨hd, a, rfl, rfl, h45⟩
  · rcases mex_ret hx with ⟨v, rfl, rfl, rfl, rfl, h1 | ⟨h2, h3⟩⟩ | ⟨v, rfl, rfl, rfl, rfl, h1⟩ | ⟨rfl, rfl, rfl, rfl, h1⟩
    · exact W.iret (v := Int32.ofInt v) hx9 hb9 (by rw [hr9, m9, h1]; rfl) (fun t ht hW => ⟨⟨φ', hag, rfl, by rw [ht]; exact hC.2.1, hC.2.2.1⟩, hC.2.2.2.1.F ht⟩) hC.2.2.2.1.2.2 hd
    · exact W.zret (v := Int32.ofInt v) (ty := .boolean) hx9 hb9 (by rw [hr9, m9, h2]; rfl) (by rcases h3 with rfl | rfl <;> rfl) (fun t ht hW => ⟨⟨φ', hag, rfl, by rw [ht]; exact hC.2.1, hC.2.2.1⟩, hC.2.2.2.1.F ht⟩) hC.2.2.2.1.2.2 hd
    · exact W.lret (v := Int64.ofInt v) hx9 hb9 (by rw [hr9, m9, h1]; rfl) (fun t ht hW => ⟨⟨φ', hag, rfl, by rw [ht]; exact hC.2.1, hC.2.2.1⟩, hC.2.2.2.1.F ht⟩) hC.2.2.2.1.2.2 hd
    · exact W.vret hx9 hb9 (by rw [hr9, m9, h1]; rfl) (fun t ht hW => ⟨⟨φ', hag, rfl, by rw [ht]; exact hC.2.1, hC.2.2.1⟩, hC.2.2.2.1.F ht⟩) hC.2.2.2.1.2.2 hd
  · rcases h45 with h4 | h5
    · exact W.aret (v := .ref (φ' a)) (rt := .array .int) hx9 hb9 (by rw [hr9, m9, h4]; rfl) (Or.inr ⟨_, rfl⟩) (Or.inr ⟨_, rfl⟩) (fun t ht hW => ⟨⟨φ', hag, rfl, by rw [ht]; exact hC.2.1, hC.2.2.1⟩, hC.2.2.2.1.F ht⟩) hC.2.2.2.1.2.2 hd
    · exact W.aret (v := .ref (φ' a)) (rt := .array .long) hx9 hb9 (by rw [hr9, m9, h5]; rfl) (Or.inr ⟨_, rfl⟩) (Or.inr ⟨_, rfl⟩) (fun t ht hW => ⟨⟨φ', hag, rfl, by rw [ht]; exact hC.2.1, hC.2.2.1⟩, hC.2.2.2.1.F ht⟩) hC.2.2.2.1.2.2 hd
theorem snd_P : ∀ n, SndPP n := by
  intro n
  induction n with
  | zero => intro d m pc ls st S r S' h; simp [pvF] at h
  | succ n ih =>
    intro d m pc ls st S r S' h p l e R s mid args below meth c nc ns Q D cT φ A arr H locs hX hA h1 h2 hC fin
    have hI := pvF_iv _ _ _ _ _ _ _ _ _ h hC.2
    rw [pvF] at h
    cases hs : pst d m pc ls st S with
    | none => rw [hs] at h; cases h
    | some x =>
      rw [hs] at h
      rcases x with ⟨pc', ls', st', S1⟩ | ⟨c1, as, rest⟩ | q
      · simp only at h
        rcases pst_cases hs with ⟨z, r0, kd, rfl, z0, z1, hN, hw, x1, x2, ⟨-, hmc, hx⟩ | ⟨-, hmc, hx⟩⟩ | ⟨a, b, r0, x1, x2, hmc, rfl, hb0, hx⟩ | ⟨a, x1, x2, -, -, -, -, hx⟩ | ⟨y, hmc, hpl, hx⟩
        · cases hx
          have hI1 := pvF_iv _ _ _ _ _ _ _ _ _ h (hC.2.gr hN)
          have g1 : S.1.1 + 1 ≤ S'.1.1 := hI1.1.1
          have g2 : S.2.2 + (wi z).toNat ≤ S'.2.2 := hI1.2.1
          refine p_newI hX hA hmc z0 z1 hN hw hC (by omega) (by omega) (fun φ1 arr1 H1 locs1 hag hC1 => ?_)
          refine ih d m _ _ _ _ r S' h p l e R s mid args below meth c (nc + 1) (ns + (wi z).toNat) Q D cT φ1 A arr1 H1 locs1 (hX.up (by omega) (by omega)) hA (by show nc + 1 + (S'.1.1 - (S.1.1 + 1)) ≤ _; omega) (by show ns + (wi z).toNat + (S'.2.2 - (S.2.2 + (wi z).toNat)) ≤ _; omega) hC1 (fun φ2 pc2 arr2 H2 locs2 ls2 st2 hag2 he2 hC2 => ?_)
          have e1 : nc + 1 + (S'.1.1 - (S.1.1 + 1)) = nc + (S'.1.1 - S.1.1) := by omega
          have e2 : ns + (wi z).toNat + (S'.2.2 - (S.2.2 + (wi z).toNat)) = ns + (S'.2.2 - S.2.2) := by omega
          have := fin φ2 pc2 arr2 H2 locs2 ls2 st2 (hag.tr hag2 (Nat.le_succ _)) he2 hC2
          rw [← e1, ← e2] at this
          exact this
        · cases hx
          have hI1 := pvF_iv _ _ _ _ _ _ _ _ _ h (hC.2.gr hN)
          have g1 : S.1.1 + 1 ≤ S'.1.1 := hI1.1.1
          have g2 : S.2.2 + (wi z).toNat ≤ S'.2.2 := hI1.2.1
          refine p_newL hX hA hmc z0 z1 hN hw hC (by omega) (by omega) (fun φ1 arr1 H1 locs1 hag hC1 => ?_)
          refine ih d m _ _ _ _ r S' h p l e R s mid args below meth c (nc + 1) (ns + (wi z).toNat) Q D cT φ1 A arr1 H1 locs1 (hX.up (by omega) (by omega)) hA (by show nc + 1 + (S'.1.1 - (S.1.1 + 1)) ≤ _; omega) (by show ns + (wi z).toNat + (S'.2.2 - (S.2.2 + (wi z).toNat)) ≤ _; omega) hC1 (fun φ2 pc2 arr2 H2 locs2 ls2 st2 hag2 he2 hC2 => ?_)
          have e1 : nc + 1 + (S'.1.1 - (S.1.1 + 1)) = nc + (S'.1.1 - S.1.1) := by omega
          have e2 : ns + (wi z).toNat + (S'.2.2 - (S.2.2 + (wi z).toNat)) = ns + (S'.2.2 - S.2.2) := by omega
          have := fin φ2 pc2 arr2 H2 locs2 ls2 st2 (hag.tr hag2 (Nat.le_succ _)) he2 hC2
          rw [← e1, ← e2] at this
          exact this
        · cases hx
          have hd := mcode_dec hmc
          refine lv_lrem hX.1 hX.2.1 hd (fun q => hb0 ((oL_eq0 _).mp q)) ?_
          have := ih d m _ _ _ _ r S' h p l e R s mid args below meth c nc ns Q D cT φ A arr H locs hX hA h1 h2 hC fin
          simp only [List.map_cons] at this
          refine W.vL (Int64.ofInt_toInt _) this
        · cases hx
        · obtain ⟨σ', hm, rfl⟩ := pof_inl hx
          exact snd_step hX hA hC.2.1 hm hC.1 (fun arr' H' locs' hC' => ih d m pc' ls' st' _ r S' h p l e R s mid args below meth c nc ns Q D cT φ A arr' H' locs' hX hA h1 h2 ⟨hC', hC.2⟩ fin)
      · have hm : mstep S.1 d m pc ls st S.2.1 = some (.inr (.inl (c1, as, rest))) := by
          rcases pst_cases hs with ⟨z, r0, kd, -, -, -, -, -, x1, x2, ⟨-, -, hx⟩ | ⟨-, -, hx⟩⟩ | ⟨a, b, r0, x1, x2, -, -, -, hx⟩ | ⟨a, x1, x2, -, -, -, -, hx⟩ | ⟨y, -, -, hx⟩
          · cases hx
          · cases hx
          · cases hx
          · cases hx
          · exact pof_inr hx
        cases d with
        | zero => cases h
        | succ d' =>
          simp only at h
          cases hL : isL c1 with
          | true =>
            rw [hL] at h
            simp only [cond_true] at h
            split at h
            · rename_i hw
              cases hc : pvF n d' c1 0 (ment c1 as) [] S with
              | none => rw [hc] at h; cases h
              | some y =>
                obtain ⟨r1, S1⟩ := y
                rw [hc] at h
                have hI1 := pvF_iv _ _ _ _ _ _ _ _ _ hc hC.2
                have hI2 := pvF_iv _ _ _ _ _ _ _ _ _ h hI1.2.2.2
                have g1 := hI1.1.1
                have g2 := hI1.2.1
                have g3 := hI2.1.1
                have g4 := hI2.2.1
                refine p_call hX hA hm hL hw hC (fun hml hMO => pmet_of ih hc hC.2 hml hMO) hI1 (by omega) (by omega) (fun φ1 arr1 H1 locs1 hag hC1 => ?_)
                refine ih (d' + 1) m (pc + 3) ls (r1.toList ++ rest) S1 r S' h p l e R s mid args below meth c (nc + (S1.1.1 - S.1.1)) (ns + (S1.2.2 - S.2.2)) Q D cT φ1 A arr1 H1 locs1 (hX.up (by omega) (by omega)) hA (by omega) (by omega) hC1 (fun φ2 pc2 arr2 H2 locs2 ls2 st2 hag2 he2 hC2 => ?_)
                have e1 : nc + (S1.1.1 - S.1.1) + (S'.1.1 - S1.1.1) = nc + (S'.1.1 - S.1.1) := by omega
                have e2 : ns + (S1.2.2 - S.2.2) + (S'.2.2 - S1.2.2) = ns + (S'.2.2 - S.2.2) := by omega
                have := fin φ2 pc2 arr2 H2 locs2 ls2 st2 (hag.tr hag2 g1) he2 hC2
                rw [← e1, ← e2] at this
                exact this
            · cases h
          | false =>
            rw [hL] at h
            simp only [cond_false] at h
            cases hc : evF S.1 n d' c1 0 (ment c1 as) [] S.2.1 with
            | none => rw [hc] at h; cases h
            | some y =>
              obtain ⟨r1, σ1⟩ := y
              rw [hc] at h
              exact snd_call hX hA hm hC.1 (fun hml hMO => met_of (snd_all hC.2.1 n) hc hml hMO) (fun arr' H' locs' hC' => ih (d' + 1) m (pc + 3) ls (r1.toList ++ rest) (S.1, σ1, S.2.2) r S' h p l e R s mid args below meth c nc ns Q D cT φ A arr' H' locs' hX hA h1 h2 ⟨hC', hC.2⟩ fin) (evF_ro _ _ _ _ _ _ _ _ _ hc)
      · cases h
        have := fin φ pc arr H locs ls st pAg.rf (by
          rcases pst_cases hs with ⟨z, r0, kd, -, -, -, -, -, x1, x2, ⟨-, -, hx⟩ | ⟨-, -, hx⟩⟩ | ⟨a, b, r0, x1, x2, -, -, -, hx⟩ | ⟨a, x1, x2, hmc, rfl, -, h45, hx⟩ | ⟨y, hmc, -, hx⟩
          · cases hx
          · cases hx
          · cases hx
          · cases hx
            exact Or.inr ⟨mcode_dec hmc, a, rfl, rfl, h45⟩
          · have h9 := pof_inr hx
            unfold mstep at h9
            rw [hmc] at h9
            exact Or.inl ⟨y.1, y.2.1, y.2.2.1, y.2.2.2, mcode_dec hmc, h9⟩) hC
        rw [Nat.sub_self, Nat.sub_self, Nat.add_zero, Nat.add_zero] at this
        exact this
