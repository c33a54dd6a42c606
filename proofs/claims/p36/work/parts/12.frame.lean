/-! ===== M: a call with ids out of a closed set changes only that set ===== -/
def okV (C : Nat → Prop) (sh : Shp) : MV → Prop
  | .inr (.inr a) => C a ∨ sh.1 ≤ a
  | _ => True
def okL (C : Nat → Prop) (sh : Shp) (ls : List (Option MV)) : Prop := ∀ v, some v ∈ ls → okV C sh v
def okS (C : Nat → Prop) (sh : Shp) (st : List MV) : Prop := ∀ v ∈ st, okV C sh v
/-- closed: what an id of it holds is in it; an id holds others only if it may be written -/
def clS (C : Nat → Prop) (sh : Shp) : Prop := (∀ a k, C a → C (srf sh a k)) ∧ wfS sh
def same (C : Nat → Prop) (σ σ' : Mem) : Prop := ∀ a, ¬ C a → σ'.1 a = σ.1 a ∧ σ'.2 a = σ.2 a
theorem okS.tail {C : Nat → Prop} {sh : Shp} {v : MV} {st : List MV} (h : okS C sh (v :: st)) : okS C sh st := fun w hw => h w (List.mem_cons_of_mem _ hw)
theorem okS.head {C : Nat → Prop} {sh : Shp} {v : MV} {st : List MV} (h : okS C sh (v :: st)) : okV C sh v := h v List.mem_cons_self
theorem okS.cons {C : Nat → Prop} {sh : Shp} {v : MV} {st : List MV} (hv : okV C sh v) (h : okS C sh st) : okS C sh (v :: st) := by
  intro w hw
  rcases List.mem_cons.mp hw with rfl | h1
  · exact hv
  · exact h w h1
theorem okL.at {C : Nat → Prop} {sh : Shp} {ls : List (Option MV)} (h : okL C sh ls) {i : Nat} {v : MV} (hv : ls[i]? = some (some v)) : okV C sh v := h v (List.mem_of_getElem? hv)
theorem okL.put {C : Nat → Prop} {sh : Shp} {ls : List (Option MV)} (h : okL C sh ls) {i : Nat} {v : MV} (hi : i < ls.length) (hv : okV C sh v) : okL C sh (lpt ls i v) := by
  intro w hw
  obtain ⟨j, hj⟩ := List.getElem?_of_mem hw
  rcases lpt_get _ _ _ _ _ hj with ⟨-, rfl⟩ | ⟨-, h2, -⟩
  · exact hv
  · exact h.at h2
theorem okL.no {C : Nat → Prop} {sh : Shp} {ls : List (Option MV)} (h : okL C sh ls) {i : Nat} : okL C sh (lno ls i) := by
  intro w hw
  obtain ⟨j, hj⟩ := List.getElem?_of_mem hw
  exact h.at (lno_get _ _ _ _ hj).2
theorem same.rf {C : Nat → Prop} {σ : Mem} : same C σ σ := fun _ _ => ⟨rfl, rfl⟩
theorem same.tr {C : Nat → Prop} {σ σ1 σ2 : Mem} (h : same C σ σ1) (h2 : same C σ1 σ2) : same C σ σ2 := fun a ha => ⟨(h2 a ha).1.trans (h a ha).1, (h2 a ha).2.trans (h a ha).2⟩
theorem same.up {C : Nat → Prop} {σ : Mem} {a : Nat} {g : Nat → Int} (ha : C a) : same C σ (upA σ.1 a g, σ.2) := fun b hb => ⟨upA_ne (fun e => hb (e ▸ ha)), rfl⟩
theorem same.upL {C : Nat → Prop} {σ : Mem} {a : Nat} {g : Nat → Int} (ha : C a) : same C σ (σ.1, upA σ.2 a g) := fun b hb => ⟨rfl, upA_ne (fun e => hb (e ▸ ha))⟩
theorem okV.in {C : Nat → Prop} {sh : Shp} {a : Nat} (h : okV C sh (.inr (.inr a))) (ha : a < sh.1) : C a := by
  rcases h with h | h
  · exact h
  · omega
theorem mex_frame {C : Nat → Prop} {sh : Shp} (hc : clS C sh) {d rt pc pc' len x1 x2 : Nat} {ls ls' : List (Option MV)} {st st' : List MV} {σ σ' : Mem} {i : Instr} (hs : mex sh d rt pc ls st σ i len x1 x2 = some (.inl (pc', ls', st', σ'))) (hl : okL C sh ls) (hst : okS C sh st) :
    okL C sh ls' ∧ okS C sh st' ∧ same C σ σ' := by
  cases i with
  | aload k =>
    simp only [mex, mldR, mnx] at hs
    repeat' split at hs
    all_goals first | (cases hs; done) | skip
    rename_i h _ _
    cases hs
    first | exact ⟨hl, hst.cons (hl.at ‹_›), same.rf⟩
  | aload_n k =>
    simp only [mex, mldR, mnx] at hs
    repeat' split at hs
    all_goals first | (cases hs; done) | skip
    cases hs
    exact ⟨hl, hst.cons (hl.at ‹_›), same.rf⟩
  | istore k =>
    simp only [mex, mstI, mnx] at hs
    repeat' split at hs
    all_goals first | (cases hs; done) | skip
    cases hs
    exact ⟨hl.put ‹_› trivial, hst.tail, same.rf⟩
  | istore_n k =>
    simp only [mex, mstI, mnx] at hs
    repeat' split at hs
    all_goals first | (cases hs; done) | skip
    cases hs
    exact ⟨hl.put ‹_› trivial, hst.tail, same.rf⟩
  | lstore k =>
    simp only [mex, mstL, mnx] at hs
    repeat' split at hs
    all_goals first | (cases hs; done) | skip
    cases hs
    exact ⟨(hl.put (v := mL _) (by omega) trivial).no, hst.tail, same.rf⟩
  | lstore_n k =>
    simp only [mex, mstL, mnx] at hs
    repeat' split at hs
    all_goals first | (cases hs; done) | skip
    cases hs
    exact ⟨(hl.put (v := mL _) (by omega) trivial).no, hst.tail, same.rf⟩
  | astore k =>
    simp only [mex, mstR, mnx] at hs
    repeat' split at hs
    all_goals first | (cases hs; done) | skip
    cases hs
    exact ⟨hl.put ‹_› hst.head, hst.tail, same.rf⟩
  | astore_n k =>
    simp only [mex, mstR, mnx] at hs
    repeat' split at hs
    all_goals first | (cases hs; done) | skip
    cases hs
    exact ⟨hl.put ‹_› hst.head, hst.tail, same.rf⟩
  | iinc k z =>
    simp only [mex, mnx] at hs
    repeat' split at hs
    all_goals first | (cases hs; done) | skip
    rename_i x hv _
    cases hs
    exact ⟨hl.put (List.getElem?_eq_some_iff.mp hv).1 trivial, hst, same.rf⟩
  | iastore =>
    simp only [mex, mast, mnx] at hs
    repeat' split at hs
    all_goals first | (cases hs; done) | skip
    cases hs
    rename_i h9
    exact ⟨hl, hst.tail.tail.tail, same.up (hst.tail.tail.head.in h9.2.1)⟩
  | bastore =>
    simp only [mex, mnx] at hs
    split at hs
    · simp only [mast, mnx] at hs
      repeat' split at hs
      all_goals first | (cases hs; done) | (cases hs; rename_i h9; exact ⟨hl, hst.tail.tail.tail, same.up (hst.tail.tail.head.in h9.2.1)⟩)
    · cases hs
  | lastore =>
    simp only [mex, mnx] at hs
    repeat' split at hs
    all_goals first | (cases hs; done) | skip
    cases hs
    rename_i h9
    exact ⟨hl, hst.tail.tail.tail, same.upL (hst.tail.tail.head.in h9.2.2.1)⟩
  | putfield q =>
    simp only [mex, mnx] at hs
    repeat' split at hs
    all_goals first | (cases hs; done) | skip
    cases hs
    rename_i h9
    exact ⟨hl, hst.tail.tail, same.up (hst.tail.head.in h9.2.2.2.1)⟩
  | getfield q =>
    simp only [mex, mnx] at hs
    repeat' split at hs
    all_goals first | (cases hs; done) | skip
    cases hs
    rename_i h9
    refine ⟨hl, hst.tail.cons ?_, same.rf⟩
    cases frf x1 x2 with
    | false => trivial
    | true => exact Or.inl (hc.1 _ _ (hst.head.in h9.2.2.2))
  | aaload =>
    simp only [mex, mald, mnx] at hs
    repeat' split at hs
    all_goals first | (cases hs; done) | skip
    cases hs
    rename_i h9
    exact ⟨hl, hst.tail.tail.cons (Or.inl (hc.1 _ _ (hst.tail.head.in (wf_lt hc.2 h9.1 (by omega) (by omega))))), same.rf⟩
  | getstatic q =>
    simp only [mex, mnx] at hs
    repeat' split at hs
    all_goals first | (cases hs; done) | skip
    cases hs
    exact ⟨hl, hst.cons (Or.inr hc.2.1), same.rf⟩
  | ldc q =>
    simp only [mex, mnx] at hs
    repeat' split at hs
    all_goals first | (cases hs; done) | skip
    · cases hs
      exact ⟨hl, hst.cons trivial, same.rf⟩
    · cases hs
      exact ⟨hl, hst.cons (Or.inr (Nat.le_trans hc.2.1 (Nat.le_add_right _ _))), same.rf⟩
  | dup =>
    simp only [mex, mnx] at hs
    repeat' split at hs
    all_goals first | (cases hs; done) | skip
    all_goals (cases hs; exact ⟨hl, hst.cons hst.head, same.rf⟩)
  | dup2 =>
    simp only [mex, mnx] at hs
    repeat' split at hs
    all_goals first | (cases hs; done) | skip
    cases hs
    exact ⟨hl, (hst.cons hst.tail.head).cons hst.head, same.rf⟩
  | invokevirtual q =>
    simp only [mex, mcall, mnx] at hs
    repeat' split at hs
    all_goals first | (cases hs; done) | (cases hs; exact ⟨hl, hst.tail.tail.cons trivial, same.rf⟩)
  | baload =>
    simp only [mex, mnx] at hs
    split at hs
    · simp only [mald, mnx] at hs
      repeat' split at hs
      all_goals first | (cases hs; done) | (cases hs; exact ⟨hl, hst.tail.tail.cons trivial, same.rf⟩)
    · cases hs
  | invokestatic q =>
    simp only [mex, mcall, mnx] at hs
    repeat' split at hs
    all_goals first | (cases hs; done) | skip
    · cases hs
      rename_i h9
      exact ⟨hl, hst.tail.tail.tail.tail.tail, same.up (hst.tail.tail.head.in h9.2.2.2.2.1)⟩
    · cases hs
      exact ⟨hl, hst.tail.tail.cons trivial, same.rf⟩
    · cases hs
      exact ⟨hl, hst.tail.tail.cons trivial, same.rf⟩
  | _ =>
    simp only [mex, mldI, mldL, mldR, mstI, mstL, mstR, mb2, ml2, mls, m1I, m1L, mif, mald, mast, mnx] at hs
    repeat' split at hs
    all_goals first | (cases hs; done) | (cases hs; exact ⟨hl, hst, same.rf⟩) | (cases hs; exact ⟨hl, hst.tail, same.rf⟩) | (cases hs; exact ⟨hl, hst.tail.tail, same.rf⟩) | (cases hs; exact ⟨hl, hst.cons trivial, same.rf⟩) | (cases hs; exact ⟨hl, hst.tail.cons trivial, same.rf⟩) | (cases hs; exact ⟨hl, hst.tail.tail.cons trivial, same.rf⟩) | (cases hs; refine ⟨hl, okS.tail (okS.cons ?_ hst) , same.rf⟩; trivial)
theorem mstep_call {sh : Shp} {d m pc c : Nat} {ls : List (Option MV)} {st as rest : List MV} {σ : Mem} (hs : mstep sh d m pc ls st σ = some (.inr (.inl (c, as, rest)))) : st = as.reverse ++ rest := by
  unfold mstep at hs
  cases hc : mcode m pc with
  | none => rw [hc] at hs; cases hs
  | some y =>
    rw [hc] at hs
    obtain ⟨i, len, x1, x2⟩ := y
    have hst : ∀ {z : Nat}, mcall z st = some (.inr (.inl (c, as, rest))) → st = as.reverse ++ rest := by
      intro z hz
      unfold mcall at hz
      split at hz
      · cases hz; simp
      · cases hz
    cases i with
    | invokevirtual i =>
      simp only [mex] at hs
      split at hs
      · exact hst hs
      · split at hs
        · split at hs
          · split at hs <;> cases hs
          · cases hs
        · cases hs
    | invokestatic i =>
      simp only [mex] at hs
      split at hs
      · exact hst hs
      · split at hs
        · split at hs
          · split at hs <;> cases hs
          · cases hs
        · split at hs
          · split at hs
            · split at hs <;> cases hs
            · cases hs
          · split at hs
            · split at hs
              · split at hs <;> cases hs
              · cases hs
            · cases hs
    | _ =>
      simp only [mex, mldI, mldL, mldR, mstI, mstL, mstR, mb2, ml2, mls, m1I, m1L, mif, mald, mast, mnx] at hs
      repeat' split at hs
      all_goals cases hs
theorem okL.ent {C : Nat → Prop} {sh : Shp} {m : Nat} {as : List MV} (h : okS C sh as) : okL C sh (ment m as) := by
  intro v hv
  unfold ment at hv
  rcases List.mem_append.mp hv with h1 | h1
  · unfold ments at h1
    obtain ⟨w, hw, h2⟩ := List.mem_flatMap.mp h1
    rcases w with z | z | q
    · have : v = .inl z := by simpa using h2
      subst this; trivial
    · have : v = .inr (.inl z) := by simpa using h2
      subst this; trivial
    · have : v = .inr (.inr q) := by simpa using h2
      subst this; exact h _ hw
  · have := List.eq_of_mem_replicate h1
    cases this
theorem mex_retV {C : Nat → Prop} {sh : Shp} {d rt pc len x1 x2 : Nat} {ls : List (Option MV)} {st : List MV} {σ : Mem} {i : Instr} {v : MV} (hs : mex sh d rt pc ls st σ i len x1 x2 = some (.inr (.inr (some v)))) : okV C sh v := by
  rcases mex_ret hs with ⟨z, -, -, -, h, -⟩ | ⟨z, -, -, -, h, -⟩ | ⟨-, -, -, h, -⟩
  · cases h; trivial
  · cases h; trivial
  · cases h
theorem evF_frame {C : Nat → Prop} {sh : Shp} (hc : clS C sh) : ∀ (n d m pc : Nat) (ls : List (Option MV)) (st : List MV) (σ : Mem) (r : Option MV) (σ' : Mem), evF sh n d m pc ls st σ = some (r, σ') → okL C sh ls → okS C sh st → same C σ σ' ∧ ∀ v, r = some v → okV C sh v := by
  intro n
  induction n with
  | zero => intro d m pc ls st σ r σ' h; simp [evF] at h
  | succ n ih =>
    intro d m pc ls st σ r σ' h hl hst
    rw [evF] at h
    cases hs : mstep sh d m pc ls st σ with
    | none => rw [hs] at h; cases h
    | some x =>
      rw [hs] at h
      rcases x with ⟨pc', ls', st', σ1⟩ | ⟨c, as, rest⟩ | q
      · unfold mstep at hs
        cases hm : mcode m pc with
        | none => rw [hm] at hs; cases hs
        | some y =>
          rw [hm] at hs
          obtain ⟨h1, h2, h3⟩ := mex_frame hc hs hl hst
          obtain ⟨g1, g2⟩ := ih _ _ _ _ _ _ _ _ h h1 h2
          exact ⟨h3.tr g1, g2⟩
      · cases d with
        | zero => cases h
        | succ d' =>
          simp only at h
          have hse := mstep_call hs
          cases hq : evF sh n d' c 0 (ment c as) [] σ with
          | none => rw [hq] at h; cases h
          | some y =>
            obtain ⟨r1, σ1⟩ := y
            rw [hq] at h
            obtain ⟨g1, g2⟩ := ih _ _ _ _ _ _ _ _ hq (okL.ent (fun v hv => hst v (by rw [hse]; simp [hv]))) (fun v hv => by cases hv)
            obtain ⟨g3, g4⟩ := ih _ _ _ _ _ _ _ _ h hl (fun v hv => by
              rcases List.mem_append.mp hv with h5 | h5
              · exact g2 v (by cases r1 with
                  | none => cases h5
                  | some w => have : v = w := by simpa using h5
                              rw [this])
              · exact hst v (by rw [hse]; simp [h5]))
            exact ⟨g1.tr g3, g4⟩
      · cases h
        unfold mstep at hs
        cases hm : mcode m pc with
        | none => rw [hm] at hs; cases hs
        | some y =>
          rw [hm] at hs
          exact ⟨same.rf, fun v hv => by subst hv; exact mex_retV hs⟩
theorem run_frame {C : Nat → Prop} {sh : Shp} (hc : clS C sh) {d m : Nat} {as : List MV} {σ σ' : Mem} {r : Option MV} (h : run sh d m as σ = some (r, σ')) (ha : okS C sh as) : same C σ σ' := by
  obtain ⟨n, hn⟩ := ev_iff.mp h
  exact (evF_frame hc _ _ _ _ _ _ _ _ _ hn (okL.ent ha) (fun v hv => by cases hv)).1
