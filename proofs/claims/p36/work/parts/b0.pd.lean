/-! ===== P: M with rows that are made: the shape grows at its end ===== -/
/-- an id that stands: below N, or one that is read alone -/
def pok (N : Nat) (v : Option MV) : Bool := match v with
  | some (.inr (.inr a)) => decide (a < N) || decide (1000000 ≤ a)
  | _ => true
def pwk (N : Nat) (ls : List (Option MV)) (st : List MV) : Bool := ls.all (pok N) && st.all (fun v => pok N (some v))
/-- shape, memory, slots that came -/
abbrev PS : Type := Shp × Mem × Nat
def pgS (sh : Shp) (kd n : Nat) : Shp := (sh.1 + 1, sh.2.1, fun a => if a = sh.1 then (kd, n, fun _ => 0) else sh.2.2 a)
def pgI (sh : Shp) (σ : Mem) : Mem := (upA σ.1 sh.1 (fun _ => 0), σ.2)
def pgL (sh : Shp) (σ : Mem) : Mem := (σ.1, upA σ.2 sh.1 (fun _ => 0))
def lrem' (x y : Int) : Int := (Int64.ofInt x - Int64.ofInt x / Int64.ofInt y * Int64.ofInt y).toInt
abbrev PR : Type := (Nat × List (Option MV) × List MV × PS) ⊕ ((Nat × List MV × List MV) ⊕ (Option MV))
def pof (S : PS) (x : Option MR) : Option PR := match x with
  | none => none
  | some (.inl (pc', ls', st', σ')) => some (.inl (pc', ls', st', (S.1, σ', S.2.2)))
  | some (.inr x) => some (.inr x)
def pst (d m pc : Nat) (ls : List (Option MV)) (st : List MV) (S : PS) : Option PR := match mcode m pc with
  | none => none
  | some e => match e.1 with
    | .newarray .int => (match st with
      | .inl z :: r => if e.2.1 = 2 ∧ 0 ≤ wi z ∧ wi z ≤ 4096 ∧ S.1.1 < 1000000 ∧ pwk S.1.1 ls r = true then some (.inl (pc + 2, ls, mR S.1.1 :: r, (pgS S.1 0 (wi z).toNat, pgI S.1 S.2.1, S.2.2 + (wi z).toNat))) else none
      | _ => none)
    | .newarray .long => (match st with
      | .inl z :: r => if e.2.1 = 2 ∧ 0 ≤ wi z ∧ wi z ≤ 4096 ∧ S.1.1 < 1000000 ∧ pwk S.1.1 ls r = true then some (.inl (pc + 2, ls, mR S.1.1 :: r, (pgS S.1 3 (wi z).toNat, pgL S.1 S.2.1, S.2.2 + (wi z).toNat))) else none
      | _ => none)
    | .lrem => (match st with
      | .inr (.inl y) :: .inr (.inl x) :: r => if e.2.1 = 1 ∧ ¬ wl y = 0 then some (.inl (pc + 1, ls, mL (lrem' x y) :: r, S)) else none
      | _ => none)
    | .areturn => (match st with
      | [.inr (.inr a)] => if e.2.1 = 1 ∧ pok S.1.1 (some (mR a)) = true ∧ (mRT m = 4 ∨ mRT m = 5) then some (.inr (.inr (some (mR a)))) else none
      | _ => none)
    | _ => pof S (mstep S.1 d m pc ls st S.2.1)
def isL (c : Nat) : Bool := mCI c == 12
def pvF : Nat → Nat → Nat → Nat → List (Option MV) → List MV → PS → Option (Option MV × PS)
  | 0, _, _, _, _, _, _ => none
  | n + 1, d, m, pc, ls, st, S => match pst d m pc ls st S with
    | none => none
    | some (.inl (pc', ls', st', S')) => pvF n d m pc' ls' st' S'
    | some (.inr (.inl (c, args, rest))) => (match d with
      | 0 => none
      | d' + 1 => bif isL c then (if pwk S.1.1 ls (args ++ rest) = true then (match pvF n d' c 0 (ment c args) [] S with
          | none => none
          | some (r, S') => pvF n (d' + 1) m (pc + 3) ls (r.toList ++ rest) S') else none)
        else (match evF S.1 n d' c 0 (ment c args) [] S.2.1 with
          | none => none
          | some (r, σ') => pvF n (d' + 1) m (pc + 3) ls (r.toList ++ rest) (S.1, σ', S.2.2)))
    | some (.inr (.inr r)) => some (r, S)
theorem pvF_up : ∀ (n : Nat) (d m pc : Nat) (ls : List (Option MV)) (st : List MV) (S : PS) (r : Option MV × PS), pvF n d m pc ls st S = some r → pvF (n + 1) d m pc ls st S = some r := by
  intro n
  induction n with
  | zero => intro d m pc ls st S r h; simp [pvF] at h
  | succ n ih =>
    intro d m pc ls st S r h
    rw [pvF] at h ⊢
    cases hs : pst d m pc ls st S with
    | none => rw [hs] at h; simp at h
    | some x =>
      rw [hs] at h
      rcases x with ⟨pc', ls', st', S'⟩ | ⟨c, args, rest⟩ | q
      · exact ih _ _ _ _ _ _ _ h
      · cases d with
        | zero => simp at h
        | succ d' =>
          simp only at h ⊢
          cases hL : isL c with
          | true =>
            rw [hL] at h
            simp only [cond_true] at h ⊢
            by_cases hw : pwk S.1.1 ls (args ++ rest) = true
            · rw [if_pos hw] at h ⊢
              cases hc : pvF n d' c 0 (ment c args) [] S with
              | none => rw [hc] at h; simp at h
              | some y =>
                obtain ⟨r1, S1⟩ := y
                rw [hc] at h
                rw [ih _ _ _ _ _ _ _ hc]
                exact ih _ _ _ _ _ _ _ h
            · rw [if_neg hw] at h; cases h
          | false =>
            rw [hL] at h
            simp only [cond_false] at h ⊢
            cases hc : evF S.1 n d' c 0 (ment c args) [] S.2.1 with
            | none => rw [hc] at h; simp at h
            | some y =>
              obtain ⟨r1, σ1⟩ := y
              rw [hc] at h
              rw [evF_up _ _ _ _ _ _ _ _ _ hc]
              exact ih _ _ _ _ _ _ _ h
      · exact h
theorem pvF_le {n k d m pc : Nat} {ls : List (Option MV)} {st : List MV} {S : PS} {r : Option MV × PS} (hk : n ≤ k) (h : pvF n d m pc ls st S = some r) : pvF k d m pc ls st S = some r := by
  induction hk with
  | refl => exact h
  | step _ ih => exact pvF_up _ _ _ _ _ _ _ _ ih
theorem pvF_det {n k d m pc : Nat} {ls : List (Option MV)} {st : List MV} {S : PS} {r q : Option MV × PS} (h : pvF n d m pc ls st S = some r) (h2 : pvF k d m pc ls st S = some q) : r = q := by
  have a := pvF_le (Nat.le_max_left n k) h
  have b := pvF_le (Nat.le_max_right n k) h2
  exact Option.some.inj (a.symm.trans b)
/-- what P answers from here, and the state behind it; none: it doesn't come to an end -/
noncomputable def pv (d m pc : Nat) (ls : List (Option MV)) (st : List MV) (S : PS) : Option (Option MV × PS) :=
  @dite _ (∃ r, ∃ n, pvF n d m pc ls st S = some r) (Classical.propDecidable _) (fun h => some h.choose) (fun _ => none)
theorem pv_iff {d m pc : Nat} {ls : List (Option MV)} {st : List MV} {S : PS} {r : Option MV × PS} : pv d m pc ls st S = some r ↔ ∃ n, pvF n d m pc ls st S = some r := by
  unfold pv
  by_cases h : ∃ r, ∃ n, pvF n d m pc ls st S = some r
  · rw [dif_pos h]
    obtain ⟨n, hn⟩ := h.choose_spec
    constructor
    · intro e
      rw [← Option.some.inj e]
      exact ⟨n, hn⟩
    · rintro ⟨k, hk⟩
      rw [pvF_det hn hk]
  · rw [dif_neg h]
    constructor
    · intro e; cases e
    · rintro ⟨k, hk⟩
      exact absurd ⟨r, k, hk⟩ h
theorem pv_ext {d m pc : Nat} {ls : List (Option MV)} {st : List MV} {S : PS} {x : Option (Option MV × PS)} (h : ∀ r, (∃ n, pvF n d m pc ls st S = some r) ↔ x = some r) : pv d m pc ls st S = x := by
  cases hx : x with
  | some r => exact pv_iff.mpr ((h r).mpr hx)
  | none =>
    cases he : pv d m pc ls st S with
    | none => rfl
    | some r =>
      have := (h r).mp (pv_iff.mp he)
      rw [hx] at this
      cases this
theorem pv_on {d m pc pc' : Nat} {ls ls' : List (Option MV)} {st st' : List MV} {S S' : PS} (h : pst d m pc ls st S = some (.inl (pc', ls', st', S'))) : pv d m pc ls st S = pv d m pc' ls' st' S' := by
  refine pv_ext fun r => ?_
  rw [pv_iff]
  constructor
  · rintro ⟨n, hn⟩
    cases n with
    | zero => simp [pvF] at hn
    | succ n =>
      rw [pvF, h] at hn
      exact ⟨n, hn⟩
  · rintro ⟨n, hn⟩
    refine ⟨n + 1, ?_⟩
    rw [pvF, h]
    exact hn
theorem pv_stop {d m pc : Nat} {ls : List (Option MV)} {st : List MV} {S : PS} (h : pst d m pc ls st S = none) : pv d m pc ls st S = none := by
  refine pv_ext fun r => ?_
  constructor
  · rintro ⟨n, hn⟩
    cases n with
    | zero => simp [pvF] at hn
    | succ n => rw [pvF, h] at hn; cases hn
  · intro h; cases h
theorem pv_end {d m pc : Nat} {ls : List (Option MV)} {st : List MV} {S : PS} {q : Option MV} (h : pst d m pc ls st S = some (.inr (.inr q))) : pv d m pc ls st S = some (q, S) := by
  refine pv_iff.mpr ⟨1, ?_⟩
  rw [pvF, h]
/-- a method of the law, called with these arguments -/
noncomputable def prun (d c : Nat) (args : List MV) (S : PS) : Option (Option MV × PS) := pv d c 0 (ment c args) [] S
theorem pv_callL {d m pc c : Nat} {ls : List (Option MV)} {st args rest : List MV} {S : PS} (h : pst (d + 1) m pc ls st S = some (.inr (.inl (c, args, rest)))) (hL : isL c = true) (hw : pwk S.1.1 ls (args ++ rest) = true) :
    pv (d + 1) m pc ls st S = (prun d c args S).bind (fun q => pv (d + 1) m (pc + 3) ls (q.1.toList ++ rest) q.2) := by
  refine pv_ext fun r => ?_
  constructor
  · rintro ⟨n, hn⟩
    cases n with
    | zero => simp [pvF] at hn
    | succ n =>
      rw [pvF, h] at hn
      simp only [hL, cond_true, if_pos hw] at hn
      cases hc : pvF n d c 0 (ment c args) [] S with
      | none => rw [hc] at hn; simp at hn
      | some y =>
        obtain ⟨r1, S1⟩ := y
        rw [hc] at hn
        have e1 : prun d c args S = some (r1, S1) := pv_iff.mpr ⟨n, hc⟩
        rw [e1]
        exact pv_iff.mpr ⟨n, hn⟩
  · intro hb
    cases e1 : prun d c args S with
    | none => rw [e1] at hb; cases hb
    | some y =>
      obtain ⟨r1, S1⟩ := y
      rw [e1] at hb
      obtain ⟨k, hk⟩ := pv_iff.mp e1
      obtain ⟨j, hj⟩ := pv_iff.mp (show pv (d + 1) m (pc + 3) ls (r1.toList ++ rest) S1 = some r from hb)
      refine ⟨max k j + 1, ?_⟩
      rw [pvF, h]
      simp only [hL, cond_true, if_pos hw]
      rw [pvF_le (Nat.le_max_left k j) hk]
      exact pvF_le (Nat.le_max_right k j) hj
theorem pv_callM {d m pc c : Nat} {ls : List (Option MV)} {st args rest : List MV} {S : PS} (h : pst (d + 1) m pc ls st S = some (.inr (.inl (c, args, rest)))) (hL : isL c = false) :
    pv (d + 1) m pc ls st S = (run S.1 d c args S.2.1).bind (fun q => pv (d + 1) m (pc + 3) ls (q.1.toList ++ rest) (S.1, q.2, S.2.2)) := by
  refine pv_ext fun r => ?_
  constructor
  · rintro ⟨n, hn⟩
    cases n with
    | zero => simp [pvF] at hn
    | succ n =>
      rw [pvF, h] at hn
      simp only [hL, cond_false] at hn
      cases hc : evF S.1 n d c 0 (ment c args) [] S.2.1 with
      | none => rw [hc] at hn; simp at hn
      | some y =>
        obtain ⟨r1, σ1⟩ := y
        rw [hc] at hn
        have e1 : run S.1 d c args S.2.1 = some (r1, σ1) := ev_iff.mpr ⟨n, hc⟩
        rw [e1]
        exact pv_iff.mpr ⟨n, hn⟩
  · intro hb
    cases e1 : run S.1 d c args S.2.1 with
    | none => rw [e1] at hb; cases hb
    | some y =>
      obtain ⟨r1, σ1⟩ := y
      rw [e1] at hb
      obtain ⟨k, hk⟩ := ev_iff.mp e1
      obtain ⟨j, hj⟩ := pv_iff.mp (show pv (d + 1) m (pc + 3) ls (r1.toList ++ rest) (S.1, σ1, S.2.2) = some r from hb)
      refine ⟨max k j + 1, ?_⟩
      rw [pvF, h]
      simp only [hL, cond_false]
      rw [evF_le (Nat.le_max_left k j) hk]
      exact pvF_le (Nat.le_max_right k j) hj
/-- an instruction that M knows -/
def plI (i : Instr) : Bool := match i with
  | .newarray _ => false
  | .lrem => false
  | .areturn => false
  | _ => true
theorem pst_pl {d m pc : Nat} {ls : List (Option MV)} {st : List MV} {S : PS} {e : Instr × Nat × Nat × Nat} (h : mcode m pc = some e) (hp : plI e.1 = true) : pst d m pc ls st S = pof S (mstep S.1 d m pc ls st S.2.1) := by
  obtain ⟨i, len, x1, x2⟩ := e
  unfold pst
  rw [h]
  cases i <;> first | rfl | cases hp
theorem pv_next {sh : Shp} {d m pc pc' k : Nat} {ls ls' : List (Option MV)} {st st' : List MV} {σ σ' : Mem} {e : Instr × Nat × Nat × Nat} (h : mcode m pc = some e) (hp : plI e.1 = true) (hm : mstep sh d m pc ls st σ = mnx pc' ls' st' σ') : pv d m pc ls st (sh, σ, k) = pv d m pc' ls' st' (sh, σ', k) :=
  pv_on (by rw [pst_pl h hp]; show pof (sh, σ, k) (mstep sh d m pc ls st σ) = _; rw [hm]; rfl)
theorem pv_stuck {sh : Shp} {d m pc k : Nat} {ls : List (Option MV)} {st : List MV} {σ : Mem} {e : Instr × Nat × Nat × Nat} (h : mcode m pc = some e) (hp : plI e.1 = true) (hm : mstep sh d m pc ls st σ = none) : pv d m pc ls st (sh, σ, k) = none :=
  pv_stop (by rw [pst_pl h hp]; show pof (sh, σ, k) (mstep sh d m pc ls st σ) = _; rw [hm]; rfl)
theorem pv_done {sh : Shp} {d m pc k : Nat} {ls : List (Option MV)} {st : List MV} {σ : Mem} {q : Option MV} {e : Instr × Nat × Nat × Nat} (h : mcode m pc = some e) (hp : plI e.1 = true) (hm : mstep sh d m pc ls st σ = some (.inr (.inr q))) : pv d m pc ls st (sh, σ, k) = some (q, (sh, σ, k)) :=
  pv_end (by rw [pst_pl h hp]; show pof (sh, σ, k) (mstep sh d m pc ls st σ) = _; rw [hm]; rfl)
