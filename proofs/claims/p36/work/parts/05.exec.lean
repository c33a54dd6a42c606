/-! ===== M goes a step; M's evaluator ===== -/
def ments (args : List MV) : List (Option MV) := args.flatMap (fun v => match v with
  | .inr (.inl x) => [some (.inr (.inl x)), none]
  | v => [some v])
def ment (m : Nat) (args : List MV) : List (Option MV) := ments args ++ List.replicate (mML m - (ments args).length) none
/-- the words of a stack -/
def mcs : List MV → Nat
  | [] => 0
  | .inr (.inl _) :: l => 2 + mcs l
  | _ :: l => 1 + mcs l
def mcall (x1 : Nat) (st : List MV) : Option MR :=
  if mNA x1 ≤ st.length ∧ (ments (st.take (mNA x1)).reverse).length ≤ mML x1 ∧ mcs (st.drop (mNA x1)) ≤ 8 then some (.inr (.inl (x1, (st.take (mNA x1)).reverse, st.drop (mNA x1)))) else none
/-- the first argument is an object of the callee's class -/
def mrcv (sh : Shp) (x1 : Nat) (st : List MV) : Bool := match (st.take (mNA x1)).reverse with
  | .inr (.inr a) :: _ => decide (skd sh a = 5 + mCI x1) && decide (a < sh.1)
  | _ => false
def mald (sh : Shp) (kd : Nat) (pc : Nat) (ls : List (Option MV)) (st : List MV) (σ : Mem) (f : Nat → Nat → MV) : Option MR := match st with
  | .inl i :: .inr (.inr a) :: r => if skd sh a = kd ∧ 0 ≤ wi i ∧ wi i < sln sh a then mnx pc ls (f a (wi i).toNat :: r) σ else none
  | _ => none
def mast (sh : Shp) (kd : Nat) (pc : Nat) (ls : List (Option MV)) (st : List MV) (σ : Mem) (f : Int → Int) : Option MR := match st with
  | .inl v :: .inl i :: .inr (.inr a) :: r => if skd sh a = kd ∧ a < sh.1 ∧ 0 ≤ wi i ∧ wi i < sln sh a then mnx pc ls r (upA σ.1 a (up1 (σ.1 a) (wi i).toNat (f v)), σ.2) else none
  | _ => none
def mex (sh : Shp) (d rt pc : Nat) (ls : List (Option MV)) (st : List MV) (σ : Mem) (i : Instr) (len x1 x2 : Nat) : Option MR := match i with
  | .aload_n k => if len = 1 then mldR ls k.val (pc + 1) st σ else none
  | .aload k => if len = 2 then mldR ls k (pc + 2) st σ else none
  | .iload_n k => if len = 1 then mldI ls k.val (pc + 1) st σ else none
  | .iload k => if len = 2 then mldI ls k (pc + 2) st σ else none
  | .lload_n k => if len = 1 then mldL ls k.val (pc + 1) st σ else none
  | .lload k => if len = 2 then mldL ls k (pc + 2) st σ else none
  | .istore_n k => if len = 1 then mstI ls k.val (pc + 1) st σ else none
  | .istore k => if len = 2 then mstI ls k (pc + 2) st σ else none
  | .lstore_n k => if len = 1 then mstL ls k.val (pc + 1) st σ else none
  | .lstore k => if len = 2 then mstL ls k (pc + 2) st σ else none
  | .astore_n k => if len = 1 then mstR ls k.val (pc + 1) st σ else none
  | .astore k => if len = 2 then mstR ls k (pc + 2) st σ else none
  | .iconst z => if len = 1 then mnx (pc + 1) ls (mI z :: st) σ else none
  | .bipush z => if len = 2 ∧ (Int8.ofInt z).toInt = z then mnx (pc + 2) ls (mI z :: st) σ else none
  | .sipush z => if len = 3 ∧ (Int16.ofInt z).toInt = z then mnx (pc + 3) ls (mI z :: st) σ else none
  | .lconst z => if len = 1 then mnx (pc + 1) ls (mL (z.val : Int) :: st) σ else none
  | .ldc _ => if len = 2 ∧ x2 = 0 then mnx (pc + 2) ls (mI (kcs.getD x1 0) :: st) σ else if len = 2 ∧ x2 = 1 ∧ sh.2.1 = 2 then mnx (pc + 2) ls (mR (1000000 + sh.2.1) :: st) σ else none
  | .ldc_w _ => if len = 3 ∧ x2 = 0 then mnx (pc + 3) ls (mI (kcs.getD x1 0) :: st) σ else none
  | .ldc2_w _ => if len = 3 then mnx (pc + 3) ls (mL (lcs.getD x1 0) :: st) σ else none
  | .iadd => if len = 1 then mb2 (pc + 1) ls st σ (fun x y => x + y) else none
  | .isub => if len = 1 then mb2 (pc + 1) ls st σ (fun x y => x - y) else none
  | .imul => if len = 1 then mb2 (pc + 1) ls st σ (fun x y => x * y) else none
  | .iand => if len = 1 then mb2 (pc + 1) ls st σ xand else none
  | .ior => if len = 1 then mb2 (pc + 1) ls st σ xor' else none
  | .ixor => if len = 1 then mb2 (pc + 1) ls st σ xxor else none
  | .ishl => if len = 1 then mb2 (pc + 1) ls st σ xshl else none
  | .ishr => if len = 1 then mb2 (pc + 1) ls st σ xshr else none
  | .iushr => if len = 1 then mb2 (pc + 1) ls st σ xushr else none
  | .idiv => (match st with
    | .inl y :: .inl x :: r => if len = 1 ∧ ¬ wi y = 0 then mnx (pc + 1) ls (mI (xdiv x y) :: r) σ else none
    | _ => none)
  | .irem => (match st with
    | .inl y :: .inl x :: r => if len = 1 ∧ ¬ wi y = 0 then mnx (pc + 1) ls (mI (xrem x y) :: r) σ else none
    | _ => none)
  | .ladd => if len = 1 then ml2 (pc + 1) ls st σ (fun x y => x + y) else none
  | .lsub => if len = 1 then ml2 (pc + 1) ls st σ (fun x y => x - y) else none
  | .lmul => if len = 1 then ml2 (pc + 1) ls st σ (fun x y => x * y) else none
  | .land => if len = 1 then ml2 (pc + 1) ls st σ land' else none
  | .lor => if len = 1 then ml2 (pc + 1) ls st σ lor' else none
  | .lshl => if len = 1 then mls (pc + 1) ls st σ lshl' else none
  | .lushr => if len = 1 then mls (pc + 1) ls st σ lushr' else none
  | .ldiv => (match st with
    | .inr (.inl y) :: .inr (.inl x) :: r => if len = 1 ∧ ¬ wl y = 0 then mnx (pc + 1) ls (mL (ldiv' x y) :: r) σ else none
    | _ => none)
  | .lcmp => (match st with
    | .inr (.inl y) :: .inr (.inl x) :: r => if len = 1 then mnx (pc + 1) ls (mI (lcmp' x y) :: r) σ else none
    | _ => none)
  | .lneg => if len = 1 then m1L (pc + 1) ls st σ (fun x => mL (-x)) else none
  | .i2l => if len = 1 then m1I (pc + 1) ls st σ (fun x => mL (wi x)) else none
  | .l2i => if len = 1 then m1L (pc + 1) ls st σ (fun x => mI x) else none
  | .i2b => if len = 1 then m1I (pc + 1) ls st σ (fun x => mI (xi2b x)) else none
  | .i2c => if len = 1 then m1I (pc + 1) ls st σ (fun x => mI (xi2c x)) else none
  | .iinc k z => (match ls[k]? with
    | some (some (.inl x)) => if len = 3 then mnx (pc + 3) (lpt ls k (.inl (x + z))) st σ else none
    | _ => none)
  | .dup => (match st with
    | .inl x :: r => if len = 1 then mnx (pc + 1) ls (.inl x :: .inl x :: r) σ else none
    | .inr (.inr x) :: r => if len = 1 then mnx (pc + 1) ls (.inr (.inr x) :: .inr (.inr x) :: r) σ else none
    | _ => none)
  | .dup2 => (match st with
    | .inl x :: .inr (.inr y) :: r => if len = 1 then mnx (pc + 1) ls (.inl x :: .inr (.inr y) :: .inl x :: .inr (.inr y) :: r) σ else none
    | _ => none)
  | .pop => (match st with
    | .inl _ :: r => if len = 1 then mnx (pc + 1) ls r σ else none
    | _ => none)
  | .goto off => if len = 3 ∧ (pc : Int) + off = (x1 : Int) then mnx x1 ls st σ else none
  | .ifCond c off => (match st with
    | .inl x :: r => if len = 3 then mif c off pc x1 ls r σ (wi x) 0 else none
    | _ => none)
  | .if_icmp c off => (match st with
    | .inl y :: .inl x :: r => if len = 3 then mif c off pc x1 ls r σ (wi x) (wi y) else none
    | _ => none)
  | .iaload => if len = 1 then mald sh 0 (pc + 1) ls st σ (fun a i => mI (σ.1 a i)) else none
  | .laload => if len = 1 then mald sh 3 (pc + 1) ls st σ (fun a i => mL (σ.2 a i)) else none
  | .aaload => if len = 1 then mald sh 4 (pc + 1) ls st σ (fun a i => mR (srf sh a i)) else none
  | .baload => (match st with
    | .inl i :: .inr (.inr a) :: r => if skd sh a = 2 then (if len = 1 then mald sh 2 (pc + 1) ls st σ (fun a i => mI (σ.1 a i)) else none) else (if len = 1 then mald sh 1 (pc + 1) ls st σ (fun a i => mI (σ.1 a i)) else none)
    | _ => none)
  | .iastore => if len = 1 then mast sh 0 (pc + 1) ls st σ (fun v => v) else none
  | .bastore => (match st with
    | .inl v :: .inl i :: .inr (.inr a) :: r => if skd sh a = 2 then (if len = 1 ∧ (v = 0 ∨ v = 1) then mast sh 2 (pc + 1) ls st σ (fun v => v) else none) else (if len = 1 then mast sh 1 (pc + 1) ls st σ xi2b else none)
    | _ => none)
  | .lastore => (match st with
    | .inr (.inl v) :: .inl i :: .inr (.inr a) :: r => if len = 1 ∧ skd sh a = 3 ∧ a < sh.1 ∧ 0 ≤ wi i ∧ wi i < sln sh a then mnx (pc + 1) ls r (σ.1, upA σ.2 a (up1 (σ.2 a) (wi i).toNat v)) else none
    | _ => none)
  | .arraylength => (match st with
    | .inr (.inr a) :: r => if len = 1 ∧ skd sh a < 5 then mnx (pc + 1) ls (mI (sln sh a : Int) :: r) σ else none
    | _ => none)
  | .getfield _ => (match st with
    | .inr (.inr a) :: r => if len = 3 ∧ skd sh a = 5 + x1 ∧ x2 < sln sh a ∧ a < sh.1 then mnx (pc + 3) ls ((bif frf x1 x2 then mR (srf sh a x2) else mI (σ.1 a x2)) :: r) σ else none
    | _ => none)
  | .putfield _ => (match st with
    | .inl v :: .inr (.inr a) :: r => if len = 3 ∧ skd sh a = 5 + x1 ∧ x2 < sln sh a ∧ a < sh.1 ∧ frf x1 x2 = false ∧ (fbl x1 x2 = true → v = 0 ∨ v = 1) then mnx (pc + 3) ls r (upA σ.1 a (up1 (σ.1 a) x2 v), σ.2) else none
    | _ => none)
  | .getstatic _ => if len = 3 ∧ x1 = 1 ∧ sh.2.1 = 2 then mnx (pc + 3) ls (mR 1000000 :: st) σ else none
  | .invokevirtual _ => if len = 3 ∧ x2 = 0 ∧ mST x1 = 0 ∧ mrcv sh x1 st = true then mcall x1 st
    else if len = 3 ∧ x2 = 2 ∧ 6 ≤ d ∧ sh.2.1 = 2 then (match st with
      | .inl z :: .inr (.inr a) :: r => if a = 1000000 + sh.2.1 ∧ mcs r ≤ 8 then mnx (pc + 3) ls (mI (if wi z = 114 then 0 else if wi z = 104 then 1 else if wi z = 120 then 2 else if wi z = 99 then 3 else if wi z = 100 then 4 else if wi z = 119 then 5 else -1) :: r) σ else none
      | _ => none)
    else none
  | .invokestatic _ => if len = 3 ∧ (x2 = 0 ∨ x2 = 3) ∧ mST x1 = 1 then mcall x1 st
    else if len = 3 ∧ x2 = 1 ∧ 1 ≤ d then (match st with
      | .inl n :: .inl dp :: .inr (.inr b) :: .inl sp :: .inr (.inr a) :: r =>
        if mcs r ≤ 8 ∧ skd sh a = 0 ∧ skd sh b = 0 ∧ a < sh.1 ∧ b < sh.1 ∧ 0 ≤ wi sp ∧ 0 ≤ wi dp ∧ 0 ≤ wi n ∧ wi sp + wi n ≤ sln sh a ∧ wi dp + wi n ≤ sln sh b then
          mnx (pc + 3) ls r (upA σ.1 b (fun j => if (wi dp).toNat ≤ j ∧ j < (wi dp).toNat + (wi n).toNat then σ.1 a ((wi sp).toNat + (j - (wi dp).toNat)) else σ.1 b j), σ.2) else none
      | _ => none)
    else if len = 3 ∧ x2 = 4 ∧ 1 ≤ d then (match st with
      | .inl y :: .inl x :: r => if mcs r ≤ 8 then mnx (pc + 3) ls (.inl (mmx x y) :: r) σ else none
      | _ => none)
    else if len = 3 ∧ x2 = 5 ∧ 1 ≤ d then (match st with
      | .inl y :: .inl x :: r => if mcs r ≤ 8 then mnx (pc + 3) ls (.inl (mmn x y) :: r) σ else none
      | _ => none)
    else none
  | .tableswitch df lo hi offs => (match st with
    | .inl x :: r => if wi x < lo ∨ hi < wi x then (if 0 ≤ (pc : Int) + df then mnx ((pc : Int) + df).toNat ls r σ else none)
      else (match offs[(wi x - lo).toNat]? with
        | some off => if 0 ≤ (pc : Int) + off then mnx ((pc : Int) + off).toNat ls r σ else none
        | none => none)
    | _ => none)
  | .ireturn => (match st with
    | [.inl v] => if len = 1 ∧ (rt = 1 ∨ (rt = 2 ∧ (v = 0 ∨ v = 1))) then some (.inr (.inr (some (mI v)))) else none
    | _ => none)
  | .lreturn => (match st with
    | [.inr (.inl v)] => if len = 1 ∧ rt = 3 then some (.inr (.inr (some (mL v)))) else none
    | _ => none)
  | .return_ => (match st with
    | [] => if len = 1 ∧ rt = 0 then some (.inr (.inr none)) else none
    | _ => none)
  | _ => none
def mstep (sh : Shp) (d m pc : Nat) (ls : List (Option MV)) (st : List MV) (σ : Mem) : Option MR := match mcode m pc with
  | some e => mex sh d (mRT m) pc ls st σ e.1 e.2.1 e.2.2.1 e.2.2.2
  | none => none
def evF (sh : Shp) : Nat → Nat → Nat → Nat → List (Option MV) → List MV → Mem → Option (Option MV × Mem)
  | 0, _, _, _, _, _, _ => none
  | n + 1, d, m, pc, ls, st, σ => match mstep sh d m pc ls st σ with
    | none => none
    | some (.inl (pc', ls', st', σ')) => evF sh n d m pc' ls' st' σ'
    | some (.inr (.inl (c, args, rest))) => (match d with
      | 0 => none
      | d' + 1 => match evF sh n d' c 0 (ment c args) [] σ with
        | none => none
        | some (r, σ') => evF sh n (d' + 1) m (pc + 3) ls (r.toList ++ rest) σ')
    | some (.inr (.inr r)) => some (r, σ)
theorem evF_up (sh : Shp) : ∀ (n : Nat) (d m pc : Nat) (ls : List (Option MV)) (st : List MV) (σ : Mem) (r : Option MV × Mem), evF sh n d m pc ls st σ = some r → evF sh (n + 1) d m pc ls st σ = some r := by
  intro n
  induction n with
  | zero => intro d m pc ls st σ r h; simp [evF] at h
  | succ n ih =>
    intro d m pc ls st σ r h
    rw [evF] at h ⊢
    cases hs : mstep sh d m pc ls st σ with
    | none => rw [hs] at h; simp at h
    | some x =>
      rw [hs] at h
      rcases x with ⟨pc', ls', st', σ'⟩ | ⟨c, args, rest⟩ | q
      · exact ih _ _ _ _ _ _ _ h
      · cases d with
        | zero => simp at h
        | succ d' =>
          simp only at h ⊢
          cases hc : evF sh n d' c 0 (ment c args) [] σ with
          | none => rw [hc] at h; simp at h
          | some y =>
            obtain ⟨r1, σ1⟩ := y
            rw [hc] at h
            rw [ih _ _ _ _ _ _ _ hc]
            exact ih _ _ _ _ _ _ _ h
      · exact h
theorem evF_le {sh : Shp} {n k d m pc : Nat} {ls : List (Option MV)} {st : List MV} {σ : Mem} {r : Option MV × Mem} (hk : n ≤ k) (h : evF sh n d m pc ls st σ = some r) : evF sh k d m pc ls st σ = some r := by
  induction hk with
  | refl => exact h
  | step _ ih => exact evF_up sh _ _ _ _ _ _ _ _ ih
theorem evF_det {sh : Shp} {n k d m pc : Nat} {ls : List (Option MV)} {st : List MV} {σ : Mem} {r q : Option MV × Mem} (h : evF sh n d m pc ls st σ = some r) (h2 : evF sh k d m pc ls st σ = some q) : r = q := by
  have a := evF_le (Nat.le_max_left n k) h
  have b := evF_le (Nat.le_max_right n k) h2
  exact Option.some.inj (a.symm.trans b)
/-- what M answers from here, and the world behind it; none: it doesn't come to an end -/
noncomputable def ev (sh : Shp) (d m pc : Nat) (ls : List (Option MV)) (st : List MV) (σ : Mem) : Option (Option MV × Mem) :=
  @dite _ (∃ r, ∃ n, evF sh n d m pc ls st σ = some r) (Classical.propDecidable _) (fun h => some h.choose) (fun _ => none)
theorem ev_iff {sh : Shp} {d m pc : Nat} {ls : List (Option MV)} {st : List MV} {σ : Mem} {r : Option MV × Mem} : ev sh d m pc ls st σ = some r ↔ ∃ n, evF sh n d m pc ls st σ = some r := by
  unfold ev
  by_cases h : ∃ r, ∃ n, evF sh n d m pc ls st σ = some r
  · rw [dif_pos h]
    obtain ⟨n, hn⟩ := h.choose_spec
    constructor
    · intro e
      rw [← Option.some.inj e]
      exact ⟨n, hn⟩
    · rintro ⟨k, hk⟩
      rw [evF_det hn hk]
  · rw [dif_neg h]
    constructor
    · intro e; cases e
    · rintro ⟨k, hk⟩
      exact absurd ⟨r, k, hk⟩ h
theorem ev_ext {sh : Shp} {d m pc : Nat} {ls : List (Option MV)} {st : List MV} {σ : Mem} {x : Option (Option MV × Mem)} (h : ∀ r, (∃ n, evF sh n d m pc ls st σ = some r) ↔ x = some r) : ev sh d m pc ls st σ = x := by
  cases hx : x with
  | some r => exact ev_iff.mpr ((h r).mpr hx)
  | none =>
    cases he : ev sh d m pc ls st σ with
    | none => rfl
    | some r =>
      have := (h r).mp (ev_iff.mp he)
      rw [hx] at this
      cases this
theorem ev_next {sh : Shp} {d m pc pc' : Nat} {ls ls' : List (Option MV)} {st st' : List MV} {σ σ' : Mem} (h : mstep sh d m pc ls st σ = mnx pc' ls' st' σ') : ev sh d m pc ls st σ = ev sh d m pc' ls' st' σ' := by
  refine ev_ext fun r => ?_
  rw [ev_iff]
  constructor
  · rintro ⟨n, hn⟩
    cases n with
    | zero => simp [evF] at hn
    | succ n =>
      rw [evF, h] at hn
      exact ⟨n, hn⟩
  · rintro ⟨n, hn⟩
    refine ⟨n + 1, ?_⟩
    rw [evF, h]
    exact hn
theorem ev_done {sh : Shp} {d m pc : Nat} {ls : List (Option MV)} {st : List MV} {σ : Mem} {q : Option MV} (h : mstep sh d m pc ls st σ = some (.inr (.inr q))) : ev sh d m pc ls st σ = some (q, σ) := by
  refine ev_iff.mpr ⟨1, ?_⟩
  rw [evF, h]
/-- a method of the system, called with these arguments -/
noncomputable def run (sh : Shp) (d c : Nat) (args : List MV) (σ : Mem) : Option (Option MV × Mem) := ev sh d c 0 (ment c args) [] σ
theorem ev_call {sh : Shp} {d m pc c : Nat} {ls : List (Option MV)} {st args rest : List MV} {σ : Mem} (h : mstep sh (d + 1) m pc ls st σ = some (.inr (.inl (c, args, rest)))) :
    ev sh (d + 1) m pc ls st σ = (run sh d c args σ).bind (fun q => ev sh (d + 1) m (pc + 3) ls (q.1.toList ++ rest) q.2) := by
  refine ev_ext fun r => ?_
  constructor
  · rintro ⟨n, hn⟩
    cases n with
    | zero => simp [evF] at hn
    | succ n =>
      rw [evF, h] at hn
      simp only at hn
      cases hc : evF sh n d c 0 (ment c args) [] σ with
      | none => rw [hc] at hn; simp at hn
      | some y =>
        obtain ⟨r1, σ1⟩ := y
        rw [hc] at hn
        have e1 : run sh d c args σ = some (r1, σ1) := ev_iff.mpr ⟨n, hc⟩
        rw [e1]
        exact ev_iff.mpr ⟨n, hn⟩
  · intro hb
    cases e1 : run sh d c args σ with
    | none => rw [e1] at hb; cases hb
    | some y =>
      obtain ⟨r1, σ1⟩ := y
      rw [e1] at hb
      obtain ⟨k, hk⟩ := ev_iff.mp e1
      obtain ⟨j, hj⟩ := ev_iff.mp (show ev sh (d + 1) m (pc + 3) ls (r1.toList ++ rest) σ1 = some r from hb)
      refine ⟨max k j + 1, ?_⟩
      rw [evF, h]
      simp only
      rw [evF_le (Nat.le_max_left k j) hk]
      exact evF_le (Nat.le_max_right k j) hj
