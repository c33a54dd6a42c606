/-! ===== the text of gates, and that it is read as it is told ===== -/
def ltr (k : Nat) : Nat := if k = 0 then 114 else if k = 1 then 104 else if k = 2 then 120 else if k = 3 then 99 else if k = 4 then 100 else 119
def gt1 (q : Gt) : List Nat := if q.1 = 0 then [114, 48 + q.2.2.toNat, 44, 48 + q.2.1] else if q.1 < 3 then [ltr q.1, 48 + q.2.1] else [ltr q.1, 48 + q.2.1, 44, 48 + q.2.2.toNat]
def TT : List Gt → List Nat
  | [] => []
  | [q] => gt1 q
  | q :: r :: c => gt1 q ++ 59 :: TT (r :: c)
theorem TT_app : ∀ (c : List Gt) (q : Gt), TT (c ++ [q]) = TT c ++ ((if c = [] then [] else [59]) ++ gt1 q)
  | [], q => rfl
  | [r], q => by
    rw [if_neg (by simp)]
    show gt1 r ++ 59 :: gt1 q = gt1 r ++ ([59] ++ gt1 q)
    rfl
  | r :: r2 :: c, q => by
    have ih := TT_app (r2 :: c) q
    rw [if_neg (by simp)] at ih ⊢
    show gt1 r ++ 59 :: TT ((r2 :: c) ++ [q]) = (gt1 r ++ 59 :: TT (r2 :: c)) ++ ([59] ++ gt1 q)
    rw [ih]
    simp
theorem gt1_l (q : Gt) : (gt1 q).length ≤ 4 ∧ 1 ≤ (gt1 q).length := by
  unfold gt1
  split
  · simp
  · split <;> simp
theorem ltr_b (k : Nat) : ltr k < 128 := by
  unfold ltr
  repeat' split
  all_goals omega
theorem gt1_b {n : Nat} {q : Gt} (h : vG n q) (n4 : n ≤ 4) : ∀ x ∈ gt1 q, x < 128 := by
  obtain ⟨h1, h2, h3, h4, h5⟩ := h
  have hl := ltr_b q.1
  intro x hx
  unfold gt1 at hx
  split at hx
  · have := h3 (by assumption)
    simp only [List.mem_cons, List.not_mem_nil, or_false] at hx
    omega
  · split at hx
    · simp only [List.mem_cons, List.not_mem_nil, or_false] at hx
      omega
    · have := h5 (by omega)
      simp only [List.mem_cons, List.not_mem_nil, or_false] at hx
      omega
theorem TT_b {n : Nat} (n4 : n ≤ 4) : ∀ c : List Gt, okC n c → ∀ x ∈ TT c, x < 128
  | [], _, x, hx => by simp [TT] at hx
  | [q], h, x, hx => gt1_b (h q (List.mem_singleton.mpr rfl)) n4 x hx
  | q :: r :: c, h, x, hx => by
    have hx : x ∈ gt1 q ++ 59 :: TT (r :: c) := hx
    rcases List.mem_append.mp hx with h1 | h1
    · exact gt1_b (h q List.mem_cons_self) n4 x h1
    · rcases List.mem_cons.mp h1 with h2 | h2
      · omega
      · exact TT_b n4 (r :: c) (fun y hy => h y (List.mem_cons_of_mem _ hy)) x h2
theorem getD_b {L : List Nat} (h : ∀ x ∈ L, x < 128) (j : Nat) : L.getD j 0 < 128 := by
  rw [List.getD_eq_getElem?_getD]
  cases e : L[j]? with
  | none => show 0 < 128; omega
  | some x => exact h x (List.mem_of_getElem? e)
/-- from i on the bytes are these -/
def txB (B : Nat → Nat) (i : Nat) (L : List Nat) : Prop := ∀ j, j < L.length → B (i + j) = L.getD j 0
theorem txB.l {B : Nat → Nat} {i : Nat} {L M : List Nat} (h : txB B i (L ++ M)) : txB B i L := by
  intro j hj
  rw [h j (by rw [List.length_append]; omega), List.getD_eq_getElem?_getD, List.getD_eq_getElem?_getD, List.getElem?_append_left hj]
theorem txB.r {B : Nat → Nat} {i : Nat} {L M : List Nat} (h : txB B i (L ++ M)) : txB B (i + L.length) M := by
  intro j hj
  have := h (L.length + j) (by rw [List.length_append]; omega)
  rw [← Nat.add_assoc] at this
  rw [this, List.getD_eq_getElem?_getD, List.getD_eq_getElem?_getD, List.getElem?_append_right (Nat.le_add_right _ _), Nat.add_sub_cancel_left]
theorem rdD_t {B : Nat → Nat} {s i v : Nat} {bd : Int} (hi : i < s) (hb : B i = 48 + v) (h10 : v < 10) (hbd : (v : Int) < bd) : rdD B s i 0 bd = (v : Int) := by
  have e : byB B s i = ((48 + v : Nat) : Int) := by unfold byB; rw [if_pos hi, hb]
  unfold rdD
  rw [e, if_neg (by omega), if_pos (by omega)]
  omega
theorem rdG_t {B : Nat → Nat} {s n i : Nat} {q : Gt} (hq : vG n q) (n4 : n ≤ 4) (hs : i + (gt1 q).length ≤ s) (hB : txB B i (gt1 q)) : rdG B s n i = (((i + (gt1 q).length : Nat) : Int), q) := by
  obtain ⟨h1, h2, h3, h4, h5⟩ := hq
  obtain ⟨k, a, b⟩ := q
  simp only at h1 h2 h3 h4 h5
  have key : ∀ (k' : Nat) (z : Int), k' < 3 → k' ≠ 0 → kdB z = (k' : Int) → byB B s i = z → k = k' → (gt1 (k, a, b)).length = 2 → B (i + 1) = 48 + a → i + 1 < s → rdG B s n i = (((i + 2 : Nat) : Int), (k, a, b)) := by
    intro k' z h3' h0' hz hb hk hl hb1 hs1
    have d1 := rdD_t (bd := (n : Int)) hs1 hb1 (by omega) (by omega)
    unfold rdG
    rw [hb, hz, if_neg (by omega), if_neg (show ¬ (k' : Int) = 0 by omega), d1, if_neg (by omega), if_pos (by omega), Int.toNat_natCast, Int.toNat_natCast, h4 (by omega), hk]
  have key3 : ∀ (k' : Nat) (z : Int), 3 ≤ k' → kdB z = (k' : Int) → byB B s i = z → k = k' → B (i + 1) = 48 + a → B (i + 2) = 44 → B (i + 3) = 48 + b.toNat → i + 3 < s → rdG B s n i = (((i + 4 : Nat) : Int), (k, a, b)) := by
    intro k' z h3' hz hb hk hb1 hb2 hb3 hs3
    have hbb := h5 (by omega)
    obtain ⟨b', rfl⟩ : ∃ b' : Nat, b = (b' : Int) := ⟨b.toNat, by omega⟩
    rw [Int.toNat_natCast] at hb3
    have d1 := rdD_t (bd := (n : Int)) (show i + 1 < s by omega) hb1 (by omega) (by omega)
    have d3 := rdD_t (bd := (n : Int)) hs3 hb3 (by omega) (by omega)
    have e2 : byB B s (i + 2) = 44 := by unfold byB; rw [if_pos (by omega), hb2]; rfl
    unfold rdG
    rw [hb, hz, if_neg (by omega), if_neg (show ¬ (k' : Int) = 0 by omega), d1, if_neg (by omega), if_neg (by omega), e2, if_neg (by omega), d3, if_neg (by omega), if_neg (by omega), if_neg (by omega), Int.toNat_natCast, Int.toNat_natCast, hk]
  have b0 : i < s → ∀ z : Nat, B i = z → byB B s i = (z : Int) := fun h z hz => by unfold byB; rw [if_pos h, hz]
  rcases (show k = 0 ∨ k = 1 ∨ k = 2 ∨ k = 3 ∨ k = 4 ∨ k = 5 by omega) with e | e | e | e | e | e
  · subst e
    have hbb := h3 rfl
    obtain ⟨b', rfl⟩ : ∃ b' : Nat, b = (b' : Int) := ⟨b.toNat, by omega⟩
    have eg : gt1 ((0, a, (b' : Int)) : Gt) = [114, 48 + b', 44, 48 + a] := rfl
    rw [eg] at hs hB ⊢
    replace hs : i + 4 ≤ s := hs
    have g0 : B i = 114 := hB 0 (by show 0 < 4; omega)
    have g1 : B (i + 1) = 48 + b' := hB 1 (by show 1 < 4; omega)
    have g2 : B (i + 2) = 44 := hB 2 (by show 2 < 4; omega)
    have g3 : B (i + 3) = 48 + a := hB 3 (by show 3 < 4; omega)
    have d1 := rdD_t (bd := 8) (show i + 1 < s by omega) g1 (by omega) (by omega)
    have d3 := rdD_t (bd := (n : Int)) (show i + 3 < s by omega) g3 (by omega) (by omega)
    have e0 := b0 (by omega) _ g0
    have e2 : byB B s (i + 2) = 44 := by unfold byB; rw [if_pos (by omega), g2]; rfl
    have hz : kdB ((114 : Nat) : Int) = 0 := rfl
    show _ = (((i + 4 : Nat) : Int), _)
    unfold rdG
    rw [e0, hz, if_neg (by omega), if_pos rfl, d1, if_neg (by omega), if_neg (by omega), e2, if_neg (by omega), d3, if_neg (by omega), if_pos rfl, Int.toNat_natCast]
  · subst e
    have eg : gt1 ((1, a, b) : Gt) = [104, 48 + a] := rfl
    rw [eg] at hs hB ⊢
    replace hs : i + 2 ≤ s := hs
    exact key 1 104 (by omega) (by omega) rfl (b0 (by omega) _ (hB 0 (by show 0 < 2; omega))) rfl (by rw [eg]; rfl) (hB 1 (by show 1 < 2; omega)) (by omega)
  · subst e
    have eg : gt1 ((2, a, b) : Gt) = [120, 48 + a] := rfl
    rw [eg] at hs hB ⊢
    replace hs : i + 2 ≤ s := hs
    exact key 2 120 (by omega) (by omega) rfl (b0 (by omega) _ (hB 0 (by show 0 < 2; omega))) rfl (by rw [eg]; rfl) (hB 1 (by show 1 < 2; omega)) (by omega)
  · subst e
    have eg : gt1 ((3, a, b) : Gt) = [99, 48 + a, 44, 48 + b.toNat] := rfl
    rw [eg] at hs hB ⊢
    replace hs : i + 4 ≤ s := hs
    exact key3 3 99 (by omega) rfl (b0 (by omega) _ (hB 0 (by show 0 < 4; omega))) rfl (hB 1 (by show 1 < 4; omega)) (hB 2 (by show 2 < 4; omega)) (hB 3 (by show 3 < 4; omega)) (by omega)
  · subst e
    have eg : gt1 ((4, a, b) : Gt) = [100, 48 + a, 44, 48 + b.toNat] := rfl
    rw [eg] at hs hB ⊢
    replace hs : i + 4 ≤ s := hs
    exact key3 4 100 (by omega) rfl (b0 (by omega) _ (hB 0 (by show 0 < 4; omega))) rfl (hB 1 (by show 1 < 4; omega)) (hB 2 (by show 2 < 4; omega)) (hB 3 (by show 3 < 4; omega)) (by omega)
  · subst e
    have eg : gt1 ((5, a, b) : Gt) = [119, 48 + a, 44, 48 + b.toNat] := rfl
    rw [eg] at hs hB ⊢
    replace hs : i + 4 ≤ s := hs
    exact key3 5 119 (by omega) rfl (b0 (by omega) _ (hB 0 (by show 0 < 4; omega))) rfl (hB 1 (by show 1 < 4; omega)) (hB 2 (by show 2 < 4; omega)) (hB 3 (by show 3 < 4; omega)) (by omega)
theorem TT_p (q : Gt) (c : List Gt) : 1 ≤ (TT (q :: c)).length := by
  cases c with
  | nil => exact (gt1_l q).2
  | cons r c =>
    show 1 ≤ (gt1 q ++ 59 :: TT (r :: c)).length
    rw [List.length_append]
    have := (gt1_l q).2
    omega
theorem rdL_t {B : Nat → Nat} {s n : Nat} (n4 : n ≤ 4) : ∀ (c : List Gt) (q : Gt) (pre : List Gt) (i f : Nat), okC n (q :: c) → c.length < f → txB B i (TT (q :: c)) → s = i + (TT (q :: c)).length → rdL B s n f i pre = (0, pre ++ (q :: c))
  | [], q, pre, i, 0, _, hf, _, _ => absurd hf (Nat.not_lt_zero _)
  | [], q, pre, i, f + 1, hv, hf, hB, hs => by
    replace hs : s = i + (gt1 q).length := hs
    have hG := rdG_t (s := s) (hv q (List.mem_singleton.mpr rfl)) n4 (by omega) hB
    rw [rdL, hG]
    simp only
    rw [if_neg (by omega), if_pos (by omega)]
  | r :: c, q, pre, i, 0, _, hf, _, _ => absurd hf (Nat.not_lt_zero _)
  | r :: c, q, pre, i, f + 1, hv, hf, hB, hs => by
    have hT := TT_p r c
    replace hB : txB B i (gt1 q ++ 59 :: TT (r :: c)) := hB
    replace hs : s = i + (gt1 q ++ 59 :: TT (r :: c)).length := hs
    rw [List.length_append, List.length_cons] at hs
    have hG := rdG_t (s := s) (hv q List.mem_cons_self) n4 (by omega) hB.l
    have hR := hB.r
    have h59 : B (i + (gt1 q).length) = 59 := hR 0 (by rw [List.length_cons]; omega)
    have hR2 : txB B (i + (gt1 q).length + 1) (TT (r :: c)) := (show txB B (i + (gt1 q).length) ([59] ++ TT (r :: c)) from hR).r
    have e59 : byB B s (i + (gt1 q).length) = 59 := by unfold byB; rw [if_pos (by omega), h59]; rfl
    rw [rdL, hG]
    simp only
    rw [if_neg (by omega), if_neg (by omega), Int.toNat_natCast, e59, if_neg (by omega)]
    rw [rdL_t n4 c r (pre ++ [q]) _ f (fun y hy => hv y (List.mem_cons_of_mem _ hy)) (by rw [List.length_cons] at hf; omega) hR2 (by omega), List.append_assoc]
    rfl
theorem rdC_t {B : Nat → Nat} {n : Nat} {c : List Gt} (n4 : n ≤ 4) (hv : okC n c) (c30 : c.length ≤ 30) (hB : txB B 0 (TT c)) : rdC B (TT c).length n = (0, c) := by
  unfold rdC
  cases c with
  | nil => rfl
  | cons q c =>
    have := TT_p q c
    rw [if_neg (by omega), rdL_t n4 c q [] 0 30 hv (by rw [List.length_cons] at c30; omega) hB (by omega)]
    rfl
/-! writing a list into a row -/
def wr (f : Nat → Int) (n : Nat) : List Nat → (Nat → Int)
  | [] => f
  | x :: L => wr (up1 f n (x : Int)) (n + 1) L
theorem wr_app (f : Nat → Int) (n : Nat) (L M : List Nat) : wr f n (L ++ M) = wr (wr f n L) (n + L.length) M := by
  induction L generalizing f n with
  | nil => rfl
  | cons x L ih =>
    show wr (up1 f n (x : Int)) (n + 1) (L ++ M) = wr (wr (up1 f n (x : Int)) (n + 1) L) (n + (L.length + 1)) M
    rw [ih, show n + 1 + L.length = n + (L.length + 1) by omega]
theorem wr_lo (f : Nat → Int) (L : List Nat) : ∀ n j, j < n → wr f n L j = f j := by
  induction L generalizing f with
  | nil => intro n j h; rfl
  | cons x L ih =>
    intro n j h
    show wr (up1 f n (x : Int)) (n + 1) L j = f j
    rw [ih _ (n + 1) j (by omega)]
    unfold up1
    rw [if_neg (by omega)]
theorem wr_at (f : Nat → Int) (L : List Nat) : ∀ n j, j < L.length → wr f n L (n + j) = ((L.getD j 0 : Nat) : Int) := by
  induction L generalizing f with
  | nil => intro n j h; exact absurd h (Nat.not_lt_zero _)
  | cons x L ih =>
    intro n j h
    show wr (up1 f n (x : Int)) (n + 1) L (n + j) = _
    cases j with
    | zero =>
      show wr (up1 f n (x : Int)) (n + 1) L n = _
      rw [wr_lo _ _ (n + 1) n (Nat.lt_succ_self n)]
      unfold up1
      rw [if_pos rfl]; rfl
    | succ j =>
      rw [show n + (j + 1) = n + 1 + j by omega, ih _ (n + 1) j (by rw [List.length_cons] at h; omega)]
      rfl
/-- a text told so far -/
def tXR (f : Nat → Int) (c : List Gt) : Prop := ∀ j, j < (TT c).length → f j = (((TT c).getD j 0 : Nat) : Int)
theorem tXR.app {f : Nat → Int} {c : List Gt} {q : Gt} (h : tXR f c) : tXR (wr f (TT c).length ((if c = [] then [] else [59]) ++ gt1 q)) (c ++ [q]) := by
  intro j hj
  rw [TT_app, List.length_append] at hj
  rw [TT_app]
  generalize ((if c = [] then [] else [59]) ++ gt1 q : List Nat) = L at *
  by_cases h1 : j < (TT c).length
  · rw [wr_lo _ _ _ _ h1, h j h1, List.getD_eq_getElem?_getD, List.getD_eq_getElem?_getD, List.getElem?_append_left h1]
  · obtain ⟨i, rfl⟩ : ∃ i, j = (TT c).length + i := ⟨j - (TT c).length, by omega⟩
    rw [wr_at _ _ _ _ (by omega), List.getD_eq_getElem?_getD, List.getD_eq_getElem?_getD, List.getElem?_append_right (by omega), Nat.add_sub_cancel_left]
