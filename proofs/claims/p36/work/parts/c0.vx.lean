/-! ===== circuits as what they do to vectors ===== -/
def foW (c : List Gt) (W : Vc) : Vc := c.foldl (fun V q => clW q V) W
def foP (c : List Gt) : Nat := c.foldl (fun k q => k + ktH q) 0
theorem foW_app (c e : List Gt) (W : Vc) : foW (c ++ e) W = foW e (foW c W) := by simp [foW, List.foldl_append]
theorem foW_cons (q : Gt) (c : List Gt) (W : Vc) : foW (q :: c) W = foW c (clW q W) := rfl
theorem foP_from (c : List Gt) : ∀ k, c.foldl (fun k q => k + ktH q) k = k + foP c := by
  induction c with
  | nil => intro k; rfl
  | cons q c ih =>
    intro k
    show c.foldl (fun k q => k + ktH q) (k + ktH q) = k + (c.foldl (fun k q => k + ktH q) (0 + ktH q))
    rw [ih, ih]
    omega
theorem foP_app (c e : List Gt) : foP (c ++ e) = foP c + foP e := by
  show (c ++ e).foldl _ 0 = _
  rw [List.foldl_append]
  exact foP_from e _
theorem foP_cons (q : Gt) (c : List Gt) : foP (q :: c) = ktH q + foP c := by
  show c.foldl (fun k q => k + ktH q) (0 + ktH q) = _
  rw [foP_from, Nat.zero_add]
theorem fdW_fo (c : List Gt) (W : Vc) : ∀ i, i ≤ c.length → fdW c i W = foW (c.take i) W
  | 0, _ => by simp [fdW, foW]
  | i + 1, h => by
    rw [fdW, fdW_fo c W i (by omega), ← take_s (show i < c.length by omega), foW_app]
    rfl
theorem fdP_fo (c : List Gt) : ∀ i, i ≤ c.length → fdP c i = foP (c.take i)
  | 0, _ => by simp [fdP, foP]
  | i + 1, h => by
    rw [fdP, fdP_fo c i (by omega), ← take_s (show i < c.length by omega), foP_app, foP_cons]
    rfl
theorem amV_fo {n s : Nat} (hn : n ≤ 4) {c : List Gt} (hv : okC n c) (hs : s < 2 ^ n) : amV c s = noV (foP c) (foW c (e1W s)) := by
  unfold amV
  rw [← no_eq hn hv (e1_sp hs), fdP_fo c _ (Nat.le_refl _), fdW_fo c _ _ (Nat.le_refl _), List.take_length]
theorem foW_sp {n : Nat} {c : List Gt} (hv : okC n c) {W : Vc} (hW : spW n W) : spW n (foW c W) := by
  induction c generalizing W with
  | nil => exact hW
  | cons q c ih => exact ih (fun x hx => hv x (List.mem_cons_of_mem _ hx)) (clW_sp (hv q List.mem_cons_self) hW)
theorem foW_rtN (c : List Gt) (j : Nat) : ∀ W, foW c (rtN j W) = rtN j (foW c W) := by
  induction c with
  | nil => intro W; rfl
  | cons q c ih => intro W; rw [foW_cons, foW_cons, cl_rtN, ih]
/-- a gate falls back past those that it may change places with -/
theorem foW_past {n : Nat} (hn : n ≤ 4) {q : Gt} (hq : vG n q) : ∀ (B : List Gt), okC n B → (∀ p, p ∈ B → cmB p q = true) → ∀ W, clW q (foW B W) = foW B (clW q W)
  | [], _, _, _ => rfl
  | p :: B, hv, hc, W => by
    rw [foW_cons, foW_cons, foW_past hn hq B (fun x hx => hv x (List.mem_cons_of_mem _ hx)) (fun x hx => hc x (List.mem_cons_of_mem _ hx)), co_yes hn (hv p List.mem_cons_self) hq (hc p List.mem_cons_self)]
/-! two gates alike -/
theorem tu_8 (q : Q4) : tuQ 8 q = q := by
  refine q4_ext ?_ ?_ ?_ ?_ <;> simp only [tuQ, tu1] <;> omega
theorem tu_16 (q : Q4) : ∀ k, tuQ (8 * k) q = q
  | 0 => rfl
  | k + 1 => by rw [show 8 * (k + 1) = 8 * k + 8 by omega, ← tu_add, tu_8]; exact tu_16 q k
theorem tu_mod (q : Q4) (k : Nat) : tuQ (k % 8) q = tuQ k q := by
  have h : k = 8 * (k / 8) + k % 8 := by omega
  rw [show tuQ k q = tuQ (8 * (k / 8) + k % 8) q from congrArg (fun z => tuQ z q) h, ← tu_add, tu_16]
theorem rt_rt (q : Q4) : rtQ (rtQ q) = adQ q q := by
  refine q4_ext ?_ ?_ ?_ ?_ <;> simp only [rtQ, adQ] <;> omega
theorem cl_rr {k k' : Int} {l : Nat} (h : 0 ≤ k) (h' : 0 ≤ k') (W : Vc) : clW (0, l, k') (clW (0, l, k) W) = clW (0, l, (k + k') % 8) W := by
  funext r
  simp only [clW, if_true]
  by_cases hb : r.testBit l = true
  · simp only [hb, if_true]
    rw [tu_add, ← tu_mod _ ((k + k') % 8).toNat, ← tu_mod _ (k'.toNat + k.toNat)]
    congr 1
    omega
  · simp [hb]
theorem cl_hh (l : Nat) (b b' : Int) (W : Vc) : clW (1, l, b') (clW (1, l, b) W) = rtN 2 W := by
  funext r
  show _ = rtQ (rtQ (W r))
  rw [rt_rt]
  simp only [clW, if_true, show (1 : Nat) ≠ 0 by decide, if_false]
  by_cases hb : r.testBit l = true
  · have h2 : (r ^^^ 2 ^ l).testBit l = false := by rw [tb_xs, hb]; rfl
    simp only [hb, h2, if_true, x_x]
    refine q4_ext ?_ ?_ ?_ ?_ <;> simp [adQ, sbQ] <;> omega
  · have hb' : r.testBit l = false := by simpa using hb
    have h2 : (r ^^^ 2 ^ l).testBit l = true := by rw [tb_xs, hb']; rfl
    simp only [hb', h2, if_true, x_x]
    refine q4_ext ?_ ?_ ?_ ?_ <;> simp [adQ, sbQ] <;> omega
theorem cl_xx (l : Nat) (b b' : Int) (W : Vc) : clW (2, l, b') (clW (2, l, b) W) = W := by
  funext r
  simp only [clW, show (2 : Nat) ≠ 0 by decide, show (2 : Nat) ≠ 1 by decide, if_true, if_false, x_x]
theorem cl_cc {a : Nat} {b : Int} (hd : b.toNat ≠ a) (W : Vc) : clW (3, a, b) (clW (3, a, b) W) = W := by
  funext r
  simp only [clW, show (3 : Nat) ≠ 0 by decide, show (3 : Nat) ≠ 1 by decide, show (3 : Nat) ≠ 2 by decide, if_true, if_false]
  by_cases hb : r.testBit a = true
  · have h2 : (r ^^^ 2 ^ b.toNat).testBit a = true := by rw [tb_xn hd]; exact hb
    simp only [hb, h2, if_true, x_x]
  · simp only [hb]
    rfl
theorem cl_dd (a : Nat) (b : Int) (a' : Nat) (b' : Int) (h : (a' = a ∧ b'.toNat = b.toNat) ∨ (a' = b.toNat ∧ b'.toNat = a)) (W : Vc) : clW (4, a', b') (clW (4, a, b) W) = W := by
  funext r
  simp only [clW, show (4 : Nat) ≠ 0 by decide, show (4 : Nat) ≠ 1 by decide, show (4 : Nat) ≠ 2 by decide, show (4 : Nat) ≠ 3 by decide, if_true, if_false]
  have e : (r.testBit a' = true ∧ r.testBit b'.toNat = true) ↔ (r.testBit a = true ∧ r.testBit b.toNat = true) := by
    rcases h with ⟨h1, h2⟩ | ⟨h1, h2⟩
    · rw [h1, h2]
    · rw [h1, h2]; exact And.comm
  by_cases hb : r.testBit a = true ∧ r.testBit b.toNat = true
  · rw [if_pos (e.mpr hb), if_pos hb, tu_add]
    exact tu_8 _
  · rw [if_neg (fun z => hb (e.mp z)), if_neg hb]
theorem cl_ww (a : Nat) (b : Int) (a' : Nat) (b' : Int) (hd : b.toNat ≠ a) (h : (a' = a ∧ b'.toNat = b.toNat) ∨ (a' = b.toNat ∧ b'.toNat = a)) (W : Vc) : clW (5, a', b') (clW (5, a, b) W) = W := by
  have e : clW (5, a', b') (clW (5, a, b) W) = clW (5, a, b) (clW (5, a, b) W) := by
    rcases h with ⟨h1, h2⟩ | ⟨h1, h2⟩
    · rw [clW_N (5, a', b'), clW_N (5, a, b) (clW (5, a, b) W)]
      simp only [h1, h2]
    · rw [clW_N (5, a', b'), clW_N (5, a, b) (clW (5, a, b) W)]
      simp only [h1, h2]
      exact funext fun x => cl5_s
  rw [e]
  funext r
  have f1 : ((r ^^^ 2 ^ a) ^^^ 2 ^ b.toNat).testBit a = !r.testBit a := by rw [tb_xn hd, tb_xs]
  have f2 : ((r ^^^ 2 ^ a) ^^^ 2 ^ b.toNat).testBit b.toNat = !r.testBit b.toNat := by rw [tb_xs, tb_xn (Ne.symm hd)]
  simp only [clW, show (5 : Nat) ≠ 0 by decide, show (5 : Nat) ≠ 1 by decide, show (5 : Nat) ≠ 2 by decide, show (5 : Nat) ≠ 3 by decide, show (5 : Nat) ≠ 4 by decide, if_false, f1, f2]
  by_cases hb : r.testBit a = r.testBit b.toNat
  · rw [if_pos hb, if_pos hb]
  · rw [if_neg hb, if_neg (by intro z; apply hb; cases h1 : r.testBit a <;> cases h2 : r.testBit b.toNat <;> simp [h1, h2] at z ⊢)]
    rw [x_c (r := r ^^^ 2 ^ a) (a := b.toNat) (b := a), x_x, x_x]
/-! a step of making shorter keeps all amplitudes -/
theorem cut1 {c : List Gt} {x : Nat} (hx : x < c.length) : c = c.take x ++ gA c x :: c.drop (x + 1) := by
  have e : gA c x = c[x] := by simp [gA, hx]
  rw [e, List.getElem_cons_drop, List.take_append_drop]
theorem am_idle {n x s : Nat} (hn : n ≤ 4) {c : List Gt} (hv : okC n c) (hs : s < 2 ^ n) (hx : x < c.length) (hi : idB (gA c x) = true) : amV (c.eraseIdx x) s = amV c s := by
  rw [amV_fo hn hv hs, amV_fo hn hv.erase hs, List.eraseIdx_eq_take_drop_succ]
  have e1 : foW c (e1W s) = foW (c.take x ++ c.drop (x + 1)) (e1W s) := by
    conv => lhs; rw [cut1 hx]
    rw [foW_app, foW_cons, cl_id hi, foW_app]
  have hk : ktH (gA c x) = 0 := by
    simp only [idB, Bool.and_eq_true, decide_eq_true_eq] at hi
    unfold ktH
    rw [if_neg (by omega)]
  have e2 : foP c = foP (c.take x ++ c.drop (x + 1)) := by
    conv => lhs; rw [cut1 hx]
    rw [foP_app, foP_cons, hk, Nat.zero_add, foP_app]
  rw [e1, e2]
theorem cut2 {c : List Gt} {x y : Nat} (hx : x < y) (hy : y < c.length) (hf : fbB c x y = true) : ∃ A M C, c = A ++ gA c x :: (M ++ gA c y :: C) ∧ A.length = x ∧ M.length = y - (x + 1) ∧ (∀ r, r ∈ M → cmB r (gA c y) = true) := by
  have hl : y - (x + 1) < (c.drop (x + 1)).length := by rw [List.length_drop]; omega
  have e1 := cut1 (c := c) (x := x) (by omega)
  have e2 := cut1 (c := c.drop (x + 1)) (x := y - (x + 1)) hl
  have eg : gA (c.drop (x + 1)) (y - (x + 1)) = gA c y := by
    unfold gA
    rw [List.getD_eq_getElem?_getD, List.getElem?_drop, show x + 1 + (y - (x + 1)) = y by omega, ← List.getD_eq_getElem?_getD]
  rw [eg] at e2
  refine ⟨c.take x, (c.drop (x + 1)).take (y - (x + 1)), (c.drop (x + 1)).drop (y - (x + 1) + 1), ?_, ?_, ?_, ?_⟩
  · rw [← e2]; exact e1
  · rw [List.length_take]; omega
  · rw [List.length_take]; omega
  · intro r hr
    obtain ⟨k, hk⟩ := List.getElem?_of_mem hr
    rw [List.getElem?_take] at hk
    split at hk
    · rename_i hk2
      rw [List.getElem?_drop] at hk
      have eg2 : gA c (x + 1 + k) = r := by
        unfold gA
        rw [List.getD_eq_getElem?_getD, hk]; rfl
      unfold fbB at hf
      have := (fa_iff _ _).mp hf (x + 1 + k) (by omega) (by omega)
      rw [← eg2]
      exact this
    · cases hk
theorem al_k {q r : Gt} {n : Nat} (hq : vG n q) (hr : vG n r) (h : alB q r = true) : q.1 = r.1 ∧ (q.1 < 3 → q.2.1 = r.2.1) ∧ (q.1 = 3 → q.2.1 = r.2.1) ∧ (3 ≤ q.1 → (q.2.1 = r.2.1 ∧ q.2.2 = r.2.2) ∨ (r.2.1 = q.2.2.toNat ∧ r.2.2.toNat = q.2.1)) := by
  unfold alB at h
  simp only [Bool.and_eq_true, decide_eq_true_eq, Bool.or_eq_true] at h
  obtain ⟨h1, h2, h3⟩ := h
  have G := fun l => gm_iff (q := q) (l := l)
  have G' := fun l => gm_iff (q := r) (l := l)
  have gq : ∀ l, (l = q.2.1 ∨ (3 ≤ q.1 ∧ l = q.2.2.toNat)) ↔ (l = r.2.1 ∨ (3 ≤ r.1 ∧ l = r.2.2.toNat)) := fun l => by rw [← G, ← G', h2]
  have a1 := (gq q.2.1).mp (Or.inl rfl)
  have a2 := (gq r.2.1).mpr (Or.inl rfl)
  refine ⟨h1, fun h => by omega, fun h => h3.resolve_left (fun z => z h), fun h => ?_⟩
  have q5 := hq.2.2.2.2 h
  have r5 := hr.2.2.2.2 (by omega)
  have a3 := (gq q.2.2.toNat).mp (Or.inr ⟨h, rfl⟩)
  have a4 := (gq r.2.2.toNat).mpr (Or.inr ⟨by omega, rfl⟩)
  omega
/-- two gates alike, one behind the other: nothing, or twice the root -/
theorem cl_al {n : Nat} {q r : Gt} (hq : vG n q) (hr : vG n r) (h : alB q r = true) (h0 : q.1 ≠ 0) (W : Vc) : clW r (clW q W) = rtN (ktH q + ktH r) W := by
  obtain ⟨h1, h2, h3, h4⟩ := al_k hq hr h
  have hd := hq.d
  obtain ⟨k, a, b⟩ := q
  obtain ⟨k', a', b'⟩ := r
  simp only at h0 h1 h2 h3 h4 hd
  have hk := hq.1
  simp only at hk
  subst h1
  rcases (show k = 1 ∨ k = 2 ∨ k = 3 ∨ k = 4 ∨ k = 5 by omega) with rfl | rfl | rfl | rfl | rfl
  · have e := h2 (by omega)
    subst e
    exact cl_hh a b b' W
  · have e := h2 (by omega)
    subst e
    exact cl_xx a b b' W
  · have e := h3 rfl
    subst e
    have hd := hd (by omega)
    rcases h4 (by omega) with ⟨-, e2⟩ | ⟨e2, -⟩
    · subst e2
      exact cl_cc hd W
    · exact absurd e2.symm hd
  · exact cl_dd a b a' b' (by rcases h4 (by omega) with ⟨e1, e2⟩ | ⟨e1, e2⟩
                              · exact Or.inl ⟨e1.symm, by rw [e2]⟩
                              · exact Or.inr ⟨e1, e2⟩) W
  · exact cl_ww a b a' b' (hd (by omega)) (by rcases h4 (by omega) with ⟨e1, e2⟩ | ⟨e1, e2⟩
                                              · exact Or.inl ⟨e1.symm, by rw [e2]⟩
                                              · exact Or.inr ⟨e1, e2⟩) W
theorem am_pair {n x y s : Nat} (hn : n ≤ 4) {c : List Gt} (hv : okC n c) (hs : s < 2 ^ n) (hx : x < y) (hy : y < c.length) (hp : paB c x y = true) : amV (jnS c x y).2 s = amV c s := by
  have ha : alB (gA c x) (gA c y) = true := by unfold paB at hp; rw [Bool.and_eq_true] at hp; exact hp.1
  have hf : fbB c x y = true := by unfold paB at hp; rw [Bool.and_eq_true] at hp; exact hp.2
  have vx := hv.at (show x < c.length by omega)
  have vy := hv.at hy
  have ok2 := (jnS_ok hv hx hy (paB_k hp)).1
  rw [amV_fo hn hv hs, amV_fo hn ok2 hs]
  obtain ⟨A, M, C, e, lA, lM, hM⟩ := cut2 hx hy hf
  have vM : okC n M := fun r hr => hv r (by rw [e]; simp [hr])
  have past : ∀ W, clW (gA c y) (foW M W) = foW M (clW (gA c y) W) := foW_past hn vy M vM hM
  have key : ∀ W, foW c W = foW C (foW M (clW (gA c y) (clW (gA c x) (foW A W)))) := fun W => by
    conv => lhs; rw [e]
    rw [foW_app, foW_cons, foW_app, foW_cons, past]
  have keyP : foP c = foP A + (ktH (gA c x) + (foP M + (ktH (gA c y) + foP C))) := by
    conv => lhs; rw [e]
    rw [foP_app, foP_cons, foP_app, foP_cons]
  have er : ∀ p, ((A ++ p :: (M ++ gA c y :: C)).eraseIdx y) = A ++ p :: (M ++ C) := fun p => by
    rw [List.eraseIdx_append_of_length_le (by omega), lA, show y - x = (y - (x + 1)) + 1 by omega, List.eraseIdx_cons_succ, List.eraseIdx_append_of_length_le (by omega), lM, Nat.sub_self, List.eraseIdx_cons_zero]
  unfold jnS
  by_cases h0 : (gA c x).1 = 0
  · rw [if_pos h0]
    obtain ⟨q1, q2, -, -⟩ := al_k vx vy ha
    have ql := q2 (by omega)
    have kx := vx.2.2.1 h0
    have ky := vy.2.2.1 (by omega)
    have es0 : ∀ p : Gt, c.set x p = A ++ p :: (M ++ gA c y :: C) := fun p => by
      conv => lhs; rw [e]
      rw [List.set_append_right _ _ (by omega), lA, Nat.sub_self, List.set_cons_zero]
    have es := es0 (0, (gA c x).2.1, ((gA c x).2.2 + (gA c y).2.2) % 8)
    show noV (foP ((c.set x _).eraseIdx y)) (foW ((c.set x _).eraseIdx y) (e1W s)) = _
    rw [es, er, key, keyP, foW_app, foW_cons, foW_app, foP_app, foP_cons, foP_app]
    have ex : gA c x = (0, (gA c x).2.1, (gA c x).2.2) := Prod.ext h0 rfl
    have ey : gA c y = (0, (gA c x).2.1, (gA c y).2.2) := Prod.ext (by rw [← q1]; exact h0) (Prod.ext ql.symm rfl)
    have e3 : clW (gA c y) (clW (gA c x) (foW A (e1W s))) = clW (0, (gA c x).2.1, ((gA c x).2.2 + (gA c y).2.2) % 8) (foW A (e1W s)) := by
      rw [ex, ey]
      exact cl_rr kx.1 ky.1 _
    have z1 : ktH (gA c x) = 0 := by unfold ktH; rw [if_neg (by omega)]
    have z2 : ktH (gA c y) = 0 := by unfold ktH; rw [if_neg (by omega)]
    rw [e3, z1, z2, Nat.zero_add, Nat.zero_add]
    show noV (foP A + (ktH _ + _)) _ = _
    rw [show ktH ((0 : Nat), (gA c x).2.1, ((gA c x).2.2 + (gA c y).2.2) % 8) = 0 from rfl, Nat.zero_add]
  · rw [if_neg h0]
    have e2 : (c.eraseIdx y).eraseIdx x = A ++ (M ++ C) := by
      have e5 : c.eraseIdx y = A ++ gA c x :: (M ++ C) := by
        conv => lhs; rw [e]
        exact er _
      rw [e5, List.eraseIdx_append_of_length_le (by omega), lA, Nat.sub_self, List.eraseIdx_cons_zero]
    show noV (foP ((c.eraseIdx y).eraseIdx x)) (foW ((c.eraseIdx y).eraseIdx x) (e1W s)) = _
    rw [e2, key, keyP, cl_al vx vy ha h0, foW_rtN, foW_rtN, foW_app, foW_app, foP_app, foP_app, show foP A + (ktH (gA c x) + (foP M + (ktH (gA c y) + foP C))) = foP A + (foP M + foP C) + (ktH (gA c x) + ktH (gA c y)) by omega, noV_rt]
/-- a step of making shorter keeps all amplitudes -/
theorem am_shS {n s : Nat} (hn : n ≤ 4) {c : List Gt} (hv : okC n c) (hs : s < 2 ^ n) : amV (shS c).2 s = amV c s := by
  unfold shS
  cases h1 : fst1 (fun x => idB (gA c x)) (c.length - 0) 0 with
  | some x =>
    have := fst1_in h1
    exact am_idle hn hv hs (by omega) this.2.2
  | none =>
    cases h2 : fst2 (paB c) c.length (c.length - 0) 0 with
    | some q =>
      obtain ⟨x, y⟩ := q
      have := fst2_in h2
      exact am_pair hn hv hs this.2.2.1 this.2.2.2.1 this.2.2.2.2
    | none => rfl
theorem am_shN {n s : Nat} (hn : n ≤ 4) (hs : s < 2 ^ n) : ∀ (k : Nat) {c : List Gt}, okC n c → amV (shN k c) s = amV c s
  | 0, _, _ => rfl
  | k + 1, c, hv => by
    rw [shN]
    split
    · rfl
    · rw [am_shN hn hs k (shS_ok hv).1, am_shS hn hv hs]
theorem am_saS {n s : Nat} (hn : n ≤ 4) {c : List Gt} (hv : okC n c) (hs : s < 2 ^ n) : amV (saS c) s = amV c s := am_shN hn hs _ hv
