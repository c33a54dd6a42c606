/-! ===== GateList: what waits for what ===== -/
abbrev bi (b : Bool) : Int := if b = true then 1 else 0
/-- a row of numbers, each by those before it -/
def recT (step : (Nat → Nat) → Nat → Nat) : Nat → Nat → Nat
  | 0 => fun _ => 0
  | g + 1 => fun x => if x = g then step (recT step g) g else recT step g x
def rec1 (step : (Nat → Nat) → Nat → Nat) (x : Nat) : Nat := recT step (x + 1) x
theorem recT_lt {step : (Nat → Nat) → Nat → Nat} : ∀ k x, x < k → recT step k x = rec1 step x
  | 0, x, h => by omega
  | k + 1, x, h => by
    by_cases e : x = k
    · subst e; rfl
    · show (if x = k then step (recT step k) k else recT step k x) = _
      rw [if_neg e]
      exact recT_lt k x (by omega)
/-- it looks at what is before g alone -/
def loc (step : (Nat → Nat) → Nat → Nat) : Prop := ∀ t t' g, (∀ h, h < g → t h = t' h) → step t g = step t' g
theorem rec1_eq {step : (Nat → Nat) → Nat → Nat} (hs : loc step) (g : Nat) : rec1 step g = step (rec1 step) g := by
  show (if g = g then step (recT step g) g else recT step g g) = _
  rw [if_pos rfl]
  exact hs _ _ g (fun h hh => recT_lt g h hh)
def orr (f : Nat → Nat) : Nat → Nat
  | 0 => 0
  | n + 1 => orr f n ||| f n
def mxx (f : Nat → Nat) : Nat → Nat
  | 0 => 0
  | n + 1 => max (mxx f n) (f n)
theorem orr_congr {f f' : Nat → Nat} : ∀ n, (∀ h, h < n → f h = f' h) → orr f n = orr f' n
  | 0, _ => rfl
  | n + 1, h => by rw [orr, orr, orr_congr n (fun x hx => h x (by omega)), h n (by omega)]
theorem mxx_congr {f f' : Nat → Nat} : ∀ n, (∀ h, h < n → f h = f' h) → mxx f n = mxx f' n
  | 0, _ => rfl
  | n + 1, h => by rw [mxx, mxx, mxx_congr n (fun x hx => h x (by omega)), h n (by omega)]
theorem orr_lt {f : Nat → Nat} {k : Nat} : ∀ n, (∀ h, h < n → f h < 2 ^ k) → orr f n < 2 ^ k
  | 0, _ => Nat.two_pow_pos k
  | n + 1, h => by
    rw [orr]
    exact Nat.or_lt_two_pow (orr_lt n (fun x hx => h x (by omega))) (h n (by omega))
/-- g waits for h -/
def wtB (lo : Bool) (q r : Gt) : Bool := decide (gm q &&& gm r ≠ 0) && !(lo && cmB q r)
def ahF (lo : Bool) (c : List Gt) (g : Nat) (t : Nat → Nat) (h : Nat) : Nat := if wtB lo (gA c g) (gA c h) = true then 2 ^ h ||| t h else 0
def ahS (lo : Bool) (c : List Gt) : Nat → Nat := rec1 (fun t g => orr (ahF lo c g t) g)
theorem ahS_eq (lo : Bool) (c : List Gt) (g : Nat) : ahS lo c g = orr (ahF lo c g (ahS lo c)) g :=
  rec1_eq (step := fun t g => orr (ahF lo c g t) g) (fun t t' g h => orr_congr g (fun x hx => by simp only [ahF, h x hx])) g
theorem ahF_lt {lo : Bool} {c : List Gt} {g k : Nat} {t : Nat → Nat} : ∀ h, h < k → t h < 2 ^ h → ahF lo c g t h < 2 ^ k := by
  intro h hh ht
  unfold ahF
  have e : 2 ^ h < 2 ^ k := Nat.pow_lt_pow_right (by omega) hh
  split
  · exact Nat.or_lt_two_pow e (by omega)
  · exact Nat.two_pow_pos k
theorem ahS_lt (lo : Bool) (c : List Gt) : ∀ g, ahS lo c g < 2 ^ g := by
  intro g
  induction g using Nat.strongRecOn with
  | ind g ih =>
    rw [ahS_eq]
    exact orr_lt g (fun h hh => ahF_lt h hh (ih h hh))
theorem p31 {k : Nat} (h : k ≤ 31) : 2 ^ k ≤ 2147483648 := by
  have : 2 ^ k ≤ 2 ^ 31 := Nat.pow_le_pow_right (by omega) h
  simpa using this
theorem HG.up {σ : Mem} {g a : Nat} {c : List Gt} {X : Nat → Int} {τ : Nat → Nat → Int} (h : HG σ g c) (ha : a < g ∨ g + 4 < a) : HG (upA σ.1 a X, τ) g c := by
  obtain ⟨h1, h2⟩ := h
  refine ⟨?_, fun j hj => ?_⟩
  · show upA σ.1 a X g 6 = _
    rw [upA_ne (by omega)]; exact h1
  · obtain ⟨g1, g2, g3, g4⟩ := h2 j hj
    refine ⟨?_, ?_, ?_, ?_⟩
    · show upA σ.1 a X (g + 1) j = _
      rw [upA_ne (by omega)]; exact g1
    · show upA σ.1 a X (g + 2) j = _
      rw [upA_ne (by omega)]; exact g2
    · show upA σ.1 a X (g + 3) j = _
      rw [upA_ne (by omega)]; exact g3
    · show upA σ.1 a X (g + 4) j = _
      rw [upA_ne (by omega)]; exact g4
section GLA
variable {sh : Shp} {d g cap n : Nat} {σ : Mem} {c : List Gt} {x y : Nat} {lo : Bool}
theorem L61 (hg : glS sh g cap) (hG : HG σ g c) (hc : c.length ≤ cap) (hb : cap ≤ 100) (hv : okC n c) (hn5 : n ≤ 5) (hx : x < c.length) (hy : y < c.length) : run sh (d + 3) 61 [mR g, mI (x : Int), mI (y : Int), mI (bi lo)] σ = some (some (mI (bi (wtB lo (gA c x) (gA c y)))), σ) := by
  have ho := hg.1
  have m1 : gm (gA c x) < 32 := gm_lt (hv.at hx) hn5
  have m3 : gm (gA c x) &&& gm (gA c y) < 32 := Nat.lt_of_le_of_lt Nat.and_le_left m1
  simp (disch := first | assumption | omega) only [e61_0, e61_1, e61_2, e61_5, e61_6, e61_7, e61_10, e61_11, e61_14, e61_15, e61_18, e61_19, e61_20, e61_21, e61_24, e61_27, e61_28, e61_31, e61_32, kl_I, kl_R, kl_N, kl_L, oSm, oNn, Option.bind_some, wN, if_pos, if_neg, nS, tN, t0, w0, w1, w2, w3, w4, w5, wm1, upA_ne, upA_same, q61, L51 hg hG hc hb hx, L51 hg hG hc hb hy, xand_nn, L59 hg hG hc hb hv hn5 hx hy, wi_01, if10]
  unfold wtB
  by_cases h1 : gm (gA c x) &&& gm (gA c y) = 0
  · rw [if_pos (by rw [h1]; rfl)]
    simp [h1]
  · rw [if_neg (by omega)]
    cases lo <;> cases cmB (gA c x) (gA c y) <;> simp [h1]
theorem L60 (hg : glS sh g cap) (hG : HG σ g c) (hc : c.length ≤ cap) (hb : cap ≤ 100) (hv : okC n c) (hn5 : n ≤ 5) (hx : x < c.length) (h31 : c.length ≤ 31) : run sh (d + 3) 60 [mR g, mI (x : Int)] σ = some (some (mI (bts (fun h => cmB (gA c x) (gA c h)) c.length : Int)), σ) := by
  have ho := hg.1
  have hn := hG.1
  have F := for_up (fun i => ev sh (d + 3) 60 4 [some (mR (g)), some (mI ((x : Nat) : Int)), some (mI ((bts (fun h => cmB (gA c x) (gA c h)) i : Nat) : Int)), some (mI ((i : Nat) : Int))] [] (σ)) (c.length) (fun i hi => by
    show ev sh (d + 3) 60 4 [some (mR (g)), some (mI ((x : Nat) : Int)), some (mI ((bts (fun h => cmB (gA c x) (gA c h)) i : Nat) : Int)), some (mI ((i : Nat) : Int))] [] (σ) = ev sh (d + 3) 60 4 [some (mR (g)), some (mI ((x : Nat) : Int)), some (mI ((bts (fun h => cmB (gA c x) (gA c h)) (i + 1) : Nat) : Int)), some (mI (((i + 1) : Nat) : Int))] [] (σ)
    rw [e60_4]
    have b1 := bts_lt (fun h => cmB (gA c x) (gA c h)) i
    have b2 := p31 (k := i) (by omega)
    have b3 : 2 ^ i < 2147483648 := pw_lt (n := 31) (by omega) (by omega)
    simp (disch := first | assumption | omega) only [e60_0, e60_1, e60_2, e60_3, e60_5, e60_6, e60_9, e60_12, e60_13, e60_14, e60_15, e60_18, e60_21, e60_22, e60_23, e60_24, e60_25, e60_26, e60_27, e60_30, e60_33, e60_34, kl_I, kl_R, kl_N, kl_L, oSm, oNn, Option.bind_some, wN, if_pos, if_neg, nS, tN, t0, w0, w1, w2, w3, w4, w5, wm1, upA_ne, upA_same, hn, L59 hg hG hc hb hv hn5 hx hi, wi_01, if10, xshl_1, xor_nn]
    by_cases h : cmB (gA c x) (gA c i) = true
    · simp [h, bts]
    · simp [h, bts]) 0 (Nat.zero_le _)
  simp only [q60, e60_0, e60_1, e60_2, e60_3, kl_I, kl_R, kl_N, kl_L, oSm, oNn, Option.bind_some, wN, if_pos, if_neg, nS, tN, t0, w0, w1, w2, w3, w4, w5, wm1, upA_ne, upA_same]
  refine F.trans ?_
  show ev sh (d + 3) 60 4 [some (mR (g)), some (mI ((x : Nat) : Int)), some (mI ((bts (fun h => cmB (gA c x) (gA c h)) c.length : Nat) : Int)), some (mI ((c.length : Nat) : Int))] [] σ = _
  rw [e60_4]
  simp (disch := first | assumption | omega) only [e60_0, e60_1, e60_2, e60_3, e60_5, e60_6, e60_9, e60_12, e60_13, e60_14, e60_15, e60_18, e60_21, e60_22, e60_23, e60_24, e60_25, e60_26, e60_27, e60_30, e60_33, e60_34, kl_I, kl_R, kl_N, kl_L, oSm, oNn, Option.bind_some, wN, if_pos, if_neg, nS, tN, t0, w0, w1, w2, w3, w4, w5, wm1, upA_ne, upA_same, hn]
/-- the row of those ahead, filled below k -/
def ahM (lo : Bool) (c : List Gt) (f : Nat → Int) (k : Nat) : Nat → Int := fun j => if j < k then (ahS lo c j : Int) else f j
def ahN (lo : Bool) (c : List Gt) (f : Nat → Int) (q i : Nat) : Nat → Int := fun j => if j < q then (ahS lo c j : Int) else if j = q then (orr (ahF lo c q (ahS lo c)) i : Int) else f j
theorem ahN_q {lo : Bool} {c : List Gt} {f : Nat → Int} {q i : Nat} : ahN lo c f q i q = (orr (ahF lo c q (ahS lo c)) i : Int) := by
  unfold ahN
  rw [if_neg (by omega), if_pos rfl]
theorem ahN_h {lo : Bool} {c : List Gt} {f : Nat → Int} {q i h : Nat} (hh : h < q) : ahN lo c f q i h = (ahS lo c h : Int) := by
  unfold ahN
  rw [if_pos hh]
theorem ahN_e {lo : Bool} {c : List Gt} {f : Nat → Int} {q : Nat} : ahN lo c f q q = ahM lo c f (q + 1) := by
  funext j
  unfold ahN ahM
  by_cases h : j < q
  · rw [if_pos h, if_pos (by omega)]
  · by_cases h2 : j = q
    · rw [if_neg h, if_pos h2, if_pos (by omega), h2, ahS_eq]
    · rw [if_neg h, if_neg h2, if_neg (by omega)]
theorem ahM_s {lo : Bool} {c : List Gt} {f : Nat → Int} {q : Nat} : up1 (ahM lo c f q) q ((orr (ahF lo c q (ahS lo c)) q : Nat) : Int) = ahM lo c f (q + 1) := by
  funext j
  rcases Nat.lt_trichotomy j q with h | h | h
  · simp [up1, ahM, h, Nat.ne_of_lt h, Nat.lt_succ_of_lt h]
  · subst h
    rw [up1_same, ← ahS_eq]
    exact (if_pos (Nat.lt_succ_self _)).symm
  · simp [up1, ahM, Nat.ne_of_gt h, Nat.not_lt_of_gt h]; omega
theorem ahM_h {lo : Bool} {c : List Gt} {f : Nat → Int} {q h : Nat} (hh : h < q) : ahM lo c f q h = (ahS lo c h : Int) := if_pos hh
theorem ahN_0 {lo : Bool} {c : List Gt} {f : Nat → Int} {q : Nat} : up1 (ahM lo c f q) q 0 = ahN lo c f q 0 := by
  funext j
  rcases Nat.lt_trichotomy j q with h | h | h
  · simp [up1, ahM, ahN, h, Nat.ne_of_lt h]
  · subst h; simp [up1, ahN, orr]
  · simp [up1, ahM, ahN, Nat.ne_of_gt h, Nat.not_lt_of_gt h]
theorem ahN_s {lo : Bool} {c : List Gt} {f : Nat → Int} {q i : Nat} (h : wtB lo (gA c q) (gA c i) = true) : up1 (ahN lo c f q i) q ((orr (ahF lo c q (ahS lo c)) i ||| (2 ^ i ||| ahS lo c i) : Nat) : Int) = ahN lo c f q (i + 1) := by
  funext j
  rcases Nat.lt_trichotomy j q with h2 | h2 | h2
  · simp [up1, ahN, h2, Nat.ne_of_lt h2]
  · subst h2; simp [up1, ahN, orr, ahF, h]
  · simp [up1, ahN, Nat.ne_of_gt h2, Nat.not_lt_of_gt h2]
theorem ahN_n {lo : Bool} {c : List Gt} {f : Nat → Int} {q i : Nat} (h : ¬ wtB lo (gA c q) (gA c i) = true) : ahN lo c f q i = ahN lo c f q (i + 1) := by
  funext j
  unfold ahN
  by_cases h2 : j = q
  · rw [if_neg (by omega), if_pos h2, if_neg (by omega), if_pos h2, orr]
    simp only [ahF, h]
    simp
  · rw [if_neg h2, if_neg h2]
theorem L62 {a : Nat} (hg : glS sh g cap) (hG : HG σ g c) (hc : c.length ≤ cap) (hb : cap ≤ 100) (hv : okC n c) (hn5 : n ≤ 5) (h31 : c.length ≤ 31) (ha : a < g ∨ g + 6 < a) (hk : skd sh a = 0) (hl : c.length ≤ sln sh a) (hl2 : sln sh a ≤ 100) (hw : a < sh.1) : run sh (d + 4) 62 [mR g, mI (bi lo), mR a] σ = some (none, (upA σ.1 a (ahM lo c (σ.1 a) c.length), σ.2)) := by
  have ho := hg.1
  have hn := hG.1
  have hl5 : sln sh a ≤ 5000 := by omega
  have hna : ∀ X, (upA σ.1 a X) g 6 = (c.length : Int) := fun X => by rw [upA_ne (by omega)]; exact hn
  have F := for_P (c.length) (fun q => ∀ v4 v5 : Option MV, ev sh (d + 4) 62 2 [some (mR (g)), some (mI (bi lo)), some (mR (a)), some (mI ((q : Nat) : Int)), v4, v5] [] ((upA σ.1 a (ahM lo c (σ.1 a) q), σ.2)) = some (none, (upA σ.1 a (ahM lo c (σ.1 a) c.length), σ.2))) (by
    intro v4 v5
    show ev sh (d + 4) 62 2 [some (mR (g)), some (mI (bi lo)), some (mR (a)), some (mI (((c.length) : Nat) : Int)), v4, v5] [] ((upA σ.1 a (ahM lo c (σ.1 a) (c.length)), σ.2)) = some (none, (upA σ.1 a (ahM lo c (σ.1 a) c.length), σ.2))
    rw [e62_2]
    simp (disch := first | assumption | omega | (simp (disch := omega) only [wN, w0, w1]; omega)) only [e62_0, e62_1, e62_3, e62_4, e62_7, e62_10, e62_11, e62_13, e62_14, e62_16, e62_18, e62_19, e62_22, e62_23, e62_24, e62_26, e62_27, e62_30, e62_33, e62_35, e62_36, e62_38, e62_39, e62_40, e62_42, e62_45, e62_46, e62_47, e62_49, e62_52, e62_55, e62_56, e62_57, e62_59, e62_62, e62_65, e62_68, kl_I, kl_R, kl_N, kl_L, oSm, oNn, Option.bind_some, wN, if_pos, if_neg, nS, tN, t0, w0, w1, w2, w3, w4, w5, wm1, upA_ne, upA_same, if_true, if_false, Bool.false_eq_true, hna]) (fun q hi ih => by
    replace ih : ∀ v4 v5 : Option MV, ev sh (d + 4) 62 2 [some (mR (g)), some (mI (bi lo)), some (mR (a)), some (mI (((q + 1) : Nat) : Int)), v4, v5] [] ((upA σ.1 a (ahM lo c (σ.1 a) (q + 1)), σ.2)) = some (none, (upA σ.1 a (ahM lo c (σ.1 a) c.length), σ.2)) := ih
    intro v4 v5
    show ev sh (d + 4) 62 2 [some (mR (g)), some (mI (bi lo)), some (mR (a)), some (mI ((q : Nat) : Int)), v4, v5] [] ((upA σ.1 a (ahM lo c (σ.1 a) q), σ.2)) = some (none, (upA σ.1 a (ahM lo c (σ.1 a) c.length), σ.2))
    have hi' := hi
    have hGi := fun X => hG.up (X := X) (τ := σ.2) (a := a) (by omega)
    have I := for_P (q) (fun i => ev sh (d + 4) 62 16 [some (mR (g)), some (mI (bi lo)), some (mR (a)), some (mI ((q : Nat) : Int)), some (mI ((orr (ahF lo c q (ahS lo c)) i : Nat) : Int)), some (mI ((i : Nat) : Int))] [] ((upA σ.1 a (ahM lo c (σ.1 a) q), σ.2)) = some (none, (upA σ.1 a (ahM lo c (σ.1 a) c.length), σ.2))) (by
      show ev sh (d + 4) 62 16 [some (mR (g)), some (mI (bi lo)), some (mR (a)), some (mI ((q : Nat) : Int)), some (mI ((orr (ahF lo c q (ahS lo c)) (q) : Nat) : Int)), some (mI (((q) : Nat) : Int))] [] ((upA σ.1 a (ahM lo c (σ.1 a) q), σ.2)) = some (none, (upA σ.1 a (ahM lo c (σ.1 a) c.length), σ.2))
      rw [e62_16]
      simp (disch := first | assumption | omega | (simp (disch := omega) only [wN, w0, w1]; omega)) only [e62_0, e62_1, e62_3, e62_4, e62_7, e62_10, e62_11, e62_13, e62_14, e62_18, e62_19, e62_22, e62_23, e62_24, e62_26, e62_27, e62_30, e62_33, e62_35, e62_36, e62_38, e62_39, e62_40, e62_42, e62_45, e62_46, e62_47, e62_49, e62_52, e62_55, e62_56, e62_57, e62_59, e62_62, e62_65, e62_68, kl_I, kl_R, kl_N, kl_L, oSm, oNn, Option.bind_some, wN, if_pos, if_neg, nS, tN, t0, w0, w1, w2, w3, w4, w5, wm1, upA_ne, upA_same, if_true, if_false, Bool.false_eq_true, K289n hk rfl hl5 hw (show q < sln sh a by omega), upA_upA, ahM_s]
      exact ih _ _) (fun i hi ih => by
      replace ih : ev sh (d + 4) 62 16 [some (mR (g)), some (mI (bi lo)), some (mR (a)), some (mI ((q : Nat) : Int)), some (mI ((orr (ahF lo c q (ahS lo c)) (i + 1) : Nat) : Int)), some (mI (((i + 1) : Nat) : Int))] [] ((upA σ.1 a (ahM lo c (σ.1 a) q), σ.2)) = some (none, (upA σ.1 a (ahM lo c (σ.1 a) c.length), σ.2)) := ih
      show ev sh (d + 4) 62 16 [some (mR (g)), some (mI (bi lo)), some (mR (a)), some (mI ((q : Nat) : Int)), some (mI ((orr (ahF lo c q (ahS lo c)) i : Nat) : Int)), some (mI ((i : Nat) : Int))] [] ((upA σ.1 a (ahM lo c (σ.1 a) q), σ.2)) = some (none, (upA σ.1 a (ahM lo c (σ.1 a) c.length), σ.2))
      rw [e62_16]
      have b1 : 2 ^ i < 2147483648 := pw_lt (n := 31) (by omega) (by omega)
      have b2 : ahS lo c i < 2147483648 := Nat.lt_of_lt_of_le (ahS_lt lo c i) (p31 (by omega))
      have b3 : orr (ahF lo c q (ahS lo c)) i < 2147483648 := Nat.lt_of_lt_of_le (orr_lt (k := q) i (fun h hh => ahF_lt h (by omega) (ahS_lt lo c h))) (p31 (by omega))
      have b4 := xor_lt b1 b2
      simp (disch := first | assumption | omega | (simp (disch := omega) only [wN, w0, w1]; omega)) only [e62_0, e62_1, e62_2, e62_3, e62_4, e62_7, e62_10, e62_11, e62_13, e62_14, e62_18, e62_19, e62_22, e62_23, e62_24, e62_26, e62_27, e62_30, e62_33, e62_35, e62_36, e62_38, e62_39, e62_40, e62_42, e62_45, e62_46, e62_47, e62_49, e62_52, e62_55, e62_56, e62_57, e62_59, e62_62, e62_65, e62_68, kl_I, kl_R, kl_N, kl_L, oSm, oNn, Option.bind_some, wN, if_pos, if_neg, nS, tN, t0, w0, w1, w2, w3, w4, w5, wm1, upA_ne, upA_same, if_true, if_false, Bool.false_eq_true, L61 hg (hGi _) hc hb hv hn5 hi' (Nat.lt_trans hi hi'), wi_01, if10, xshl_1, xor_nn, K93n hk rfl hl5 (show i < sln sh a by omega), ahM_h]
      by_cases h : wtB lo (gA c q) (gA c i) = true
      · have e7 : orr (ahF lo c q (ahS lo c)) i ||| (2 ^ i ||| ahS lo c i) = orr (ahF lo c q (ahS lo c)) (i + 1) := by
          rw [orr]
          simp only [ahF, h, if_true]
        simp only [h, not_true_eq_false, if_false]
        rw [e7]
        exact ih
      · have e7 : orr (ahF lo c q (ahS lo c)) i = orr (ahF lo c q (ahS lo c)) (i + 1) := by
          rw [orr]
          simp only [ahF, h, if_false]
          simp
        simp only [h, not_false_eq_true, if_true]
        rw [e7]
        exact ih) 0 (Nat.zero_le _)
    rw [e62_2]
    simp (disch := first | assumption | omega | (simp (disch := omega) only [wN, w0, w1]; omega)) only [e62_0, e62_1, e62_3, e62_4, e62_7, e62_10, e62_11, e62_13, e62_14, e62_18, e62_19, e62_22, e62_23, e62_24, e62_26, e62_27, e62_30, e62_33, e62_35, e62_36, e62_38, e62_39, e62_40, e62_42, e62_45, e62_46, e62_47, e62_49, e62_52, e62_55, e62_56, e62_57, e62_59, e62_62, e62_65, e62_68, kl_I, kl_R, kl_N, kl_L, oSm, oNn, Option.bind_some, wN, if_pos, if_neg, nS, tN, t0, w0, w1, w2, w3, w4, w5, wm1, upA_ne, upA_same, if_true, if_false, Bool.false_eq_true, hna, upA_upA]
    exact I) 0 (Nat.zero_le _)
  simp (disch := first | assumption | omega | (simp (disch := omega) only [wN, w0, w1]; omega)) only [e62_0, e62_1, e62_3, e62_4, e62_7, e62_10, e62_11, e62_13, e62_14, e62_16, e62_18, e62_19, e62_22, e62_23, e62_24, e62_26, e62_27, e62_30, e62_33, e62_35, e62_36, e62_38, e62_39, e62_40, e62_42, e62_45, e62_46, e62_47, e62_49, e62_52, e62_55, e62_56, e62_57, e62_59, e62_62, e62_65, e62_68, kl_I, kl_R, kl_N, kl_L, oSm, oNn, Option.bind_some, wN, if_pos, if_neg, nS, tN, t0, w0, w1, w2, w3, w4, w5, wm1, upA_ne, upA_same, if_true, if_false, Bool.false_eq_true, q62]
  have F0 := F none none
  rw [show ahM lo c (σ.1 a) 0 = σ.1 a from funext fun j => by simp [ahM], show upA σ.1 a (σ.1 a) = σ.1 from funext fun b => by unfold upA; split <;> simp [*]] at F0
  exact F0
end GLA
