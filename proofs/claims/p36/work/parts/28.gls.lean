/-! ===== GateList: shorter ===== -/
/-- the first from i on, k looked at -/
def fst1 (p : Nat → Bool) : Nat → Nat → Option Nat
  | 0, _ => none
  | k + 1, i => if p i = true then some i else fst1 p k (i + 1)
theorem fst1_s {p : Nat → Bool} {n i : Nat} (h : i < n) : fst1 p (n - i) i = if p i = true then some i else fst1 p (n - (i + 1)) (i + 1) := by
  rw [show n - i = (n - (i + 1)) + 1 by omega, fst1]
theorem fst1_e {p : Nat → Bool} {n : Nat} : fst1 p (n - n) n = none := by rw [Nat.sub_self, fst1]
theorem fst1_in {p : Nat → Bool} : ∀ {k i x : Nat}, fst1 p k i = some x → i ≤ x ∧ x < i + k ∧ p x = true
  | 0, i, x, h => by cases h
  | k + 1, i, x, h => by
    rw [fst1] at h
    by_cases hp : p i = true
    · rw [if_pos hp] at h
      cases h
      exact ⟨Nat.le_refl _, by omega, hp⟩
    · rw [if_neg hp] at h
      have := fst1_in h
      exact ⟨by omega, by omega, this.2.2⟩
/-- the first pair -/
def fst2 (p : Nat → Nat → Bool) (n : Nat) : Nat → Nat → Option (Nat × Nat)
  | 0, _ => none
  | k + 1, i => match fst1 (p i) (n - (i + 1)) (i + 1) with
    | some j => some (i, j)
    | none => fst2 p n k (i + 1)
theorem fst2_s {p : Nat → Nat → Bool} {n m i : Nat} (h : i < m) : fst2 p n (m - i) i = (match fst1 (p i) (n - (i + 1)) (i + 1) with
    | some j => some (i, j)
    | none => fst2 p n (m - (i + 1)) (i + 1)) := by
  rw [show m - i = (m - (i + 1)) + 1 by omega, fst2]
theorem fst2_in {p : Nat → Nat → Bool} {n : Nat} : ∀ {k i x y : Nat}, fst2 p n k i = some (x, y) → i ≤ x ∧ x < i + k ∧ x < y ∧ y < n ∧ p x y = true
  | 0, i, x, y, h => by cases h
  | k + 1, i, x, y, h => by
    rw [fst2] at h
    cases h1 : fst1 (p i) (n - (i + 1)) (i + 1) with
    | some j =>
      rw [h1] at h
      cases h
      have := fst1_in h1
      exact ⟨Nat.le_refl _, by omega, by omega, by omega, this.2.2⟩
    | none =>
      rw [h1] at h
      have := fst2_in h
      exact ⟨by omega, by omega, this.2.2.1, this.2.2.2.1, this.2.2.2.2⟩
/-- two equal gates fall, or turns are joined -/
def jnS (c : List Gt) (x y : Nat) : Nat × List Gt :=
  if (gA c x).1 = 0 then (1, (c.set x (0, (gA c x).2.1, ((gA c x).2.2 + (gA c y).2.2) % 8)).eraseIdx y) else (2, (c.eraseIdx y).eraseIdx x)
def paB (c : List Gt) (x y : Nat) : Bool := alB (gA c x) (gA c y) && fbB c x y
/-- one step: how many fall, and what is left -/
def shS (c : List Gt) : Nat × List Gt := match fst1 (fun x => idB (gA c x)) (c.length - 0) 0 with
  | some x => (1, c.eraseIdx x)
  | none => match fst2 (paB c) c.length (c.length - 0) 0 with
    | some (x, y) => jnS c x y
    | none => (0, c)
theorem gA_set {c : List Gt} {x j : Nat} {q : Gt} (hx : x < c.length) : gA (c.set x q) j = if j = x then q else gA c j := by
  unfold gA
  rw [List.getD_eq_getElem?_getD, List.getElem?_set]
  by_cases h : j = x
  · subst h; simp [hx]
  · rw [if_neg (Ne.symm h), if_neg h, List.getD_eq_getElem?_getD]
section GLS
variable {sh : Shp} {d g cap n : Nat} {σ : Mem} {c : List Gt} {x y : Nat}
theorem L71 (hg : glS sh g cap) (hG : HG σ g c) (hc : c.length ≤ cap) (hb : cap ≤ 100) (hv : okC n c) (hn5 : n ≤ 5) (hx : x < y) (hy : y < c.length) (hk : (gA c x).1 = (gA c y).1) : End (run sh (d + 3) 71 [mR g, mI (x : Int), mI (y : Int)] σ) (fun r σ' => r = some (mI ((jnS c x y).1 : Int)) ∧ HG σ' g (jnS c x y).2 ∧ frG g σ σ') := by
  obtain ⟨ho, r0, r1, r2, r3, r4, r5, k1, k2, k3, k4, k5, k6, l1, l2, l3, l4, l5, l6, w6⟩ := id hg
  have hn := hG.1
  have hx' : x < c.length := by omega
  obtain ⟨g1, g2, g3, g4⟩ := hG.2 x (by omega)
  have h5 := (hv.at (show x < c.length by omega)).1
  by_cases h0 : (gA c x).1 = 0
  · have e1 := (hv.at (show x < c.length by omega)).2.2.1 h0
    have e2 := (hv.at hy).2.2.1 (by omega)
    obtain ⟨t, ht⟩ : ∃ t : Nat, (gA c x).2.2 + (gA c y).2.2 = (t : Int) := ⟨((gA c x).2.2 + (gA c y).2.2).toNat, by omega⟩
    have hset : HG (upA σ.1 (g + 3) (up1 (σ.1 (g + 3)) x ((t % 8 : Nat) : Int)), σ.2) g (c.set x (0, (gA c x).2.1, ((gA c x).2.2 + (gA c y).2.2) % 8)) := by
      refine ⟨?_, fun j hj => ?_⟩
      · simp (disch := omega) only [upA_ne, List.length_set]
        exact hn
      · rw [List.length_set] at hj
        rw [gA_set (by omega)]
        by_cases h : j = x
        · subst h
          rw [if_pos rfl]
          simp (disch := omega) only [upA_ne, upA_same, up1_same]
          refine ⟨?_, g2, ?_, ?_⟩
          · rw [g1, h0]
          · rw [ht]; rfl
          · rw [g4]; simp [gm, h0]
        · rw [if_neg h]
          simp (disch := omega) only [upA_ne, upA_same, up1_ne]
          exact hG.2 j hj
    obtain ⟨r, σ2, h1, rfl, h3, h4⟩ := L72 (d := d) (x := y) hg hset (by simpa using hc) hb (by simpa using hy)
    simp (disch := first | assumption | omega | (simp (disch := omega) only [wN, w0, w1]; omega)) only [e71_0, e71_1, e71_2, e71_5, e71_8, e71_9, e71_12, e71_13, e71_14, e71_15, e71_18, e71_19, e71_20, e71_23, e71_24, e71_26, e71_27, e71_30, e71_31, e71_32, e71_35, e71_36, e71_37, e71_38, e71_39, e71_42, e71_43, e71_44, e71_47, e71_48, kl_I, kl_R, kl_N, kl_L, oSm, oNn, Option.bind_some, wN, if_pos, if_neg, nS, tN, t0, w0, w1, w2, w3, w4, w5, wm1, upA_ne, upA_same, if_true, if_false, Bool.false_eq_true, q71, L46 hg hG hc hb hx', L48 hg hG hc hb hx', L48 hg hG hc hb hy, r2, K289n k3 l3 (show cap ≤ 5000 by omega) (show g + 3 < sh.1 by omega) (show x < cap by omega), h0, ht, xand_m7, h1]
    have ej : jnS c x y = (1, (c.set x (0, (gA c x).2.1, ((gA c x).2.2 + (gA c y).2.2) % 8)).eraseIdx y) := if_pos h0
    rw [ej]
    refine End.of rfl ⟨rfl, h3, ⟨fun a ha => ?_, h4.2⟩⟩
    rw [h4.1 a ha]
    show upA σ.1 (g + 3) _ a = _
    rw [upA_ne (by omega)]
  · obtain ⟨r, σ2, h1, rfl, h3, h4⟩ := L72 (d := d) (x := y) hg hG hc hb hy
    have hle : (c.eraseIdx y).length = c.length - 1 := by rw [List.length_eraseIdx, if_pos hy]
    obtain ⟨r, σ3, f1, rfl, f3, f4⟩ := L72 (d := d) (x := x) hg h3 (by omega) hb (by omega)
    simp (disch := first | assumption | omega | (simp (disch := omega) only [wN, w0, w1]; omega)) only [e71_0, e71_1, e71_2, e71_5, e71_8, e71_9, e71_12, e71_13, e71_14, e71_15, e71_18, e71_19, e71_20, e71_23, e71_24, e71_26, e71_27, e71_30, e71_31, e71_32, e71_35, e71_36, e71_37, e71_38, e71_39, e71_42, e71_43, e71_44, e71_47, e71_48, kl_I, kl_R, kl_N, kl_L, oSm, oNn, Option.bind_some, wN, if_pos, if_neg, nS, tN, t0, w0, w1, w2, w3, w4, w5, wm1, upA_ne, upA_same, if_true, if_false, Bool.false_eq_true, q71, L46 hg hG hc hb hx', h1, f1]
    have ej : jnS c x y = (2, (c.eraseIdx y).eraseIdx x) := if_neg h0
    rw [ej]
    exact End.of rfl ⟨rfl, f3, h4.tr f4⟩
theorem L68 (hg : glS sh g cap) (hG : HG σ g c) (hc : c.length ≤ cap) (hb : cap ≤ 100) (hv : okC n c) (hn5 : n ≤ 5) : End (run sh (d + 4) 68 [mR g] σ) (fun r σ' => r = some (mI ((shS c).1 : Int)) ∧ HG σ' g (shS c).2 ∧ frG g σ σ') := by
  have ho := hg.1
  have hn := hG.1
  let RES2 : Option (Nat × Nat) → Option MV → Mem → Prop := fun o r σ' => match o with
    | some (x, y) => r = some (mI ((jnS c x y).1 : Int)) ∧ HG σ' g (jnS c x y).2 ∧ frG g σ σ'
    | none => r = some (mI 0) ∧ σ' = σ
  have P2 : ∀ i, i ≤ c.length → ∀ v2, End (ev sh (d + 4) 68 33 [some (mR (g)), some (mI ((i : Nat) : Int)), v2] [] σ) (RES2 (fst2 (paB c) c.length (c.length - i) i)) := for_P c.length (fun i => ∀ v2, End (ev sh (d + 4) 68 33 [some (mR (g)), some (mI ((i : Nat) : Int)), v2] [] σ) (RES2 (fst2 (paB c) c.length (c.length - i) i))) (by
    intro v2
    rw [e68_33, Nat.sub_self]
    simp (disch := first | assumption | omega | (simp (disch := omega) only [wN, w0, w1]; omega)) only [e68_0, e68_1, e68_2, e68_3, e68_4, e68_7, e68_10, e68_11, e68_12, e68_15, e68_18, e68_19, e68_20, e68_23, e68_24, e68_25, e68_28, e68_31, e68_32, e68_34, e68_35, e68_38, e68_41, e68_42, e68_43, e68_44, e68_46, e68_47, e68_50, e68_53, e68_54, e68_55, e68_56, e68_59, e68_62, e68_63, e68_64, e68_65, e68_68, e68_71, e68_72, e68_73, e68_74, e68_77, e68_78, e68_81, e68_84, e68_87, e68_90, e68_91, kl_I, kl_R, kl_N, kl_L, oSm, oNn, Option.bind_some, wN, if_pos, if_neg, nS, tN, t0, w0, w1, w2, w3, w4, w5, wm1, upA_ne, upA_same, hn]
    exact End.of rfl ⟨rfl, rfl⟩) (fun x hx ih v2 => by
    have I : ∀ j, j ≤ c.length → x < j → End (ev sh (d + 4) 68 45 [some (mR (g)), some (mI ((x : Nat) : Int)), some (mI ((j : Nat) : Int))] [] σ) (RES2 (match fst1 (paB c x) (c.length - j) j with
      | some j => some (x, j)
      | none => fst2 (paB c) c.length (c.length - (x + 1)) (x + 1))) := for_P c.length (fun j => x < j → End (ev sh (d + 4) 68 45 [some (mR (g)), some (mI ((x : Nat) : Int)), some (mI ((j : Nat) : Int))] [] σ) (RES2 (match fst1 (paB c x) (c.length - j) j with
      | some j => some (x, j)
      | none => fst2 (paB c) c.length (c.length - (x + 1)) (x + 1)))) (by
      intro _
      rw [e68_45, fst1_e]
      simp (disch := first | assumption | omega | (simp (disch := omega) only [wN, w0, w1]; omega)) only [e68_0, e68_1, e68_2, e68_3, e68_4, e68_7, e68_10, e68_11, e68_12, e68_15, e68_18, e68_19, e68_20, e68_23, e68_24, e68_25, e68_28, e68_31, e68_32, e68_34, e68_35, e68_38, e68_41, e68_42, e68_43, e68_44, e68_46, e68_47, e68_50, e68_53, e68_54, e68_55, e68_56, e68_59, e68_62, e68_63, e68_64, e68_65, e68_68, e68_71, e68_72, e68_73, e68_74, e68_77, e68_78, e68_81, e68_84, e68_87, e68_90, e68_91, kl_I, kl_R, kl_N, kl_L, oSm, oNn, Option.bind_some, wN, if_pos, if_neg, nS, tN, t0, w0, w1, w2, w3, w4, w5, wm1, upA_ne, upA_same, hn]
      exact ih _) (fun y hy ihy hxy => by
      rw [e68_45, fst1_s hy]
      simp (disch := first | assumption | omega | (simp (disch := omega) only [wN, w0, w1]; omega)) only [e68_0, e68_1, e68_2, e68_3, e68_4, e68_7, e68_10, e68_11, e68_12, e68_15, e68_18, e68_19, e68_20, e68_23, e68_24, e68_25, e68_28, e68_31, e68_32, e68_34, e68_35, e68_38, e68_41, e68_42, e68_43, e68_44, e68_46, e68_47, e68_50, e68_53, e68_54, e68_55, e68_56, e68_59, e68_62, e68_63, e68_64, e68_65, e68_68, e68_71, e68_72, e68_73, e68_74, e68_77, e68_78, e68_81, e68_84, e68_87, e68_90, e68_91, kl_I, kl_R, kl_N, kl_L, oSm, oNn, Option.bind_some, wN, if_pos, if_neg, nS, tN, t0, w0, w1, w2, w3, w4, w5, wm1, upA_ne, upA_same, hn, L69 hg hG hc hb hv hn5 hx hy, L70 hg hG hc hb hv hn5 hxy hy, wi_01, if10]
      by_cases h1 : alB (gA c x) (gA c y) = true
      · by_cases h2 : fbB c x y = true
        · have hk : (gA c x).1 = (gA c y).1 := by
            unfold alB at h1
            simp only [Bool.and_eq_true, decide_eq_true_eq] at h1
            exact h1.1
          obtain ⟨r, σ2, f1, rfl, f3, f4⟩ := L71 (d := d) hg hG hc hb hv hn5 hxy hy hk
          rw [if_neg (fun z => z h1), if_neg (fun z => z h2)]
          simp (disch := first | assumption | omega | (simp (disch := omega) only [wN, w0, w1]; omega)) only [e68_0, e68_1, e68_2, e68_3, e68_4, e68_7, e68_10, e68_11, e68_12, e68_15, e68_18, e68_19, e68_20, e68_23, e68_24, e68_25, e68_28, e68_31, e68_32, e68_34, e68_35, e68_38, e68_41, e68_42, e68_43, e68_44, e68_46, e68_47, e68_50, e68_53, e68_54, e68_55, e68_56, e68_59, e68_62, e68_63, e68_64, e68_65, e68_68, e68_71, e68_72, e68_73, e68_74, e68_77, e68_78, e68_81, e68_84, e68_87, e68_90, e68_91, kl_I, kl_R, kl_N, kl_L, oSm, oNn, Option.bind_some, wN, if_pos, if_neg, nS, tN, t0, w0, w1, w2, w3, w4, w5, wm1, upA_ne, upA_same, f1]
          rw [if_pos (show paB c x y = true by unfold paB; rw [h1, h2]; rfl)]
          exact End.of rfl ⟨rfl, f3, f4⟩
        · rw [if_neg (fun z => z h1), if_pos h2, if_neg (show ¬ paB c x y = true by unfold paB; simp [h2])]
          exact ihy (by omega)
      · rw [if_pos h1, if_neg (show ¬ paB c x y = true by unfold paB; simp [h1])]
        exact ihy (by omega))
    rw [e68_33, fst2_s hx]
    simp (disch := first | assumption | omega | (simp (disch := omega) only [wN, w0, w1]; omega)) only [e68_0, e68_1, e68_2, e68_3, e68_4, e68_7, e68_10, e68_11, e68_12, e68_15, e68_18, e68_19, e68_20, e68_23, e68_24, e68_25, e68_28, e68_31, e68_32, e68_34, e68_35, e68_38, e68_41, e68_42, e68_43, e68_44, e68_46, e68_47, e68_50, e68_53, e68_54, e68_55, e68_56, e68_59, e68_62, e68_63, e68_64, e68_65, e68_68, e68_71, e68_72, e68_73, e68_74, e68_77, e68_78, e68_81, e68_84, e68_87, e68_90, e68_91, kl_I, kl_R, kl_N, kl_L, oSm, oNn, Option.bind_some, wN, if_pos, if_neg, nS, tN, t0, w0, w1, w2, w3, w4, w5, wm1, upA_ne, upA_same, hn]
    exact I (x + 1) (by omega) (by omega))
  let RES1 : Option Nat → Option MV → Mem → Prop := fun o r σ' => match o with
    | some x => r = some (mI 1) ∧ HG σ' g (c.eraseIdx x) ∧ frG g σ σ'
    | none => RES2 (fst2 (paB c) c.length (c.length - 0) 0) r σ'
  have P1 : ∀ i, i ≤ c.length → ∀ v2, End (ev sh (d + 4) 68 2 [some (mR (g)), some (mI ((i : Nat) : Int)), v2] [] σ) (RES1 (fst1 (fun x => idB (gA c x)) (c.length - i) i)) := for_P c.length (fun i => ∀ v2, End (ev sh (d + 4) 68 2 [some (mR (g)), some (mI ((i : Nat) : Int)), v2] [] σ) (RES1 (fst1 (fun x => idB (gA c x)) (c.length - i) i))) (by
    intro v2
    rw [e68_2, fst1_e]
    simp (disch := first | assumption | omega | (simp (disch := omega) only [wN, w0, w1]; omega)) only [e68_0, e68_1, e68_3, e68_4, e68_7, e68_10, e68_11, e68_12, e68_15, e68_18, e68_19, e68_20, e68_23, e68_24, e68_25, e68_28, e68_31, e68_32, e68_34, e68_35, e68_38, e68_41, e68_42, e68_43, e68_44, e68_46, e68_47, e68_50, e68_53, e68_54, e68_55, e68_56, e68_59, e68_62, e68_63, e68_64, e68_65, e68_68, e68_71, e68_72, e68_73, e68_74, e68_77, e68_78, e68_81, e68_84, e68_87, e68_90, e68_91, kl_I, kl_R, kl_N, kl_L, oSm, oNn, Option.bind_some, wN, if_pos, if_neg, nS, tN, t0, w0, w1, w2, w3, w4, w5, wm1, upA_ne, upA_same, hn]
    exact P2 0 (by omega) _) (fun x hx ih v2 => by
    rw [e68_2, fst1_s hx]
    obtain ⟨r, σ2, f1, rfl, f3, f4⟩ := L72 (d := d + 1) (x := x) hg hG hc hb hx
    simp (disch := first | assumption | omega | (simp (disch := omega) only [wN, w0, w1]; omega)) only [e68_0, e68_1, e68_3, e68_4, e68_7, e68_10, e68_11, e68_12, e68_15, e68_18, e68_19, e68_20, e68_23, e68_24, e68_25, e68_28, e68_31, e68_32, e68_34, e68_35, e68_38, e68_41, e68_42, e68_43, e68_44, e68_46, e68_47, e68_50, e68_53, e68_54, e68_55, e68_56, e68_59, e68_62, e68_63, e68_64, e68_65, e68_68, e68_71, e68_72, e68_73, e68_74, e68_77, e68_78, e68_81, e68_84, e68_87, e68_90, e68_91, kl_I, kl_R, kl_N, kl_L, oSm, oNn, Option.bind_some, wN, if_pos, if_neg, nS, tN, t0, w0, w1, w2, w3, w4, w5, wm1, upA_ne, upA_same, hn, L57 hg hG hc hb hv hn5 hx, wi_01, if10, f1]
    by_cases h : idB (gA c x) = true
    · rw [if_neg (fun z => z h), if_pos h]
      exact End.of rfl ⟨rfl, f3, f4⟩
    · rw [if_pos h, if_neg h]
      exact ih _)
  simp (disch := first | assumption | omega | (simp (disch := omega) only [wN, w0, w1]; omega)) only [e68_0, e68_1, e68_3, e68_4, e68_7, e68_10, e68_11, e68_12, e68_15, e68_18, e68_19, e68_20, e68_23, e68_24, e68_25, e68_28, e68_31, e68_32, e68_34, e68_35, e68_38, e68_41, e68_42, e68_43, e68_44, e68_46, e68_47, e68_50, e68_53, e68_54, e68_55, e68_56, e68_59, e68_62, e68_63, e68_64, e68_65, e68_68, e68_71, e68_72, e68_73, e68_74, e68_77, e68_78, e68_81, e68_84, e68_87, e68_90, e68_91, kl_I, kl_R, kl_N, kl_L, oSm, oNn, Option.bind_some, wN, if_pos, if_neg, nS, tN, t0, w0, w1, w2, w3, w4, w5, wm1, upA_ne, upA_same, q68]
  refine (P1 0 (by omega) _).imp (fun r σ' h => ?_)
  unfold shS
  cases h1 : fst1 (fun x => idB (gA c x)) (c.length - 0) 0 with
  | some x => rw [h1] at h; exact h
  | none =>
    rw [h1] at h
    cases h2 : fst2 (paB c) c.length (c.length - 0) 0 with
    | some q => obtain ⟨x, y⟩ := q; simp only [RES1, h2] at h; exact h
    | none =>
      simp only [RES1, h2] at h
      obtain ⟨h3, rfl⟩ := h
      exact ⟨h3, hG, frG.rf⟩
end GLS
