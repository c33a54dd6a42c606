/-! ===== GateList: all shorter, counts, parts, depths ===== -/
theorem okC.erase {n : Nat} {c : List Gt} {x : Nat} (h : okC n c) : okC n (c.eraseIdx x) := fun q hq => h q (List.mem_of_mem_eraseIdx hq)
theorem okC.set {n : Nat} {c : List Gt} {x : Nat} {q : Gt} (h : okC n c) (hq : vG n q) : okC n (c.set x q) := by
  intro r hr
  rcases List.mem_or_eq_of_mem_set hr with h1 | rfl
  · exact h r h1
  · exact hq
theorem jnS_ok {n : Nat} {c : List Gt} {x y : Nat} (h : okC n c) (hx : x < y) (hy : y < c.length) (hk : (gA c x).1 = (gA c y).1) : okC n (jnS c x y).2 ∧ (jnS c x y).2.length + (jnS c x y).1 = c.length ∧ 1 ≤ (jnS c x y).1 := by
  have v := h.at (show x < c.length by omega)
  unfold jnS
  by_cases h0 : (gA c x).1 = 0
  · rw [if_pos h0]
    have vj : vG n (0, (gA c x).2.1, ((gA c x).2.2 + (gA c y).2.2) % 8) := by
      refine ⟨Nat.zero_le _, v.2.1, fun _ => ⟨Int.emod_nonneg _ (by decide), Int.emod_lt_of_pos _ (by decide)⟩, fun z => ?_, fun z => ?_⟩
      · have q1 : (0 : Nat) = 1 ∨ (0 : Nat) = 2 := z
        omega
      · have q1 : 3 ≤ (0 : Nat) := z
        omega
    refine ⟨(h.set vj).erase, ?_, Nat.le_refl _⟩
    simp only [List.length_eraseIdx, List.length_set, if_pos hy]
    omega
  · rw [if_neg h0]
    refine ⟨h.erase.erase, ?_, by simp⟩
    have e : (c.eraseIdx y).length = c.length - 1 := by rw [List.length_eraseIdx, if_pos hy]
    simp only [List.length_eraseIdx (l := c.eraseIdx y), e]
    rw [if_pos (by omega)]; omega
theorem paB_k {c : List Gt} {x y : Nat} (h : paB c x y = true) : (gA c x).1 = (gA c y).1 := by
  unfold paB alB at h
  simp only [Bool.and_eq_true, decide_eq_true_eq] at h
  exact h.1.1
theorem shS_ok {n : Nat} {c : List Gt} (h : okC n c) : okC n (shS c).2 ∧ (shS c).2.length + (shS c).1 = c.length := by
  unfold shS
  cases h1 : fst1 (fun x => idB (gA c x)) (c.length - 0) 0 with
  | some x =>
    have := fst1_in h1
    refine ⟨h.erase, ?_⟩
    simp only [List.length_eraseIdx]
    rw [if_pos (by omega)]; omega
  | none =>
    cases h2 : fst2 (paB c) c.length (c.length - 0) 0 with
    | some q =>
      obtain ⟨x, y⟩ := q
      have := fst2_in h2
      have := jnS_ok h (x := x) (y := y) (by omega) (by omega) (paB_k this.2.2.2.2)
      exact ⟨this.1, this.2.1⟩
    | none => exact ⟨h, rfl⟩
/-- k steps at most -/
def shN : Nat → List Gt → List Gt
  | 0, c => c
  | k + 1, c => if (shS c).1 = 0 then c else shN k (shS c).2
theorem shN_ok {n : Nat} : ∀ k {c : List Gt}, okC n c → okC n (shN k c) ∧ (shN k c).length ≤ c.length
  | 0, c, h => ⟨h, Nat.le_refl _⟩
  | k + 1, c, h => by
    rw [shN]
    split
    · exact ⟨h, Nat.le_refl _⟩
    · have h1 := shS_ok h
      have h2 := shN_ok k h1.1
      exact ⟨h2.1, by omega⟩
def saS (c : List Gt) : List Gt := shN c.length c
def cnt (p : Nat → Bool) : Nat → Nat
  | 0 => 0
  | i + 1 => cnt p i + (if p i = true then 1 else 0)
theorem cnt_le (p : Nat → Bool) : ∀ n, cnt p n ≤ n
  | 0 => Nat.le_refl _
  | n + 1 => by have := cnt_le p n; rw [cnt]; split <;> omega
def sum' (f : Nat → Nat) : Nat → Nat
  | 0 => 0
  | i + 1 => sum' f i + f i
theorem sum_le {f : Nat → Nat} {k : Nat} : ∀ n, (∀ h, h < n → f h ≤ k) → sum' f n ≤ k * n
  | 0, _ => Nat.zero_le _
  | n + 1, h => by
    rw [sum', Nat.mul_succ]
    exact Nat.add_le_add (sum_le n (fun x hx => h x (by omega))) (h n (by omega))
/-- K of a turn on the line, else 0 -/
def tuF (c : List Gt) (l g : Nat) : Nat := if (gA c g).1 = 0 ∧ (gA c g).2.1 = l then (gA c g).2.2.toNat else 0
/-- what gateIs() tells of a gate -/
def paS (q : Gt) (what : Nat) : Int := if what = 0 then q.1 else if what = 1 then q.2.1 else if what = 2 then (if 3 ≤ q.1 then q.2.2 else -2) else (if q.1 = 0 then q.2.2 else -2)
section GLX
variable {sh : Shp} {d g cap n : Nat} {σ : Mem} {c : List Gt} {x y : Nat} {lo : Bool}
theorem L67 (hg : glS sh g cap) (hG : HG σ g c) (hc : c.length ≤ cap) (hb : cap ≤ 100) (hv : okC n c) (hn5 : n ≤ 5) : End (run sh (d + 5) 67 [mR g] σ) (fun r σ' => r = some (mI ((c.length - (saS c).length : Nat) : Int)) ∧ HG σ' g (saS c) ∧ frG g σ σ') := by
  have ho := hg.1
  have hn := hG.1
  have F : ∀ i, i ≤ c.length → ∀ (σ1 : Mem) (c1 : List Gt), HG σ1 g c1 → okC n c1 → c1.length ≤ c.length → frG g σ σ1 → End (ev sh (d + 5) 67 7 [some (mR (g)), some (mI ((c.length : Nat) : Int)), some (mI ((i : Nat) : Int))] [] σ1) (fun r σ' => r = some (mI ((c.length - (shN (c.length - i) c1).length : Nat) : Int)) ∧ HG σ' g (shN (c.length - i) c1) ∧ frG g σ σ') := for_P c.length (fun i => ∀ (σ1 : Mem) (c1 : List Gt), HG σ1 g c1 → okC n c1 → c1.length ≤ c.length → frG g σ σ1 → End (ev sh (d + 5) 67 7 [some (mR (g)), some (mI ((c.length : Nat) : Int)), some (mI ((i : Nat) : Int))] [] σ1) (fun r σ' => r = some (mI ((c.length - (shN (c.length - i) c1).length : Nat) : Int)) ∧ HG σ' g (shN (c.length - i) c1) ∧ frG g σ σ')) (by
    intro σ1 c1 h1 h2 h3 h4
    have hn1 := h1.1
    rw [e67_7, Nat.sub_self]
    have e : (c.length : Int) - (c1.length : Int) = ((c.length - c1.length : Nat) : Int) := by omega
    simp (disch := first | assumption | omega | (simp (disch := omega) only [wN, w0, w1]; omega)) only [e67_0, e67_1, e67_4, e67_5, e67_6, e67_8, e67_9, e67_12, e67_13, e67_16, e67_19, e67_22, e67_25, e67_28, e67_29, e67_30, e67_33, e67_34, kl_I, kl_R, kl_N, kl_L, oSm, oNn, Option.bind_some, wN, if_pos, if_neg, nS, tN, t0, w0, w1, w2, w3, w4, w5, wm1, upA_ne, upA_same, hn1, e]
    exact End.of rfl ⟨rfl, h1, h4⟩) (fun i hi ih => by
    intro σ1 c1 h1 h2 h3 h4
    have hn1 := h1.1
    have e : (c.length : Int) - (c1.length : Int) = ((c.length - c1.length : Nat) : Int) := by omega
    obtain ⟨r, σ2, f1, rfl, f3, f4⟩ := L68 (d := d) hg h1 (by omega) hb h2 hn5
    have k := shS_ok h2
    have hn2 := f3.1
    rw [e67_7, show c.length - i = (c.length - (i + 1)) + 1 by omega, shN]
    simp (disch := first | assumption | omega | (simp (disch := omega) only [wN, w0, w1]; omega)) only [e67_0, e67_1, e67_4, e67_5, e67_6, e67_8, e67_9, e67_12, e67_13, e67_16, e67_19, e67_22, e67_25, e67_28, e67_29, e67_30, e67_33, e67_34, kl_I, kl_R, kl_N, kl_L, oSm, oNn, Option.bind_some, wN, if_pos, if_neg, nS, tN, t0, w0, w1, w2, w3, w4, w5, wm1, upA_ne, upA_same, hn1, f1]
    by_cases h0 : (shS c1).1 = 0
    · have e2 : (c.length : Int) - ((shS c1).2.length : Int) = ((c.length - c1.length : Nat) : Int) := by omega
      rw [if_pos (by omega), if_pos h0]
      simp (disch := first | assumption | omega | (simp (disch := omega) only [wN, w0, w1]; omega)) only [e67_0, e67_1, e67_4, e67_5, e67_6, e67_8, e67_9, e67_12, e67_13, e67_16, e67_19, e67_22, e67_25, e67_28, e67_29, e67_30, e67_33, e67_34, kl_I, kl_R, kl_N, kl_L, oSm, oNn, Option.bind_some, wN, if_pos, if_neg, nS, tN, t0, w0, w1, w2, w3, w4, w5, wm1, upA_ne, upA_same, hn2, e2]
      have e3 : shS c1 = (0, c1) := by
        have h9 := h0
        unfold shS at h9 ⊢
        cases q1 : fst1 (fun x => idB (gA c1 x)) (c1.length - 0) 0 with
        | some x => rw [q1] at h9; simp at h9
        | none =>
          rw [q1] at h9
          cases q2 : fst2 (paB c1) c1.length (c1.length - 0) 0 with
          | some q =>
            obtain ⟨x, y⟩ := q
            rw [q2] at h9
            have g1 := fst2_in q2
            have g2 := jnS_ok h2 (x := x) (y := y) (by omega) (by omega) (paB_k g1.2.2.2.2)
            simp only at h9
            omega
          | none => rfl
      rw [e3] at f3
      exact End.of rfl ⟨rfl, f3, h4.tr f4⟩
    · rw [if_neg (by omega), if_neg h0]
      exact ih σ2 _ f3 k.1 (by omega) (h4.tr f4))
  simp (disch := first | assumption | omega | (simp (disch := omega) only [wN, w0, w1]; omega)) only [e67_0, e67_1, e67_4, e67_5, e67_6, e67_8, e67_9, e67_12, e67_13, e67_16, e67_19, e67_22, e67_25, e67_28, e67_29, e67_30, e67_33, e67_34, kl_I, kl_R, kl_N, kl_L, oSm, oNn, Option.bind_some, wN, if_pos, if_neg, nS, tN, t0, w0, w1, w2, w3, w4, w5, wm1, upA_ne, upA_same, q67, hn]
  have F0 := F 0 (by omega) σ c hG hv (Nat.le_refl _) frG.rf
  rw [Nat.sub_zero] at F0
  exact F0
theorem L55 {l : Nat} (hg : glS sh g cap) (hG : HG σ g c) (hc : c.length ≤ cap) (hb : cap ≤ 100) (hv : okC n c) (hn5 : n ≤ 5) (hl : l < 32) : run sh (d + 2) 55 [mR g, mI (l : Int)] σ = some (some (mI (cnt (fun x => (gm (gA c x)).testBit l) c.length : Int)), σ) := by
  have ho := hg.1
  have hn := hG.1
  have F := for_up (fun i => ev sh (d + 2) 55 4 [some (mR (g)), some (mI ((l : Nat) : Int)), some (mI ((cnt (fun x => (gm (gA c x)).testBit l) i : Nat) : Int)), some (mI ((i : Nat) : Int))] [] (σ)) (c.length) (fun i hi => by
    show ev sh (d + 2) 55 4 [some (mR (g)), some (mI ((l : Nat) : Int)), some (mI ((cnt (fun x => (gm (gA c x)).testBit l) i : Nat) : Int)), some (mI ((i : Nat) : Int))] [] (σ) = ev sh (d + 2) 55 4 [some (mR (g)), some (mI ((l : Nat) : Int)), some (mI ((cnt (fun x => (gm (gA c x)).testBit l) (i + 1) : Nat) : Int)), some (mI (((i + 1) : Nat) : Int))] [] (σ)
    rw [e55_4]
    have m1 : gm (gA c i) < 32 := gm_lt (hv.at hi) hn5
    simp (disch := first | assumption | omega | (simp (disch := omega) only [wN, w0, w1]; omega)) only [e55_0, e55_1, e55_2, e55_3, e55_5, e55_6, e55_9, e55_12, e55_13, e55_14, e55_15, e55_18, e55_19, e55_20, e55_21, e55_22, e55_23, e55_24, e55_27, e55_30, e55_31, kl_I, kl_R, kl_N, kl_L, oSm, oNn, Option.bind_some, wN, if_pos, if_neg, nS, tN, t0, w0, w1, w2, w3, w4, w5, wm1, upA_ne, upA_same, hn, L51 hg hG hc hb hi, xbit]
    have e : (cnt (fun x => (gm (gA c x)).testBit l) i : Int) + (if (gm (gA c i)).testBit l = true then 1 else 0) = (cnt (fun x => (gm (gA c x)).testBit l) (i + 1) : Int) := by
      rw [cnt]
      split <;> simp
    rw [e]) 0 (Nat.zero_le _)
  simp (disch := first | assumption | omega | (simp (disch := omega) only [wN, w0, w1]; omega)) only [e55_0, e55_1, e55_2, e55_3, e55_5, e55_6, e55_9, e55_12, e55_13, e55_14, e55_15, e55_18, e55_19, e55_20, e55_21, e55_22, e55_23, e55_24, e55_27, e55_30, e55_31, kl_I, kl_R, kl_N, kl_L, oSm, oNn, Option.bind_some, wN, if_pos, if_neg, nS, tN, t0, w0, w1, w2, w3, w4, w5, wm1, upA_ne, upA_same, q55]
  refine F.trans ?_
  show ev sh (d + 2) 55 4 [some (mR (g)), some (mI ((l : Nat) : Int)), some (mI ((cnt (fun x => (gm (gA c x)).testBit l) c.length : Nat) : Int)), some (mI ((c.length : Nat) : Int))] [] σ = _
  rw [e55_4]
  simp (disch := first | assumption | omega | (simp (disch := omega) only [wN, w0, w1]; omega)) only [e55_0, e55_1, e55_2, e55_3, e55_5, e55_6, e55_9, e55_12, e55_13, e55_14, e55_15, e55_18, e55_19, e55_20, e55_21, e55_22, e55_23, e55_24, e55_27, e55_30, e55_31, kl_I, kl_R, kl_N, kl_L, oSm, oNn, Option.bind_some, wN, if_pos, if_neg, nS, tN, t0, w0, w1, w2, w3, w4, w5, wm1, upA_ne, upA_same, hn]
theorem L56 {l : Nat} (hg : glS sh g cap) (hG : HG σ g c) (hc : c.length ≤ cap) (hb : cap ≤ 100) (hv : okC n c) (hn5 : n ≤ 5) (hl : l < 32) : run sh (d + 2) 56 [mR g, mI (l : Int)] σ = some (some (mI (sum' (tuF c l) c.length % 8 : Nat)), σ) := by
  have ho := hg.1
  have hn := hG.1
  have t8 : ∀ x, x < c.length → tuF c l x ≤ 8 := by
    intro x hx
    unfold tuF
    split
    · have := (hv.at hx).2.2.1 (by omega); omega
    · omega
  have F := for_up (fun i => ev sh (d + 2) 56 4 [some (mR (g)), some (mI ((l : Nat) : Int)), some (mI ((sum' (tuF c l) i : Nat) : Int)), some (mI ((i : Nat) : Int))] [] (σ)) (c.length) (fun i hi => by
    show ev sh (d + 2) 56 4 [some (mR (g)), some (mI ((l : Nat) : Int)), some (mI ((sum' (tuF c l) i : Nat) : Int)), some (mI ((i : Nat) : Int))] [] (σ) = ev sh (d + 2) 56 4 [some (mR (g)), some (mI ((l : Nat) : Int)), some (mI ((sum' (tuF c l) (i + 1) : Nat) : Int)), some (mI (((i + 1) : Nat) : Int))] [] (σ)
    rw [e56_4]
    have q1 := (hv.at hi).1
    have q2 := (hv.at hi).2.1
    simp (disch := first | assumption | omega | (simp (disch := omega) only [wN, w0, w1]; omega)) only [e56_0, e56_1, e56_2, e56_3, e56_5, e56_6, e56_9, e56_12, e56_13, e56_14, e56_17, e56_20, e56_21, e56_22, e56_25, e56_26, e56_29, e56_30, e56_31, e56_32, e56_35, e56_36, e56_37, e56_40, e56_43, e56_44, e56_46, e56_47, kl_I, kl_R, kl_N, kl_L, oSm, oNn, Option.bind_some, wN, if_pos, if_neg, nS, tN, t0, w0, w1, w2, w3, w4, w5, wm1, upA_ne, upA_same, hn, L46 hg hG hc hb hi, L47 hg hG hc hb hi, L48 hg hG hc hb hi]
    by_cases h1 : (gA c i).1 = 0
    · have h2 := (hv.at hi).2.2.1 h1
      by_cases h3 : (gA c i).2.1 = l
      · have e : (sum' (tuF c l) i : Int) + (gA c i).2.2 = (sum' (tuF c l) (i + 1) : Int) := by
          rw [sum', tuF, if_pos ⟨h1, h3⟩]
          omega
        rw [if_pos (by omega), if_pos (by omega), e]
      · have e : sum' (tuF c l) i = sum' (tuF c l) (i + 1) := by
          rw [sum', tuF, if_neg (by omega)]; rfl
        rw [if_pos (by omega), if_neg (by omega), ← e]
    · have e : sum' (tuF c l) i = sum' (tuF c l) (i + 1) := by
        rw [sum', tuF, if_neg (by omega)]; rfl
      rw [if_neg (by omega), ← e]) 0 (Nat.zero_le _)
  have b1 := sum_le (f := tuF c l) c.length t8
  simp (disch := first | assumption | omega | (simp (disch := omega) only [wN, w0, w1]; omega)) only [e56_0, e56_1, e56_2, e56_3, e56_5, e56_6, e56_9, e56_12, e56_13, e56_14, e56_17, e56_20, e56_21, e56_22, e56_25, e56_26, e56_29, e56_30, e56_31, e56_32, e56_35, e56_36, e56_37, e56_40, e56_43, e56_44, e56_46, e56_47, kl_I, kl_R, kl_N, kl_L, oSm, oNn, Option.bind_some, wN, if_pos, if_neg, nS, tN, t0, w0, w1, w2, w3, w4, w5, wm1, upA_ne, upA_same, q56]
  refine F.trans ?_
  show ev sh (d + 2) 56 4 [some (mR (g)), some (mI ((l : Nat) : Int)), some (mI ((sum' (tuF c l) c.length : Nat) : Int)), some (mI ((c.length : Nat) : Int))] [] σ = _
  rw [e56_4]
  simp (disch := first | assumption | omega | (simp (disch := omega) only [wN, w0, w1]; omega)) only [e56_0, e56_1, e56_2, e56_3, e56_5, e56_6, e56_9, e56_12, e56_13, e56_14, e56_17, e56_20, e56_21, e56_22, e56_25, e56_26, e56_29, e56_30, e56_31, e56_32, e56_35, e56_36, e56_37, e56_40, e56_43, e56_44, e56_46, e56_47, kl_I, kl_R, kl_N, kl_L, oSm, oNn, Option.bind_some, wN, if_pos, if_neg, nS, tN, t0, w0, w1, w2, w3, w4, w5, wm1, upA_ne, upA_same, hn, xand_m7]
theorem L49 {w : Nat} (hg : glS sh g cap) (hG : HG σ g c) (hc : c.length ≤ cap) (hb : cap ≤ 100) (hv : okC n c) (hn5 : n ≤ 5) (hx : x < c.length) (hw : w < 4) : run sh (d + 2) 49 [mR g, mI (x : Int), mI (w : Int)] σ = some (some (mI (paS (gA c x) w)), σ) := by
  have ho := hg.1
  have q1 := (hv.at hx).1
  rw [q49, e49_0]
  rcases (show w = 0 ∨ w = 1 ∨ w = 2 ∨ w = 3 by omega) with rfl | rfl | rfl | rfl
  · rw [e49_1_0 rfl]
    simp (disch := first | assumption | omega | (simp (disch := omega) only [wN, w0, w1]; omega)) only [e49_0, e49_32, e49_33, e49_34, e49_37, e49_38, e49_39, e49_40, e49_43, e49_44, e49_45, e49_46, e49_49, e49_52, e49_53, e49_54, e49_57, e49_60, e49_62, e49_63, e49_64, e49_65, e49_68, e49_71, e49_72, e49_73, e49_76, e49_79, e49_81, e49_82, e49_83, kl_I, kl_R, kl_N, kl_L, oSm, oNn, Option.bind_some, wN, if_pos, if_neg, nS, tN, t0, w0, w1, w2, w3, w4, w5, wm1, upA_ne, upA_same, L46 hg hG hc hb hx]
    rfl
  · rw [e49_1_1 rfl]
    simp (disch := first | assumption | omega | (simp (disch := omega) only [wN, w0, w1]; omega)) only [e49_0, e49_32, e49_33, e49_34, e49_37, e49_38, e49_39, e49_40, e49_43, e49_44, e49_45, e49_46, e49_49, e49_52, e49_53, e49_54, e49_57, e49_60, e49_62, e49_63, e49_64, e49_65, e49_68, e49_71, e49_72, e49_73, e49_76, e49_79, e49_81, e49_82, e49_83, kl_I, kl_R, kl_N, kl_L, oSm, oNn, Option.bind_some, wN, if_pos, if_neg, nS, tN, t0, w0, w1, w2, w3, w4, w5, wm1, upA_ne, upA_same, L47 hg hG hc hb hx]
    rfl
  · rw [e49_1_2 rfl]
    simp (disch := first | assumption | omega | (simp (disch := omega) only [wN, w0, w1]; omega)) only [e49_0, e49_32, e49_33, e49_34, e49_37, e49_38, e49_39, e49_40, e49_43, e49_44, e49_45, e49_46, e49_49, e49_52, e49_53, e49_54, e49_57, e49_60, e49_62, e49_63, e49_64, e49_65, e49_68, e49_71, e49_72, e49_73, e49_76, e49_79, e49_81, e49_82, e49_83, kl_I, kl_R, kl_N, kl_L, oSm, oNn, Option.bind_some, wN, if_pos, if_neg, nS, tN, t0, w0, w1, w2, w3, w4, w5, wm1, upA_ne, upA_same, L48 hg hG hc hb hx, L50 hg hG hc hb hx hv, wi_01, if10]
    by_cases h : 3 ≤ (gA c x).1
    · simp [paS, h]
    · simp [paS, h]
  · rw [e49_1_3 rfl]
    simp (disch := first | assumption | omega | (simp (disch := omega) only [wN, w0, w1]; omega)) only [e49_0, e49_32, e49_33, e49_34, e49_37, e49_38, e49_39, e49_40, e49_43, e49_44, e49_45, e49_46, e49_49, e49_52, e49_53, e49_54, e49_57, e49_60, e49_62, e49_63, e49_64, e49_65, e49_68, e49_71, e49_72, e49_73, e49_76, e49_79, e49_81, e49_82, e49_83, kl_I, kl_R, kl_N, kl_L, oSm, oNn, Option.bind_some, wN, if_pos, if_neg, nS, tN, t0, w0, w1, w2, w3, w4, w5, wm1, upA_ne, upA_same, L48 hg hG hc hb hx, L46 hg hG hc hb hx]
    by_cases h : (gA c x).1 = 0
    · simp [paS, h]
    · rw [if_neg (by omega)]
      simp [paS, h]
theorem L65 (hg : glS sh g cap) (hG : HG σ g c) (hc : c.length ≤ cap) (hb : cap ≤ 100) (hv : okC n c) (hn5 : n ≤ 5) (hx : x < c.length) (hT : HT sh σ 1000000 (fun _ => 1)) (hR : sh.2.1 = 2) (h9 : g < 900000) : run sh (d + 5) 65 [mR g, mI (x : Int), mI (bi lo)] σ = some (some (mI ((bgS lo (fun _ => 1) c x + 1 : Nat) : Int)), (upA σ.1 (g + 5) (fiM (bgS lo (fun _ => 1) c) (σ.1 (g + 5)) c.length), σ.2)) := by
  obtain ⟨ho, r0, r1, r2, r3, r4, r5, k1, k2, k3, k4, k5, k6, l1, l2, l3, l4, l5, l6, w6⟩ := id hg
  simp (disch := first | assumption | omega | (simp (disch := omega) only [wN, w0, w1]; omega)) only [e65_0, e65_1, e65_4, e65_5, e65_8, e65_9, e65_10, e65_13, e65_14, e65_17, e65_18, e65_19, kl_I, kl_R, kl_N, kl_L, oSm, oNn, Option.bind_some, wN, if_pos, if_neg, nS, tN, t0, w0, w1, w2, w3, w4, w5, wm1, upA_ne, upA_same, if_true, if_false, Bool.false_eq_true, q65, L64 (d := d) (lo := lo) hg hG hc hb hv hn5 hT (by omega), r4, K93n k5 l5 (show cap ≤ 5000 by omega) (show x < cap by omega), fiM_lt]
end GLX
