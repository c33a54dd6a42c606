/-! ===== GateList: times ===== -/
theorem mmx_nn {a b : Nat} (ha : a < 2147483648) (hb : b < 2147483648) : mmx (a : Int) (b : Int) = ((max a b : Nat) : Int) := by
  unfold mmx
  rw [wN ha, wN hb]
  by_cases h : a < b
  · rw [if_pos (by omega), Nat.max_eq_right (by omega)]
  · rw [if_neg (by omega), Nat.max_eq_left (by omega)]
theorem mmn_nn {a b : Nat} (ha : a < 2147483648) (hb : b < 2147483648) : mmn (a : Int) (b : Int) = ((min a b : Nat) : Int) := by
  unfold mmn
  rw [wN ha, wN hb]
  by_cases h : b < a
  · rw [if_pos (by omega), Nat.min_eq_right (by omega)]
  · rw [if_neg (by omega), Nat.min_eq_left (by omega)]
def bgF (lo : Bool) (T : Nat → Nat) (c : List Gt) (g : Nat) (t : Nat → Nat) (h : Nat) : Nat := if wtB lo (gA c g) (gA c h) = true then t h + T (gA c h).1 else 0
/-- when gate g begins -/
def bgS (lo : Bool) (T : Nat → Nat) (c : List Gt) : Nat → Nat := rec1 (fun t g => mxx (bgF lo T c g t) g)
/-- when it ends -/
def enS (lo : Bool) (T : Nat → Nat) (c : List Gt) (g : Nat) : Nat := bgS lo T c g + T (gA c g).1
theorem bgS_eq (lo : Bool) (T : Nat → Nat) (c : List Gt) (g : Nat) : bgS lo T c g = mxx (bgF lo T c g (bgS lo T c)) g :=
  rec1_eq (step := fun t g => mxx (bgF lo T c g t) g) (fun t t' g h => mxx_congr g (fun x hx => by simp only [bgF, h x hx])) g
theorem mxx_le {f : Nat → Nat} {k : Nat} : ∀ n, (∀ h, h < n → f h ≤ k) → mxx f n ≤ k
  | 0, _ => Nat.zero_le _
  | n + 1, h => by
    rw [mxx]
    exact Nat.max_le.mpr ⟨mxx_le n (fun x hx => h x (by omega)), h n (by omega)⟩
theorem mxx_ge {f : Nat → Nat} : ∀ n h, h < n → f h ≤ mxx f n
  | n + 1, h, hh => by
    rw [mxx]
    by_cases e : h = n
    · subst e; exact Nat.le_max_right _ _
    · exact Nat.le_trans (mxx_ge n h (by omega)) (Nat.le_max_left _ _)
theorem bgS_le {lo : Bool} {T : Nat → Nat} {c : List Gt} (hT : ∀ k, k ≤ 5 → T k ≤ 20) {n : Nat} (hv : okC n c) : ∀ g, g < c.length → bgS lo T c g ≤ 20 * g := by
  intro g
  induction g using Nat.strongRecOn with
  | ind g ih =>
    intro hg
    rw [bgS_eq]
    refine mxx_le g (fun h hh => ?_)
    unfold bgF
    have h1 := ih h hh (by omega)
    have h2 := hT _ (hv.at (show h < c.length by omega)).1
    split <;> omega
theorem enS_le {lo : Bool} {T : Nat → Nat} {c : List Gt} (hT : ∀ k, k ≤ 5 → T k ≤ 20) {n : Nat} (hv : okC n c) {g : Nat} (hg : g < c.length) : enS lo T c g ≤ 20 * g + 20 := by
  have h1 := bgS_le (lo := lo) hT hv g hg
  have h2 := hT _ (hv.at hg).1
  unfold enS
  omega
/-- a row of times at t -/
def HT (sh : Shp) (σ : Mem) (t : Nat) (T : Nat → Nat) : Prop := skd sh t = 0 ∧ sln sh t = 6 ∧ ∀ k, k ≤ 5 → σ.1 t k = (T k : Int) ∧ T k ≤ 20
theorem HT.up {sh : Shp} {σ : Mem} {t a : Nat} {T : Nat → Nat} {X : Nat → Int} {τ : Nat → Nat → Int} (h : HT sh σ t T) (ha : a ≠ t) : HT sh (upA σ.1 a X, τ) t T := by
  obtain ⟨h1, h2, h3⟩ := h
  refine ⟨h1, h2, fun k hk => ?_⟩
  show upA σ.1 a X t k = _ ∧ _
  rw [upA_ne (Ne.symm ha)]
  exact h3 k hk
/-- a row filled below k -/
def fiM (F : Nat → Nat) (f : Nat → Int) (k : Nat) : Nat → Int := fun j => if j < k then (F j : Int) else f j
theorem fiM_s {F : Nat → Nat} {f : Nat → Int} {k : Nat} : up1 (fiM F f k) k (F k : Int) = fiM F f (k + 1) := by
  funext j
  rcases Nat.lt_trichotomy j k with h | h | h
  · simp [up1, fiM, h, Nat.ne_of_lt h, Nat.lt_succ_of_lt h]
  · subst h; simp [up1, fiM]
  · simp [up1, fiM, Nat.ne_of_gt h, Nat.not_lt_of_gt h]; omega
theorem fiM_0 {F : Nat → Nat} {f : Nat → Int} : fiM F f 0 = f := funext fun j => by simp [fiM]
theorem fiM_lt {F : Nat → Nat} {f : Nat → Int} {k j : Nat} (h : j < k) : fiM F f k j = (F j : Int) := if_pos h
theorem upA_id (f : Nat → Nat → Int) (a : Nat) : upA f a (f a) = f := funext fun b => by unfold upA; split <;> simp [*]
section GLT
variable {sh : Shp} {d g cap n t : Nat} {σ : Mem} {c : List Gt} {x : Nat} {lo : Bool} {T : Nat → Nat}
theorem L63 (hg : glS sh g cap) (hG : HG σ g c) (hc : c.length ≤ cap) (hb : cap ≤ 100) (hv : okC n c) (hx : x < c.length) (hT : HT sh σ t T) : run sh (d + 2) 63 [mR g, mI (x : Int), mR t] σ = some (some (mI (T (gA c x).1 : Int)), σ) := by
  have ho := hg.1
  have h5 := (hv.at hx).1
  obtain ⟨k, l, hT⟩ := hT
  simp (disch := first | assumption | omega | (simp (disch := omega) only [wN, w0, w1]; omega)) only [e63_0, e63_1, e63_2, e63_3, e63_6, e63_9, kl_I, kl_R, kl_N, kl_L, oSm, oNn, Option.bind_some, wN, if_pos, if_neg, nS, tN, t0, w0, w1, w2, w3, w4, w5, wm1, upA_ne, upA_same, if_true, if_false, Bool.false_eq_true, q63, L46 hg hG hc hb hx, K93n k l (by omega) (show (gA c x).1 < 6 by omega), (hT _ h5).1]
theorem L64 (hg : glS sh g cap) (hG : HG σ g c) (hc : c.length ≤ cap) (hb : cap ≤ 100) (hv : okC n c) (hn5 : n ≤ 5) (hT : HT sh σ t T) (ht : t ≠ g + 5) : run sh (d + 4) 64 [mR g, mR t, mI (bi lo)] σ = some (some (mI (mxx (enS lo T c) c.length : Int)), (upA σ.1 (g + 5) (fiM (bgS lo T c) (σ.1 (g + 5)) c.length), σ.2)) := by
  obtain ⟨ho, r0, r1, r2, r3, r4, r5, k1, k2, k3, k4, k5, k6, l1, l2, l3, l4, l5, l6, w6⟩ := id hg
  have hn := hG.1
  have h5k : cap ≤ 5000 := by omega
  have w5' : g + 5 < sh.1 := by omega
  have hT5 : ∀ k, k ≤ 5 → T k ≤ 20 := fun k hk => (hT.2.2 k hk).2
  have hna : ∀ X, (upA σ.1 (g + 5) X) g 6 = (c.length : Int) := fun X => by rw [upA_ne (by omega)]; exact hn
  have hGi := fun X => hG.up (X := X) (τ := σ.2) (a := g + 5) (by omega)
  have hTi := fun X => hT.up (X := X) (τ := σ.2) (a := g + 5) (Ne.symm ht)
  have F := for_P (c.length) (fun q => ∀ v5 v6 : Option MV, ev sh (d + 4) 64 5 [some (mR (g)), some (mR (t)), some (mI (bi lo)), some (mI ((mxx (enS lo T c) q : Nat) : Int)), some (mI ((q : Nat) : Int)), v5, v6] [] ((upA σ.1 (g + 5) (fiM (bgS lo T c) (σ.1 (g + 5)) q), σ.2)) = some (some (mI (mxx (enS lo T c) c.length : Int)), (upA σ.1 (g + 5) (fiM (bgS lo T c) (σ.1 (g + 5)) c.length), σ.2))) (by
    intro v5 v6
    show ev sh (d + 4) 64 5 [some (mR (g)), some (mR (t)), some (mI (bi lo)), some (mI ((mxx (enS lo T c) (c.length) : Nat) : Int)), some (mI (((c.length) : Nat) : Int)), v5, v6] [] ((upA σ.1 (g + 5) (fiM (bgS lo T c) (σ.1 (g + 5)) (c.length)), σ.2)) = some (some (mI (mxx (enS lo T c) c.length : Int)), (upA σ.1 (g + 5) (fiM (bgS lo T c) (σ.1 (g + 5)) c.length), σ.2))
    rw [e64_5]
    simp (disch := first | assumption | omega | (simp (disch := omega) only [wN, w0, w1]; omega)) only [e64_0, e64_1, e64_2, e64_3, e64_7, e64_8, e64_11, e64_14, e64_15, e64_17, e64_18, e64_20, e64_22, e64_24, e64_27, e64_28, e64_30, e64_32, e64_33, e64_36, e64_39, e64_41, e64_42, e64_45, e64_47, e64_50, e64_51, e64_53, e64_54, e64_57, e64_58, e64_61, e64_63, e64_66, e64_69, e64_70, e64_73, e64_75, e64_77, e64_80, e64_81, e64_83, e64_84, e64_86, e64_87, e64_90, e64_91, e64_94, e64_95, e64_98, e64_101, e64_102, kl_I, kl_R, kl_N, kl_L, oSm, oNn, Option.bind_some, wN, if_pos, if_neg, nS, tN, t0, w0, w1, w2, w3, w4, w5, wm1, upA_ne, upA_same, if_true, if_false, Bool.false_eq_true, hna]) (fun q hi ih => by
    replace ih : ∀ v5 v6 : Option MV, ev sh (d + 4) 64 5 [some (mR (g)), some (mR (t)), some (mI (bi lo)), some (mI ((mxx (enS lo T c) (q + 1) : Nat) : Int)), some (mI (((q + 1) : Nat) : Int)), v5, v6] [] ((upA σ.1 (g + 5) (fiM (bgS lo T c) (σ.1 (g + 5)) (q + 1)), σ.2)) = some (some (mI (mxx (enS lo T c) c.length : Int)), (upA σ.1 (g + 5) (fiM (bgS lo T c) (σ.1 (g + 5)) c.length), σ.2)) := ih
    intro v5 v6
    show ev sh (d + 4) 64 5 [some (mR (g)), some (mR (t)), some (mI (bi lo)), some (mI ((mxx (enS lo T c) q : Nat) : Int)), some (mI ((q : Nat) : Int)), v5, v6] [] ((upA σ.1 (g + 5) (fiM (bgS lo T c) (σ.1 (g + 5)) q), σ.2)) = some (some (mI (mxx (enS lo T c) c.length : Int)), (upA σ.1 (g + 5) (fiM (bgS lo T c) (σ.1 (g + 5)) c.length), σ.2))
    have hi' := hi
    have b0 : mxx (enS lo T c) q ≤ 20 * 100 := mxx_le q (fun h hh => by have := enS_le (lo := lo) hT5 hv (g := h) (by omega); omega)
    have b1 := enS_le (lo := lo) hT5 hv hi
    have b2 := bgS_le (lo := lo) hT5 hv q hi
    have I := for_P (q) (fun i => ev sh (d + 4) 64 20 [some (mR (g)), some (mR (t)), some (mI (bi lo)), some (mI ((mxx (enS lo T c) q : Nat) : Int)), some (mI ((q : Nat) : Int)), some (mI ((mxx (bgF lo T c q (bgS lo T c)) i : Nat) : Int)), some (mI ((i : Nat) : Int))] [] ((upA σ.1 (g + 5) (fiM (bgS lo T c) (σ.1 (g + 5)) q), σ.2)) = some (some (mI (mxx (enS lo T c) c.length : Int)), (upA σ.1 (g + 5) (fiM (bgS lo T c) (σ.1 (g + 5)) c.length), σ.2))) (by
      show ev sh (d + 4) 64 20 [some (mR (g)), some (mR (t)), some (mI (bi lo)), some (mI ((mxx (enS lo T c) q : Nat) : Int)), some (mI ((q : Nat) : Int)), some (mI ((mxx (bgF lo T c q (bgS lo T c)) (q) : Nat) : Int)), some (mI (((q) : Nat) : Int))] [] ((upA σ.1 (g + 5) (fiM (bgS lo T c) (σ.1 (g + 5)) q), σ.2)) = some (some (mI (mxx (enS lo T c) c.length : Int)), (upA σ.1 (g + 5) (fiM (bgS lo T c) (σ.1 (g + 5)) c.length), σ.2))
      rw [e64_20, ← bgS_eq]
      have e9 : (bgS lo T c q : Int) + (T (gA c q).1 : Int) = (enS lo T c q : Int) := rfl
      have e8 : max (mxx (enS lo T c) q) (enS lo T c q) = mxx (enS lo T c) (q + 1) := rfl
      simp (disch := first | assumption | omega | (simp (disch := omega) only [wN, w0, w1]; omega)) only [e64_0, e64_1, e64_2, e64_3, e64_7, e64_8, e64_11, e64_14, e64_15, e64_17, e64_18, e64_22, e64_24, e64_27, e64_28, e64_30, e64_32, e64_33, e64_36, e64_39, e64_41, e64_42, e64_45, e64_47, e64_50, e64_51, e64_53, e64_54, e64_57, e64_58, e64_61, e64_63, e64_66, e64_69, e64_70, e64_73, e64_75, e64_77, e64_80, e64_81, e64_83, e64_84, e64_86, e64_87, e64_90, e64_91, e64_94, e64_95, e64_98, e64_101, e64_102, kl_I, kl_R, kl_N, kl_L, oSm, oNn, Option.bind_some, wN, if_pos, if_neg, nS, tN, t0, w0, w1, w2, w3, w4, w5, wm1, upA_ne, upA_same, if_true, if_false, Bool.false_eq_true, L63 hg (hGi _) hc hb hv hi' (hTi _), r4, K289n k5 l5 h5k w5' (show q < cap by omega), upA_upA, fiM_s, e9, mmx_nn, e8]
      exact ih _ _) (fun i hi ih => by
      replace ih : ev sh (d + 4) 64 20 [some (mR (g)), some (mR (t)), some (mI (bi lo)), some (mI ((mxx (enS lo T c) q : Nat) : Int)), some (mI ((q : Nat) : Int)), some (mI ((mxx (bgF lo T c q (bgS lo T c)) (i + 1) : Nat) : Int)), some (mI (((i + 1) : Nat) : Int))] [] ((upA σ.1 (g + 5) (fiM (bgS lo T c) (σ.1 (g + 5)) q), σ.2)) = some (some (mI (mxx (enS lo T c) c.length : Int)), (upA σ.1 (g + 5) (fiM (bgS lo T c) (σ.1 (g + 5)) c.length), σ.2)) := ih
      show ev sh (d + 4) 64 20 [some (mR (g)), some (mR (t)), some (mI (bi lo)), some (mI ((mxx (enS lo T c) q : Nat) : Int)), some (mI ((q : Nat) : Int)), some (mI ((mxx (bgF lo T c q (bgS lo T c)) i : Nat) : Int)), some (mI ((i : Nat) : Int))] [] ((upA σ.1 (g + 5) (fiM (bgS lo T c) (σ.1 (g + 5)) q), σ.2)) = some (some (mI (mxx (enS lo T c) c.length : Int)), (upA σ.1 (g + 5) (fiM (bgS lo T c) (σ.1 (g + 5)) c.length), σ.2))
      rw [e64_20]
      have c1 : mxx (bgF lo T c q (bgS lo T c)) i ≤ 20 * 100 := mxx_le i (fun h hh => by
        have h1 := enS_le (lo := lo) hT5 hv (g := h) (by omega)
        unfold bgF
        unfold enS at h1
        split <;> omega)
      have c2 := enS_le (lo := lo) hT5 hv (g := i) (by omega)
      have e9 : (bgS lo T c i : Int) + (T (gA c i).1 : Int) = (enS lo T c i : Int) := rfl
      simp (disch := first | assumption | omega | (simp (disch := omega) only [wN, w0, w1]; omega)) only [e64_0, e64_1, e64_2, e64_3, e64_5, e64_7, e64_8, e64_11, e64_14, e64_15, e64_17, e64_18, e64_22, e64_24, e64_27, e64_28, e64_30, e64_32, e64_33, e64_36, e64_39, e64_41, e64_42, e64_45, e64_47, e64_50, e64_51, e64_53, e64_54, e64_57, e64_58, e64_61, e64_63, e64_66, e64_69, e64_70, e64_73, e64_75, e64_77, e64_80, e64_81, e64_83, e64_84, e64_86, e64_87, e64_90, e64_91, e64_94, e64_95, e64_98, e64_101, e64_102, kl_I, kl_R, kl_N, kl_L, oSm, oNn, Option.bind_some, wN, if_pos, if_neg, nS, tN, t0, w0, w1, w2, w3, w4, w5, wm1, upA_ne, upA_same, if_true, if_false, Bool.false_eq_true, L61 hg (hGi _) hc hb hv hn5 hi' (Nat.lt_trans hi hi'), L63 hg (hGi _) hc hb hv (Nat.lt_trans hi hi') (hTi _), wi_01, if10, r4, K93n k5 l5 h5k (show i < cap by omega), fiM_lt, e9, mmx_nn]
      by_cases h : wtB lo (gA c q) (gA c i) = true
      · have e7 : max (mxx (bgF lo T c q (bgS lo T c)) i) (enS lo T c i) = mxx (bgF lo T c q (bgS lo T c)) (i + 1) := by
          rw [mxx]
          simp only [bgF, h, if_true]
          rfl
        simp only [h, not_true_eq_false, if_false, e7]
        exact ih
      · have e7 : mxx (bgF lo T c q (bgS lo T c)) i = mxx (bgF lo T c q (bgS lo T c)) (i + 1) := by
          rw [mxx]
          simp only [bgF, h, if_false]
          simp
        simp only [h, not_false_eq_true, if_true, e7]
        exact ih) 0 (Nat.zero_le _)
    rw [e64_5]
    simp (disch := first | assumption | omega | (simp (disch := omega) only [wN, w0, w1]; omega)) only [e64_0, e64_1, e64_2, e64_3, e64_7, e64_8, e64_11, e64_14, e64_15, e64_17, e64_18, e64_22, e64_24, e64_27, e64_28, e64_30, e64_32, e64_33, e64_36, e64_39, e64_41, e64_42, e64_45, e64_47, e64_50, e64_51, e64_53, e64_54, e64_57, e64_58, e64_61, e64_63, e64_66, e64_69, e64_70, e64_73, e64_75, e64_77, e64_80, e64_81, e64_83, e64_84, e64_86, e64_87, e64_90, e64_91, e64_94, e64_95, e64_98, e64_101, e64_102, kl_I, kl_R, kl_N, kl_L, oSm, oNn, Option.bind_some, wN, if_pos, if_neg, nS, tN, t0, w0, w1, w2, w3, w4, w5, wm1, upA_ne, upA_same, if_true, if_false, Bool.false_eq_true, hna]
    exact I) 0 (Nat.zero_le _)
  simp (disch := first | assumption | omega | (simp (disch := omega) only [wN, w0, w1]; omega)) only [e64_0, e64_1, e64_2, e64_3, e64_7, e64_8, e64_11, e64_14, e64_15, e64_17, e64_18, e64_20, e64_22, e64_24, e64_27, e64_28, e64_30, e64_32, e64_33, e64_36, e64_39, e64_41, e64_42, e64_45, e64_47, e64_50, e64_51, e64_53, e64_54, e64_57, e64_58, e64_61, e64_63, e64_66, e64_69, e64_70, e64_73, e64_75, e64_77, e64_80, e64_81, e64_83, e64_84, e64_86, e64_87, e64_90, e64_91, e64_94, e64_95, e64_98, e64_101, e64_102, kl_I, kl_R, kl_N, kl_L, oSm, oNn, Option.bind_some, wN, if_pos, if_neg, nS, tN, t0, w0, w1, w2, w3, w4, w5, wm1, upA_ne, upA_same, if_true, if_false, Bool.false_eq_true, q64]
  have F0 := F none none
  rw [fiM_0, upA_id] at F0
  exact F0
end GLT
