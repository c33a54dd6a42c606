/-! ===== Column in M: turn, mix, exchange ===== -/
theorem nS2 (j : Nat) : (j : Int) + 2 = ((j + 2 : Nat) : Int) := rfl
theorem nS3 (j : Nat) : (j : Int) + 3 = ((j + 3 : Nat) : Int) := rfl
theorem nS4 (j : Nat) : ((4 * j : Nat) : Int) + 4 = ((4 * (j + 1) : Nat) : Int) := rfl
theorem n4 (j : Nat) : (4 : Int) * (j : Int) = ((4 * j : Nat) : Int) := (Int.natCast_mul 4 j).symm
/-- the row of longs at p holds W -/
def HV (σ : Mem) (p : Nat) (W : Vc) : Prop := ∀ s, s < 16 → σ.2 p (4 * s) = (W s).1 ∧ σ.2 p (4 * s + 1) = (W s).2.1 ∧ σ.2 p (4 * s + 2) = (W s).2.2.1 ∧ σ.2 p (4 * s + 3) = (W s).2.2.2
/-- nothing but the row of longs at p has changed -/
def frL (p : Nat) (σ σ' : Mem) : Prop := σ'.1 = σ.1 ∧ ∀ a, a ≠ p → σ'.2 a = σ.2 a
theorem frL.rf {p : Nat} {σ : Mem} : frL p σ σ := ⟨rfl, fun _ _ => rfl⟩
theorem frL.tr {p : Nat} {σ σ1 σ2 : Mem} (h : frL p σ σ1) (h2 : frL p σ1 σ2) : frL p σ σ2 := ⟨h2.1.trans h.1, fun a ha => (h2.2 a ha).trans (h.2 a ha)⟩
theorem frL.up {p : Nat} {σ : Mem} {g : Nat → Int} : frL p σ (σ.1, upA σ.2 p g) := ⟨rfl, fun a ha => upA_ne ha⟩
/-- nothing but what lies from x to y has changed, whole numbers and longs -/
def frB (x y : Nat) (σ σ' : Mem) : Prop := ∀ a, (a < x ∨ y < a) → σ'.1 a = σ.1 a ∧ σ'.2 a = σ.2 a
theorem frB.rf {x y : Nat} {σ : Mem} : frB x y σ σ := fun _ _ => ⟨rfl, rfl⟩
theorem frB.tr {x y : Nat} {σ σ1 σ2 : Mem} (h : frB x y σ σ1) (h2 : frB x y σ1 σ2) : frB x y σ σ2 := fun a ha => ⟨(h2 a ha).1.trans (h a ha).1, (h2 a ha).2.trans (h a ha).2⟩
theorem frB.w {x y x' y' : Nat} {σ σ' : Mem} (h : frB x y σ σ') (hx : x' ≤ x) (hy : y ≤ y') : frB x' y' σ σ' := fun a ha => h a (by omega)
theorem frI.B {x y : Nat} {σ σ' : Mem} (h : frI x y σ σ') : frB x y σ σ' := fun a ha => ⟨h.1 a ha, by rw [h.2]⟩
theorem frL.B {p : Nat} {σ σ' : Mem} (h : frL p σ σ') : frB p p σ σ' := fun a ha => ⟨by rw [h.1], h.2 a (by omega)⟩
theorem HV.fr {p x y : Nat} {σ σ' : Mem} {W : Vc} (h : HV σ p W) (hf : frB x y σ σ') (ho : p < x ∨ y < p) : HV σ' p W := by
  intro s hs
  rw [(hf p ho).2]
  exact h s hs
theorem HV.frI {p x y : Nat} {σ σ' : Mem} {W : Vc} (h : HV σ p W) (hf : frI x y σ σ') : HV σ' p W := by
  intro s hs
  rw [hf.2]
  exact h s hs
theorem HV.frL {p q : Nat} {σ σ' : Mem} {W : Vc} (h : HV σ p W) (hf : frL q σ σ') (ho : p ≠ q) : HV σ' p W := by
  intro s hs
  rw [hf.2 p ho]
  exact h s hs
theorem HV.put {p s : Nat} {σ σ' : Mem} {W : Vc} {q : Q4} (h : HV σ p W) (h0 : σ'.2 p (4 * s) = q.1) (h1 : σ'.2 p (4 * s + 1) = q.2.1) (h2 : σ'.2 p (4 * s + 2) = q.2.2.1) (h3 : σ'.2 p (4 * s + 3) = q.2.2.2) (ho : ∀ k, k < 4 * s ∨ 4 * s + 3 < k → σ'.2 p k = σ.2 p k) : HV σ' p (upQ W s q) := by
  intro r hr
  by_cases e : r = s
  · subst e
    rw [upQ_same]
    exact ⟨h0, h1, h2, h3⟩
  · rw [upQ_ne e, ho _ (by omega), ho _ (by omega), ho _ (by omega), ho _ (by omega)]
    exact h r hr
theorem HV.put2 {p s t : Nat} {σ σ' : Mem} {W : Vc} {q u : Q4} (h : HV σ p W) (hst : s ≠ t) (h0 : σ'.2 p (4 * s) = q.1) (h1 : σ'.2 p (4 * s + 1) = q.2.1) (h2 : σ'.2 p (4 * s + 2) = q.2.2.1) (h3 : σ'.2 p (4 * s + 3) = q.2.2.2)
    (g0 : σ'.2 p (4 * t) = u.1) (g1 : σ'.2 p (4 * t + 1) = u.2.1) (g2 : σ'.2 p (4 * t + 2) = u.2.2.1) (g3 : σ'.2 p (4 * t + 3) = u.2.2.2)
    (ho : ∀ k, (k < 4 * s ∨ 4 * s + 3 < k) → (k < 4 * t ∨ 4 * t + 3 < k) → σ'.2 p k = σ.2 p k) : HV σ' p (upQ (upQ W s q) t u) := by
  intro r hr
  by_cases e : r = t
  · subst e
    rw [upQ_same]
    exact ⟨g0, g1, g2, g3⟩
  · rw [upQ_ne e]
    by_cases e2 : r = s
    · subst e2
      rw [upQ_same]
      exact ⟨h0, h1, h2, h3⟩
    · rw [upQ_ne e2, ho _ (by omega) (by omega), ho _ (by omega) (by omega), ho _ (by omega) (by omega), ho _ (by omega) (by omega)]
      exact h r hr
def prt (q : Q4) : Nat → Int
  | 0 => q.1
  | 1 => q.2.1
  | 2 => q.2.2.1
  | _ => q.2.2.2
theorem prt_all {p q : Q4} (h : ∀ i, i < 4 → prt p i = prt q i) : p = q := q4_ext (h 0 (by omega)) (h 1 (by omega)) (h 2 (by omega)) (h 3 (by omega))
theorem prt_ad (p q : Q4) (i : Nat) : prt (adQ p q) i = prt p i + prt q i := by unfold prt; split <;> rfl
theorem prt_sb (p q : Q4) (i : Nat) : prt (sbQ p q) i = prt p i - prt q i := by unfold prt; split <;> rfl
theorem HV.at {σ : Mem} {p s i : Nat} {W : Vc} (h : HV σ p W) (hs : s < 16) (hi : i < 4) : σ.2 p (4 * s + i) = prt (W s) i := by
  obtain ⟨h0, h1, h2, h3⟩ := h s hs
  rcases (show i = 0 ∨ i = 1 ∨ i = 2 ∨ i = 3 by omega) with rfl | rfl | rfl | rfl
  · exact h0
  · exact h1
  · exact h2
  · exact h3
theorem HV.of {σ : Mem} {p : Nat} {W : Vc} (h : ∀ s, s < 16 → ∀ i, i < 4 → σ.2 p (4 * s + i) = prt (W s) i) : HV σ p W := fun s hs => ⟨h s hs 0 (by omega), h s hs 1 (by omega), h s hs 2 (by omega), h s hs 3 (by omega)⟩
/-- a column at c: its parts at c + 1 -/
def coS (sh : Shp) (c : Nat) : Prop := ob sh 1 3 c ∧ srf sh c 0 = c + 1 ∧ skd sh (c + 1) = 3 ∧ sln sh (c + 1) = 64 ∧ c + 1 < sh.1
section COA
variable {sh : Shp} {d c s t k N : Nat} {σ : Mem} {W : Vc}
theorem C16 (hs : coS sh c) (hV : HV σ (c + 1) W) (h16 : s < 16) (hk : k < 8) : End (run sh (d + 1) 16 [mR c, mI (s : Int), mI (k : Int)] σ) (fun r σ' => r = none ∧ HV σ' (c + 1) (upQ W s (tuQ k (W s))) ∧ frL (c + 1) σ σ') := by
  obtain ⟨ho, r0, k1, l1, hw⟩ := id hs
  have w64 : wi ((64 : Nat) : Int) = 64 := rfl
  have T := for_P (k) (fun i => ∀ (σ1 : Mem) (v5 v6 : Option MV), (HV σ1 (c + 1) (upQ W s (tuQ i (W s))) ∧ frL (c + 1) σ σ1) → End (ev sh (d + 1) 16 23 [some (mR (c)), some (mI ((s : Nat) : Int)), some (mI ((k : Nat) : Int)), some (mI ((4 * s : Nat) : Int)), some (mI ((i : Nat) : Int)), v5, v6] [] σ1) (fun r σ' => r = none ∧ HV σ' (c + 1) (upQ W s (tuQ k (W s))) ∧ frL (c + 1) σ σ')) (by
    intro σ1 v5 v6 hp
    replace hp : HV σ1 (c + 1) (upQ W s (tuQ (k) (W s))) ∧ frL (c + 1) σ σ1 := hp
    show End (ev sh (d + 1) 16 23 [some (mR (c)), some (mI ((s : Nat) : Int)), some (mI ((k : Nat) : Int)), some (mI ((4 * s : Nat) : Int)), some (mI (((k) : Nat) : Int)), v5, v6] [] σ1) (fun r σ' => r = none ∧ HV σ' (c + 1) (upQ W s (tuQ k (W s))) ∧ frL (c + 1) σ σ')
    rw [e16_23]
    simp (disch := first | assumption | omega | (simp (disch := omega) only [wN, w0, w1]; omega)) only [e16_0, e16_1, e16_2, e16_3, e16_4, e16_5, e16_8, e16_9, e16_10, e16_11, e16_12, e16_15, e16_16, e16_19, e16_20, e16_21, e16_25, e16_26, e16_29, e16_30, e16_33, e16_34, e16_35, e16_36, e16_37, e16_39, e16_40, e16_43, e16_44, e16_45, e16_46, e16_47, e16_50, e16_51, e16_52, e16_53, e16_54, e16_55, e16_56, e16_59, e16_60, e16_61, e16_62, e16_63, e16_66, e16_67, e16_68, e16_69, e16_70, e16_71, e16_72, e16_75, e16_76, e16_77, e16_78, e16_79, e16_82, e16_83, e16_84, e16_85, e16_86, e16_89, e16_90, e16_92, e16_93, e16_94, e16_97, e16_100, kl_I, kl_R, kl_N, kl_L, oSm, oNn, Option.bind_some, wN, if_pos, if_neg, nS, tN, t0, w0, w1, w2, w3, w4, w5, wm1, upA_ne, upA_same, if_true, if_false]
    exact End.of rfl ⟨rfl, hp⟩) (fun i hi ih => by
    replace ih : ∀ (σ1 : Mem) (v5 v6 : Option MV), (HV σ1 (c + 1) (upQ W s (tuQ (i + 1) (W s))) ∧ frL (c + 1) σ σ1) → End (ev sh (d + 1) 16 23 [some (mR (c)), some (mI ((s : Nat) : Int)), some (mI ((k : Nat) : Int)), some (mI ((4 * s : Nat) : Int)), some (mI (((i + 1) : Nat) : Int)), v5, v6] [] σ1) (fun r σ' => r = none ∧ HV σ' (c + 1) (upQ W s (tuQ k (W s))) ∧ frL (c + 1) σ σ') := ih
    intro σ1 v5 v6 hp
    replace hp : HV σ1 (c + 1) (upQ W s (tuQ i (W s))) ∧ frL (c + 1) σ σ1 := hp
    show End (ev sh (d + 1) 16 23 [some (mR (c)), some (mI ((s : Nat) : Int)), some (mI ((k : Nat) : Int)), some (mI ((4 * s : Nat) : Int)), some (mI ((i : Nat) : Int)), v5, v6] [] σ1) (fun r σ' => r = none ∧ HV σ' (c + 1) (upQ W s (tuQ k (W s))) ∧ frL (c + 1) σ σ')
    have g := hp.1 s h16
    rw [upQ_same] at g
    obtain ⟨g0, g1, g2, g3⟩ := g
    rw [e16_23]
    simp (disch := first | assumption | omega | (simp (disch := omega) only [wN, w0, w1]; omega)) only [e16_0, e16_1, e16_2, e16_3, e16_4, e16_5, e16_8, e16_9, e16_10, e16_11, e16_12, e16_15, e16_16, e16_19, e16_20, e16_21, e16_25, e16_26, e16_29, e16_30, e16_33, e16_34, e16_35, e16_36, e16_37, e16_39, e16_40, e16_43, e16_44, e16_45, e16_46, e16_47, e16_50, e16_51, e16_52, e16_53, e16_54, e16_55, e16_56, e16_59, e16_60, e16_61, e16_62, e16_63, e16_66, e16_67, e16_68, e16_69, e16_70, e16_71, e16_72, e16_75, e16_76, e16_77, e16_78, e16_79, e16_82, e16_83, e16_84, e16_85, e16_86, e16_89, e16_90, e16_92, e16_93, e16_94, e16_97, e16_100, kl_I, kl_R, kl_N, kl_L, oSm, oNn, Option.bind_some, wN, if_pos, if_neg, nS, tN, t0, w0, w1, w2, w3, w4, w5, wm1, upA_ne, upA_same, if_true, if_false, r0, l1, nS2, nS3, g0, g1, g2, g3, up1_ne, upA_upA]
    refine ih _ _ _ ⟨?_, hp.2.tr frL.up⟩
    have e : upQ W s (tuQ (i + 1) (W s)) = upQ (upQ W s (tuQ i (W s))) s (tu1 (tuQ i (W s))) := by
      funext r
      simp only [upQ_if, tuQ]
      split <;> rfl
    rw [e]
    refine hp.1.put ?_ ?_ ?_ ?_ (fun x hx => ?_)
    all_goals simp (disch := omega) only [upA_same, up1_same, up1_ne]
    all_goals rfl) 0 (Nat.zero_le _)
  have e0 : upQ W s (tuQ 0 (W s)) = W := by
    funext r
    simp only [upQ_if, tuQ]
    split
    · rename_i h; rw [h]
    · rfl
  simp (disch := first | assumption | omega | (simp (disch := omega) only [wN, w0, w1]; omega)) only [e16_0, e16_1, e16_2, e16_3, e16_4, e16_5, e16_8, e16_9, e16_10, e16_11, e16_12, e16_15, e16_16, e16_19, e16_20, e16_21, e16_25, e16_26, e16_29, e16_30, e16_33, e16_34, e16_35, e16_36, e16_37, e16_39, e16_40, e16_43, e16_44, e16_45, e16_46, e16_47, e16_50, e16_51, e16_52, e16_53, e16_54, e16_55, e16_56, e16_59, e16_60, e16_61, e16_62, e16_63, e16_66, e16_67, e16_68, e16_69, e16_70, e16_71, e16_72, e16_75, e16_76, e16_77, e16_78, e16_79, e16_82, e16_83, e16_84, e16_85, e16_86, e16_89, e16_90, e16_92, e16_93, e16_94, e16_97, e16_100, kl_I, kl_R, kl_N, kl_L, oSm, oNn, Option.bind_some, wN, if_pos, if_neg, nS, tN, t0, w0, w1, w2, w3, w4, w5, wm1, upA_ne, upA_same, if_true, if_false, q16, n4, nS3, r0, l1, w64]
  exact T σ _ _ ⟨by rw [e0]; exact hV, frL.rf⟩
theorem C17 (hs : coS sh c) (hV : HV σ (c + 1) W) (hN : σ.1 c 1 = (N : Int)) (hN16 : N ≤ 16) (hs1 : s < N) (ht : t < N) (hst : s ≠ t) : End (run sh (d + 1) 17 [mR c, mI (s : Int), mI (t : Int)] σ) (fun r σ' => r = none ∧ HV σ' (c + 1) (mxW s t W) ∧ frL (c + 1) σ σ') := by
  obtain ⟨ho, r0, k1, l1, hw⟩ := id hs
  have L := for_P (4) (fun i => ∀ (σ1 : Mem) (v4 v5 v6 v7 : Option MV), ((∀ x, x < i → σ1.2 (c + 1) (4 * s + x) = prt (adQ (W s) (W t)) x ∧ σ1.2 (c + 1) (4 * t + x) = prt (sbQ (W s) (W t)) x) ∧ (∀ k, (k < 4 * s ∨ 4 * s + i ≤ k) → (k < 4 * t ∨ 4 * t + i ≤ k) → σ1.2 (c + 1) k = σ.2 (c + 1) k) ∧ frL (c + 1) σ σ1) → End (ev sh (d + 1) 17 27 [some (mR (c)), some (mI ((s : Nat) : Int)), some (mI ((t : Nat) : Int)), some (mI ((i : Nat) : Int)), v4, v5, v6, v7] [] σ1) (fun r σ' => r = none ∧ HV σ' (c + 1) (mxW s t W) ∧ frL (c + 1) σ σ')) (by
    intro σ1 v4 v5 v6 v7 hp
    replace hp : (∀ x, x < (4) → σ1.2 (c + 1) (4 * s + x) = prt (adQ (W s) (W t)) x ∧ σ1.2 (c + 1) (4 * t + x) = prt (sbQ (W s) (W t)) x) ∧ (∀ k, (k < 4 * s ∨ 4 * s + (4) ≤ k) → (k < 4 * t ∨ 4 * t + (4) ≤ k) → σ1.2 (c + 1) k = σ.2 (c + 1) k) ∧ frL (c + 1) σ σ1 := hp
    show End (ev sh (d + 1) 17 27 [some (mR (c)), some (mI ((s : Nat) : Int)), some (mI ((t : Nat) : Int)), some (mI (((4) : Nat) : Int)), v4, v5, v6, v7] [] σ1) (fun r σ' => r = none ∧ HV σ' (c + 1) (mxW s t W) ∧ frL (c + 1) σ σ')
    rw [e17_27]
    simp (disch := first | assumption | omega | (simp (disch := omega) only [wN, w0, w1]; omega)) only [e17_0, e17_1, e17_4, e17_5, e17_8, e17_9, e17_10, e17_13, e17_16, e17_17, e17_18, e17_21, e17_24, e17_25, e17_26, e17_28, e17_29, e17_32, e17_33, e17_36, e17_37, e17_38, e17_39, e17_40, e17_41, e17_42, e17_44, e17_45, e17_48, e17_49, e17_50, e17_51, e17_52, e17_53, e17_54, e17_56, e17_57, e17_60, e17_61, e17_62, e17_63, e17_64, e17_65, e17_67, e17_69, e17_70, e17_71, e17_72, e17_75, e17_76, e17_77, e17_78, e17_79, e17_80, e17_82, e17_84, e17_85, e17_86, e17_89, e17_92, kl_I, kl_R, kl_N, kl_L, oSm, oNn, Option.bind_some, wN, if_pos, if_neg, nS, tN, t0, w0, w1, w2, w3, w4, w5, wm1, upA_ne, upA_same, if_true, if_false]
    refine End.of rfl ⟨rfl, HV.of fun r hr i hi => ?_, hp.2.2⟩
    rw [mxW_if]
    by_cases e : r = t
    · subst e
      rw [if_pos rfl]; exact (hp.1 i hi).2
    · rw [if_neg e]
      by_cases e2 : r = s
      · subst e2
        rw [if_pos rfl]; exact (hp.1 i hi).1
      · rw [if_neg e2, hp.2.1 _ (by omega) (by omega)]
        exact hV.at hr hi) (fun i hi ih => by
    replace ih : ∀ (σ1 : Mem) (v4 v5 v6 v7 : Option MV), ((∀ x, x < (i + 1) → σ1.2 (c + 1) (4 * s + x) = prt (adQ (W s) (W t)) x ∧ σ1.2 (c + 1) (4 * t + x) = prt (sbQ (W s) (W t)) x) ∧ (∀ k, (k < 4 * s ∨ 4 * s + (i + 1) ≤ k) → (k < 4 * t ∨ 4 * t + (i + 1) ≤ k) → σ1.2 (c + 1) k = σ.2 (c + 1) k) ∧ frL (c + 1) σ σ1) → End (ev sh (d + 1) 17 27 [some (mR (c)), some (mI ((s : Nat) : Int)), some (mI ((t : Nat) : Int)), some (mI (((i + 1) : Nat) : Int)), v4, v5, v6, v7] [] σ1) (fun r σ' => r = none ∧ HV σ' (c + 1) (mxW s t W) ∧ frL (c + 1) σ σ') := ih
    intro σ1 v4 v5 v6 v7 hp
    replace hp : (∀ x, x < i → σ1.2 (c + 1) (4 * s + x) = prt (adQ (W s) (W t)) x ∧ σ1.2 (c + 1) (4 * t + x) = prt (sbQ (W s) (W t)) x) ∧ (∀ k, (k < 4 * s ∨ 4 * s + i ≤ k) → (k < 4 * t ∨ 4 * t + i ≤ k) → σ1.2 (c + 1) k = σ.2 (c + 1) k) ∧ frL (c + 1) σ σ1 := hp
    show End (ev sh (d + 1) 17 27 [some (mR (c)), some (mI ((s : Nat) : Int)), some (mI ((t : Nat) : Int)), some (mI ((i : Nat) : Int)), v4, v5, v6, v7] [] σ1) (fun r σ' => r = none ∧ HV σ' (c + 1) (mxW s t W) ∧ frL (c + 1) σ σ')
    have g1 := (hp.2.1 (4 * s + i) (by omega) (by omega)).trans (hV.at (show s < 16 by omega) hi)
    have g2 := (hp.2.1 (4 * t + i) (by omega) (by omega)).trans (hV.at (show t < 16 by omega) hi)
    rw [e17_27]
    simp (disch := first | assumption | omega | (simp (disch := omega) only [wN, w0, w1]; omega)) only [e17_0, e17_1, e17_4, e17_5, e17_8, e17_9, e17_10, e17_13, e17_16, e17_17, e17_18, e17_21, e17_24, e17_25, e17_26, e17_28, e17_29, e17_32, e17_33, e17_36, e17_37, e17_38, e17_39, e17_40, e17_41, e17_42, e17_44, e17_45, e17_48, e17_49, e17_50, e17_51, e17_52, e17_53, e17_54, e17_56, e17_57, e17_60, e17_61, e17_62, e17_63, e17_64, e17_65, e17_67, e17_69, e17_70, e17_71, e17_72, e17_75, e17_76, e17_77, e17_78, e17_79, e17_80, e17_82, e17_84, e17_85, e17_86, e17_89, e17_92, kl_I, kl_R, kl_N, kl_L, oSm, oNn, Option.bind_some, wN, if_pos, if_neg, nS, tN, t0, w0, w1, w2, w3, w4, w5, wm1, upA_ne, upA_same, if_true, if_false, r0, l1, n4, ← Int.natCast_add, g1, g2, up1_ne, upA_upA]
    refine ih _ _ _ _ _ ⟨fun x hx => ?_, fun k hk1 hk2 => ?_, hp.2.2.tr frL.up⟩
    · by_cases e : x = i
      · subst e
        constructor
        · show upA _ _ _ _ _ = _
          rw [upA_same, up1_ne (by omega), up1_same, prt_ad]
        · show upA _ _ _ _ _ = _
          rw [upA_same, up1_same, prt_sb]
      · have h := hp.1 x (by omega)
        constructor
        · show upA _ _ _ _ _ = _
          rw [upA_same, up1_ne (by omega), up1_ne (by omega)]; exact h.1
        · show upA _ _ _ _ _ = _
          rw [upA_same, up1_ne (by omega), up1_ne (by omega)]; exact h.2
    · show upA _ _ _ _ _ = _
      rw [upA_same, up1_ne (by omega), up1_ne (by omega)]
      exact hp.2.1 k (by omega) (by omega)) 0 (Nat.zero_le _)
  simp (disch := first | assumption | omega | (simp (disch := omega) only [wN, w0, w1]; omega)) only [e17_0, e17_1, e17_4, e17_5, e17_8, e17_9, e17_10, e17_13, e17_16, e17_17, e17_18, e17_21, e17_24, e17_25, e17_26, e17_28, e17_29, e17_32, e17_33, e17_36, e17_37, e17_38, e17_39, e17_40, e17_41, e17_42, e17_44, e17_45, e17_48, e17_49, e17_50, e17_51, e17_52, e17_53, e17_54, e17_56, e17_57, e17_60, e17_61, e17_62, e17_63, e17_64, e17_65, e17_67, e17_69, e17_70, e17_71, e17_72, e17_75, e17_76, e17_77, e17_78, e17_79, e17_80, e17_82, e17_84, e17_85, e17_86, e17_89, e17_92, kl_I, kl_R, kl_N, kl_L, oSm, oNn, Option.bind_some, wN, if_pos, if_neg, nS, tN, t0, w0, w1, w2, w3, w4, w5, wm1, upA_ne, upA_same, if_true, if_false, q17, hN]
  exact L σ _ _ _ _ ⟨fun x hx => by omega, fun _ _ _ => rfl, frL.rf⟩
theorem C18 (hs : coS sh c) (hV : HV σ (c + 1) W) (hN : σ.1 c 1 = (N : Int)) (hN16 : N ≤ 16) (hs1 : s < N) (ht : t < N) (hst : s ≠ t) : End (run sh (d + 1) 18 [mR c, mI (s : Int), mI (t : Int)] σ) (fun r σ' => r = none ∧ HV σ' (c + 1) (exW s t W) ∧ frL (c + 1) σ σ') := by
  obtain ⟨ho, r0, k1, l1, hw⟩ := id hs
  have L := for_P (4) (fun i => ∀ (σ1 : Mem) (v4 v5 : Option MV), ((∀ x, x < i → σ1.2 (c + 1) (4 * s + x) = prt (W t) x ∧ σ1.2 (c + 1) (4 * t + x) = prt (W s) x) ∧ (∀ k, (k < 4 * s ∨ 4 * s + i ≤ k) → (k < 4 * t ∨ 4 * t + i ≤ k) → σ1.2 (c + 1) k = σ.2 (c + 1) k) ∧ frL (c + 1) σ σ1) → End (ev sh (d + 1) 18 27 [some (mR (c)), some (mI ((s : Nat) : Int)), some (mI ((t : Nat) : Int)), some (mI ((i : Nat) : Int)), v4, v5] [] σ1) (fun r σ' => r = none ∧ HV σ' (c + 1) (exW s t W) ∧ frL (c + 1) σ σ')) (by
    intro σ1 v4 v5 hp
    replace hp : (∀ x, x < (4) → σ1.2 (c + 1) (4 * s + x) = prt (W t) x ∧ σ1.2 (c + 1) (4 * t + x) = prt (W s) x) ∧ (∀ k, (k < 4 * s ∨ 4 * s + (4) ≤ k) → (k < 4 * t ∨ 4 * t + (4) ≤ k) → σ1.2 (c + 1) k = σ.2 (c + 1) k) ∧ frL (c + 1) σ σ1 := hp
    show End (ev sh (d + 1) 18 27 [some (mR (c)), some (mI ((s : Nat) : Int)), some (mI ((t : Nat) : Int)), some (mI (((4) : Nat) : Int)), v4, v5] [] σ1) (fun r σ' => r = none ∧ HV σ' (c + 1) (exW s t W) ∧ frL (c + 1) σ σ')
    rw [e18_27]
    simp (disch := first | assumption | omega | (simp (disch := omega) only [wN, w0, w1]; omega)) only [e18_0, e18_1, e18_4, e18_5, e18_8, e18_9, e18_10, e18_13, e18_16, e18_17, e18_18, e18_21, e18_24, e18_25, e18_26, e18_28, e18_29, e18_32, e18_33, e18_36, e18_37, e18_38, e18_39, e18_40, e18_41, e18_42, e18_44, e18_45, e18_48, e18_49, e18_50, e18_51, e18_52, e18_53, e18_54, e18_57, e18_58, e18_59, e18_60, e18_61, e18_62, e18_63, e18_64, e18_65, e18_68, e18_69, e18_70, e18_71, e18_72, e18_73, e18_75, e18_76, e18_79, e18_82, kl_I, kl_R, kl_N, kl_L, oSm, oNn, Option.bind_some, wN, if_pos, if_neg, nS, tN, t0, w0, w1, w2, w3, w4, w5, wm1, upA_ne, upA_same, if_true, if_false]
    refine End.of rfl ⟨rfl, HV.of fun r hr i hi => ?_, hp.2.2⟩
    rw [exW_if]
    by_cases e : r = t
    · subst e
      rw [if_pos rfl]; exact (hp.1 i hi).2
    · rw [if_neg e]
      by_cases e2 : r = s
      · subst e2
        rw [if_pos rfl]; exact (hp.1 i hi).1
      · rw [if_neg e2, hp.2.1 _ (by omega) (by omega)]
        exact hV.at hr hi) (fun i hi ih => by
    replace ih : ∀ (σ1 : Mem) (v4 v5 : Option MV), ((∀ x, x < (i + 1) → σ1.2 (c + 1) (4 * s + x) = prt (W t) x ∧ σ1.2 (c + 1) (4 * t + x) = prt (W s) x) ∧ (∀ k, (k < 4 * s ∨ 4 * s + (i + 1) ≤ k) → (k < 4 * t ∨ 4 * t + (i + 1) ≤ k) → σ1.2 (c + 1) k = σ.2 (c + 1) k) ∧ frL (c + 1) σ σ1) → End (ev sh (d + 1) 18 27 [some (mR (c)), some (mI ((s : Nat) : Int)), some (mI ((t : Nat) : Int)), some (mI (((i + 1) : Nat) : Int)), v4, v5] [] σ1) (fun r σ' => r = none ∧ HV σ' (c + 1) (exW s t W) ∧ frL (c + 1) σ σ') := ih
    intro σ1 v4 v5 hp
    replace hp : (∀ x, x < i → σ1.2 (c + 1) (4 * s + x) = prt (W t) x ∧ σ1.2 (c + 1) (4 * t + x) = prt (W s) x) ∧ (∀ k, (k < 4 * s ∨ 4 * s + i ≤ k) → (k < 4 * t ∨ 4 * t + i ≤ k) → σ1.2 (c + 1) k = σ.2 (c + 1) k) ∧ frL (c + 1) σ σ1 := hp
    show End (ev sh (d + 1) 18 27 [some (mR (c)), some (mI ((s : Nat) : Int)), some (mI ((t : Nat) : Int)), some (mI ((i : Nat) : Int)), v4, v5] [] σ1) (fun r σ' => r = none ∧ HV σ' (c + 1) (exW s t W) ∧ frL (c + 1) σ σ')
    have g1 := (hp.2.1 (4 * s + i) (by omega) (by omega)).trans (hV.at (show s < 16 by omega) hi)
    have g2 := (hp.2.1 (4 * t + i) (by omega) (by omega)).trans (hV.at (show t < 16 by omega) hi)
    rw [e18_27]
    simp (disch := first | assumption | omega | (simp (disch := omega) only [wN, w0, w1]; omega)) only [e18_0, e18_1, e18_4, e18_5, e18_8, e18_9, e18_10, e18_13, e18_16, e18_17, e18_18, e18_21, e18_24, e18_25, e18_26, e18_28, e18_29, e18_32, e18_33, e18_36, e18_37, e18_38, e18_39, e18_40, e18_41, e18_42, e18_44, e18_45, e18_48, e18_49, e18_50, e18_51, e18_52, e18_53, e18_54, e18_57, e18_58, e18_59, e18_60, e18_61, e18_62, e18_63, e18_64, e18_65, e18_68, e18_69, e18_70, e18_71, e18_72, e18_73, e18_75, e18_76, e18_79, e18_82, kl_I, kl_R, kl_N, kl_L, oSm, oNn, Option.bind_some, wN, if_pos, if_neg, nS, tN, t0, w0, w1, w2, w3, w4, w5, wm1, upA_ne, upA_same, if_true, if_false, r0, l1, n4, ← Int.natCast_add, g1, g2, up1_ne, upA_upA]
    refine ih _ _ _ ⟨fun x hx => ?_, fun k hk1 hk2 => ?_, hp.2.2.tr frL.up⟩
    · by_cases e : x = i
      · subst e
        constructor
        · show upA _ _ _ _ _ = _
          rw [upA_same, up1_ne (by omega), up1_same]
        · show upA _ _ _ _ _ = _
          rw [upA_same, up1_same]
      · have h := hp.1 x (by omega)
        constructor
        · show upA _ _ _ _ _ = _
          rw [upA_same, up1_ne (by omega), up1_ne (by omega)]; exact h.1
        · show upA _ _ _ _ _ = _
          rw [upA_same, up1_ne (by omega), up1_ne (by omega)]; exact h.2
    · show upA _ _ _ _ _ = _
      rw [upA_same, up1_ne (by omega), up1_ne (by omega)]
      exact hp.2.1 k (by omega) (by omega)) 0 (Nat.zero_le _)
  simp (disch := first | assumption | omega | (simp (disch := omega) only [wN, w0, w1]; omega)) only [e18_0, e18_1, e18_4, e18_5, e18_8, e18_9, e18_10, e18_13, e18_16, e18_17, e18_18, e18_21, e18_24, e18_25, e18_26, e18_28, e18_29, e18_32, e18_33, e18_36, e18_37, e18_38, e18_39, e18_40, e18_41, e18_42, e18_44, e18_45, e18_48, e18_49, e18_50, e18_51, e18_52, e18_53, e18_54, e18_57, e18_58, e18_59, e18_60, e18_61, e18_62, e18_63, e18_64, e18_65, e18_68, e18_69, e18_70, e18_71, e18_72, e18_73, e18_75, e18_76, e18_79, e18_82, kl_I, kl_R, kl_N, kl_L, oSm, oNn, Option.bind_some, wN, if_pos, if_neg, nS, tN, t0, w0, w1, w2, w3, w4, w5, wm1, upA_ne, upA_same, if_true, if_false, q18, hN]
  exact L σ _ _ ⟨fun x hx => by omega, fun _ _ _ => rfl, frL.rf⟩
end COA
