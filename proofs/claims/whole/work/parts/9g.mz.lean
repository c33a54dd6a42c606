/-! ===== the reference: deepest ===== -/
section MZ
variable {sh : Shp} {d p k : Nat} {σ : Mem}
theorem M212 (hM : MS sh) {f : Nat → Nat} (hk : skd sh p = 0) (hp : p < sh.1) (hl : k ≤ sln sh p) (h9 : k ≤ 1000) (hf : ∀ y, y < k → σ.1 p y = (f y : Int)) (hb : ∀ y, y < k → f y ≤ 1000) : run sh (d + 1) 212 [mR 124, mR p, mI (k : Int)] σ = some (some (mI (mxx f k : Int)), σ) := by
  have mo := hM.1
  have F := for_up (fun i => ev sh (d + 1) 212 5 [some (mR (124)), some (mR (p)), some (mI ((k : Nat) : Int)), some (mI ((mxx f i : Nat) : Int)), some (mI ((i : Nat) : Int))] [] (σ)) (k) (fun i hi => by
    show ev sh (d + 1) 212 5 [some (mR (124)), some (mR (p)), some (mI ((k : Nat) : Int)), some (mI ((mxx f i : Nat) : Int)), some (mI ((i : Nat) : Int))] [] (σ) = ev sh (d + 1) 212 5 [some (mR (124)), some (mR (p)), some (mI ((k : Nat) : Int)), some (mI ((mxx f (i + 1) : Nat) : Int)), some (mI (((i + 1) : Nat) : Int))] [] (σ)
    have g1 := hf i hi
    have b1 : mxx f i ≤ 1000 := mxx_le i (fun h hh => hb h (by omega))
    have b2 := hb i hi
    have e6 := E166n (sh := sh) (d := d) (σ := σ) (p := mxx f i) (q := f i) (by omega) (by omega)
    have em : max (mxx f i) (f i) = mxx f (i + 1) := rfl
    rw [em] at e6
    rw [e212_5]
    simp (disch := first | assumption | omega | (simp (disch := omega) only [wN, w0, w1]; omega)) only [e212_0, e212_1, e212_2, e212_3, e212_7, e212_8, e212_11, e212_12, e212_13, e212_15, e212_16, e212_19, e212_20, e212_23, e212_26, e212_27, kl_I, kl_R, kl_N, kl_L, oSm, oNn, Option.bind_some, wN, if_pos, if_neg, nS, tN, t0, w0, w1, w2, w3, w4, w5, wm1, upA_ne, upA_same, if_true, if_false, Bool.false_eq_true, g1, e6]) 0 (Nat.zero_le _)
  simp (disch := first | assumption | omega | (simp (disch := omega) only [wN, w0, w1]; omega)) only [e212_0, e212_1, e212_2, e212_3, e212_7, e212_8, e212_11, e212_12, e212_13, e212_15, e212_16, e212_19, e212_20, e212_23, e212_26, e212_27, kl_I, kl_R, kl_N, kl_L, oSm, oNn, Option.bind_some, wN, if_pos, if_neg, nS, tN, t0, w0, w1, w2, w3, w4, w5, wm1, upA_ne, upA_same, if_true, if_false, Bool.false_eq_true, q212]
  refine F.trans ?_
  show ev sh (d + 1) 212 5 [some (mR (124)), some (mR (p)), some (mI ((k : Nat) : Int)), some (mI ((mxx f k : Nat) : Int)), some (mI ((k : Nat) : Int))] [] σ = _
  rw [e212_5]
  simp (disch := first | assumption | omega | (simp (disch := omega) only [wN, w0, w1]; omega)) only [e212_0, e212_1, e212_2, e212_3, e212_7, e212_8, e212_11, e212_12, e212_13, e212_15, e212_16, e212_19, e212_20, e212_23, e212_26, e212_27, kl_I, kl_R, kl_N, kl_L, oSm, oNn, Option.bind_some, wN, if_pos, if_neg, nS, tN, t0, w0, w1, w2, w3, w4, w5, wm1, upA_ne, upA_same, if_true, if_false, Bool.false_eq_true]
end MZ

