/-! ===== the reference: doCommute ===== -/
def coP (n : Nat) (q r : Gt) : Prop := ∀ s, s < 2 ^ n → clW r (clW q (e1W s)) = clW q (clW r (e1W s))
theorem HGm.fl {σ σ' : Mem} {t p : Nat} {c : List Gt} (h : HGm σ t c) (hf : frL p σ σ') : HGm σ' t c := h.k (by rw [hf.1]) (fun _ _ _ => by rw [hf.1])
theorem HV.atx {σ : Mem} {p x : Nat} {W : Vc} (h : HV σ p W) (hx : x < 64) : σ.2 p x = prt (W (x / 4)) (x % 4) := by
  have := h.at (s := x / 4) (i := x % 4) (by omega) (by omega)
  rw [show 4 * (x / 4) + x % 4 = x by omega] at this
  exact this
def eqX (V U : Vc) (x : Nat) : Bool := decide (prt (V (x / 4)) (x % 4) = prt (U (x / 4)) (x % 4))
theorem eqX_iff {n : Nat} {V U : Vc} (hn : n ≤ 4) (hV : spW n V) (hU : spW n U) : fa (eqX V U) (64 - 0) 0 = true ↔ V = U := by
  have h16 : 2 ^ n ≤ 2 ^ 4 := Nat.pow_le_pow_right (by omega) hn
  rw [fa_iff]
  constructor
  · intro h
    funext r
    by_cases hr : r < 16
    · refine prt_all fun i hi => ?_
      have := h (4 * r + i) (by omega) (by omega)
      simp only [eqX, decide_eq_true_eq] at this
      rw [show (4 * r + i) / 4 = r by omega, show (4 * r + i) % 4 = i by omega] at this
      exact this
    · rw [hV r (by omega), hU r (by omega)]
  · intro h j _ _
    rw [h]
    simp [eqX]
section MP
variable {sh : Shp} {d p s t g h n : Nat} {σ : Mem} {W V U : Vc} {z w v : Int} {c : List Gt}
theorem laM2 (hM : MS sh) : laR sh 138 := ⟨(ms30 hM).2.1, (ms30 hM).2.2, by have := hM.2.1; omega⟩
theorem M210i (hM : MS sh) (hV : HV σ 137 V) (hU : HV σ 138 U) (bV : bdW 1073741824 V) (bU : bdW 1073741824 U) : ev sh (d + 2) 210 75 [some (mR (124)), some (mI (z)), some (mI ((g : Nat) : Int)), some (mI ((h : Nat) : Int)), some (mI ((s : Nat) : Int)), some (mI ((0 : Nat) : Int))] [] σ = if fa (eqX V U) (64 - 0) 0 = true then ev sh (d + 2) 210 108 [some (mR (124)), some (mI (z)), some (mI ((g : Nat) : Int)), some (mI ((h : Nat) : Int)), some (mI ((s : Nat) : Int)), some (mI ((64 : Nat) : Int))] [] σ else some (some (mI 0), σ) := by
  have mo := hM.1
  have m160 := hM.2.1
  obtain ⟨ra29, rk29, rl29⟩ := ms29 hM
  obtain ⟨ra30, rk30, rl30⟩ := ms30 hM
  have w64 : wi 64 = 64 := rfl
  have F := for_dn (fun x => ev sh (d + 2) 210 75 [some (mR (124)), some (mI (z)), some (mI ((g : Nat) : Int)), some (mI ((h : Nat) : Int)), some (mI ((s : Nat) : Int)), some (mI ((x : Nat) : Int))] [] (σ)) (fun x => if fa (eqX V U) (64 - x) x = true then ev sh (d + 2) 210 108 [some (mR 124), some (mI z), some (mI ((g : Nat) : Int)), some (mI ((h : Nat) : Int)), some (mI ((s : Nat) : Int)), some (mI ((64 : Nat) : Int))] [] σ else some (some (mI 0), σ)) (64) (by
    show ev sh (d + 2) 210 75 [some (mR (124)), some (mI (z)), some (mI ((g : Nat) : Int)), some (mI ((h : Nat) : Int)), some (mI ((s : Nat) : Int)), some (mI (((64) : Nat) : Int))] [] (σ) = if fa (eqX V U) (64 - (64)) (64) = true then ev sh (d + 2) 210 108 [some (mR 124), some (mI z), some (mI ((g : Nat) : Int)), some (mI ((h : Nat) : Int)), some (mI ((s : Nat) : Int)), some (mI ((64 : Nat) : Int))] [] σ else some (some (mI 0), σ)
    rw [fa_e, e210_75]
    simp (disch := first | assumption | omega | (simp (disch := omega) only [wN, w0, w1]; omega)) only [e210_0, e210_1, e210_3, e210_5, e210_6, e210_7, e210_10, e210_11, e210_14, e210_15, e210_18, e210_20, e210_23, e210_24, e210_27, e210_29, e210_32, e210_33, e210_34, e210_35, e210_36, e210_39, e210_42, e210_43, e210_44, e210_45, e210_46, e210_49, e210_52, e210_53, e210_54, e210_55, e210_56, e210_59, e210_62, e210_63, e210_64, e210_65, e210_66, e210_69, e210_72, e210_73, e210_77, e210_79, e210_82, e210_83, e210_86, e210_88, e210_89, e210_90, e210_93, e210_95, e210_96, e210_97, e210_100, e210_101, e210_102, e210_105, e210_111, e210_114, e210_115, kl_I, kl_R, kl_N, kl_L, oSm, oNn, Option.bind_some, wN, if_pos, if_neg, nS, tN, t0, w0, w1, w2, w3, w4, w5, wm1, upA_ne, upA_same, if_true, if_false, Bool.false_eq_true, w64]) (fun x hi ih => by
    replace ih : ev sh (d + 2) 210 75 [some (mR (124)), some (mI (z)), some (mI ((g : Nat) : Int)), some (mI ((h : Nat) : Int)), some (mI ((s : Nat) : Int)), some (mI (((x + 1) : Nat) : Int))] [] (σ) = if fa (eqX V U) (64 - (x + 1)) (x + 1) = true then ev sh (d + 2) 210 108 [some (mR 124), some (mI z), some (mI ((g : Nat) : Int)), some (mI ((h : Nat) : Int)), some (mI ((s : Nat) : Int)), some (mI ((64 : Nat) : Int))] [] σ else some (some (mI 0), σ) := ih
    show ev sh (d + 2) 210 75 [some (mR (124)), some (mI (z)), some (mI ((g : Nat) : Int)), some (mI ((h : Nat) : Int)), some (mI ((s : Nat) : Int)), some (mI ((x : Nat) : Int))] [] (σ) = if fa (eqX V U) (64 - x) x = true then ev sh (d + 2) 210 108 [some (mR 124), some (mI z), some (mI ((g : Nat) : Int)), some (mI ((h : Nat) : Int)), some (mI ((s : Nat) : Int)), some (mI ((64 : Nat) : Int))] [] σ else some (some (mI 0), σ)
    have g1 := hV.atx hi
    have g2 := hU.atx hi
    have b1 := prt_bd (bV (x / 4)) (x % 4)
    have b2 := prt_bd (bU (x / 4)) (x % 4)
    have lw := lcmp_w (x := prt (V (x / 4)) (x % 4)) (y := prt (U (x / 4)) (x % 4)) (by omega) (by omega)
    rw [fa_s hi, e210_75]
    by_cases e : prt (V (x / 4)) (x % 4) = prt (U (x / 4)) (x % 4)
    · have n0 := lw.mpr e
      have e2 : eqX V U x = true := by simp [eqX, e]
      clear lw
      simp (disch := first | assumption | omega | (simp (disch := omega) only [wN, w0, w1]; omega)) only [e210_0, e210_1, e210_3, e210_5, e210_6, e210_7, e210_10, e210_11, e210_14, e210_15, e210_18, e210_20, e210_23, e210_24, e210_27, e210_29, e210_32, e210_33, e210_34, e210_35, e210_36, e210_39, e210_42, e210_43, e210_44, e210_45, e210_46, e210_49, e210_52, e210_53, e210_54, e210_55, e210_56, e210_59, e210_62, e210_63, e210_64, e210_65, e210_66, e210_69, e210_72, e210_73, e210_77, e210_79, e210_82, e210_83, e210_86, e210_88, e210_89, e210_90, e210_93, e210_95, e210_96, e210_97, e210_100, e210_101, e210_102, e210_105, e210_111, e210_114, e210_115, kl_I, kl_R, kl_N, kl_L, oSm, oNn, Option.bind_some, wN, if_pos, if_neg, nS, tN, t0, w0, w1, w2, w3, w4, w5, wm1, upA_ne, upA_same, if_true, if_false, Bool.false_eq_true, w64, ra29, rl29, ra30, rl30, g1, g2]
      rw [ih]
      simp [e2]
    · have n0 : ¬ wi (lcmp' (prt (V (x / 4)) (x % 4)) (prt (U (x / 4)) (x % 4))) = 0 := fun z => e (lw.mp z)
      have e2 : eqX V U x = false := by simp [eqX, e]
      clear lw
      simp (disch := first | assumption | omega | (simp (disch := omega) only [wN, w0, w1]; omega)) only [e210_0, e210_1, e210_3, e210_5, e210_6, e210_7, e210_10, e210_11, e210_14, e210_15, e210_18, e210_20, e210_23, e210_24, e210_27, e210_29, e210_32, e210_33, e210_34, e210_35, e210_36, e210_39, e210_42, e210_43, e210_44, e210_45, e210_46, e210_49, e210_52, e210_53, e210_54, e210_55, e210_56, e210_59, e210_62, e210_63, e210_64, e210_65, e210_66, e210_69, e210_72, e210_73, e210_77, e210_79, e210_82, e210_83, e210_86, e210_88, e210_89, e210_90, e210_93, e210_95, e210_96, e210_97, e210_100, e210_101, e210_102, e210_105, e210_111, e210_114, e210_115, kl_I, kl_R, kl_N, kl_L, oSm, oNn, Option.bind_some, wN, if_pos, if_neg, nS, tN, t0, w0, w1, w2, w3, w4, w5, wm1, upA_ne, upA_same, if_true, if_false, Bool.false_eq_true, w64, ra29, rl29, ra30, rl30, g1, g2]
      simp [e2]) 0 (Nat.zero_le _)
  exact F
end MP

