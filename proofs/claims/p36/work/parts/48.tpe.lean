/-! ===== Tape: bytes, digits, a gate ===== -/
/-- a tape at t: bytes at t + 1 -/
def tpS (sh : Shp) (t : Nat) : Prop := ob sh 9 2 t ∧ srf sh t 0 = t + 1 ∧ skd sh (t + 1) = 0 ∧ sln sh (t + 1) = 140 ∧ t + 1 < sh.1
/-- the tape holds the bytes B, s of them -/
def HP (σ : Mem) (t : Nat) (B : Nat → Nat) (s : Nat) : Prop := σ.1 t 1 = (s : Int) ∧ ∀ j, j < 140 → σ.1 (t + 1) j = (B j : Int) ∧ B j < 256
theorem HP.fr {t x y s : Nat} {σ σ' : Mem} {B : Nat → Nat} (h : HP σ t B s) (hf : frI x y σ σ') (ho : t + 1 < x ∨ y < t) : HP σ' t B s := by
  refine ⟨by rw [hf.1 _ (by omega)]; exact h.1, fun j hj => ?_⟩
  rw [hf.1 _ (by omega)]; exact h.2 j hj
def byB (B : Nat → Nat) (s i : Nat) : Int := if i < s then (B i : Int) else -1
/-- a digit from lo on, below bd, or the fault -/
def rdD (B : Nat → Nat) (s i : Nat) (lo bd : Int) : Int := if byB B s i < 48 ∨ 57 < byB B s i then -1000 * 1 - (i : Int) else if lo ≤ byB B s i - 48 ∧ byB B s i - 48 < bd then byB B s i - 48 else -1000 * 3 - (i : Int)
def kdB (z : Int) : Int := if z = 114 then 0 else if z = 104 then 1 else if z = 120 then 2 else if z = 99 then 3 else if z = 100 then 4 else if z = 119 then 5 else -1
theorem kdB_r (z : Int) : kdB z = -1 ∨ ∃ k : Nat, k ≤ 5 ∧ kdB z = (k : Int) := by
  unfold kdB
  repeat' split
  · exact Or.inr ⟨0, by omega, rfl⟩
  · exact Or.inr ⟨1, by omega, rfl⟩
  · exact Or.inr ⟨2, by omega, rfl⟩
  · exact Or.inr ⟨3, by omega, rfl⟩
  · exact Or.inr ⟨4, by omega, rfl⟩
  · exact Or.inr ⟨5, by omega, rfl⟩
  · exact Or.inl rfl
/-- a gate from i on: where it ends, or the fault; the gate -/
def rdG (B : Nat → Nat) (s n i : Nat) : Int × Gt :=
  if kdB (byB B s i) < 0 then (-1000 * 1 - (i : Int), gz)
  else if rdD B s (i + 1) 0 (if kdB (byB B s i) = 0 then 8 else (n : Int)) < 0 then (rdD B s (i + 1) 0 (if kdB (byB B s i) = 0 then 8 else (n : Int)), gz)
  else if kdB (byB B s i) = 1 ∨ kdB (byB B s i) = 2 then (((i + 2 : Nat) : Int), ((kdB (byB B s i)).toNat, (rdD B s (i + 1) 0 (n : Int)).toNat, -1))
  else if byB B s (i + 2) ≠ 44 then (-1000 * 1 - ((i + 2 : Nat) : Int), gz)
  else if rdD B s (i + 3) 0 (n : Int) < 0 then (rdD B s (i + 3) 0 (n : Int), gz)
  else if kdB (byB B s i) = 0 then (((i + 4 : Nat) : Int), (0, (rdD B s (i + 3) 0 (n : Int)).toNat, rdD B s (i + 1) 0 8))
  else if rdD B s (i + 1) 0 (n : Int) = rdD B s (i + 3) 0 (n : Int) then (-1000 * 6 - ((i + 3 : Nat) : Int), gz)
  else (((i + 4 : Nat) : Int), ((kdB (byB B s i)).toNat, (rdD B s (i + 1) 0 (n : Int)).toNat, rdD B s (i + 3) 0 (n : Int)))
theorem byB_r {B : Nat → Nat} {s : Nat} (h : s ≤ 140) (hB : ∀ j, j < 140 → B j < 256) (i : Nat) : -1 ≤ byB B s i ∧ byB B s i < 256 := by
  unfold byB
  split
  · have := hB i (by omega); omega
  · omega
theorem rdD_r (B : Nat → Nat) (s i : Nat) (lo bd : Int) (h0 : 0 ≤ lo) : (0 ≤ rdD B s i lo bd → i < s ∧ lo ≤ rdD B s i lo bd ∧ rdD B s i lo bd < bd ∧ rdD B s i lo bd < 10) ∧ -3000 - (i : Int) ≤ rdD B s i lo bd ∧ rdD B s i lo bd < 10 := by
  have hi : ¬ byB B s i < 48 → i < s := by
    intro h
    rcases Nat.lt_or_ge i s with h1 | h1
    · exact h1
    · rw [byB, if_neg (by omega)] at h; omega
  unfold rdD
  repeat' split
  all_goals first | omega | (refine ⟨fun _ => ⟨hi (by omega), ?_⟩, ?_⟩ <;> omega)
section TPE
variable {sh : Shp} {d t g cap s n i : Nat} {σ : Mem} {B : Nat → Nat} {c : List Gt} {lo bd : Int}
theorem T106 (hs : tpS sh t) (hP : HP σ t B s) (h1 : s ≤ 140) (hi : i < 1000) : run sh (d + 1) 106 [mR t, mI (i : Int)] σ = some (some (mI (byB B s i)), σ) := by
  obtain ⟨ho, r0, k1, l1, hw⟩ := id hs
  have hl := hP.1
  unfold byB
  by_cases h : i < s
  · have hb := (hP.2 i (by omega)).1
    simp (disch := first | assumption | omega | (simp (disch := omega) only [wN, w0, w1]; omega)) only [e106_0, e106_1, e106_2, e106_5, e106_8, e106_9, e106_12, e106_13, e106_16, e106_19, e106_20, kl_I, kl_R, kl_N, kl_L, oSm, oNn, Option.bind_some, wN, if_pos, if_neg, nS, tN, t0, w0, w1, w2, w3, w4, w5, wm1, upA_ne, upA_same, if_true, if_false, Bool.false_eq_true, q106, hl, r0, K93n k1 l1 (by omega) (show i < 140 by omega), hb]
  · simp (disch := first | assumption | omega | (simp (disch := omega) only [wN, w0, w1]; omega)) only [e106_0, e106_1, e106_2, e106_5, e106_8, e106_9, e106_12, e106_13, e106_16, e106_19, e106_20, kl_I, kl_R, kl_N, kl_L, oSm, oNn, Option.bind_some, wN, if_pos, if_neg, nS, tN, t0, w0, w1, w2, w3, w4, w5, wm1, upA_ne, upA_same, if_true, if_false, Bool.false_eq_true, q106, hl, r0]
theorem T107 (z w : Int) : run sh (d + 1) 107 [mI z, mI w] σ = some (some (mI (-1000 * z - w)), σ) := by
  simp (disch := first | assumption | omega | (simp (disch := omega) only [wN, w0, w1]; omega)) only [e107_0, e107_3, e107_4, e107_5, e107_6, e107_7, kl_I, kl_R, kl_N, kl_L, oSm, oNn, Option.bind_some, wN, if_pos, if_neg, nS, tN, t0, w0, w1, w2, w3, w4, w5, wm1, upA_ne, upA_same, if_true, if_false, Bool.false_eq_true, q107]
theorem T108 (hs : tpS sh t) (hP : HP σ t B s) (h1 : s ≤ 140) (hi : i < 1000) (hlo : 0 ≤ lo ∧ lo < 10) (hbd : 0 ≤ bd ∧ bd < 10) : run sh (d + 2) 108 [mR t, mI (i : Int), mI lo, mI bd] σ = some (some (mI (rdD B s i lo bd)), σ) := by
  have ho := hs.1
  have hb := byB_r h1 (fun j hj => (hP.2 j hj).2) i
  have w48 : wi 48 = 48 := rfl
  have w57 : wi 57 = 57 := rfl
  have wb : wi (byB B s i) = byB B s i := wi_id (by omega) (by omega)
  have wb2 : wi (byB B s i - 48) = byB B s i - 48 := wi_id (by omega) (by omega)
  have wl1 : wi lo = lo := wi_id (by omega) (by omega)
  have wl2 : wi bd = bd := wi_id (by omega) (by omega)
  have e6 := T106 (d := d) hs hP h1 hi
  unfold rdD
  by_cases h48 : byB B s i < 48
  · simp (disch := first | assumption | omega | (simp (disch := omega) only [wN, w0, w1]; omega)) only [e108_0, e108_1, e108_2, e108_5, e108_7, e108_9, e108_11, e108_14, e108_16, e108_18, e108_21, e108_22, e108_23, e108_26, e108_27, e108_29, e108_31, e108_32, e108_34, e108_36, e108_37, e108_40, e108_42, e108_43, e108_46, e108_48, e108_51, e108_52, e108_53, e108_56, kl_I, kl_R, kl_N, kl_L, oSm, oNn, Option.bind_some, wN, if_pos, if_neg, nS, tN, t0, w0, w1, w2, w3, w4, w5, wm1, upA_ne, upA_same, if_true, if_false, Bool.false_eq_true, q108, e6, T107, w48, w57, wb]
  · by_cases h57 : 57 < byB B s i
    · simp (disch := first | assumption | omega | (simp (disch := omega) only [wN, w0, w1]; omega)) only [e108_0, e108_1, e108_2, e108_5, e108_7, e108_9, e108_11, e108_14, e108_16, e108_18, e108_21, e108_22, e108_23, e108_26, e108_27, e108_29, e108_31, e108_32, e108_34, e108_36, e108_37, e108_40, e108_42, e108_43, e108_46, e108_48, e108_51, e108_52, e108_53, e108_56, kl_I, kl_R, kl_N, kl_L, oSm, oNn, Option.bind_some, wN, if_pos, if_neg, nS, tN, t0, w0, w1, w2, w3, w4, w5, wm1, upA_ne, upA_same, if_true, if_false, Bool.false_eq_true, q108, e6, T107, w48, w57, wb]
    · by_cases hl1 : lo ≤ byB B s i - 48
      · by_cases hl2 : byB B s i - 48 < bd
        · simp (disch := first | assumption | omega | (simp (disch := omega) only [wN, w0, w1]; omega)) only [e108_0, e108_1, e108_2, e108_5, e108_7, e108_9, e108_11, e108_14, e108_16, e108_18, e108_21, e108_22, e108_23, e108_26, e108_27, e108_29, e108_31, e108_32, e108_34, e108_36, e108_37, e108_40, e108_42, e108_43, e108_46, e108_48, e108_51, e108_52, e108_53, e108_56, kl_I, kl_R, kl_N, kl_L, oSm, oNn, Option.bind_some, wN, if_pos, if_neg, nS, tN, t0, w0, w1, w2, w3, w4, w5, wm1, upA_ne, upA_same, if_true, if_false, Bool.false_eq_true, q108, e6, T107, w48, w57, wb, wb2, wl1, wl2]
        · simp (disch := first | assumption | omega | (simp (disch := omega) only [wN, w0, w1]; omega)) only [e108_0, e108_1, e108_2, e108_5, e108_7, e108_9, e108_11, e108_14, e108_16, e108_18, e108_21, e108_22, e108_23, e108_26, e108_27, e108_29, e108_31, e108_32, e108_34, e108_36, e108_37, e108_40, e108_42, e108_43, e108_46, e108_48, e108_51, e108_52, e108_53, e108_56, kl_I, kl_R, kl_N, kl_L, oSm, oNn, Option.bind_some, wN, if_pos, if_neg, nS, tN, t0, w0, w1, w2, w3, w4, w5, wm1, upA_ne, upA_same, if_true, if_false, Bool.false_eq_true, q108, e6, T107, w48, w57, wb, wb2, wl1, wl2]
      · simp (disch := first | assumption | omega | (simp (disch := omega) only [wN, w0, w1]; omega)) only [e108_0, e108_1, e108_2, e108_5, e108_7, e108_9, e108_11, e108_14, e108_16, e108_18, e108_21, e108_22, e108_23, e108_26, e108_27, e108_29, e108_31, e108_32, e108_34, e108_36, e108_37, e108_40, e108_42, e108_43, e108_46, e108_48, e108_51, e108_52, e108_53, e108_56, kl_I, kl_R, kl_N, kl_L, oSm, oNn, Option.bind_some, wN, if_pos, if_neg, nS, tN, t0, w0, w1, w2, w3, w4, w5, wm1, upA_ne, upA_same, if_true, if_false, Bool.false_eq_true, q108, e6, T107, w48, w57, wb, wb2, wl1, wl2]
theorem xi2c_n (b : Nat) (h : b < 256) : xi2c (b : Int) = (b : Int) := by
  have : ∀ b : Nat, b < 256 → xi2c (b : Int) = (b : Int) := by decide +kernel
  exact this b h
theorem T110a (hs : tpS sh t) (hP : HP σ t B s) (h1 : s ≤ 140) (hi : i < 500) (hR : sh.2.1 = 2) {x : Nat} : run sh (d + 7) 110 [mR t, mI (i : Int), mI (n : Int), mR x] σ = ev sh (d + 7) 110 27 [some (mR (t)), some (mI ((i : Nat) : Int)), some (mI ((n : Nat) : Int)), some (mR (x)), some (mI (byB B s i)), some (mI (kdB (byB B s i))), none, none] [] σ := by
  have ho := hs.1
  have e0 := T106 (d := d + 5) hs hP h1 (show i < 1000 by omega)
  by_cases h : i < s
  · have hB := (hP.2 i (by omega)).2
    have eb : byB B s i = (B i : Int) := if_pos h
    rw [eb] at e0 ⊢
    have hx := xi2c_n (B i) hB
    simp (disch := first | assumption | omega | (simp (disch := omega) only [wN, w0, w1]; omega)) only [e110_0, e110_1, e110_2, e110_5, e110_7, e110_9, e110_10, e110_13, e110_14, e110_17, e110_19, e110_21, e110_22, e110_25, e110_29, e110_32, e110_33, e110_34, e110_37, e110_38, e110_39, e110_40, e110_41, e110_42, e110_43, e110_45, e110_48, e110_50, e110_53, e110_54, e110_57, e110_59, e110_61, e110_64, e110_66, e110_67, e110_69, e110_70, e110_73, e110_75, e110_76, e110_79, e110_80, e110_82, e110_84, e110_85, e110_88, e110_89, e110_90, e110_91, e110_92, e110_93, e110_94, e110_95, e110_96, e110_99, e110_101, e110_104, e110_105, e110_106, e110_107, e110_108, e110_111, e110_112, e110_113, e110_114, e110_115, e110_116, e110_117, e110_118, e110_121, e110_123, e110_125, e110_128, e110_130, e110_131, e110_133, e110_136, e110_137, e110_138, e110_140, e110_142, e110_145, e110_146, e110_147, e110_148, e110_149, e110_151, e110_153, e110_156, e110_158, e110_159, e110_160, e110_161, e110_164, e110_165, e110_166, e110_168, e110_170, e110_172, e110_175, e110_176, e110_177, e110_178, kl_I, kl_R, kl_N, kl_L, oSm, oNn, Option.bind_some, wN, if_pos, if_neg, nS, tN, t0, w0, w1, w2, w3, w4, w5, wm1, upA_ne, upA_same, if_true, if_false, Bool.false_eq_true, q110, e0, hx]
    rfl
  · have eb : byB B s i = -1 := if_neg h
    rw [eb] at e0 ⊢
    simp (disch := first | assumption | omega | (simp (disch := omega) only [wN, w0, w1]; omega)) only [e110_0, e110_1, e110_2, e110_5, e110_7, e110_9, e110_10, e110_13, e110_14, e110_17, e110_19, e110_21, e110_22, e110_25, e110_29, e110_32, e110_33, e110_34, e110_37, e110_38, e110_39, e110_40, e110_41, e110_42, e110_43, e110_45, e110_48, e110_50, e110_53, e110_54, e110_57, e110_59, e110_61, e110_64, e110_66, e110_67, e110_69, e110_70, e110_73, e110_75, e110_76, e110_79, e110_80, e110_82, e110_84, e110_85, e110_88, e110_89, e110_90, e110_91, e110_92, e110_93, e110_94, e110_95, e110_96, e110_99, e110_101, e110_104, e110_105, e110_106, e110_107, e110_108, e110_111, e110_112, e110_113, e110_114, e110_115, e110_116, e110_117, e110_118, e110_121, e110_123, e110_125, e110_128, e110_130, e110_131, e110_133, e110_136, e110_137, e110_138, e110_140, e110_142, e110_145, e110_146, e110_147, e110_148, e110_149, e110_151, e110_153, e110_156, e110_158, e110_159, e110_160, e110_161, e110_164, e110_165, e110_166, e110_168, e110_170, e110_172, e110_175, e110_176, e110_177, e110_178, kl_I, kl_R, kl_N, kl_L, oSm, oNn, Option.bind_some, wN, if_pos, if_neg, nS, tN, t0, w0, w1, w2, w3, w4, w5, wm1, upA_ne, upA_same, if_true, if_false, Bool.false_eq_true, q110, e0]
    rfl
/-- what comes of a gate that is read -/
def poG (B : Nat → Nat) (s n i g : Nat) (c : List Gt) (σ : Mem) (r : Option MV) (σ' : Mem) : Prop := r = some (mI (rdG B s n i).1) ∧ HG σ' g (if 0 ≤ (rdG B s n i).1 then c ++ [(rdG B s n i).2] else c) ∧ frG g σ σ' ∧ (0 ≤ (rdG B s n i).1 → vG n (rdG B s n i).2 ∧ (rdG B s n i).1 ≤ s ∧ (i : Int) < (rdG B s n i).1) ∧ (rdG B s n i).1 < 600 ∧ -8000 < (rdG B s n i).1
theorem poG.no {v : Int} {g : Nat} (hG : HG σ g c) (hv : (rdG B s n i).1 = v) (h0 : v < 0) (h8 : -8000 < v) : poG B s n i g c σ (some (mI v)) σ := by
  unfold poG
  rw [hv, if_neg (by omega)]
  exact ⟨rfl, hG, frG.rf, fun h => by omega, by omega, h8⟩
theorem poG.go {q : Gt} {e g : Nat} {σ' : Mem} (hv : rdG B s n i = (((e : Nat) : Int), q)) (hi : i < 500) (he : i < e) (h4 : e ≤ i + 4) (hes : e ≤ s) (hq : vG n q) (hG' : HG σ' g (c ++ [q])) (hf : frG g σ σ') : poG B s n i g c σ (some (mI (e : Int))) σ' := by
  unfold poG
  rw [hv]
  refine ⟨rfl, ?_, hf, fun _ => ⟨hq, ?_, ?_⟩, ?_, ?_⟩
  · rw [if_pos (by simp only; omega)]; exact hG'
  all_goals simp only; omega
theorem byB_lt (h : 0 ≤ byB B s i) : i < s := by
  rcases Nat.lt_or_ge i s with h1 | h1
  · exact h1
  · rw [byB, if_neg (by omega)] at h; omega
theorem T110 (hs : tpS sh t) (hP : HP σ t B s) (h1 : s ≤ 140) (hi : i < 500) (hR : sh.2.1 = 2) (hg : glS sh g cap) (hG : HG σ g c) (hc : c.length < cap) (hb : cap ≤ 100) (hn : n ≤ 4) (hap : t + 1 < g ∨ g + 6 < t) : End (run sh (d + 7) 110 [mR t, mI (i : Int), mI (n : Int), mR g] σ) (poG B s n i g c σ) := by
  have ho := hs.1
  have hgo := hg.1
  have e2 := T106 (d := d + 5) hs hP h1 (show i + 2 < 1000 by omega)
  have d1 := T108 (d := d + 4) hs hP h1 (show i + 1 < 1000 by omega) (lo := 0) (bd := (n : Int)) (by omega) (by omega)
  have d8 := T108 (d := d + 4) hs hP h1 (show i + 1 < 1000 by omega) (lo := 0) (bd := 8) (by omega) (by omega)
  have d3 := T108 (d := d + 4) hs hP h1 (show i + 3 < 1000 by omega) (lo := 0) (bd := (n : Int)) (by omega) (by omega)
  have b2 := byB_r h1 (fun j hj => (hP.2 j hj).2) (i + 2)
  have wb2 : wi (byB B s (i + 2)) = byB B s (i + 2) := wi_id (by omega) (by omega)
  have w44 : wi 44 = 44 := rfl
  have q1 : ∀ lo bd j, 0 ≤ lo → j < 1000 → wi (rdD B s j lo bd) = rdD B s j lo bd := by
    intro lo bd j h0 hj
    have := rdD_r B s j lo bd h0
    exact wi_id (by omega) (by omega)
  have wd1 := q1 0 (n : Int) (i + 1) (by omega) (by omega)
  have wd8 := q1 0 8 (i + 1) (by omega) (by omega)
  have wd3 := q1 0 (n : Int) (i + 3) (by omega) (by omega)
  clear q1
  have nS4' : (i : Int) + 4 = ((i + 4 : Nat) : Int) := rfl
  rw [T110a hs hP h1 hi hR]
  rcases kdB_r (byB B s i) with hk | ⟨k, hk5, hk⟩
  · rw [hk]
    have er : (rdG B s n i).1 = -1000 * 1 - (i : Int) := by rw [rdG, if_pos (by omega)]
    simp (disch := first | assumption | omega | (simp (disch := omega) only [wN, w0, w1]; omega)) only [e110_0, e110_1, e110_2, e110_5, e110_7, e110_9, e110_10, e110_13, e110_14, e110_17, e110_19, e110_21, e110_22, e110_25, e110_27, e110_29, e110_32, e110_33, e110_34, e110_37, e110_38, e110_39, e110_40, e110_41, e110_42, e110_43, e110_45, e110_48, e110_50, e110_53, e110_54, e110_57, e110_59, e110_61, e110_64, e110_66, e110_67, e110_69, e110_70, e110_73, e110_75, e110_76, e110_79, e110_80, e110_82, e110_84, e110_85, e110_88, e110_89, e110_90, e110_91, e110_92, e110_93, e110_94, e110_95, e110_96, e110_99, e110_101, e110_104, e110_105, e110_106, e110_107, e110_108, e110_111, e110_112, e110_113, e110_114, e110_115, e110_116, e110_117, e110_118, e110_121, e110_123, e110_125, e110_128, e110_130, e110_131, e110_133, e110_136, e110_137, e110_138, e110_140, e110_142, e110_145, e110_146, e110_147, e110_148, e110_149, e110_151, e110_153, e110_156, e110_158, e110_159, e110_160, e110_161, e110_164, e110_165, e110_166, e110_168, e110_170, e110_172, e110_175, e110_176, e110_177, e110_178, kl_I, kl_R, kl_N, kl_L, oSm, oNn, Option.bind_some, wN, if_pos, if_neg, nS, tN, t0, w0, w1, w2, w3, w4, w5, wm1, upA_ne, upA_same, if_true, if_false, Bool.false_eq_true, T107]
    exact End.of rfl (poG.no hG er (by omega) (by omega))
  · rw [hk]
    rcases (show k = 0 ∨ (k = 1 ∨ k = 2) ∨ 3 ≤ k by omega) with h | h | h
    · subst h
      have hk : kdB (byB B s i) = 0 := hk
      by_cases f1 : rdD B s (i + 1) 0 8 < 0
      · have er : (rdG B s n i).1 = rdD B s (i + 1) 0 8 := by rw [rdG, hk, if_neg (by omega), if_pos rfl, if_pos f1]
        have e8 : wi 8 = 8 := rfl
        simp (disch := first | assumption | omega | (simp (disch := omega) only [wN, w0, w1]; omega)) only [e110_0, e110_1, e110_2, e110_5, e110_7, e110_9, e110_10, e110_13, e110_14, e110_17, e110_19, e110_21, e110_22, e110_25, e110_27, e110_29, e110_32, e110_33, e110_34, e110_37, e110_38, e110_39, e110_40, e110_41, e110_42, e110_43, e110_45, e110_48, e110_50, e110_53, e110_54, e110_57, e110_59, e110_61, e110_64, e110_66, e110_67, e110_69, e110_70, e110_73, e110_75, e110_76, e110_79, e110_80, e110_82, e110_84, e110_85, e110_88, e110_89, e110_90, e110_91, e110_92, e110_93, e110_94, e110_95, e110_96, e110_99, e110_101, e110_104, e110_105, e110_106, e110_107, e110_108, e110_111, e110_112, e110_113, e110_114, e110_115, e110_116, e110_117, e110_118, e110_121, e110_123, e110_125, e110_128, e110_130, e110_131, e110_133, e110_136, e110_137, e110_138, e110_140, e110_142, e110_145, e110_146, e110_147, e110_148, e110_149, e110_151, e110_153, e110_156, e110_158, e110_159, e110_160, e110_161, e110_164, e110_165, e110_166, e110_168, e110_170, e110_172, e110_175, e110_176, e110_177, e110_178, kl_I, kl_R, kl_N, kl_L, oSm, oNn, Option.bind_some, wN, if_pos, if_neg, nS, tN, t0, w0, w1, w2, w3, w4, w5, wm1, upA_ne, upA_same, if_true, if_false, Bool.false_eq_true, d8, wd8, Int.natCast_zero]
        have r8 := (rdD_r B s (i + 1) 0 8 (Int.le_refl _)).2
        exact End.of rfl (poG.no hG er f1 (by omega))
      · by_cases f2 : byB B s (i + 2) = 44
        · by_cases f3 : rdD B s (i + 3) 0 (n : Int) < 0
          · have er : (rdG B s n i).1 = rdD B s (i + 3) 0 (n : Int) := by rw [rdG, hk, if_neg (by omega), if_pos rfl, if_neg f1, if_neg (by omega), if_neg (by omega), if_pos f3]
            simp (disch := first | assumption | omega | (simp (disch := omega) only [wN, w0, w1]; omega)) only [e110_0, e110_1, e110_2, e110_5, e110_7, e110_9, e110_10, e110_13, e110_14, e110_17, e110_19, e110_21, e110_22, e110_25, e110_27, e110_29, e110_32, e110_33, e110_34, e110_37, e110_38, e110_39, e110_40, e110_41, e110_42, e110_43, e110_45, e110_48, e110_50, e110_53, e110_54, e110_57, e110_59, e110_61, e110_64, e110_66, e110_67, e110_69, e110_70, e110_73, e110_75, e110_76, e110_79, e110_80, e110_82, e110_84, e110_85, e110_88, e110_89, e110_90, e110_91, e110_92, e110_93, e110_94, e110_95, e110_96, e110_99, e110_101, e110_104, e110_105, e110_106, e110_107, e110_108, e110_111, e110_112, e110_113, e110_114, e110_115, e110_116, e110_117, e110_118, e110_121, e110_123, e110_125, e110_128, e110_130, e110_131, e110_133, e110_136, e110_137, e110_138, e110_140, e110_142, e110_145, e110_146, e110_147, e110_148, e110_149, e110_151, e110_153, e110_156, e110_158, e110_159, e110_160, e110_161, e110_164, e110_165, e110_166, e110_168, e110_170, e110_172, e110_175, e110_176, e110_177, e110_178, kl_I, kl_R, kl_N, kl_L, oSm, oNn, Option.bind_some, wN, if_pos, if_neg, nS, tN, t0, w0, w1, w2, w3, w4, w5, wm1, upA_ne, upA_same, if_true, if_false, Bool.false_eq_true, d8, wd8, Int.natCast_zero, nS2, nS3, e2, f2, w44, d3, wd3]
            have r3 := (rdD_r B s (i + 3) 0 (n : Int) (Int.le_refl _)).2
            exact End.of rfl (poG.no hG er f3 (by omega))
          · have er : rdG B s n i = (((i + 4 : Nat) : Int), (0, (rdD B s (i + 3) 0 (n : Int)).toNat, rdD B s (i + 1) 0 8)) := by rw [rdG, hk, if_neg (by omega), if_pos rfl, if_neg f1, if_neg (by omega), if_neg (by omega), if_neg f3, if_pos rfl]
            have r8 := (rdD_r B s (i + 1) 0 8 (Int.le_refl _)).1 (by omega)
            have r3 := (rdD_r B s (i + 3) 0 (n : Int) (Int.le_refl _)).1 (by omega)
            have hq : vG n (0, (rdD B s (i + 3) 0 (n : Int)).toNat, rdD B s (i + 1) 0 8) := ⟨by simp, by simp only; omega, fun _ => by simp only; omega, fun h => by simp at h, fun h => by simp at h⟩
            obtain ⟨r, σ1, a1, rfl, a3, a4⟩ := L52 (d := d + 5) hg hG hc hb (show n ≤ 5 by omega) hq
            simp only at a1
            rw [show (((rdD B s (i + 3) 0 (n : Int)).toNat : Nat) : Int) = rdD B s (i + 3) 0 (n : Int) by omega] at a1
            have a1 : run sh (d + 6) 52 [mR g, mI 0, mI (rdD B s (i + 3) 0 (n : Int)), mI (rdD B s (i + 1) 0 8)] σ = some (none, σ1) := a1
            simp (disch := first | assumption | omega | (simp (disch := omega) only [wN, w0, w1]; omega)) only [e110_0, e110_1, e110_2, e110_5, e110_7, e110_9, e110_10, e110_13, e110_14, e110_17, e110_19, e110_21, e110_22, e110_25, e110_27, e110_29, e110_32, e110_33, e110_34, e110_37, e110_38, e110_39, e110_40, e110_41, e110_42, e110_43, e110_45, e110_48, e110_50, e110_53, e110_54, e110_57, e110_59, e110_61, e110_64, e110_66, e110_67, e110_69, e110_70, e110_73, e110_75, e110_76, e110_79, e110_80, e110_82, e110_84, e110_85, e110_88, e110_89, e110_90, e110_91, e110_92, e110_93, e110_94, e110_95, e110_96, e110_99, e110_101, e110_104, e110_105, e110_106, e110_107, e110_108, e110_111, e110_112, e110_113, e110_114, e110_115, e110_116, e110_117, e110_118, e110_121, e110_123, e110_125, e110_128, e110_130, e110_131, e110_133, e110_136, e110_137, e110_138, e110_140, e110_142, e110_145, e110_146, e110_147, e110_148, e110_149, e110_151, e110_153, e110_156, e110_158, e110_159, e110_160, e110_161, e110_164, e110_165, e110_166, e110_168, e110_170, e110_172, e110_175, e110_176, e110_177, e110_178, kl_I, kl_R, kl_N, kl_L, oSm, oNn, Option.bind_some, wN, if_pos, if_neg, nS, tN, t0, w0, w1, w2, w3, w4, w5, wm1, upA_ne, upA_same, if_true, if_false, Bool.false_eq_true, d8, wd8, Int.natCast_zero, nS2, nS3, e2, f2, w44, d3, wd3, a1, nS4']
            exact End.of rfl (poG.go er hi (by omega) (by omega) (by omega) hq a3 a4)
        · have er : (rdG B s n i).1 = -1000 * 1 - ((i + 2 : Nat) : Int) := by rw [rdG, hk, if_neg (by omega), if_pos rfl, if_neg f1, if_neg (by omega), if_pos f2]
          simp (disch := first | assumption | omega | (simp (disch := omega) only [wN, w0, w1]; omega)) only [e110_0, e110_1, e110_2, e110_5, e110_7, e110_9, e110_10, e110_13, e110_14, e110_17, e110_19, e110_21, e110_22, e110_25, e110_27, e110_29, e110_32, e110_33, e110_34, e110_37, e110_38, e110_39, e110_40, e110_41, e110_42, e110_43, e110_45, e110_48, e110_50, e110_53, e110_54, e110_57, e110_59, e110_61, e110_64, e110_66, e110_67, e110_69, e110_70, e110_73, e110_75, e110_76, e110_79, e110_80, e110_82, e110_84, e110_85, e110_88, e110_89, e110_90, e110_91, e110_92, e110_93, e110_94, e110_95, e110_96, e110_99, e110_101, e110_104, e110_105, e110_106, e110_107, e110_108, e110_111, e110_112, e110_113, e110_114, e110_115, e110_116, e110_117, e110_118, e110_121, e110_123, e110_125, e110_128, e110_130, e110_131, e110_133, e110_136, e110_137, e110_138, e110_140, e110_142, e110_145, e110_146, e110_147, e110_148, e110_149, e110_151, e110_153, e110_156, e110_158, e110_159, e110_160, e110_161, e110_164, e110_165, e110_166, e110_168, e110_170, e110_172, e110_175, e110_176, e110_177, e110_178, kl_I, kl_R, kl_N, kl_L, oSm, oNn, Option.bind_some, wN, if_pos, if_neg, nS, tN, t0, w0, w1, w2, w3, w4, w5, wm1, upA_ne, upA_same, if_true, if_false, Bool.false_eq_true, d8, wd8, Int.natCast_zero, nS2, nS3, e2, wb2, w44, T107]
          exact End.of rfl (poG.no hG er (by omega) (by omega))
    · have hkn : ¬ (k : Int) = 0 := by omega
      by_cases f1 : rdD B s (i + 1) 0 (n : Int) < 0
      · have er : (rdG B s n i).1 = rdD B s (i + 1) 0 (n : Int) := by rw [rdG, hk, if_neg (by omega), if_neg hkn, if_pos f1]
        simp (disch := first | assumption | omega | (simp (disch := omega) only [wN, w0, w1]; omega)) only [e110_0, e110_1, e110_2, e110_5, e110_7, e110_9, e110_10, e110_13, e110_14, e110_17, e110_19, e110_21, e110_22, e110_25, e110_27, e110_29, e110_32, e110_33, e110_34, e110_37, e110_38, e110_39, e110_40, e110_41, e110_42, e110_43, e110_45, e110_48, e110_50, e110_53, e110_54, e110_57, e110_59, e110_61, e110_64, e110_66, e110_67, e110_69, e110_70, e110_73, e110_75, e110_76, e110_79, e110_80, e110_82, e110_84, e110_85, e110_88, e110_89, e110_90, e110_91, e110_92, e110_93, e110_94, e110_95, e110_96, e110_99, e110_101, e110_104, e110_105, e110_106, e110_107, e110_108, e110_111, e110_112, e110_113, e110_114, e110_115, e110_116, e110_117, e110_118, e110_121, e110_123, e110_125, e110_128, e110_130, e110_131, e110_133, e110_136, e110_137, e110_138, e110_140, e110_142, e110_145, e110_146, e110_147, e110_148, e110_149, e110_151, e110_153, e110_156, e110_158, e110_159, e110_160, e110_161, e110_164, e110_165, e110_166, e110_168, e110_170, e110_172, e110_175, e110_176, e110_177, e110_178, kl_I, kl_R, kl_N, kl_L, oSm, oNn, Option.bind_some, wN, if_pos, if_neg, nS, tN, t0, w0, w1, w2, w3, w4, w5, wm1, upA_ne, upA_same, if_true, if_false, Bool.false_eq_true, d1, wd1]
        have r1 := (rdD_r B s (i + 1) 0 (n : Int) (Int.le_refl _)).2
        exact End.of rfl (poG.no hG er f1 (by omega))
      · have er : rdG B s n i = (((i + 2 : Nat) : Int), (k, (rdD B s (i + 1) 0 (n : Int)).toNat, -1)) := by rw [rdG, hk, if_neg (by omega), if_neg hkn, if_neg f1, if_pos (by omega), tN]
        have r1 := (rdD_r B s (i + 1) 0 (n : Int) (Int.le_refl _)).1 (by omega)
        have hq : vG n (k, (rdD B s (i + 1) 0 (n : Int)).toNat, -1) := ⟨hk5, by simp only; omega, fun h => by simp only at h; omega, fun _ => rfl, fun h => by simp only at h; omega⟩
        obtain ⟨r, σ1, a1, rfl, a3, a4⟩ := L52 (d := d + 5) hg hG hc hb (show n ≤ 5 by omega) hq
        simp only at a1
        rw [show (((rdD B s (i + 1) 0 (n : Int)).toNat : Nat) : Int) = rdD B s (i + 1) 0 (n : Int) by omega] at a1
        rcases h with h | h
        · subst h
          simp (disch := first | assumption | omega | (simp (disch := omega) only [wN, w0, w1]; omega)) only [e110_0, e110_1, e110_2, e110_5, e110_7, e110_9, e110_10, e110_13, e110_14, e110_17, e110_19, e110_21, e110_22, e110_25, e110_27, e110_29, e110_32, e110_33, e110_34, e110_37, e110_38, e110_39, e110_40, e110_41, e110_42, e110_43, e110_45, e110_48, e110_50, e110_53, e110_54, e110_57, e110_59, e110_61, e110_64, e110_66, e110_67, e110_69, e110_70, e110_73, e110_75, e110_76, e110_79, e110_80, e110_82, e110_84, e110_85, e110_88, e110_89, e110_90, e110_91, e110_92, e110_93, e110_94, e110_95, e110_96, e110_99, e110_101, e110_104, e110_105, e110_106, e110_107, e110_108, e110_111, e110_112, e110_113, e110_114, e110_115, e110_116, e110_117, e110_118, e110_121, e110_123, e110_125, e110_128, e110_130, e110_131, e110_133, e110_136, e110_137, e110_138, e110_140, e110_142, e110_145, e110_146, e110_147, e110_148, e110_149, e110_151, e110_153, e110_156, e110_158, e110_159, e110_160, e110_161, e110_164, e110_165, e110_166, e110_168, e110_170, e110_172, e110_175, e110_176, e110_177, e110_178, kl_I, kl_R, kl_N, kl_L, oSm, oNn, Option.bind_some, wN, if_pos, if_neg, nS, tN, t0, w0, w1, w2, w3, w4, w5, wm1, upA_ne, upA_same, if_true, if_false, Bool.false_eq_true, d1, wd1, a1, nS2]
          exact End.of rfl (poG.go er hi (by omega) (by omega) (by omega) hq a3 a4)
        · subst h
          simp (disch := first | assumption | omega | (simp (disch := omega) only [wN, w0, w1]; omega)) only [e110_0, e110_1, e110_2, e110_5, e110_7, e110_9, e110_10, e110_13, e110_14, e110_17, e110_19, e110_21, e110_22, e110_25, e110_27, e110_29, e110_32, e110_33, e110_34, e110_37, e110_38, e110_39, e110_40, e110_41, e110_42, e110_43, e110_45, e110_48, e110_50, e110_53, e110_54, e110_57, e110_59, e110_61, e110_64, e110_66, e110_67, e110_69, e110_70, e110_73, e110_75, e110_76, e110_79, e110_80, e110_82, e110_84, e110_85, e110_88, e110_89, e110_90, e110_91, e110_92, e110_93, e110_94, e110_95, e110_96, e110_99, e110_101, e110_104, e110_105, e110_106, e110_107, e110_108, e110_111, e110_112, e110_113, e110_114, e110_115, e110_116, e110_117, e110_118, e110_121, e110_123, e110_125, e110_128, e110_130, e110_131, e110_133, e110_136, e110_137, e110_138, e110_140, e110_142, e110_145, e110_146, e110_147, e110_148, e110_149, e110_151, e110_153, e110_156, e110_158, e110_159, e110_160, e110_161, e110_164, e110_165, e110_166, e110_168, e110_170, e110_172, e110_175, e110_176, e110_177, e110_178, kl_I, kl_R, kl_N, kl_L, oSm, oNn, Option.bind_some, wN, if_pos, if_neg, nS, tN, t0, w0, w1, w2, w3, w4, w5, wm1, upA_ne, upA_same, if_true, if_false, Bool.false_eq_true, d1, wd1, a1, nS2]
          exact End.of rfl (poG.go er hi (by omega) (by omega) (by omega) hq a3 a4)
    · have hkn : ¬ (k : Int) = 0 := by omega
      have hkm : ¬ ((k : Int) = 1 ∨ (k : Int) = 2) := by omega
      by_cases f1 : rdD B s (i + 1) 0 (n : Int) < 0
      · have er : (rdG B s n i).1 = rdD B s (i + 1) 0 (n : Int) := by rw [rdG, hk, if_neg (by omega), if_neg hkn, if_pos f1]
        simp (disch := first | assumption | omega | (simp (disch := omega) only [wN, w0, w1]; omega)) only [e110_0, e110_1, e110_2, e110_5, e110_7, e110_9, e110_10, e110_13, e110_14, e110_17, e110_19, e110_21, e110_22, e110_25, e110_27, e110_29, e110_32, e110_33, e110_34, e110_37, e110_38, e110_39, e110_40, e110_41, e110_42, e110_43, e110_45, e110_48, e110_50, e110_53, e110_54, e110_57, e110_59, e110_61, e110_64, e110_66, e110_67, e110_69, e110_70, e110_73, e110_75, e110_76, e110_79, e110_80, e110_82, e110_84, e110_85, e110_88, e110_89, e110_90, e110_91, e110_92, e110_93, e110_94, e110_95, e110_96, e110_99, e110_101, e110_104, e110_105, e110_106, e110_107, e110_108, e110_111, e110_112, e110_113, e110_114, e110_115, e110_116, e110_117, e110_118, e110_121, e110_123, e110_125, e110_128, e110_130, e110_131, e110_133, e110_136, e110_137, e110_138, e110_140, e110_142, e110_145, e110_146, e110_147, e110_148, e110_149, e110_151, e110_153, e110_156, e110_158, e110_159, e110_160, e110_161, e110_164, e110_165, e110_166, e110_168, e110_170, e110_172, e110_175, e110_176, e110_177, e110_178, kl_I, kl_R, kl_N, kl_L, oSm, oNn, Option.bind_some, wN, if_pos, if_neg, nS, tN, t0, w0, w1, w2, w3, w4, w5, wm1, upA_ne, upA_same, if_true, if_false, Bool.false_eq_true, d1, wd1]
        have r1 := (rdD_r B s (i + 1) 0 (n : Int) (Int.le_refl _)).2
        exact End.of rfl (poG.no hG er f1 (by omega))
      · by_cases f2 : byB B s (i + 2) = 44
        · by_cases f3 : rdD B s (i + 3) 0 (n : Int) < 0
          · have er : (rdG B s n i).1 = rdD B s (i + 3) 0 (n : Int) := by rw [rdG, hk, if_neg (by omega), if_neg hkn, if_neg f1, if_neg hkm, if_neg (by omega), if_pos f3]
            simp (disch := first | assumption | omega | (simp (disch := omega) only [wN, w0, w1]; omega)) only [e110_0, e110_1, e110_2, e110_5, e110_7, e110_9, e110_10, e110_13, e110_14, e110_17, e110_19, e110_21, e110_22, e110_25, e110_27, e110_29, e110_32, e110_33, e110_34, e110_37, e110_38, e110_39, e110_40, e110_41, e110_42, e110_43, e110_45, e110_48, e110_50, e110_53, e110_54, e110_57, e110_59, e110_61, e110_64, e110_66, e110_67, e110_69, e110_70, e110_73, e110_75, e110_76, e110_79, e110_80, e110_82, e110_84, e110_85, e110_88, e110_89, e110_90, e110_91, e110_92, e110_93, e110_94, e110_95, e110_96, e110_99, e110_101, e110_104, e110_105, e110_106, e110_107, e110_108, e110_111, e110_112, e110_113, e110_114, e110_115, e110_116, e110_117, e110_118, e110_121, e110_123, e110_125, e110_128, e110_130, e110_131, e110_133, e110_136, e110_137, e110_138, e110_140, e110_142, e110_145, e110_146, e110_147, e110_148, e110_149, e110_151, e110_153, e110_156, e110_158, e110_159, e110_160, e110_161, e110_164, e110_165, e110_166, e110_168, e110_170, e110_172, e110_175, e110_176, e110_177, e110_178, kl_I, kl_R, kl_N, kl_L, oSm, oNn, Option.bind_some, wN, if_pos, if_neg, nS, tN, t0, w0, w1, w2, w3, w4, w5, wm1, upA_ne, upA_same, if_true, if_false, Bool.false_eq_true, d1, wd1, nS2, nS3, e2, f2, w44, d3, wd3]
            have r3 := (rdD_r B s (i + 3) 0 (n : Int) (Int.le_refl _)).2
            exact End.of rfl (poG.no hG er f3 (by omega))
          · have r1 := (rdD_r B s (i + 1) 0 (n : Int) (Int.le_refl _)).1 (by omega)
            have r3 := (rdD_r B s (i + 3) 0 (n : Int) (Int.le_refl _)).1 (by omega)
            by_cases f4 : rdD B s (i + 1) 0 (n : Int) = rdD B s (i + 3) 0 (n : Int)
            · have er : (rdG B s n i).1 = -1000 * 6 - ((i + 3 : Nat) : Int) := by rw [rdG, hk, if_neg (by omega), if_neg hkn, if_neg f1, if_neg hkm, if_neg (by omega), if_neg f3, if_neg hkn, if_pos f4]
              simp (disch := first | assumption | omega | (simp (disch := omega) only [wN, w0, w1]; omega)) only [e110_0, e110_1, e110_2, e110_5, e110_7, e110_9, e110_10, e110_13, e110_14, e110_17, e110_19, e110_21, e110_22, e110_25, e110_27, e110_29, e110_32, e110_33, e110_34, e110_37, e110_38, e110_39, e110_40, e110_41, e110_42, e110_43, e110_45, e110_48, e110_50, e110_53, e110_54, e110_57, e110_59, e110_61, e110_64, e110_66, e110_67, e110_69, e110_70, e110_73, e110_75, e110_76, e110_79, e110_80, e110_82, e110_84, e110_85, e110_88, e110_89, e110_90, e110_91, e110_92, e110_93, e110_94, e110_95, e110_96, e110_99, e110_101, e110_104, e110_105, e110_106, e110_107, e110_108, e110_111, e110_112, e110_113, e110_114, e110_115, e110_116, e110_117, e110_118, e110_121, e110_123, e110_125, e110_128, e110_130, e110_131, e110_133, e110_136, e110_137, e110_138, e110_140, e110_142, e110_145, e110_146, e110_147, e110_148, e110_149, e110_151, e110_153, e110_156, e110_158, e110_159, e110_160, e110_161, e110_164, e110_165, e110_166, e110_168, e110_170, e110_172, e110_175, e110_176, e110_177, e110_178, kl_I, kl_R, kl_N, kl_L, oSm, oNn, Option.bind_some, wN, if_pos, if_neg, nS, tN, t0, w0, w1, w2, w3, w4, w5, wm1, upA_ne, upA_same, if_true, if_false, Bool.false_eq_true, d1, wd1, nS2, nS3, e2, f2, w44, d3, wd3, T107]
              exact End.of rfl (poG.no hG er (by omega) (by omega))
            · have er : rdG B s n i = (((i + 4 : Nat) : Int), (k, (rdD B s (i + 1) 0 (n : Int)).toNat, rdD B s (i + 3) 0 (n : Int))) := by rw [rdG, hk, if_neg (by omega), if_neg hkn, if_neg f1, if_neg hkm, if_neg (by omega), if_neg f3, if_neg hkn, if_neg f4, tN]
              have hq : vG n (k, (rdD B s (i + 1) 0 (n : Int)).toNat, rdD B s (i + 3) 0 (n : Int)) := ⟨hk5, by simp only; omega, fun h => by simp only at h; omega, fun h => by simp only at h; omega, fun _ => by simp only; omega⟩
              obtain ⟨r, σ1, a1, rfl, a3, a4⟩ := L52 (d := d + 5) hg hG hc hb (show n ≤ 5 by omega) hq
              simp only at a1
              rw [show (((rdD B s (i + 1) 0 (n : Int)).toNat : Nat) : Int) = rdD B s (i + 1) 0 (n : Int) by omega] at a1
              simp (disch := first | assumption | omega | (simp (disch := omega) only [wN, w0, w1]; omega)) only [e110_0, e110_1, e110_2, e110_5, e110_7, e110_9, e110_10, e110_13, e110_14, e110_17, e110_19, e110_21, e110_22, e110_25, e110_27, e110_29, e110_32, e110_33, e110_34, e110_37, e110_38, e110_39, e110_40, e110_41, e110_42, e110_43, e110_45, e110_48, e110_50, e110_53, e110_54, e110_57, e110_59, e110_61, e110_64, e110_66, e110_67, e110_69, e110_70, e110_73, e110_75, e110_76, e110_79, e110_80, e110_82, e110_84, e110_85, e110_88, e110_89, e110_90, e110_91, e110_92, e110_93, e110_94, e110_95, e110_96, e110_99, e110_101, e110_104, e110_105, e110_106, e110_107, e110_108, e110_111, e110_112, e110_113, e110_114, e110_115, e110_116, e110_117, e110_118, e110_121, e110_123, e110_125, e110_128, e110_130, e110_131, e110_133, e110_136, e110_137, e110_138, e110_140, e110_142, e110_145, e110_146, e110_147, e110_148, e110_149, e110_151, e110_153, e110_156, e110_158, e110_159, e110_160, e110_161, e110_164, e110_165, e110_166, e110_168, e110_170, e110_172, e110_175, e110_176, e110_177, e110_178, kl_I, kl_R, kl_N, kl_L, oSm, oNn, Option.bind_some, wN, if_pos, if_neg, nS, tN, t0, w0, w1, w2, w3, w4, w5, wm1, upA_ne, upA_same, if_true, if_false, Bool.false_eq_true, d1, wd1, nS2, nS3, e2, f2, w44, d3, wd3, a1, nS4']
              exact End.of rfl (poG.go er hi (by omega) (by omega) (by omega) hq a3 a4)
        · have er : (rdG B s n i).1 = -1000 * 1 - ((i + 2 : Nat) : Int) := by rw [rdG, hk, if_neg (by omega), if_neg hkn, if_neg f1, if_neg hkm, if_pos f2]
          simp (disch := first | assumption | omega | (simp (disch := omega) only [wN, w0, w1]; omega)) only [e110_0, e110_1, e110_2, e110_5, e110_7, e110_9, e110_10, e110_13, e110_14, e110_17, e110_19, e110_21, e110_22, e110_25, e110_27, e110_29, e110_32, e110_33, e110_34, e110_37, e110_38, e110_39, e110_40, e110_41, e110_42, e110_43, e110_45, e110_48, e110_50, e110_53, e110_54, e110_57, e110_59, e110_61, e110_64, e110_66, e110_67, e110_69, e110_70, e110_73, e110_75, e110_76, e110_79, e110_80, e110_82, e110_84, e110_85, e110_88, e110_89, e110_90, e110_91, e110_92, e110_93, e110_94, e110_95, e110_96, e110_99, e110_101, e110_104, e110_105, e110_106, e110_107, e110_108, e110_111, e110_112, e110_113, e110_114, e110_115, e110_116, e110_117, e110_118, e110_121, e110_123, e110_125, e110_128, e110_130, e110_131, e110_133, e110_136, e110_137, e110_138, e110_140, e110_142, e110_145, e110_146, e110_147, e110_148, e110_149, e110_151, e110_153, e110_156, e110_158, e110_159, e110_160, e110_161, e110_164, e110_165, e110_166, e110_168, e110_170, e110_172, e110_175, e110_176, e110_177, e110_178, kl_I, kl_R, kl_N, kl_L, oSm, oNn, Option.bind_some, wN, if_pos, if_neg, nS, tN, t0, w0, w1, w2, w3, w4, w5, wm1, upA_ne, upA_same, if_true, if_false, Bool.false_eq_true, d1, wd1, nS2, nS3, e2, wb2, w44, T107]
          exact End.of rfl (poG.no hG er (by omega) (by omega))
end TPE
