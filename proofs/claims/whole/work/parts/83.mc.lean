/-! ===== the reference: lines, gate, draws, place, seed, spend, count ===== -/
section MC
variable {sh : Shp} {d t g n : Nat} {σ : Mem} {a : AX} {z w v u : Int} {c : List Gt}
/-- a gate comes behind all of slot 0 -/
theorem HGm.app {σ' : Mem} {q : Gt} (h : HGm σ 0 c) (h1 : σ'.1 126 0 = ((c.length + 1 : Nat) : Int)) (h2 : σ'.1 125 (4 * c.length) = (q.1 : Int)) (h3 : σ'.1 125 (4 * c.length + 1) = (q.2.1 : Int)) (h4 : σ'.1 125 (4 * c.length + 2) = rb q) (h5 : σ'.1 125 (4 * c.length + 3) = rk q) (h6 : ∀ i, i < 4 * c.length → σ'.1 125 i = σ.1 125 i) : HGm σ' 0 (c ++ [q]) := by
  refine ⟨by rw [h1]; simp, fun g hg => ?_⟩
  rw [Nat.mul_zero, Nat.zero_add]
  by_cases e : g = c.length
  · subst e
    rw [gA_n]
    exact ⟨h2, h3, h4, h5⟩
  · have hg2 : g < c.length := by
      rw [List.length_append] at hg
      simp only [List.length_cons, List.length_nil] at hg
      omega
    rw [gA_l hg2, h6 _ (by omega), h6 _ (by omega), h6 _ (by omega), h6 _ (by omega)]
    have := h.2 g hg2
    rw [Nat.mul_zero, Nat.zero_add] at this
    exact this
/-- the present state of the reference changes: its cells alone -/
theorem InvM.now {σ' : Mem} {S : SB} (h : InvM sh σ a) (hS : HMo σ' 0 8 127 129 S) (hf : ∀ i, 12 ≤ i → i < 22 → σ'.1 124 i = σ.1 124 i) (hg : ∀ i, 120 ≤ i → i < 240 → σ'.1 125 i = σ.1 125 i) (hm : σ'.1 126 1 = σ.1 126 1) (ha : ∀ b, 130 ≤ b → b ≤ 133 → σ'.1 b = σ.1 b) (ht : σ'.1 157 = σ.1 157) : InvM sh σ' (S, a.2) := by
  obtain ⟨h1, h2, h3, h4, h5, h6⟩ := h
  refine ⟨hS, by rw [hf 16 (by omega) (by omega)]; exact h2, fun S' hS' => ?_, ⟨by rw [hf 21 (by omega) (by omega)]; exact h4.1, fun j hj => by rw [ha 133 (by omega) (by omega)]; exact h4.2 j hj⟩, h5, h6.k ht⟩
  obtain ⟨k1, k2, k3, k4, k5, k6, k7, k8⟩ := h3 S' hS'
  have c30 : S'.2.1.length ≤ 30 := k8.2.2.1
  refine ⟨k1.k hm (fun i hi hj => hg i (by omega) (by omega)), by rw [hf _ (by omega) (by omega)]; exact k2, by rw [hf _ (by omega) (by omega)]; exact k3, by rw [hf _ (by omega) (by omega)]; exact k4, by rw [hf _ (by omega) (by omega)]; exact k5, fun j hj => ?_, fun y hy => ?_, k8⟩
  · rw [ha 130 (by omega) (by omega), ha 131 (by omega) (by omega)]; exact k6 j hj
  · rw [ha 132 (by omega) (by omega)]; exact k7 y hy
theorem M187 (hM : MS sh) (h : InvM sh σ a) (hz : i32 z) : End (run sh (d + 2) 187 [mR 124, mI z] σ) (fun r σ' => r = some (mI (aLines a z).1) ∧ InvM sh σ' (aLines a z).2) := by
  have mo := hM.1
  have m160 := hM.2.1
  obtain ⟨ra1, rk1, rl1⟩ := ms1 hM
  obtain ⟨⟨n, c, m, E, P, x⟩, K, B, s, T⟩ := a
  obtain ⟨⟨hG, hN, hMp, hEl, hx0, hE, hP, hoS⟩, hik, hKp, hTp, h140, hTm⟩ := id h
  replace hG : HGm σ 0 c := hG
  replace hN : σ.1 124 8 = (n : Int) := hN
  replace hMp : σ.1 124 9 = (m : Int) := hMp
  replace hEl : σ.1 124 10 = (E.length : Int) := hEl
  replace hx0 : σ.1 124 11 = (x : Int) := hx0
  replace hE : HEm σ 127 128 E := hE
  replace hP : ∀ y, y < n → σ.1 129 y = (P y : Int) := hP
  replace hoS : okZ n c m E P x := hoS
  replace hTp : HPm σ B s := hTp
  replace h140 : s ≤ 140 := h140
  replace hTm : HT sh σ 157 T := hTm
  replace hik : σ.1 124 16 = bi K.isSome := hik
  obtain ⟨n1, n4', c30, hv, m2, m5, E10, hvE, hPk, x16⟩ := id hoS
  have e := E164 (sh := sh) (d := d + 1) (σ := σ) (z := z) (w := 1) (v := 4) hz ⟨by omega, by omega⟩ ⟨by omega, by omega⟩
  unfold aLines
  by_cases h1 : z < 1 ∨ 4 < z
  · rw [if_pos h1]
    rw [if_neg (by omega)] at e
    simp (disch := first | assumption | omega | (simp (disch := omega) only [wN, w0, w1]; omega)) only [e187_0, e187_1, e187_2, e187_3, e187_6, e187_9, e187_10, e187_11, e187_12, e187_13, e187_16, e187_17, e187_20, e187_21, e187_22, e187_23, e187_24, e187_27, e187_28, kl_I, kl_R, kl_N, kl_L, oSm, oNn, Option.bind_some, wN, if_pos, if_neg, nS, tN, t0, w0, w1, w2, w3, w4, w5, wm1, upA_ne, upA_same, if_true, if_false, Bool.false_eq_true, q187, e]
    exact End.of rfl ⟨rfl, h⟩
  · rw [if_neg h1]
    rw [if_pos (by omega)] at e
    obtain ⟨k, rfl⟩ : ∃ k : Nat, z = (k : Int) := ⟨z.toNat, by omega⟩
    obtain ⟨r, σ1, a1, rfl, a3, a4⟩ := E169 (d := d + 1) (σ := (upA (upA σ.1 124 (up1 (σ.1 124) 8 (k : Int))) 126 (up1 (σ.1 126) 0 0), σ.2)) hM
    simp (disch := first | assumption | omega | (simp (disch := omega) only [wN, w0, w1]; omega)) only [e187_0, e187_1, e187_2, e187_3, e187_6, e187_9, e187_10, e187_11, e187_12, e187_13, e187_16, e187_17, e187_20, e187_21, e187_22, e187_23, e187_24, e187_27, e187_28, kl_I, kl_R, kl_N, kl_L, oSm, oNn, Option.bind_some, wN, if_pos, if_neg, nS, tN, t0, w0, w1, w2, w3, w4, w5, wm1, upA_ne, upA_same, if_true, if_false, Bool.false_eq_true, q187, e, ra1, rl1, a1]
    have b1 : ∀ i, σ1.1 124 i = up1 (σ.1 124) 8 (k : Int) i := fun i => by
      rw [a4.2 i (by omega)]
      simp (disch := omega) only [upA_ne, upA_same]
    have b2 : σ1.1 126 = up1 (σ.1 126) 0 0 := by
      rw [(a4.1 126 (by omega) (by omega)).1]
      simp (disch := omega) only [upA_same]
    have b3 : ∀ b, b ≠ 124 → b ≠ 126 → b ≠ 129 → σ1.1 b = σ.1 b := fun b p1 p2 p3 => by
      rw [(a4.1 b (by omega) p1).1]
      simp (disch := omega) only [upA_ne]
    refine End.of rfl ⟨rfl, h.now ⟨⟨?_, fun j hj => absurd hj (Nat.not_lt_zero _)⟩, ?_, ?_, ?_, ?_, fun j hj => ?_, fun y hy => ?_, ?_⟩ (fun i p1 p2 => ?_) (fun i p1 p2 => ?_) ?_ (fun b p1 p2 => ?_) ?_⟩
    · rw [b2, up1_same]; rfl
    · rw [b1, up1_same]
    · rw [b1, up1_ne (by omega)]; exact hMp
    · rw [b1, up1_ne (by omega)]; exact hEl
    · rw [b1, up1_ne (by omega)]; exact hx0
    · rw [b3 127 (by omega) (by omega) (by omega), b3 128 (by omega) (by omega) (by omega)]; exact hE j hj
    · exact a3 y (Nat.lt_of_lt_of_le hy (show k ≤ 4 by omega))
    · exact ⟨by show 1 ≤ k; omega, by show k ≤ 4; omega, Nat.zero_le _, fun q hq => by simp at hq, m2, m5, E10, hvE, fun hh => okP_id hh, x16⟩
    · rw [b1, up1_ne (by omega)]
    · rw [b3 125 (by omega) (by omega) (by omega)]
    · rw [b2, up1_ne (by omega)]
    · rw [b3 b (by omega) (by omega) (by omega)]
    · rw [b3 157 (by omega) (by omega) (by omega)]
/-- gate, once it is known to be one -/
theorem InvM.gate {σ' : Mem} {q : Gt} {x' : Nat} {S : SB} (h : InvM sh σ a) (hS : S = (a.1.1, a.1.2.1 ++ [q], a.1.2.2.1, a.1.2.2.2.1, a.1.2.2.2.2.1, x')) (hq : vG a.1.1 q) (h30 : a.1.2.1.length < 30) (hx : x' < 65536) (h1 : σ'.1 126 0 = ((a.1.2.1.length + 1 : Nat) : Int)) (h2 : σ'.1 125 (4 * a.1.2.1.length) = (q.1 : Int)) (h3 : σ'.1 125 (4 * a.1.2.1.length + 1) = (q.2.1 : Int)) (h4 : σ'.1 125 (4 * a.1.2.1.length + 2) = rb q) (h5 : σ'.1 125 (4 * a.1.2.1.length + 3) = rk q) (h6 : ∀ i, (i < 4 * a.1.2.1.length ∨ 4 * a.1.2.1.length + 3 < i) → σ'.1 125 i = σ.1 125 i) (h7 : ∀ i, i ≠ 11 → σ'.1 124 i = σ.1 124 i) (h8 : σ'.1 124 11 = (x' : Int)) (h9 : σ'.1 126 1 = σ.1 126 1) (hb : ∀ b, 127 ≤ b → b ≤ 157 → σ'.1 b = σ.1 b) : InvM sh σ' (S, a.2) := by
  obtain ⟨⟨n, c, m, E, P, x⟩, K, B, s, T⟩ := a
  subst hS
  obtain ⟨k1, k2, k3, k4, k5, k6, k7, k8⟩ := id h.1
  obtain ⟨n1, n4', c30, hv, m2, m5, E10, hvE, hPk, x16⟩ := (show okZ n c m E P x from k8)
  refine h.now ⟨k1.app h1 h2 h3 h4 h5 (fun i hi => h6 i (Or.inl hi)), by rw [h7 8 (by omega)]; exact k2, by rw [h7 9 (by omega)]; exact k3, by rw [h7 10 (by omega)]; exact k4, h8, fun j hj => ?_, fun y hy => ?_, ⟨n1, n4', ?_, hv.app hq, m2, m5, E10, hvE, hPk, hx⟩⟩ (fun i p1 p2 => h7 i (by omega)) (fun i p1 p2 => h6 i (Or.inr ?_)) h9 (fun b p1 p2 => hb b (by omega) (by omega)) (hb 157 (by omega) (by omega))
  · rw [hb 127 (by omega) (by omega), hb 128 (by omega) (by omega)]; exact k6 j hj
  · rw [hb 129 (by omega) (by omega)]; exact k7 y hy
  · show (c ++ [q]).length ≤ 30
    rw [List.length_append]
    exact h30
  · have : c.length < 30 := h30
    show 4 * c.length + 3 < i
    omega
theorem rb_v {q : Gt} {n : Nat} (h : vG n q) : (rb q = if q.1 < 3 then -1 else q.2.2) ∧ rk q = if q.1 = 0 then q.2.2 else 0 := ⟨rfl, rfl⟩
theorem M191 (hM : MS sh) (h : InvM sh σ a) (hz : i32 z) (hw : i32 w) (hv' : i32 v) : End (run sh (d + 3) 191 [mR 124, mI z, mI w, mI v] σ) (fun r σ' => r = some (mI (aGate a z w v).1) ∧ InvM sh σ' (aGate a z w v).2) := by
  have h0 := h
  have mo := hM.1
  have m160 := hM.2.1
  obtain ⟨ra1, rk1, rl1⟩ := ms1 hM
  obtain ⟨⟨n, c, m, E, P, x⟩, K, B, s, T⟩ := a
  obtain ⟨⟨hG, hN, hMp, hEl, hx0, hE, hP, hoS⟩, hik, hKp, hTp, h140, hTm⟩ := id h
  replace hG : HGm σ 0 c := hG
  replace hN : σ.1 124 8 = (n : Int) := hN
  replace hMp : σ.1 124 9 = (m : Int) := hMp
  replace hEl : σ.1 124 10 = (E.length : Int) := hEl
  replace hx0 : σ.1 124 11 = (x : Int) := hx0
  replace hE : HEm σ 127 128 E := hE
  replace hP : ∀ y, y < n → σ.1 129 y = (P y : Int) := hP
  replace hoS : okZ n c m E P x := hoS
  replace hTp : HPm σ B s := hTp
  replace h140 : s ≤ 140 := h140
  replace hTm : HT sh σ 157 T := hTm
  replace hik : σ.1 124 16 = bi K.isSome := hik
  obtain ⟨n1, n4', c30, hv, m2, m5, E10, hvE, hPk, x16⟩ := id hoS
  have wz := hz.w
  have ww := hw.w
  have wv := hv'.w
  have e1 := E164 (sh := sh) (d := d + 2) (σ := σ) (z := z) (w := 0) (v := 5) hz ⟨by omega, by omega⟩ ⟨by omega, by omega⟩
  have e2 := E164 (sh := sh) (d := d + 2) (σ := σ) (z := v) (w := 0) (v := 7) hv' ⟨by omega, by omega⟩ ⟨by omega, by omega⟩
  have l1 := M188 (d := d + 1) (z := w) hM hN n1 n4' hw
  have l2 := M188 (d := d + 1) (z := v) hM hN n1 n4' hv'
  have hl := hG.1
  have w7 : wi 7 = 7 := rfl
  have w30 : wi 30 = 30 := rfl
  -- up to the boolean
  have pre : igB n z w v = false ∧ run sh (d + 3) 191 [mR 124, mI z, mI w, mI v] σ = some (some (mI (-1)), σ) ∨ igB n z w v = true ∧ run sh (d + 3) 191 [mR 124, mI z, mI w, mI v] σ = ev sh (d + 3) 191 78 [some (mR (124)), some (mI (z)), some (mI (w)), some (mI (v)), some (mI (1))] [] σ := by
    by_cases g1 : 0 ≤ z ∧ z ≤ 5
    · rw [if_pos g1] at e1
      by_cases g2 : 0 ≤ w ∧ w < n
      · rw [if_pos g2] at l1
        by_cases g3 : z = 0
        · have ig : igB n z w v = decide (0 ≤ v ∧ v < 8) := by unfold igB; rw [decide_eq_true (by omega), Bool.true_and, if_pos g3]
          by_cases g4 : 0 ≤ v ∧ v ≤ 7
          · rw [if_pos g4] at e2
            right
            refine ⟨by rw [ig, decide_eq_true (by omega)], ?_⟩
            simp (disch := first | assumption | omega | (simp (disch := omega) only [wN, w0, w1]; omega)) only [e191_0, e191_1, e191_2, e191_3, e191_6, e191_9, e191_10, e191_11, e191_14, e191_17, e191_18, e191_19, e191_20, e191_23, e191_24, e191_25, e191_27, e191_30, e191_33, e191_34, e191_35, e191_38, e191_39, e191_40, e191_43, e191_44, e191_47, e191_48, e191_51, e191_52, e191_53, e191_56, e191_59, e191_60, e191_61, e191_64, e191_65, e191_68, e191_69, e191_71, e191_73, e191_76, e191_77, e191_79, e191_82, e191_83, e191_84, e191_86, e191_89, e191_91, e191_92, e191_93, e191_94, e191_95, e191_98, e191_99, e191_100, e191_101, e191_102, e191_103, e191_104, e191_107, e191_108, e191_111, e191_112, e191_113, e191_116, e191_117, e191_120, e191_121, e191_124, e191_125, e191_128, e191_129, e191_130, e191_133, e191_134, e191_135, e191_136, e191_137, e191_138, e191_139, e191_142, e191_143, e191_144, e191_145, e191_146, kl_I, kl_R, kl_N, kl_L, oSm, oNn, Option.bind_some, wN, if_pos, if_neg, nS, tN, t0, w0, w1, w2, w3, w4, w5, wm1, upA_ne, upA_same, if_true, if_false, Bool.false_eq_true, q191, e1, l1, wz, e2]
          · rw [if_neg g4] at e2
            left
            refine ⟨by rw [ig, decide_eq_false (by omega)], ?_⟩
            simp (disch := first | assumption | omega | (simp (disch := omega) only [wN, w0, w1]; omega)) only [e191_0, e191_1, e191_2, e191_3, e191_6, e191_9, e191_10, e191_11, e191_14, e191_17, e191_18, e191_19, e191_20, e191_23, e191_24, e191_25, e191_27, e191_30, e191_33, e191_34, e191_35, e191_38, e191_39, e191_40, e191_43, e191_44, e191_47, e191_48, e191_51, e191_52, e191_53, e191_56, e191_59, e191_60, e191_61, e191_64, e191_65, e191_68, e191_69, e191_71, e191_73, e191_76, e191_77, e191_79, e191_82, e191_83, e191_84, e191_86, e191_89, e191_91, e191_92, e191_93, e191_94, e191_95, e191_98, e191_99, e191_100, e191_101, e191_102, e191_103, e191_104, e191_107, e191_108, e191_111, e191_112, e191_113, e191_116, e191_117, e191_120, e191_121, e191_124, e191_125, e191_128, e191_129, e191_130, e191_133, e191_134, e191_135, e191_136, e191_137, e191_138, e191_139, e191_142, e191_143, e191_144, e191_145, e191_146, kl_I, kl_R, kl_N, kl_L, oSm, oNn, Option.bind_some, wN, if_pos, if_neg, nS, tN, t0, w0, w1, w2, w3, w4, w5, wm1, upA_ne, upA_same, if_true, if_false, Bool.false_eq_true, q191, e1, l1, wz, e2]
        · by_cases g4 : z < 3
          · have ig : igB n z w v = decide (v = -1) := by unfold igB; rw [decide_eq_true (by omega), Bool.true_and, if_neg g3, if_pos g4]
            by_cases g5 : v = -1
            · right
              refine ⟨by rw [ig, decide_eq_true g5], ?_⟩
              simp (disch := first | assumption | omega | (simp (disch := omega) only [wN, w0, w1]; omega)) only [e191_0, e191_1, e191_2, e191_3, e191_6, e191_9, e191_10, e191_11, e191_14, e191_17, e191_18, e191_19, e191_20, e191_23, e191_24, e191_25, e191_27, e191_30, e191_33, e191_34, e191_35, e191_38, e191_39, e191_40, e191_43, e191_44, e191_47, e191_48, e191_51, e191_52, e191_53, e191_56, e191_59, e191_60, e191_61, e191_64, e191_65, e191_68, e191_69, e191_71, e191_73, e191_76, e191_77, e191_79, e191_82, e191_83, e191_84, e191_86, e191_89, e191_91, e191_92, e191_93, e191_94, e191_95, e191_98, e191_99, e191_100, e191_101, e191_102, e191_103, e191_104, e191_107, e191_108, e191_111, e191_112, e191_113, e191_116, e191_117, e191_120, e191_121, e191_124, e191_125, e191_128, e191_129, e191_130, e191_133, e191_134, e191_135, e191_136, e191_137, e191_138, e191_139, e191_142, e191_143, e191_144, e191_145, e191_146, kl_I, kl_R, kl_N, kl_L, oSm, oNn, Option.bind_some, wN, if_pos, if_neg, nS, tN, t0, w0, w1, w2, w3, w4, w5, wm1, upA_ne, upA_same, if_true, if_false, Bool.false_eq_true, q191, e1, l1, wz, wv]
            · left
              refine ⟨by rw [ig, decide_eq_false g5], ?_⟩
              simp (disch := first | assumption | omega | (simp (disch := omega) only [wN, w0, w1]; omega)) only [e191_0, e191_1, e191_2, e191_3, e191_6, e191_9, e191_10, e191_11, e191_14, e191_17, e191_18, e191_19, e191_20, e191_23, e191_24, e191_25, e191_27, e191_30, e191_33, e191_34, e191_35, e191_38, e191_39, e191_40, e191_43, e191_44, e191_47, e191_48, e191_51, e191_52, e191_53, e191_56, e191_59, e191_60, e191_61, e191_64, e191_65, e191_68, e191_69, e191_71, e191_73, e191_76, e191_77, e191_79, e191_82, e191_83, e191_84, e191_86, e191_89, e191_91, e191_92, e191_93, e191_94, e191_95, e191_98, e191_99, e191_100, e191_101, e191_102, e191_103, e191_104, e191_107, e191_108, e191_111, e191_112, e191_113, e191_116, e191_117, e191_120, e191_121, e191_124, e191_125, e191_128, e191_129, e191_130, e191_133, e191_134, e191_135, e191_136, e191_137, e191_138, e191_139, e191_142, e191_143, e191_144, e191_145, e191_146, kl_I, kl_R, kl_N, kl_L, oSm, oNn, Option.bind_some, wN, if_pos, if_neg, nS, tN, t0, w0, w1, w2, w3, w4, w5, wm1, upA_ne, upA_same, if_true, if_false, Bool.false_eq_true, q191, e1, l1, wz, wv]
          · have ig : igB n z w v = decide (0 ≤ v ∧ v < n ∧ w ≠ v) := by unfold igB; rw [decide_eq_true (by omega), Bool.true_and, if_neg g3, if_neg g4]
            by_cases g5 : 0 ≤ v ∧ v < n
            · rw [if_pos g5] at l2
              by_cases g6 : w = v
              · left
                refine ⟨by rw [ig, decide_eq_false (by omega)], ?_⟩
                simp (disch := first | assumption | omega | (simp (disch := omega) only [wN, w0, w1]; omega)) only [e191_0, e191_1, e191_2, e191_3, e191_6, e191_9, e191_10, e191_11, e191_14, e191_17, e191_18, e191_19, e191_20, e191_23, e191_24, e191_25, e191_27, e191_30, e191_33, e191_34, e191_35, e191_38, e191_39, e191_40, e191_43, e191_44, e191_47, e191_48, e191_51, e191_52, e191_53, e191_56, e191_59, e191_60, e191_61, e191_64, e191_65, e191_68, e191_69, e191_71, e191_73, e191_76, e191_77, e191_79, e191_82, e191_83, e191_84, e191_86, e191_89, e191_91, e191_92, e191_93, e191_94, e191_95, e191_98, e191_99, e191_100, e191_101, e191_102, e191_103, e191_104, e191_107, e191_108, e191_111, e191_112, e191_113, e191_116, e191_117, e191_120, e191_121, e191_124, e191_125, e191_128, e191_129, e191_130, e191_133, e191_134, e191_135, e191_136, e191_137, e191_138, e191_139, e191_142, e191_143, e191_144, e191_145, e191_146, kl_I, kl_R, kl_N, kl_L, oSm, oNn, Option.bind_some, wN, if_pos, if_neg, nS, tN, t0, w0, w1, w2, w3, w4, w5, wm1, upA_ne, upA_same, if_true, if_false, Bool.false_eq_true, q191, e1, l1, wz, ww, wv, l2]
              · right
                refine ⟨by rw [ig, decide_eq_true (by omega)], ?_⟩
                simp (disch := first | assumption | omega | (simp (disch := omega) only [wN, w0, w1]; omega)) only [e191_0, e191_1, e191_2, e191_3, e191_6, e191_9, e191_10, e191_11, e191_14, e191_17, e191_18, e191_19, e191_20, e191_23, e191_24, e191_25, e191_27, e191_30, e191_33, e191_34, e191_35, e191_38, e191_39, e191_40, e191_43, e191_44, e191_47, e191_48, e191_51, e191_52, e191_53, e191_56, e191_59, e191_60, e191_61, e191_64, e191_65, e191_68, e191_69, e191_71, e191_73, e191_76, e191_77, e191_79, e191_82, e191_83, e191_84, e191_86, e191_89, e191_91, e191_92, e191_93, e191_94, e191_95, e191_98, e191_99, e191_100, e191_101, e191_102, e191_103, e191_104, e191_107, e191_108, e191_111, e191_112, e191_113, e191_116, e191_117, e191_120, e191_121, e191_124, e191_125, e191_128, e191_129, e191_130, e191_133, e191_134, e191_135, e191_136, e191_137, e191_138, e191_139, e191_142, e191_143, e191_144, e191_145, e191_146, kl_I, kl_R, kl_N, kl_L, oSm, oNn, Option.bind_some, wN, if_pos, if_neg, nS, tN, t0, w0, w1, w2, w3, w4, w5, wm1, upA_ne, upA_same, if_true, if_false, Bool.false_eq_true, q191, e1, l1, wz, ww, wv, l2]
            · rw [if_neg g5] at l2
              left
              refine ⟨by rw [ig, decide_eq_false (by omega)], ?_⟩
              simp (disch := first | assumption | omega | (simp (disch := omega) only [wN, w0, w1]; omega)) only [e191_0, e191_1, e191_2, e191_3, e191_6, e191_9, e191_10, e191_11, e191_14, e191_17, e191_18, e191_19, e191_20, e191_23, e191_24, e191_25, e191_27, e191_30, e191_33, e191_34, e191_35, e191_38, e191_39, e191_40, e191_43, e191_44, e191_47, e191_48, e191_51, e191_52, e191_53, e191_56, e191_59, e191_60, e191_61, e191_64, e191_65, e191_68, e191_69, e191_71, e191_73, e191_76, e191_77, e191_79, e191_82, e191_83, e191_84, e191_86, e191_89, e191_91, e191_92, e191_93, e191_94, e191_95, e191_98, e191_99, e191_100, e191_101, e191_102, e191_103, e191_104, e191_107, e191_108, e191_111, e191_112, e191_113, e191_116, e191_117, e191_120, e191_121, e191_124, e191_125, e191_128, e191_129, e191_130, e191_133, e191_134, e191_135, e191_136, e191_137, e191_138, e191_139, e191_142, e191_143, e191_144, e191_145, e191_146, kl_I, kl_R, kl_N, kl_L, oSm, oNn, Option.bind_some, wN, if_pos, if_neg, nS, tN, t0, w0, w1, w2, w3, w4, w5, wm1, upA_ne, upA_same, if_true, if_false, Bool.false_eq_true, q191, e1, l1, wz, l2]
      · rw [if_neg g2] at l1
        left
        refine ⟨by unfold igB; rw [decide_eq_false (show ¬ (0 ≤ z ∧ z < 6 ∧ 0 ≤ w ∧ w < (n : Int)) by omega), Bool.false_and], ?_⟩
        simp (disch := first | assumption | omega | (simp (disch := omega) only [wN, w0, w1]; omega)) only [e191_0, e191_1, e191_2, e191_3, e191_6, e191_9, e191_10, e191_11, e191_14, e191_17, e191_18, e191_19, e191_20, e191_23, e191_24, e191_25, e191_27, e191_30, e191_33, e191_34, e191_35, e191_38, e191_39, e191_40, e191_43, e191_44, e191_47, e191_48, e191_51, e191_52, e191_53, e191_56, e191_59, e191_60, e191_61, e191_64, e191_65, e191_68, e191_69, e191_71, e191_73, e191_76, e191_77, e191_79, e191_82, e191_83, e191_84, e191_86, e191_89, e191_91, e191_92, e191_93, e191_94, e191_95, e191_98, e191_99, e191_100, e191_101, e191_102, e191_103, e191_104, e191_107, e191_108, e191_111, e191_112, e191_113, e191_116, e191_117, e191_120, e191_121, e191_124, e191_125, e191_128, e191_129, e191_130, e191_133, e191_134, e191_135, e191_136, e191_137, e191_138, e191_139, e191_142, e191_143, e191_144, e191_145, e191_146, kl_I, kl_R, kl_N, kl_L, oSm, oNn, Option.bind_some, wN, if_pos, if_neg, nS, tN, t0, w0, w1, w2, w3, w4, w5, wm1, upA_ne, upA_same, if_true, if_false, Bool.false_eq_true, q191, e1, l1]
    · rw [if_neg g1] at e1
      left
      refine ⟨by unfold igB; rw [decide_eq_false (show ¬ (0 ≤ z ∧ z < 6 ∧ 0 ≤ w ∧ w < (n : Int)) by omega), Bool.false_and], ?_⟩
      simp (disch := first | assumption | omega | (simp (disch := omega) only [wN, w0, w1]; omega)) only [e191_0, e191_1, e191_2, e191_3, e191_6, e191_9, e191_10, e191_11, e191_14, e191_17, e191_18, e191_19, e191_20, e191_23, e191_24, e191_25, e191_27, e191_30, e191_33, e191_34, e191_35, e191_38, e191_39, e191_40, e191_43, e191_44, e191_47, e191_48, e191_51, e191_52, e191_53, e191_56, e191_59, e191_60, e191_61, e191_64, e191_65, e191_68, e191_69, e191_71, e191_73, e191_76, e191_77, e191_79, e191_82, e191_83, e191_84, e191_86, e191_89, e191_91, e191_92, e191_93, e191_94, e191_95, e191_98, e191_99, e191_100, e191_101, e191_102, e191_103, e191_104, e191_107, e191_108, e191_111, e191_112, e191_113, e191_116, e191_117, e191_120, e191_121, e191_124, e191_125, e191_128, e191_129, e191_130, e191_133, e191_134, e191_135, e191_136, e191_137, e191_138, e191_139, e191_142, e191_143, e191_144, e191_145, e191_146, kl_I, kl_R, kl_N, kl_L, oSm, oNn, Option.bind_some, wN, if_pos, if_neg, nS, tN, t0, w0, w1, w2, w3, w4, w5, wm1, upA_ne, upA_same, if_true, if_false, Bool.false_eq_true, q191, e1]
  unfold aGate
  rcases pre with ⟨g1, g2⟩ | ⟨g1, g2⟩
  · rw [if_pos g1]
    exact End.of g2 ⟨rfl, h⟩
  · rw [if_neg (by rw [g1]; simp), g2]
    obtain ⟨q1', q2', q3'⟩ := igB_v g1
    have k5 := q1'.1
    simp only at k5
    by_cases h3 : 30 ≤ c.length
    · rw [if_pos h3]
      simp (disch := first | assumption | omega | (simp (disch := omega) only [wN, w0, w1]; omega)) only [e191_0, e191_1, e191_2, e191_3, e191_6, e191_9, e191_10, e191_11, e191_14, e191_17, e191_18, e191_19, e191_20, e191_23, e191_24, e191_25, e191_27, e191_30, e191_33, e191_34, e191_35, e191_38, e191_39, e191_40, e191_43, e191_44, e191_47, e191_48, e191_51, e191_52, e191_53, e191_56, e191_59, e191_60, e191_61, e191_64, e191_65, e191_68, e191_69, e191_71, e191_73, e191_76, e191_77, e191_78, e191_79, e191_82, e191_83, e191_84, e191_86, e191_89, e191_91, e191_92, e191_93, e191_94, e191_95, e191_98, e191_99, e191_100, e191_101, e191_102, e191_103, e191_104, e191_107, e191_108, e191_111, e191_112, e191_113, e191_116, e191_117, e191_120, e191_121, e191_124, e191_125, e191_128, e191_129, e191_130, e191_133, e191_134, e191_135, e191_136, e191_137, e191_138, e191_139, e191_142, e191_143, e191_144, e191_145, e191_146, kl_I, kl_R, kl_N, kl_L, oSm, oNn, Option.bind_some, wN, if_pos, if_neg, nS, tN, t0, w0, w1, w2, w3, w4, w5, wm1, upA_ne, upA_same, if_true, if_false, Bool.false_eq_true, ra1, rl1, hl, w30]
      exact End.of rfl ⟨rfl, h⟩
    · rw [if_neg h3]
      clear e1 e2 l1 l2 g2
      obtain ⟨σ1, a1, a2, a3, a4, a5, a6, a7⟩ := E171 (sh := sh) (d := d + 2) (σ := σ) (t := 0) (g := c.length) (k := z) (p := w) (q := if z < 3 then -1 else v) (r := if z = 0 then v else 0) hM (by omega) (by omega) (z := 0) rfl
      have hl1 : σ1.1 126 0 = (c.length : Int) := by rw [(a7.1 126 (by omega) (by omega)).1]; exact hl
      have fin : InvM sh (upA σ1.1 126 (up1 (σ1.1 126) 0 ((c.length + 1 : Nat) : Int)), σ1.2) ((n, c ++ [(z.toNat, w.toNat, v)], m, E, P, x), K, B, s, T) := by
        have hzn : ((z.toNat : Nat) : Int) = z := by omega
        have hwn : ((w.toNat : Nat) : Int) = w := by omega
        refine h0.gate (q := (z.toNat, w.toNat, v)) (x' := x) rfl q1' (by show c.length < 30; omega) x16 ?_ ?_ ?_ ?_ ?_ (fun i hi => ?_) (fun i hi => ?_) ?_ ?_ (fun b p1 p2 => ?_)
        · simp (disch := omega) only [upA_same, up1_same]
        all_goals simp (disch := omega) only [upA_same, upA_ne, up1_ne]
        · rw [Nat.mul_zero, Nat.zero_add] at a2
          rw [hzn]; exact a2
        · rw [Nat.mul_zero, Nat.zero_add] at a3
          rw [hwn]; exact a3
        · rw [Nat.mul_zero, Nat.zero_add] at a4
          rw [rb, a4]
          by_cases g : z < 3
          · rw [if_pos g, if_pos (by simp only; omega)]
          · rw [if_neg g, if_neg (by simp only; omega)]
        · rw [Nat.mul_zero, Nat.zero_add] at a5
          rw [rk, a5]
          by_cases g : z = 0
          · rw [if_pos g, if_pos (by simp only; omega)]
          · rw [if_neg g, if_neg (by simp only; omega)]
        · rw [Nat.mul_zero, Nat.zero_add] at a6
          exact a6 i hi
        · exact a7.2 i (by omega)
        · rw [a7.2 11 (by omega)]; exact hx0
        · rw [(a7.1 126 (by omega) (by omega)).1]
        · exact (a7.1 b (by omega) (by omega)).1
      have e1 : ((c.length + 1 : Nat) : Int) - 1 = (c.length : Int) := by omega
      by_cases g : z = 0
      · rw [if_pos (by omega), if_pos g] at a1
        simp (disch := first | assumption | omega | (simp (disch := omega) only [wN, w0, w1]; omega)) only [e191_0, e191_1, e191_2, e191_3, e191_6, e191_9, e191_10, e191_11, e191_14, e191_17, e191_18, e191_19, e191_20, e191_23, e191_24, e191_25, e191_27, e191_30, e191_33, e191_34, e191_35, e191_38, e191_39, e191_40, e191_43, e191_44, e191_47, e191_48, e191_51, e191_52, e191_53, e191_56, e191_59, e191_60, e191_61, e191_64, e191_65, e191_68, e191_69, e191_71, e191_73, e191_76, e191_77, e191_78, e191_79, e191_82, e191_83, e191_84, e191_86, e191_89, e191_91, e191_92, e191_93, e191_94, e191_95, e191_98, e191_99, e191_100, e191_101, e191_102, e191_103, e191_104, e191_107, e191_108, e191_111, e191_112, e191_113, e191_116, e191_117, e191_120, e191_121, e191_124, e191_125, e191_128, e191_129, e191_130, e191_133, e191_134, e191_135, e191_136, e191_137, e191_138, e191_139, e191_142, e191_143, e191_144, e191_145, e191_146, kl_I, kl_R, kl_N, kl_L, oSm, oNn, Option.bind_some, wN, if_pos, if_neg, nS, tN, t0, w0, w1, w2, w3, w4, w5, wm1, upA_ne, upA_same, if_true, if_false, Bool.false_eq_true, ra1, rl1, hl, w30, wz, a1, hl1, up1_same, e1]
        exact End.of rfl ⟨rfl, fin⟩
      · by_cases g2 : z < 3
        · rw [if_pos g2, if_neg g] at a1
          simp (disch := first | assumption | omega | (simp (disch := omega) only [wN, w0, w1]; omega)) only [e191_0, e191_1, e191_2, e191_3, e191_6, e191_9, e191_10, e191_11, e191_14, e191_17, e191_18, e191_19, e191_20, e191_23, e191_24, e191_25, e191_27, e191_30, e191_33, e191_34, e191_35, e191_38, e191_39, e191_40, e191_43, e191_44, e191_47, e191_48, e191_51, e191_52, e191_53, e191_56, e191_59, e191_60, e191_61, e191_64, e191_65, e191_68, e191_69, e191_71, e191_73, e191_76, e191_77, e191_78, e191_79, e191_82, e191_83, e191_84, e191_86, e191_89, e191_91, e191_92, e191_93, e191_94, e191_95, e191_98, e191_99, e191_100, e191_101, e191_102, e191_103, e191_104, e191_107, e191_108, e191_111, e191_112, e191_113, e191_116, e191_117, e191_120, e191_121, e191_124, e191_125, e191_128, e191_129, e191_130, e191_133, e191_134, e191_135, e191_136, e191_137, e191_138, e191_139, e191_142, e191_143, e191_144, e191_145, e191_146, kl_I, kl_R, kl_N, kl_L, oSm, oNn, Option.bind_some, wN, if_pos, if_neg, nS, tN, t0, w0, w1, w2, w3, w4, w5, wm1, upA_ne, upA_same, if_true, if_false, Bool.false_eq_true, ra1, rl1, hl, w30, wz, a1, hl1, up1_same, e1]
          exact End.of rfl ⟨rfl, fin⟩
        · rw [if_neg g2, if_neg g] at a1
          simp (disch := first | assumption | omega | (simp (disch := omega) only [wN, w0, w1]; omega)) only [e191_0, e191_1, e191_2, e191_3, e191_6, e191_9, e191_10, e191_11, e191_14, e191_17, e191_18, e191_19, e191_20, e191_23, e191_24, e191_25, e191_27, e191_30, e191_33, e191_34, e191_35, e191_38, e191_39, e191_40, e191_43, e191_44, e191_47, e191_48, e191_51, e191_52, e191_53, e191_56, e191_59, e191_60, e191_61, e191_64, e191_65, e191_68, e191_69, e191_71, e191_73, e191_76, e191_77, e191_78, e191_79, e191_82, e191_83, e191_84, e191_86, e191_89, e191_91, e191_92, e191_93, e191_94, e191_95, e191_98, e191_99, e191_100, e191_101, e191_102, e191_103, e191_104, e191_107, e191_108, e191_111, e191_112, e191_113, e191_116, e191_117, e191_120, e191_121, e191_124, e191_125, e191_128, e191_129, e191_130, e191_133, e191_134, e191_135, e191_136, e191_137, e191_138, e191_139, e191_142, e191_143, e191_144, e191_145, e191_146, kl_I, kl_R, kl_N, kl_L, oSm, oNn, Option.bind_some, wN, if_pos, if_neg, nS, tN, t0, w0, w1, w2, w3, w4, w5, wm1, upA_ne, upA_same, if_true, if_false, Bool.false_eq_true, ra1, rl1, hl, w30, wz, a1, hl1, up1_same, e1]
          exact End.of rfl ⟨rfl, fin⟩
end MC

