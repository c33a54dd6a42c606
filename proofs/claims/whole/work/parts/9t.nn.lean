/-! ===== the reference: good ===== -/
def gG (n : Nat) (c : List Gt) (E : List Ed) (L : List Nat) (i : Nat) : Bool := gdB (farE E) (pOf n (L.getD i 0)) c (c.length - 0) 0
def neG (n : Nat) (c : List Gt) (E : List Ed) (L : List Nat) : Nat → Int × Int
  | 0 => (1000000000, -2)
  | i + 1 => if ovS (farE E) (pOf n (L.getD i 0)) c c.length < (neG n c E L i).1 then (ovS (farE E) (pOf n (L.getD i 0)) c c.length, (L.getD i 0 : Int)) else neG n c E L i
theorem neG_rw {n m : Nat} {c : List Gt} {E : List Ed} : ∀ i, neS n m c E i = neG n c E (rwL n m) i
  | 0 => rfl
  | i + 1 => by rw [neS, neG, neG_rw i]
theorem gD_l {L : List Nat} {k i : Nat} (h : i < L.length) : (L ++ [k]).getD i 0 = L.getD i 0 := by simp [List.getD, List.getElem?_append_left h]
theorem gD_n {L : List Nat} {k : Nat} : (L ++ [k]).getD L.length 0 = k := by simp [List.getD]
theorem fst1_1 {p : Nat → Bool} : ∀ k i, fst1 p (k + 1) i = (match fst1 p k i with
    | some x => some x
    | none => if p (i + k) = true then some (i + k) else none)
  | 0, i => by simp [fst1]
  | k + 1, i => by
    rw [fst1, fst1_1 k (i + 1)]
    by_cases h : p i = true
    · rw [if_pos h]
      simp [fst1, h]
    · rw [if_neg h]
      have e : fst1 p (k + 1) i = fst1 p k (i + 1) := by rw [fst1, if_neg h]
      rw [e, show i + 1 + k = i + (k + 1) by omega]
section NN0
variable {n k : Nat} {c : List Gt} {E : List Ed} {L : List Nat}
theorem gG_l {i : Nat} (h : i < L.length) : gG n c E (L ++ [k]) i = gG n c E L i := by unfold gG; rw [gD_l h]
theorem gG_n : gG n c E (L ++ [k]) L.length = gdB (farE E) (pOf n k) c (c.length - 0) 0 := by unfold gG; rw [gD_n]
theorem gc_s : cnt (gG n c E (L ++ [k])) (L ++ [k]).length = cnt (gG n c E L) L.length + if gdB (farE E) (pOf n k) c (c.length - 0) 0 = true then 1 else 0 := by
  rw [List.length_append]
  show cnt (gG n c E (L ++ [k])) (L.length + 1) = _
  rw [cnt, gG_n, cnt_congr L.length (fun i hi => gG_l hi)]
theorem neG_l : ∀ i, i ≤ L.length → neG n c E (L ++ [k]) i = neG n c E L i
  | 0, _ => rfl
  | i + 1, h => by rw [neG, neG, neG_l i (by omega), gD_l (by omega)]
theorem ne_s : neG n c E (L ++ [k]) (L ++ [k]).length = if ovS (farE E) (pOf n k) c c.length < (neG n c E L L.length).1 then (ovS (farE E) (pOf n k) c c.length, (k : Int)) else neG n c E L L.length := by
  rw [List.length_append]
  show neG n c E (L ++ [k]) (L.length + 1) = _
  rw [neG, gD_n, neG_l _ (Nat.le_refl _)]
/-- the first that holds, as a number; none: -2 -/
def fiL (n : Nat) (c : List Gt) (E : List Ed) (L : List Nat) : Int := opL L (fst1 (gG n c E L) (L.length - 0) 0)
theorem fi_r : fiL n c E L = -2 ∨ 0 ≤ fiL n c E L := by
  unfold fiL
  cases fst1 (gG n c E L) (L.length - 0) 0 with
  | none => left; rfl
  | some x => right; exact Int.natCast_nonneg _
theorem fi_s : fiL n c E (L ++ [k]) = if fiL n c E L < 0 then (if gdB (farE E) (pOf n k) c (c.length - 0) 0 = true then (k : Int) else fiL n c E L) else fiL n c E L := by
  have e1 : fst1 (gG n c E (L ++ [k])) ((L ++ [k]).length - 0) 0 = (match fst1 (gG n c E L) (L.length - 0) 0 with
    | some x => some x
    | none => if gdB (farE E) (pOf n k) c (c.length - 0) 0 = true then some L.length else none) := by
    rw [List.length_append, Nat.sub_zero, Nat.sub_zero]
    show fst1 (gG n c E (L ++ [k])) (L.length + 1) 0 = _
    rw [fst1_1, fst1_cg (q := gG n c E L) L.length 0 (fun x _ h => gG_l (by omega)), Nat.zero_add, gG_n]
  unfold fiL
  rw [e1]
  cases h : fst1 (gG n c E L) (L.length - 0) 0 with
  | none =>
    simp only
    by_cases g : gdB (farE E) (pOf n k) c (c.length - 0) 0 = true
    · rw [if_pos g, if_pos g]
      show ((((L ++ [k]).getD L.length 0 : Nat)) : Int) = _
      rw [gD_n]
      rfl
    · rw [if_neg g, if_neg g]
      rfl
  | some x =>
    have hx := fst1_in h
    simp only
    show ((((L ++ [k]).getD x 0 : Nat)) : Int) = if ((L.getD x 0 : Nat) : Int) < 0 then _ else ((L.getD x 0 : Nat) : Int)
    rw [gD_l (by omega), if_neg (by omega)]
theorem neG_r (L : List Nat) (hL : ∀ i, i < L.length → L.getD i 0 < 100000) : ∀ i, i ≤ L.length → -30 ≤ (neG n c E L i).1 ∨ True := fun _ _ => Or.inr trivial
theorem neG_b (c30 : c.length ≤ 30) : ∀ i, -30 ≤ (neG n c E L i).1 ∧ (neG n c E L i).1 ≤ 1000000000
  | 0 => by simp [neG]
  | i + 1 => by
    have b := ovS_r (P := pOf n (L.getD i 0)) (c := c) (E := E) rfl c.length
    have h := neG_b c30 i
    rw [neG]
    split
    · simp only; omega
    · exact h
theorem vT_len (m : Nat) : ∀ k, (vT n m k).length ≤ k
  | 0 => Nat.le_refl _
  | k + 1 => by
    have := vT_len m k
    rw [vT]
    split
    · rw [List.length_append]; simp only [List.length_cons, List.length_nil]; omega
    · omega
theorem vT_lt (m : Nat) : ∀ k, ∀ x, x ∈ vT n m k → x < k
  | 0, x, h => by cases h
  | k + 1, x, h => by
    rw [vT] at h
    split at h
    · rw [List.mem_append, List.mem_singleton] at h
      rcases h with h | h
      · have := vT_lt m k x h; omega
      · omega
    · have := vT_lt m k x h; omega
end NN0
section NN
variable {sh : Shp} {d m n D : Nat} {σ : Mem} {E : List Ed} {a : AX} {z w : Int} {c : List Gt} {P : Nat → Nat}
theorem HFm.W {σ' : Mem} {F : Nat → Nat → Nat} {x y u v : Nat} (h : HFm σ m F) (hf : frW x y u v σ σ') (ho : 145 < x ∨ y < 145) : HFm σ' m F := fun p hp q hq => by
  rw [(hf.1 145 (by omega) (by omega)).1]; exact h p hp q hq
theorem HGm.Wf {σ' : Mem} {t x y u v : Nat} (h : HGm σ t c) (hf : frW x y u v σ σ') (ho : 126 < x ∨ y < 125 ∨ y < x) : HGm σ' t c := h.k (by rw [(hf.1 126 (by omega) (by omega)).1]) (fun _ _ _ => by rw [(hf.1 125 (by omega) (by omega)).1])
theorem fi_lt {k : Nat} (hk : k ≤ 10000) : fiL n c E (vT n m k) < 10000 := by
  unfold fiL
  cases h : fst1 (gG n c E (vT n m k)) ((vT n m k).length - 0) 0 with
  | none => show (-2 : Int) < 10000; omega
  | some x =>
    have hx := fst1_in h
    show (((vT n m k).getD x 0 : Nat) : Int) < 10000
    have hx2 : x < (vT n m k).length := by omega
    have e : (vT n m k).getD x 0 = (vT n m k)[x] := by simp [List.getD, hx2]
    have := vT_lt m k _ (List.getElem_mem hx2)
    rw [e]; omega
theorem M243 (hM : MS sh) (h : InvM sh σ a) (hw' : i32 w) : End (run sh (d + 3) 243 [mR 124, mI w] σ) (fun r σ' => r = some (mI (aGood a w)) ∧ InvM sh σ' a) := by
  have hI := h
  have mo := hM.1
  have m160 := hM.2.1
  obtain ⟨ra40, rk40, rl40⟩ := ms40 hM
  obtain ⟨⟨n, c, m, E, P, x⟩, K, B, s, T⟩ := a
  obtain ⟨⟨hG, hN, hMp, hEl, hx0, hE, hP, hoS⟩, hik, hKp, hTp, h140, hTm⟩ := id h
  replace hG : HGm σ 0 c := hG
  replace hN : σ.1 124 8 = (n : Int) := hN
  replace hMp : σ.1 124 9 = (m : Int) := hMp
  replace hEl : σ.1 124 10 = (E.length : Int) := hEl
  replace hx0 : σ.1 124 11 = (x : Int) := hx0
  replace hE : HEm σ 127 128 E := hE
  replace hP : ∀ y, y < n → σ.1 129 y = (P y : Int) := hP
  replace hoS : okZ n c m E P x := hoS
  replace hTp : HPm σ B s := hTp
  replace h140 : s ≤ 140 := h140
  replace hTm : HT sh σ 157 T := hTm
  replace hik : σ.1 124 16 = bi K.isSome := hik
  obtain ⟨n1, n4', c30, hv, m2, m5, E10, hvE, hPk, x16⟩ := id hoS
  have ww := hw'.w
  have ei := E164 (sh := sh) (d := d + 2) (σ := σ) (z := w) (w := 0) (v := 3) hw' ⟨by omega, by omega⟩ ⟨by omega, by omega⟩
  unfold aGood
  simp only
  by_cases h1 : w < 0 ∨ 3 < w
  · rw [if_pos h1]
    rw [if_neg (by omega)] at ei
    simp (disch := first | assumption | omega | (simp (disch := omega) only [wN, w0, w1]; omega)) only [e243_0, e243_1, e243_2, e243_3, e243_6, e243_9, e243_10, e243_11, e243_12, e243_15, e243_16, e243_19, e243_22, e243_24, e243_25, e243_26, e243_29, e243_30, e243_31, e243_32, e243_34, e243_35, e243_38, e243_41, e243_42, e243_44, e243_45, e243_46, e243_49, e243_52, e243_53, e243_54, e243_56, e243_58, e243_61, e243_63, e243_65, e243_67, e243_68, e243_72, e243_73, e243_76, e243_77, e243_79, e243_82, e243_85, e243_88, e243_89, e243_90, e243_93, e243_96, e243_99, e243_100, e243_101, e243_102, e243_103, e243_105, e243_108, e243_110, e243_113, e243_115, e243_117, e243_118, e243_119, e243_122, e243_125, e243_127, e243_129, e243_131, e243_134, e243_136, e243_138, e243_140, e243_142, e243_145, e243_147, e243_150, e243_153, e243_154, e243_157, e243_158, e243_161, e243_162, e243_163, e243_166, e243_168, e243_171, e243_172, e243_173, e243_176, e243_178, e243_181, e243_183, kl_I, kl_R, kl_N, kl_L, oSm, oNn, Option.bind_some, wN, if_pos, if_neg, nS, tN, t0, w0, w1, w2, w3, w4, w5, wm1, upA_ne, upA_same, if_true, if_false, Bool.false_eq_true, q243, ei]
    exact End.of rfl ⟨rfl, hI⟩
  · rw [if_neg h1]
    rw [if_pos (by omega)] at ei
    by_cases hmn : m < n
    · rw [if_pos hmn]
      simp (disch := first | assumption | omega | (simp (disch := omega) only [wN, w0, w1]; omega)) only [e243_0, e243_1, e243_2, e243_3, e243_6, e243_9, e243_10, e243_11, e243_12, e243_15, e243_16, e243_19, e243_22, e243_24, e243_25, e243_26, e243_29, e243_30, e243_31, e243_32, e243_34, e243_35, e243_38, e243_41, e243_42, e243_44, e243_45, e243_46, e243_49, e243_52, e243_53, e243_54, e243_56, e243_58, e243_61, e243_63, e243_65, e243_67, e243_68, e243_72, e243_73, e243_76, e243_77, e243_79, e243_82, e243_85, e243_88, e243_89, e243_90, e243_93, e243_96, e243_99, e243_100, e243_101, e243_102, e243_103, e243_105, e243_108, e243_110, e243_113, e243_115, e243_117, e243_118, e243_119, e243_122, e243_125, e243_127, e243_129, e243_131, e243_134, e243_136, e243_138, e243_140, e243_142, e243_145, e243_147, e243_150, e243_153, e243_154, e243_157, e243_158, e243_161, e243_162, e243_163, e243_166, e243_168, e243_171, e243_172, e243_173, e243_176, e243_178, e243_181, e243_183, kl_I, kl_R, kl_N, kl_L, oSm, oNn, Option.bind_some, wN, if_pos, if_neg, nS, tN, t0, w0, w1, w2, w3, w4, w5, wm1, upA_ne, upA_same, if_true, if_false, Bool.false_eq_true, q243, ei, hN, hMp]
      exact End.of rfl ⟨rfl, hI⟩
    · rw [if_neg hmn]
      obtain ⟨r, σ1, a1, rfl, a2, a3⟩ := M232 (d := d + 1) hM hMp hEl hE hvE m5 E10
      have hN1 : σ1.1 124 8 = (n : Int) := by rw [a3.2 8 (by omega)]; exact hN
      have pw : ∀ i, i ≤ 4 → 10 ^ i ≤ 10000 := fun i hi => by
        have : 10 ^ i ≤ 10 ^ 4 := Nat.pow_le_pow_right (by omega) hi
        omega
      have M := for_up (fun i => ev sh (d + 3) 243 33 [some (mR (124)), some (mI (w)), some (mI ((10 ^ i : Nat) : Int)), some (mI ((i : Nat) : Int)), none, none, none, none, none] [] (σ1)) (n) (fun i hi => by
        show ev sh (d + 3) 243 33 [some (mR (124)), some (mI (w)), some (mI ((10 ^ i : Nat) : Int)), some (mI ((i : Nat) : Int)), none, none, none, none, none] [] (σ1) = ev sh (d + 3) 243 33 [some (mR (124)), some (mI (w)), some (mI ((10 ^ (i + 1) : Nat) : Int)), some (mI (((i + 1) : Nat) : Int)), none, none, none, none, none] [] (σ1)
        have p := pw i (by omega)
        have e : ((10 ^ i : Nat) : Int) * 10 = ((10 ^ (i + 1) : Nat) : Int) := by rw [Nat.pow_succ, Int.natCast_mul]; rfl
        rw [e243_33]
        simp (disch := first | assumption | omega | (simp (disch := omega) only [wN, w0, w1]; omega)) only [e243_0, e243_1, e243_2, e243_3, e243_6, e243_9, e243_10, e243_11, e243_12, e243_15, e243_16, e243_19, e243_22, e243_24, e243_25, e243_26, e243_29, e243_30, e243_31, e243_32, e243_34, e243_35, e243_38, e243_41, e243_42, e243_44, e243_45, e243_46, e243_49, e243_52, e243_53, e243_54, e243_56, e243_58, e243_61, e243_63, e243_65, e243_67, e243_68, e243_72, e243_73, e243_76, e243_77, e243_79, e243_82, e243_85, e243_88, e243_89, e243_90, e243_93, e243_96, e243_99, e243_100, e243_101, e243_102, e243_103, e243_105, e243_108, e243_110, e243_113, e243_115, e243_117, e243_118, e243_119, e243_122, e243_125, e243_127, e243_129, e243_131, e243_134, e243_136, e243_138, e243_140, e243_142, e243_145, e243_147, e243_150, e243_153, e243_154, e243_157, e243_158, e243_161, e243_162, e243_163, e243_166, e243_168, e243_171, e243_172, e243_173, e243_176, e243_178, e243_181, e243_183, kl_I, kl_R, kl_N, kl_L, oSm, oNn, Option.bind_some, wN, if_pos, if_neg, nS, tN, t0, w0, w1, w2, w3, w4, w5, wm1, upA_ne, upA_same, if_true, if_false, Bool.false_eq_true, hN1, e]) 0 (Nat.zero_le _)
      have pn := pw n (by omega)
      have hla : laI sh 146 := ⟨rk40, rl40⟩
      have vt := vT_rw (n := n) (m := m) n1 n4' m5
      have gl : ∀ L, gG n c E L = gG n c E L := fun _ => rfl
      have L := for_P (10 ^ n) (fun k => ∀ (σ2 : Mem) (v8 : Option MV), (frW 145 146 1 0 σ σ2 ∧ HFm σ2 m (farE E)) → End (ev sh (d + 3) 243 70 [some (mR (124)), some (mI (w)), some (mI ((10 ^ n : Nat) : Int)), some (mI ((cnt (gG n c E (vT n m k)) (vT n m k).length : Nat) : Int)), some (mI (fiL n c E (vT n m k))), some (mI ((neG n c E (vT n m k) (vT n m k).length).1)), some (mI ((neG n c E (vT n m k) (vT n m k).length).2)), some (mI ((k : Nat) : Int)), v8] [] σ2) (fun r σ' => r = some (mI (if w = 0 then (cnt (gdR n m c E) (rwL n m).length : Int) else if w = 1 then opL (rwL n m) (fst1 (gdR n m c E) ((rwL n m).length - 0) 0) else if w = 2 then (neS n m c E (rwL n m).length).1 else (neS n m c E (rwL n m).length).2)) ∧ InvM sh σ' ((n, c, m, E, P, x), K, B, s, T))) (by
        intro σ2 v8 hp
        replace hp : frW 145 146 1 0 σ σ2 ∧ HFm σ2 m (farE E) := hp
        show End (ev sh (d + 3) 243 70 [some (mR (124)), some (mI (w)), some (mI ((10 ^ n : Nat) : Int)), some (mI ((cnt (gG n c E (vT n m (10 ^ n))) (vT n m (10 ^ n)).length : Nat) : Int)), some (mI (fiL n c E (vT n m (10 ^ n)))), some (mI ((neG n c E (vT n m (10 ^ n)) (vT n m (10 ^ n)).length).1)), some (mI ((neG n c E (vT n m (10 ^ n)) (vT n m (10 ^ n)).length).2)), some (mI (((10 ^ n) : Nat) : Int)), v8] [] σ2) (fun r σ' => r = some (mI (if w = 0 then (cnt (gdR n m c E) (rwL n m).length : Int) else if w = 1 then opL (rwL n m) (fst1 (gdR n m c E) ((rwL n m).length - 0) 0) else if w = 2 then (neS n m c E (rwL n m).length).1 else (neS n m c E (rwL n m).length).2)) ∧ InvM sh σ' ((n, c, m, E, P, x), K, B, s, T))
        rw [vt, neG_rw, e243_70]
        have e1 : gdR n m c E = gG n c E (rwL n m) := rfl
        rw [e1]
        have hIe := hI.W hp.1 (by omega) (by omega) (by omega)
        by_cases g0 : w = 0
        · subst g0
          simp (disch := first | assumption | omega | (simp (disch := omega) only [wN, w0, w1]; omega)) only [e243_0, e243_1, e243_2, e243_3, e243_6, e243_9, e243_10, e243_11, e243_12, e243_15, e243_16, e243_19, e243_22, e243_24, e243_25, e243_26, e243_29, e243_30, e243_31, e243_32, e243_34, e243_35, e243_38, e243_41, e243_42, e243_44, e243_45, e243_46, e243_49, e243_52, e243_53, e243_54, e243_56, e243_58, e243_61, e243_63, e243_65, e243_67, e243_68, e243_72, e243_73, e243_76, e243_77, e243_79, e243_82, e243_85, e243_88, e243_89, e243_90, e243_93, e243_96, e243_99, e243_100, e243_101, e243_102, e243_103, e243_105, e243_108, e243_110, e243_113, e243_115, e243_117, e243_118, e243_119, e243_122, e243_125, e243_127, e243_129, e243_131, e243_134, e243_136, e243_138, e243_140, e243_142, e243_145, e243_147, e243_150, e243_153, e243_154, e243_157, e243_158, e243_161, e243_162, e243_163, e243_166, e243_168, e243_171, e243_172, e243_173, e243_176, e243_178, e243_181, e243_183, kl_I, kl_R, kl_N, kl_L, oSm, oNn, Option.bind_some, wN, if_pos, if_neg, nS, tN, t0, w0, w1, w2, w3, w4, w5, wm1, upA_ne, upA_same, if_true, if_false, Bool.false_eq_true]
          exact End.of rfl ⟨rfl, hIe⟩
        · rw [if_neg g0]
          by_cases g1 : w = 1
          · subst g1
            simp (disch := first | assumption | omega | (simp (disch := omega) only [wN, w0, w1]; omega)) only [e243_0, e243_1, e243_2, e243_3, e243_6, e243_9, e243_10, e243_11, e243_12, e243_15, e243_16, e243_19, e243_22, e243_24, e243_25, e243_26, e243_29, e243_30, e243_31, e243_32, e243_34, e243_35, e243_38, e243_41, e243_42, e243_44, e243_45, e243_46, e243_49, e243_52, e243_53, e243_54, e243_56, e243_58, e243_61, e243_63, e243_65, e243_67, e243_68, e243_72, e243_73, e243_76, e243_77, e243_79, e243_82, e243_85, e243_88, e243_89, e243_90, e243_93, e243_96, e243_99, e243_100, e243_101, e243_102, e243_103, e243_105, e243_108, e243_110, e243_113, e243_115, e243_117, e243_118, e243_119, e243_122, e243_125, e243_127, e243_129, e243_131, e243_134, e243_136, e243_138, e243_140, e243_142, e243_145, e243_147, e243_150, e243_153, e243_154, e243_157, e243_158, e243_161, e243_162, e243_163, e243_166, e243_168, e243_171, e243_172, e243_173, e243_176, e243_178, e243_181, e243_183, kl_I, kl_R, kl_N, kl_L, oSm, oNn, Option.bind_some, wN, if_pos, if_neg, nS, tN, t0, w0, w1, w2, w3, w4, w5, wm1, upA_ne, upA_same, if_true, if_false, Bool.false_eq_true]
            exact End.of rfl ⟨rfl, hIe⟩
          · rw [if_neg g1]
            by_cases g2 : w = 2
            · subst g2
              simp (disch := first | assumption | omega | (simp (disch := omega) only [wN, w0, w1]; omega)) only [e243_0, e243_1, e243_2, e243_3, e243_6, e243_9, e243_10, e243_11, e243_12, e243_15, e243_16, e243_19, e243_22, e243_24, e243_25, e243_26, e243_29, e243_30, e243_31, e243_32, e243_34, e243_35, e243_38, e243_41, e243_42, e243_44, e243_45, e243_46, e243_49, e243_52, e243_53, e243_54, e243_56, e243_58, e243_61, e243_63, e243_65, e243_67, e243_68, e243_72, e243_73, e243_76, e243_77, e243_79, e243_82, e243_85, e243_88, e243_89, e243_90, e243_93, e243_96, e243_99, e243_100, e243_101, e243_102, e243_103, e243_105, e243_108, e243_110, e243_113, e243_115, e243_117, e243_118, e243_119, e243_122, e243_125, e243_127, e243_129, e243_131, e243_134, e243_136, e243_138, e243_140, e243_142, e243_145, e243_147, e243_150, e243_153, e243_154, e243_157, e243_158, e243_161, e243_162, e243_163, e243_166, e243_168, e243_171, e243_172, e243_173, e243_176, e243_178, e243_181, e243_183, kl_I, kl_R, kl_N, kl_L, oSm, oNn, Option.bind_some, wN, if_pos, if_neg, nS, tN, t0, w0, w1, w2, w3, w4, w5, wm1, upA_ne, upA_same, if_true, if_false, Bool.false_eq_true]
              exact End.of rfl ⟨rfl, hIe⟩
            · rw [if_neg g2]
              simp (disch := first | assumption | omega | (simp (disch := omega) only [wN, w0, w1]; omega)) only [e243_0, e243_1, e243_2, e243_3, e243_6, e243_9, e243_10, e243_11, e243_12, e243_15, e243_16, e243_19, e243_22, e243_24, e243_25, e243_26, e243_29, e243_30, e243_31, e243_32, e243_34, e243_35, e243_38, e243_41, e243_42, e243_44, e243_45, e243_46, e243_49, e243_52, e243_53, e243_54, e243_56, e243_58, e243_61, e243_63, e243_65, e243_67, e243_68, e243_72, e243_73, e243_76, e243_77, e243_79, e243_82, e243_85, e243_88, e243_89, e243_90, e243_93, e243_96, e243_99, e243_100, e243_101, e243_102, e243_103, e243_105, e243_108, e243_110, e243_113, e243_115, e243_117, e243_118, e243_119, e243_122, e243_125, e243_127, e243_129, e243_131, e243_134, e243_136, e243_138, e243_140, e243_142, e243_145, e243_147, e243_150, e243_153, e243_154, e243_157, e243_158, e243_161, e243_162, e243_163, e243_166, e243_168, e243_171, e243_172, e243_173, e243_176, e243_178, e243_181, e243_183, kl_I, kl_R, kl_N, kl_L, oSm, oNn, Option.bind_some, wN, if_pos, if_neg, nS, tN, t0, w0, w1, w2, w3, w4, w5, wm1, upA_ne, upA_same, if_true, if_false, Bool.false_eq_true, ww]
              exact End.of rfl ⟨rfl, hIe⟩) (fun k hi ih => by
        replace ih : ∀ (σ2 : Mem) (v8 : Option MV), (frW 145 146 1 0 σ σ2 ∧ HFm σ2 m (farE E)) → End (ev sh (d + 3) 243 70 [some (mR (124)), some (mI (w)), some (mI ((10 ^ n : Nat) : Int)), some (mI ((cnt (gG n c E (vT n m (k + 1))) (vT n m (k + 1)).length : Nat) : Int)), some (mI (fiL n c E (vT n m (k + 1)))), some (mI ((neG n c E (vT n m (k + 1)) (vT n m (k + 1)).length).1)), some (mI ((neG n c E (vT n m (k + 1)) (vT n m (k + 1)).length).2)), some (mI (((k + 1) : Nat) : Int)), v8] [] σ2) (fun r σ' => r = some (mI (if w = 0 then (cnt (gdR n m c E) (rwL n m).length : Int) else if w = 1 then opL (rwL n m) (fst1 (gdR n m c E) ((rwL n m).length - 0) 0) else if w = 2 then (neS n m c E (rwL n m).length).1 else (neS n m c E (rwL n m).length).2)) ∧ InvM sh σ' ((n, c, m, E, P, x), K, B, s, T)) := ih
        intro σ2 v8 hp
        replace hp : frW 145 146 1 0 σ σ2 ∧ HFm σ2 m (farE E) := hp
        show End (ev sh (d + 3) 243 70 [some (mR (124)), some (mI (w)), some (mI ((10 ^ n : Nat) : Int)), some (mI ((cnt (gG n c E (vT n m k)) (vT n m k).length : Nat) : Int)), some (mI (fiL n c E (vT n m k))), some (mI ((neG n c E (vT n m k) (vT n m k).length).1)), some (mI ((neG n c E (vT n m k) (vT n m k).length).2)), some (mI ((k : Nat) : Int)), v8] [] σ2) (fun r σ' => r = some (mI (if w = 0 then (cnt (gdR n m c E) (rwL n m).length : Int) else if w = 1 then opL (rwL n m) (fst1 (gdR n m c E) ((rwL n m).length - 0) 0) else if w = 2 then (neS n m c E (rwL n m).length).1 else (neS n m c E (rwL n m).length).2)) ∧ InvM sh σ' ((n, c, m, E, P, x), K, B, s, T))
        have hN2 : σ2.1 124 8 = (n : Int) := by rw [hp.1.2 8 (by omega)]; exact hN
        have hMp2 : σ2.1 124 9 = (m : Int) := by rw [hp.1.2 9 (by omega)]; exact hMp
        obtain ⟨r, σ3, b1, rfl, b2, b3⟩ := M242 (d := d + 1) (D := k) hM hN2 hMp2 n4' m5 (by omega)
        have f3 : frW 145 146 1 0 σ σ3 := hp.1.tr (b3.w (by omega) (by omega) (by omega) (by omega))
        have hF3 := hp.2.W b3 (by omega)
        have hG3 := hG.Wf f3 (by omega)
        have vl := vT_len (n := n) m k
        have bc := cnt_le (gG n c E (vT n m k)) (vT n m k).length
        have bn := neG_b (n := n) (E := E) (L := vT n m k) c30 (vT n m k).length
        have bf := fi_r (n := n) (c := c) (E := E) (L := vT n m k)
        have bf2 := fi_lt (n := n) (m := m) (c := c) (E := E) (k := k) (by omega)
        by_cases rv : rwV n m k = true
        · have es : vT n m (k + 1) = vT n m k ++ [k] := by rw [vT, if_pos rv]
          rw [es, gc_s, fi_s, ne_s] at ih
          rw [rv] at b1
          replace b1 : run sh (d + 2) 242 [mR 124, mI (k : Int)] σ2 = some (some (mI 1), σ3) := b1
          have hP3 := rwV_iff.mp rv
          have g8 := M238 (d := d) hM hG3 c30 hv hF3 m5 hla (b2 rv) hP3 n4'
          have g9 := M239 (d := d) hM hG3 c30 hv hF3 m5 hla (b2 rv) hP3 n4'
          have bo := ovS_r (P := pOf n k) (c := c) (E := E) rfl c.length
          generalize hCn : cnt (gG n c E (vT n m k)) (vT n m k).length = cn at *
          generalize hFi : fiL n c E (vT n m k) = fi at *
          generalize hNe : neG n c E (vT n m k) (vT n m k).length = ne at *
          generalize hOv : ovS (farE E) (pOf n k) c c.length = ov at *
          obtain ⟨ls, nr⟩ := ne
          simp only at *
          have e5 := E165 (sh := sh) (d := d + 2) (σ := σ3) (z := ls) (w := ov) ⟨by omega, by omega⟩ ⟨by omega, by omega⟩
          have wf := wi_id (z := fi) (by omega) (by omega)
          have wo := wi_id (z := ov) (by omega) (by omega)
          have wl := wi_id (z := ls) (by omega) (by omega)
          have em : (if ov < ls then (ov, (k : Int)) else (ls, nr)) = (min ls ov, if ov < ls then (k : Int) else nr) := by
            by_cases q : ov < ls
            · rw [if_pos q, if_pos q, Int.min_eq_right (by omega)]
            · rw [if_neg q, if_neg q, Int.min_eq_left (by omega)]
          rw [em] at ih
          simp only at ih
          generalize min ls ov = mi at *
          rw [e243_70]
          by_cases q : gdB (farE E) (pOf n k) c (c.length - 0) 0 = true
          · rw [if_pos q] at g8
            rw [if_pos q, if_pos q] at ih
            by_cases q2 : fi < 0
            · rw [if_pos q2] at ih
              by_cases q3 : ov < ls
              · rw [if_pos q3] at ih
                simp (disch := first | assumption | omega | (simp (disch := omega) only [wN, w0, w1]; omega)) only [e243_0, e243_1, e243_2, e243_3, e243_6, e243_9, e243_10, e243_11, e243_12, e243_15, e243_16, e243_19, e243_22, e243_24, e243_25, e243_26, e243_29, e243_30, e243_31, e243_32, e243_34, e243_35, e243_38, e243_41, e243_42, e243_44, e243_45, e243_46, e243_49, e243_52, e243_53, e243_54, e243_56, e243_58, e243_61, e243_63, e243_65, e243_67, e243_68, e243_72, e243_73, e243_76, e243_77, e243_79, e243_82, e243_85, e243_88, e243_89, e243_90, e243_93, e243_96, e243_99, e243_100, e243_101, e243_102, e243_103, e243_105, e243_108, e243_110, e243_113, e243_115, e243_117, e243_118, e243_119, e243_122, e243_125, e243_127, e243_129, e243_131, e243_134, e243_136, e243_138, e243_140, e243_142, e243_145, e243_147, e243_150, e243_153, e243_154, e243_157, e243_158, e243_161, e243_162, e243_163, e243_166, e243_168, e243_171, e243_172, e243_173, e243_176, e243_178, e243_181, e243_183, kl_I, kl_R, kl_N, kl_L, oSm, oNn, Option.bind_some, wN, if_pos, if_neg, nS, tN, t0, w0, w1, w2, w3, w4, w5, wm1, upA_ne, upA_same, if_true, if_false, Bool.false_eq_true, b1, g8, g9, ra40, rl40, e5, wf, wo, wl]
                exact ih _ _ ⟨f3, hF3⟩
              · rw [if_neg q3] at ih
                simp (disch := first | assumption | omega | (simp (disch := omega) only [wN, w0, w1]; omega)) only [e243_0, e243_1, e243_2, e243_3, e243_6, e243_9, e243_10, e243_11, e243_12, e243_15, e243_16, e243_19, e243_22, e243_24, e243_25, e243_26, e243_29, e243_30, e243_31, e243_32, e243_34, e243_35, e243_38, e243_41, e243_42, e243_44, e243_45, e243_46, e243_49, e243_52, e243_53, e243_54, e243_56, e243_58, e243_61, e243_63, e243_65, e243_67, e243_68, e243_72, e243_73, e243_76, e243_77, e243_79, e243_82, e243_85, e243_88, e243_89, e243_90, e243_93, e243_96, e243_99, e243_100, e243_101, e243_102, e243_103, e243_105, e243_108, e243_110, e243_113, e243_115, e243_117, e243_118, e243_119, e243_122, e243_125, e243_127, e243_129, e243_131, e243_134, e243_136, e243_138, e243_140, e243_142, e243_145, e243_147, e243_150, e243_153, e243_154, e243_157, e243_158, e243_161, e243_162, e243_163, e243_166, e243_168, e243_171, e243_172, e243_173, e243_176, e243_178, e243_181, e243_183, kl_I, kl_R, kl_N, kl_L, oSm, oNn, Option.bind_some, wN, if_pos, if_neg, nS, tN, t0, w0, w1, w2, w3, w4, w5, wm1, upA_ne, upA_same, if_true, if_false, Bool.false_eq_true, b1, g8, g9, ra40, rl40, e5, wf, wo, wl]
                exact ih _ _ ⟨f3, hF3⟩
            · rw [if_neg q2] at ih
              by_cases q3 : ov < ls
              · rw [if_pos q3] at ih
                simp (disch := first | assumption | omega | (simp (disch := omega) only [wN, w0, w1]; omega)) only [e243_0, e243_1, e243_2, e243_3, e243_6, e243_9, e243_10, e243_11, e243_12, e243_15, e243_16, e243_19, e243_22, e243_24, e243_25, e243_26, e243_29, e243_30, e243_31, e243_32, e243_34, e243_35, e243_38, e243_41, e243_42, e243_44, e243_45, e243_46, e243_49, e243_52, e243_53, e243_54, e243_56, e243_58, e243_61, e243_63, e243_65, e243_67, e243_68, e243_72, e243_73, e243_76, e243_77, e243_79, e243_82, e243_85, e243_88, e243_89, e243_90, e243_93, e243_96, e243_99, e243_100, e243_101, e243_102, e243_103, e243_105, e243_108, e243_110, e243_113, e243_115, e243_117, e243_118, e243_119, e243_122, e243_125, e243_127, e243_129, e243_131, e243_134, e243_136, e243_138, e243_140, e243_142, e243_145, e243_147, e243_150, e243_153, e243_154, e243_157, e243_158, e243_161, e243_162, e243_163, e243_166, e243_168, e243_171, e243_172, e243_173, e243_176, e243_178, e243_181, e243_183, kl_I, kl_R, kl_N, kl_L, oSm, oNn, Option.bind_some, wN, if_pos, if_neg, nS, tN, t0, w0, w1, w2, w3, w4, w5, wm1, upA_ne, upA_same, if_true, if_false, Bool.false_eq_true, b1, g8, g9, ra40, rl40, e5, wf, wo, wl]
                exact ih _ _ ⟨f3, hF3⟩
              · rw [if_neg q3] at ih
                simp (disch := first | assumption | omega | (simp (disch := omega) only [wN, w0, w1]; omega)) only [e243_0, e243_1, e243_2, e243_3, e243_6, e243_9, e243_10, e243_11, e243_12, e243_15, e243_16, e243_19, e243_22, e243_24, e243_25, e243_26, e243_29, e243_30, e243_31, e243_32, e243_34, e243_35, e243_38, e243_41, e243_42, e243_44, e243_45, e243_46, e243_49, e243_52, e243_53, e243_54, e243_56, e243_58, e243_61, e243_63, e243_65, e243_67, e243_68, e243_72, e243_73, e243_76, e243_77, e243_79, e243_82, e243_85, e243_88, e243_89, e243_90, e243_93, e243_96, e243_99, e243_100, e243_101, e243_102, e243_103, e243_105, e243_108, e243_110, e243_113, e243_115, e243_117, e243_118, e243_119, e243_122, e243_125, e243_127, e243_129, e243_131, e243_134, e243_136, e243_138, e243_140, e243_142, e243_145, e243_147, e243_150, e243_153, e243_154, e243_157, e243_158, e243_161, e243_162, e243_163, e243_166, e243_168, e243_171, e243_172, e243_173, e243_176, e243_178, e243_181, e243_183, kl_I, kl_R, kl_N, kl_L, oSm, oNn, Option.bind_some, wN, if_pos, if_neg, nS, tN, t0, w0, w1, w2, w3, w4, w5, wm1, upA_ne, upA_same, if_true, if_false, Bool.false_eq_true, b1, g8, g9, ra40, rl40, e5, wf, wo, wl]
                exact ih _ _ ⟨f3, hF3⟩
          · rw [if_neg q] at g8
            rw [if_neg q, if_neg q, Nat.add_zero, show (if fi < 0 then fi else fi) = fi by split <;> rfl] at ih
            by_cases q3 : ov < ls
            · rw [if_pos q3] at ih
              simp (disch := first | assumption | omega | (simp (disch := omega) only [wN, w0, w1]; omega)) only [e243_0, e243_1, e243_2, e243_3, e243_6, e243_9, e243_10, e243_11, e243_12, e243_15, e243_16, e243_19, e243_22, e243_24, e243_25, e243_26, e243_29, e243_30, e243_31, e243_32, e243_34, e243_35, e243_38, e243_41, e243_42, e243_44, e243_45, e243_46, e243_49, e243_52, e243_53, e243_54, e243_56, e243_58, e243_61, e243_63, e243_65, e243_67, e243_68, e243_72, e243_73, e243_76, e243_77, e243_79, e243_82, e243_85, e243_88, e243_89, e243_90, e243_93, e243_96, e243_99, e243_100, e243_101, e243_102, e243_103, e243_105, e243_108, e243_110, e243_113, e243_115, e243_117, e243_118, e243_119, e243_122, e243_125, e243_127, e243_129, e243_131, e243_134, e243_136, e243_138, e243_140, e243_142, e243_145, e243_147, e243_150, e243_153, e243_154, e243_157, e243_158, e243_161, e243_162, e243_163, e243_166, e243_168, e243_171, e243_172, e243_173, e243_176, e243_178, e243_181, e243_183, kl_I, kl_R, kl_N, kl_L, oSm, oNn, Option.bind_some, wN, if_pos, if_neg, nS, tN, t0, w0, w1, w2, w3, w4, w5, wm1, upA_ne, upA_same, if_true, if_false, Bool.false_eq_true, b1, g8, g9, ra40, rl40, e5, wf, wo, wl]
              exact ih _ _ ⟨f3, hF3⟩
            · rw [if_neg q3] at ih
              simp (disch := first | assumption | omega | (simp (disch := omega) only [wN, w0, w1]; omega)) only [e243_0, e243_1, e243_2, e243_3, e243_6, e243_9, e243_10, e243_11, e243_12, e243_15, e243_16, e243_19, e243_22, e243_24, e243_25, e243_26, e243_29, e243_30, e243_31, e243_32, e243_34, e243_35, e243_38, e243_41, e243_42, e243_44, e243_45, e243_46, e243_49, e243_52, e243_53, e243_54, e243_56, e243_58, e243_61, e243_63, e243_65, e243_67, e243_68, e243_72, e243_73, e243_76, e243_77, e243_79, e243_82, e243_85, e243_88, e243_89, e243_90, e243_93, e243_96, e243_99, e243_100, e243_101, e243_102, e243_103, e243_105, e243_108, e243_110, e243_113, e243_115, e243_117, e243_118, e243_119, e243_122, e243_125, e243_127, e243_129, e243_131, e243_134, e243_136, e243_138, e243_140, e243_142, e243_145, e243_147, e243_150, e243_153, e243_154, e243_157, e243_158, e243_161, e243_162, e243_163, e243_166, e243_168, e243_171, e243_172, e243_173, e243_176, e243_178, e243_181, e243_183, kl_I, kl_R, kl_N, kl_L, oSm, oNn, Option.bind_some, wN, if_pos, if_neg, nS, tN, t0, w0, w1, w2, w3, w4, w5, wm1, upA_ne, upA_same, if_true, if_false, Bool.false_eq_true, b1, g8, g9, ra40, rl40, e5, wf, wo, wl]
              exact ih _ _ ⟨f3, hF3⟩
        · have rv' : rwV n m k = false := by simpa using rv
          have es : vT n m (k + 1) = vT n m k := by rw [vT, if_neg rv]
          rw [es] at ih
          rw [rv'] at b1
          replace b1 : run sh (d + 2) 242 [mR 124, mI (k : Int)] σ2 = some (some (mI 0), σ3) := b1
          rw [e243_70]
          simp (disch := first | assumption | omega | (simp (disch := omega) only [wN, w0, w1]; omega)) only [e243_0, e243_1, e243_2, e243_3, e243_6, e243_9, e243_10, e243_11, e243_12, e243_15, e243_16, e243_19, e243_22, e243_24, e243_25, e243_26, e243_29, e243_30, e243_31, e243_32, e243_34, e243_35, e243_38, e243_41, e243_42, e243_44, e243_45, e243_46, e243_49, e243_52, e243_53, e243_54, e243_56, e243_58, e243_61, e243_63, e243_65, e243_67, e243_68, e243_72, e243_73, e243_76, e243_77, e243_79, e243_82, e243_85, e243_88, e243_89, e243_90, e243_93, e243_96, e243_99, e243_100, e243_101, e243_102, e243_103, e243_105, e243_108, e243_110, e243_113, e243_115, e243_117, e243_118, e243_119, e243_122, e243_125, e243_127, e243_129, e243_131, e243_134, e243_136, e243_138, e243_140, e243_142, e243_145, e243_147, e243_150, e243_153, e243_154, e243_157, e243_158, e243_161, e243_162, e243_163, e243_166, e243_168, e243_171, e243_172, e243_173, e243_176, e243_178, e243_181, e243_183, kl_I, kl_R, kl_N, kl_L, oSm, oNn, Option.bind_some, wN, if_pos, if_neg, nS, tN, t0, w0, w1, w2, w3, w4, w5, wm1, upA_ne, upA_same, if_true, if_false, Bool.false_eq_true, b1]
          exact ih _ _ ⟨f3, hF3⟩) 0 (Nat.zero_le _)
      have L0 := L σ1 none ⟨a3.w (by omega) (by omega) (by omega) (by omega), a2⟩
      have wF : wi 1000000000 = 1000000000 := rfl
      simp (disch := first | assumption | omega | (simp (disch := omega) only [wN, w0, w1]; omega)) only [e243_0, e243_1, e243_2, e243_3, e243_6, e243_9, e243_10, e243_11, e243_12, e243_15, e243_16, e243_19, e243_22, e243_24, e243_25, e243_26, e243_29, e243_30, e243_31, e243_32, e243_34, e243_35, e243_38, e243_41, e243_42, e243_44, e243_45, e243_46, e243_49, e243_52, e243_53, e243_54, e243_56, e243_58, e243_61, e243_63, e243_65, e243_67, e243_68, e243_72, e243_73, e243_76, e243_77, e243_79, e243_82, e243_85, e243_88, e243_89, e243_90, e243_93, e243_96, e243_99, e243_100, e243_101, e243_102, e243_103, e243_105, e243_108, e243_110, e243_113, e243_115, e243_117, e243_118, e243_119, e243_122, e243_125, e243_127, e243_129, e243_131, e243_134, e243_136, e243_138, e243_140, e243_142, e243_145, e243_147, e243_150, e243_153, e243_154, e243_157, e243_158, e243_161, e243_162, e243_163, e243_166, e243_168, e243_171, e243_172, e243_173, e243_176, e243_178, e243_181, e243_183, kl_I, kl_R, kl_N, kl_L, oSm, oNn, Option.bind_some, wN, if_pos, if_neg, nS, tN, t0, w0, w1, w2, w3, w4, w5, wm1, upA_ne, upA_same, if_true, if_false, Bool.false_eq_true, q243, ei, hN, hMp, a1]
      refine End.cg M ?_
      rw [e243_33]
      simp (disch := first | assumption | omega | (simp (disch := omega) only [wN, w0, w1]; omega)) only [e243_0, e243_1, e243_2, e243_3, e243_6, e243_9, e243_10, e243_11, e243_12, e243_15, e243_16, e243_19, e243_22, e243_24, e243_25, e243_26, e243_29, e243_30, e243_31, e243_32, e243_34, e243_35, e243_38, e243_41, e243_42, e243_44, e243_45, e243_46, e243_49, e243_52, e243_53, e243_54, e243_56, e243_58, e243_61, e243_63, e243_65, e243_67, e243_68, e243_72, e243_73, e243_76, e243_77, e243_79, e243_82, e243_85, e243_88, e243_89, e243_90, e243_93, e243_96, e243_99, e243_100, e243_101, e243_102, e243_103, e243_105, e243_108, e243_110, e243_113, e243_115, e243_117, e243_118, e243_119, e243_122, e243_125, e243_127, e243_129, e243_131, e243_134, e243_136, e243_138, e243_140, e243_142, e243_145, e243_147, e243_150, e243_153, e243_154, e243_157, e243_158, e243_161, e243_162, e243_163, e243_166, e243_168, e243_171, e243_172, e243_173, e243_176, e243_178, e243_181, e243_183, kl_I, kl_R, kl_N, kl_L, oSm, oNn, Option.bind_some, wN, if_pos, if_neg, nS, tN, t0, w0, w1, w2, w3, w4, w5, wm1, upA_ne, upA_same, if_true, if_false, Bool.false_eq_true, hN1]
      exact L0
end NN

