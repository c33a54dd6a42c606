/-! ===== the reference: doCommute, all states ===== -/
section MQ
variable {sh : Shp} {d p s t g h n : Nat} {σ : Mem} {z w v : Int} {c : List Gt}
theorem bd4 {s : Nat} (q r : Gt) : bdW 1073741824 (clW r (clW q (e1W s))) := bd_mono (by decide) (bd_cl (B := 2) (by decide) (bd_cl (B := 1) (by decide) (e1_bd s) q) r)
theorem M210 (hM : MS sh) (hG : HGm σ t c) (ht : t < 3) (hc : c.length ≤ 30) (hv : okC n c) (hN : σ.1 124 8 = (n : Int)) (hn : n ≤ 4) (hg : g < c.length) (hh : h < c.length) (hz : z = (t : Int)) : End (run sh (d + 2) 210 [mR 124, mI z, mI (g : Int), mI (h : Int)] σ) (fun r σ' => ((r = some (mI 1) ∧ coP n (gA c g) (gA c h)) ∨ (r = some (mI 0) ∧ ¬ coP n (gA c g) (gA c h))) ∧ frW 137 138 1 0 σ σ') := by
  have mo := hM.1
  have m160 := hM.2.1
  obtain ⟨ra29, rk29, rl29⟩ := ms29 hM
  obtain ⟨ra30, rk30, rl30⟩ := ms30 hM
  have h16 : 2 ^ n ≤ 2 ^ 4 := Nat.pow_le_pow_right (by omega) hn
  have xn := xshl_1 (k := n) (by omega)
  have vq := hv.at hg
  have vr := hv.at hh
  have A := for_P (2 ^ n) (fun s => ∀ (σ1 : Mem) (v5 : Option MV), ((∀ x, x < s → clW (gA c h) (clW (gA c g) (e1W x)) = clW (gA c g) (clW (gA c h) (e1W x))) ∧ frW 137 138 1 0 σ σ1) → End (ev sh (d + 2) 210 3 [some (mR (124)), some (mI (z)), some (mI ((g : Nat) : Int)), some (mI ((h : Nat) : Int)), some (mI ((s : Nat) : Int)), v5] [] σ1) (fun r σ' => ((r = some (mI 1) ∧ coP n (gA c g) (gA c h)) ∨ (r = some (mI 0) ∧ ¬ coP n (gA c g) (gA c h))) ∧ frW 137 138 1 0 σ σ')) (by
    intro σ1 v5 hp
    replace hp : (∀ x, x < (2 ^ n) → clW (gA c h) (clW (gA c g) (e1W x)) = clW (gA c g) (clW (gA c h) (e1W x))) ∧ frW 137 138 1 0 σ σ1 := hp
    show End (ev sh (d + 2) 210 3 [some (mR (124)), some (mI (z)), some (mI ((g : Nat) : Int)), some (mI ((h : Nat) : Int)), some (mI (((2 ^ n) : Nat) : Int)), v5] [] σ1) (fun r σ' => ((r = some (mI 1) ∧ coP n (gA c g) (gA c h)) ∨ (r = some (mI 0) ∧ ¬ coP n (gA c g) (gA c h))) ∧ frW 137 138 1 0 σ σ')
    have hN1 : σ1.1 124 8 = (n : Int) := by rw [hp.2.2 8 (by omega)]; exact hN
    rw [e210_3]
    simp (disch := first | assumption | omega | (simp (disch := omega) only [wN, w0, w1]; omega)) only [e210_0, e210_1, e210_5, e210_6, e210_7, e210_10, e210_11, e210_14, e210_15, e210_18, e210_20, e210_23, e210_24, e210_27, e210_29, e210_32, e210_33, e210_34, e210_35, e210_36, e210_39, e210_42, e210_43, e210_44, e210_45, e210_46, e210_49, e210_52, e210_53, e210_54, e210_55, e210_56, e210_59, e210_62, e210_63, e210_64, e210_65, e210_66, e210_69, e210_72, e210_73, e210_77, e210_79, e210_82, e210_83, e210_86, e210_88, e210_89, e210_90, e210_93, e210_95, e210_96, e210_97, e210_100, e210_101, e210_102, e210_105, e210_111, e210_114, e210_115, kl_I, kl_R, kl_N, kl_L, oSm, oNn, Option.bind_some, wN, if_pos, if_neg, nS, tN, t0, w0, w1, w2, w3, w4, w5, wm1, upA_ne, upA_same, if_true, if_false, Bool.false_eq_true, hN1, xn]
    exact End.of rfl ⟨Or.inl ⟨rfl, hp.1⟩, hp.2⟩) (fun s hi ih => by
    replace ih : ∀ (σ1 : Mem) (v5 : Option MV), ((∀ x, x < (s + 1) → clW (gA c h) (clW (gA c g) (e1W x)) = clW (gA c g) (clW (gA c h) (e1W x))) ∧ frW 137 138 1 0 σ σ1) → End (ev sh (d + 2) 210 3 [some (mR (124)), some (mI (z)), some (mI ((g : Nat) : Int)), some (mI ((h : Nat) : Int)), some (mI (((s + 1) : Nat) : Int)), v5] [] σ1) (fun r σ' => ((r = some (mI 1) ∧ coP n (gA c g) (gA c h)) ∨ (r = some (mI 0) ∧ ¬ coP n (gA c g) (gA c h))) ∧ frW 137 138 1 0 σ σ') := ih
    intro σ1 v5 hp
    replace hp : (∀ x, x < s → clW (gA c h) (clW (gA c g) (e1W x)) = clW (gA c g) (clW (gA c h) (e1W x))) ∧ frW 137 138 1 0 σ σ1 := hp
    show End (ev sh (d + 2) 210 3 [some (mR (124)), some (mI (z)), some (mI ((g : Nat) : Int)), some (mI ((h : Nat) : Int)), some (mI ((s : Nat) : Int)), v5] [] σ1) (fun r σ' => ((r = some (mI 1) ∧ coP n (gA c g) (gA c h)) ∨ (r = some (mI 0) ∧ ¬ coP n (gA c g) (gA c h))) ∧ frW 137 138 1 0 σ σ')
    obtain ⟨e1, e2⟩ := hp
    have hN1 : σ1.1 124 8 = (n : Int) := by rw [e2.2 8 (by omega)]; exact hN
    have hG1 : HGm σ1 t c := hG.k (by rw [(e2.1 126 (by omega) (by omega)).1]) (fun _ _ _ => by rw [(e2.1 125 (by omega) (by omega)).1])
    have hE := e1_sp hi
    obtain ⟨r2, σ2, a1, rfl, a3, a4⟩ := M201 (sh := sh) (d := d + 1) (σ := σ1) (s := s) (laM hM) (by omega)
    obtain ⟨r3, σ3, b1, rfl, b3, b4⟩ := M201 (sh := sh) (d := d + 1) (σ := σ2) (s := s) (laM2 hM) (by omega)
    have hG3 := (hG1.fl a4).fl b4
    have hN3 : σ3.1 124 8 = (n : Int) := by rw [b4.1, a4.1]; exact hN1
    obtain ⟨r4, σ4, c1, rfl, c3, c4⟩ := M200 (d := d) hM (laM hM) (a3.frL b4 (by omega)) hG3 ht hc hv hg hN3 hn hz
    rw [doW_eq vq hE] at c3
    have hG4 := hG3.fl c4
    have hN4 : σ4.1 124 8 = (n : Int) := by rw [c4.1]; exact hN3
    obtain ⟨r5, σ5, d1, rfl, d3, d4⟩ := M200 (d := d) hM (laM hM) c3 hG4 ht hc hv hh hN4 hn hz
    rw [doW_eq vr (clW_sp vq hE)] at d3
    have hG5 := hG4.fl d4
    have hN5 : σ5.1 124 8 = (n : Int) := by rw [d4.1]; exact hN4
    obtain ⟨r6, σ6, f1, rfl, f3, f4⟩ := M200 (d := d) hM (laM2 hM) ((b3.frL c4 (by omega)).frL d4 (by omega)) hG5 ht hc hv hh hN5 hn hz
    rw [doW_eq vr hE] at f3
    have hG6 := hG5.fl f4
    have hN6 : σ6.1 124 8 = (n : Int) := by rw [f4.1]; exact hN5
    obtain ⟨r7, σ7, g1, rfl, g3, g4⟩ := M200 (d := d) hM (laM2 hM) f3 hG6 ht hc hv hg hN6 hn hz
    rw [doW_eq vq (clW_sp vr hE)] at g3
    have hV := (d3.frL f4 (by omega)).frL g4 (by omega)
    have hf : frW 137 138 1 0 σ1 σ7 := (((((a4.W (by omega)).tr (b4.W (by omega))).tr (c4.W (by omega))).tr (d4.W (by omega))).tr (f4.W (by omega))).tr (g4.W (by omega))
    have key := M210i (d := d) (z := z) (g := g) (h := h) (s := s) hM hV g3 (bd4 _ _) (bd4 _ _)
    have kiff := eqX_iff hn (clW_sp vr (clW_sp vq hE)) (clW_sp vq (clW_sp vr hE))
    rw [e210_3]
    simp (disch := first | assumption | omega | (simp (disch := omega) only [wN, w0, w1]; omega)) only [e210_0, e210_1, e210_5, e210_6, e210_7, e210_10, e210_11, e210_14, e210_15, e210_18, e210_20, e210_23, e210_24, e210_27, e210_29, e210_32, e210_33, e210_34, e210_35, e210_36, e210_39, e210_42, e210_43, e210_44, e210_45, e210_46, e210_49, e210_52, e210_53, e210_54, e210_55, e210_56, e210_59, e210_62, e210_63, e210_64, e210_65, e210_66, e210_69, e210_72, e210_73, e210_77, e210_79, e210_82, e210_83, e210_86, e210_88, e210_89, e210_90, e210_93, e210_95, e210_96, e210_97, e210_100, e210_101, e210_102, e210_105, e210_111, e210_114, e210_115, kl_I, kl_R, kl_N, kl_L, oSm, oNn, Option.bind_some, wN, if_pos, if_neg, nS, tN, t0, w0, w1, w2, w3, w4, w5, wm1, upA_ne, upA_same, if_true, if_false, Bool.false_eq_true, hN1, xn, ra29, rl29, ra30, rl30, a1, b1, c1, d1, f1, g1]
    refine End.cg key ?_
    by_cases e : clW (gA c h) (clW (gA c g) (e1W s)) = clW (gA c g) (clW (gA c h) (e1W s))
    · rw [if_pos (kiff.mpr e)]
      have e3 : ∀ x, x < s + 1 → clW (gA c h) (clW (gA c g) (e1W x)) = clW (gA c g) (clW (gA c h) (e1W x)) := fun x hx => by
        by_cases q : x = s
        · rw [q]; exact e
        · exact e1 x (by omega)
      clear kiff key e1
      simp (disch := first | assumption | omega | (simp (disch := omega) only [wN, w0, w1]; omega)) only [e210_0, e210_1, e210_5, e210_6, e210_7, e210_10, e210_11, e210_14, e210_15, e210_18, e210_20, e210_23, e210_24, e210_27, e210_29, e210_32, e210_33, e210_34, e210_35, e210_36, e210_39, e210_42, e210_43, e210_44, e210_45, e210_46, e210_49, e210_52, e210_53, e210_54, e210_55, e210_56, e210_59, e210_62, e210_63, e210_64, e210_65, e210_66, e210_69, e210_72, e210_73, e210_77, e210_79, e210_82, e210_83, e210_86, e210_88, e210_89, e210_90, e210_93, e210_95, e210_96, e210_97, e210_100, e210_101, e210_102, e210_105, e210_108, e210_111, e210_114, e210_115, kl_I, kl_R, kl_N, kl_L, oSm, oNn, Option.bind_some, wN, if_pos, if_neg, nS, tN, t0, w0, w1, w2, w3, w4, w5, wm1, upA_ne, upA_same, if_true, if_false, Bool.false_eq_true]
      exact ih _ _ ⟨e3, e2.tr hf⟩
    · rw [if_neg (fun q => e (kiff.mp q))]
      exact End.of rfl ⟨Or.inr ⟨rfl, fun q => e (q s hi)⟩, e2.tr hf⟩) 0 (Nat.zero_le _)
  simp (disch := first | assumption | omega | (simp (disch := omega) only [wN, w0, w1]; omega)) only [e210_0, e210_1, e210_5, e210_6, e210_7, e210_10, e210_11, e210_14, e210_15, e210_18, e210_20, e210_23, e210_24, e210_27, e210_29, e210_32, e210_33, e210_34, e210_35, e210_36, e210_39, e210_42, e210_43, e210_44, e210_45, e210_46, e210_49, e210_52, e210_53, e210_54, e210_55, e210_56, e210_59, e210_62, e210_63, e210_64, e210_65, e210_66, e210_69, e210_72, e210_73, e210_75, e210_77, e210_79, e210_82, e210_83, e210_86, e210_88, e210_89, e210_90, e210_93, e210_95, e210_96, e210_97, e210_100, e210_101, e210_102, e210_105, e210_108, e210_111, e210_114, e210_115, kl_I, kl_R, kl_N, kl_L, oSm, oNn, Option.bind_some, wN, if_pos, if_neg, nS, tN, t0, w0, w1, w2, w3, w4, w5, wm1, upA_ne, upA_same, if_true, if_false, Bool.false_eq_true, q210]
  exact A σ _ ⟨fun x hx => by omega, frW.rf⟩
end MQ

