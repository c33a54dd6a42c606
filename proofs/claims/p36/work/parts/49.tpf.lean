/-! ===== Tape: gates, edges, bytes written ===== -/
theorem frG.I {g : Nat} {σ σ' : Mem} (h : frG g σ σ') : frI g (g + 4) σ σ' := h
/-- gates from i on, f of them at most: 0 or the fault; the gates -/
def rdL (B : Nat → Nat) (s n : Nat) : Nat → Nat → List Gt → Int × List Gt
  | 0, i, c => (-1000 * 4 - (i : Int), c)
  | f + 1, i, c => if (rdG B s n i).1 < 0 then ((rdG B s n i).1, c) else if (rdG B s n i).1 = (s : Int) then (0, c ++ [(rdG B s n i).2]) else if byB B s (rdG B s n i).1.toNat ≠ 59 then (-1000 * 1 - (rdG B s n i).1, c ++ [(rdG B s n i).2]) else rdL B s n f ((rdG B s n i).1.toNat + 1) (c ++ [(rdG B s n i).2])
/-- a whole text of gates -/
def rdC (B : Nat → Nat) (s n : Nat) : Int × List Gt := if s = 0 then (0, []) else rdL B s n 30 0 []
/-- an edge from i on, behind its sign: 0 or the fault; the edges -/
def rdE (B : Nat → Nat) (s m i : Nat) (E : List Ed) : Int × List Ed :=
  if byB B s i ≠ 59 then (-1000 * 1 - (i : Int), E)
  else if E.length = 10 then (-1000 * 4 - ((i + 1 : Nat) : Int), E)
  else if rdD B s (i + 1) 0 (m : Int) < 0 then (rdD B s (i + 1) 0 (m : Int), E)
  else if byB B s (i + 2) ≠ 45 then (-1000 * 1 - ((i + 2 : Nat) : Int), E)
  else if rdD B s (i + 3) 0 (m : Int) < 0 then (rdD B s (i + 3) 0 (m : Int), E)
  else if rdD B s (i + 1) 0 (m : Int) = rdD B s (i + 3) 0 (m : Int) ∨ ¬ njB E (rdD B s (i + 1) 0 (m : Int)).toNat (rdD B s (i + 3) 0 (m : Int)).toNat E.length 0 = true then (-1000 * 6 - ((i + 3 : Nat) : Int), E)
  else (0, E ++ [(min (rdD B s (i + 1) 0 (m : Int)).toNat (rdD B s (i + 3) 0 (m : Int)).toNat, max (rdD B s (i + 1) 0 (m : Int)).toNat (rdD B s (i + 3) 0 (m : Int)).toNat)])
def rdF (B : Nat → Nat) (s m : Nat) : Nat → Nat → List Ed → Int × List Ed
  | 0, _, E => (0, E)
  | f + 1, i, E => if s ≤ i then (0, E) else if (rdE B s m i E).1 < 0 then (rdE B s m i E) else rdF B s m f (i + 4) (rdE B s m i E).2
/-- a whole text of a board: 0 or the fault; places, edges -/
def rdB (B : Nat → Nat) (s : Nat) : Int × Nat × List Ed :=
  if rdD B s 0 2 6 < 0 then (rdD B s 0 2 6, 0, []) else ((rdF B s (rdD B s 0 2 6).toNat 40 1 []).1, (rdD B s 0 2 6).toNat, (rdF B s (rdD B s 0 2 6).toNat 40 1 []).2)
section TPF
variable {sh : Shp} {d t g cap s n i b m : Nat} {σ : Mem} {B : Nat → Nat} {c : List Gt} {E : List Ed}
theorem okC.app {q : Gt} (h : okC n c) (hq : vG n q) : okC n (c ++ [q]) := by
  intro x hx
  rcases List.mem_append.mp hx with h1 | h1
  · exact h x h1
  · rw [List.mem_singleton.mp h1]; exact hq
theorem T109 (hs : tpS sh t) (hP : HP σ t B s) (h1 : s ≤ 140) (hR : sh.2.1 = 2) (hg : glS sh g cap) (hcap : 30 ≤ cap) (hb : cap ≤ 100) (hn : n ≤ 4) (hap : t + 1 < g ∨ g + 6 < t) : End (run sh (d + 8) 109 [mR t, mI (n : Int), mR g] σ) (fun r σ' => r = some (mI (rdC B s n).1) ∧ (rdC B s n).1 ≤ 0 ∧ ((rdC B s n).1 = 0 → HG σ' g (rdC B s n).2 ∧ okC n (rdC B s n).2 ∧ (rdC B s n).2.length ≤ 30) ∧ frG g σ σ') := by
  have ho := hs.1
  have hgo := hg.1
  have hsz := hP.1
  have w30 : wi 30 = 30 := rfl
  have w59 : wi 59 = 59 := rfl
  have wz : wi (s : Int) = (s : Int) := wN (by omega)
  have f0 : frG g σ (upA σ.1 g (up1 (σ.1 g) 6 0), σ.2) := ⟨fun a ha => upA_ne (by omega), rfl⟩
  have hG0 : HG (upA σ.1 g (up1 (σ.1 g) 6 0), σ.2) g [] := by
    refine ⟨?_, fun j hj => absurd hj (Nat.not_lt_zero _)⟩
    show upA _ _ _ _ _ = _
    rw [upA_same, up1_same]; rfl
  by_cases h0 : s = 0
  · have er : rdC B s n = (0, []) := by rw [rdC, if_pos h0]
    rw [er]
    have hz2 : upA σ.1 g (up1 (σ.1 g) 6 0) t 1 = (0 : Int) := by rw [upA_ne (by omega), hsz, h0]; rfl
    simp (disch := first | assumption | omega | (simp (disch := omega) only [wN, w0, w1]; omega)) only [e109_0, e109_1, e109_2, e109_5, e109_6, e109_9, e109_12, e109_13, e109_14, e109_15, e109_16, e109_17, e109_19, e109_21, e109_23, e109_26, e109_27, e109_28, e109_29, e109_30, e109_33, e109_35, e109_37, e109_40, e109_42, e109_43, e109_46, e109_49, e109_51, e109_52, e109_55, e109_56, e109_57, e109_59, e109_62, e109_64, e109_67, e109_68, e109_70, e109_73, e109_74, e109_76, e109_77, e109_78, e109_79, e109_82, e109_85, e109_86, e109_87, e109_90, kl_I, kl_R, kl_N, kl_L, oSm, oNn, Option.bind_some, wN, if_pos, if_neg, nS, tN, t0, w0, w1, w2, w3, w4, w5, wm1, upA_ne, upA_same, if_true, if_false, Bool.false_eq_true, q109, hz2]
    exact End.of rfl ⟨rfl, by omega, fun _ => ⟨hG0, fun q hq => by simp at hq, by simp⟩, f0⟩
  · have er : rdC B s n = rdL B s n 30 0 [] := by rw [rdC, if_neg h0]
    have L := for_P (30) (fun k => ∀ (σ1 : Mem) (v3 v5 : Option MV), ((∃ j : Nat, ∃ c1 : List Gt, v3 = some (mI (j : Int)) ∧ j ≤ s + 1 ∧ rdL B s n (30 - k) j c1 = rdC B s n ∧ HG σ1 g c1 ∧ okC n c1 ∧ c1.length = k) ∧ frG g σ σ1) → End (ev sh (d + 8) 109 19 [some (mR (t)), some (mI ((n : Nat) : Int)), some (mR (g)), v3, some (mI ((k : Nat) : Int)), v5] [] σ1) (fun r σ' => r = some (mI (rdC B s n).1) ∧ (rdC B s n).1 ≤ 0 ∧ ((rdC B s n).1 = 0 → HG σ' g (rdC B s n).2 ∧ okC n (rdC B s n).2 ∧ (rdC B s n).2.length ≤ 30) ∧ frG g σ σ')) (by
      intro σ1 v3 v5 hp
      replace hp : (∃ j : Nat, ∃ c1 : List Gt, v3 = some (mI (j : Int)) ∧ j ≤ s + 1 ∧ rdL B s n (30 - (30)) j c1 = rdC B s n ∧ HG σ1 g c1 ∧ okC n c1 ∧ c1.length = (30)) ∧ frG g σ σ1 := hp
      show End (ev sh (d + 8) 109 19 [some (mR (t)), some (mI ((n : Nat) : Int)), some (mR (g)), v3, some (mI (((30) : Nat) : Int)), v5] [] σ1) (fun r σ' => r = some (mI (rdC B s n).1) ∧ (rdC B s n).1 ≤ 0 ∧ ((rdC B s n).1 = 0 → HG σ' g (rdC B s n).2 ∧ okC n (rdC B s n).2 ∧ (rdC B s n).2.length ≤ 30) ∧ frG g σ σ')
      obtain ⟨⟨j, c1, rfl, hj, e1, hG1, hv1, hl1⟩, hf⟩ := hp
      rw [Nat.sub_self, rdL] at e1
      rw [e109_19, ← e1]
      simp (disch := first | assumption | omega | (simp (disch := omega) only [wN, w0, w1]; omega)) only [e109_0, e109_1, e109_2, e109_5, e109_6, e109_9, e109_12, e109_13, e109_14, e109_15, e109_16, e109_17, e109_21, e109_23, e109_26, e109_27, e109_28, e109_29, e109_30, e109_33, e109_35, e109_37, e109_40, e109_42, e109_43, e109_46, e109_49, e109_51, e109_52, e109_55, e109_56, e109_57, e109_59, e109_62, e109_64, e109_67, e109_68, e109_70, e109_73, e109_74, e109_76, e109_77, e109_78, e109_79, e109_82, e109_85, e109_86, e109_87, e109_90, kl_I, kl_R, kl_N, kl_L, oSm, oNn, Option.bind_some, wN, if_pos, if_neg, nS, tN, t0, w0, w1, w2, w3, w4, w5, wm1, upA_ne, upA_same, if_true, if_false, Bool.false_eq_true, T107]
      refine End.of rfl ⟨rfl, by first | omega | (simp only; omega), fun h => ?_, hf⟩
      first | omega | (simp only at h; omega)) (fun k hi ih => by
      replace ih : ∀ (σ1 : Mem) (v3 v5 : Option MV), ((∃ j : Nat, ∃ c1 : List Gt, v3 = some (mI (j : Int)) ∧ j ≤ s + 1 ∧ rdL B s n (30 - (k + 1)) j c1 = rdC B s n ∧ HG σ1 g c1 ∧ okC n c1 ∧ c1.length = (k + 1)) ∧ frG g σ σ1) → End (ev sh (d + 8) 109 19 [some (mR (t)), some (mI ((n : Nat) : Int)), some (mR (g)), v3, some (mI (((k + 1) : Nat) : Int)), v5] [] σ1) (fun r σ' => r = some (mI (rdC B s n).1) ∧ (rdC B s n).1 ≤ 0 ∧ ((rdC B s n).1 = 0 → HG σ' g (rdC B s n).2 ∧ okC n (rdC B s n).2 ∧ (rdC B s n).2.length ≤ 30) ∧ frG g σ σ') := ih
      intro σ1 v3 v5 hp
      replace hp : (∃ j : Nat, ∃ c1 : List Gt, v3 = some (mI (j : Int)) ∧ j ≤ s + 1 ∧ rdL B s n (30 - k) j c1 = rdC B s n ∧ HG σ1 g c1 ∧ okC n c1 ∧ c1.length = k) ∧ frG g σ σ1 := hp
      show End (ev sh (d + 8) 109 19 [some (mR (t)), some (mI ((n : Nat) : Int)), some (mR (g)), v3, some (mI ((k : Nat) : Int)), v5] [] σ1) (fun r σ' => r = some (mI (rdC B s n).1) ∧ (rdC B s n).1 ≤ 0 ∧ ((rdC B s n).1 = 0 → HG σ' g (rdC B s n).2 ∧ okC n (rdC B s n).2 ∧ (rdC B s n).2.length ≤ 30) ∧ frG g σ σ')
      obtain ⟨⟨j, c1, rfl, hj, e1, hG1, hv1, hl1⟩, hf⟩ := hp
      have hsz1 : σ1.1 t 1 = (s : Int) := by rw [hf.1 t (by omega)]; exact hsz
      have hP1 : HP σ1 t B s := hP.fr (frG.I (g := g) hf) (by omega)
      obtain ⟨r, σ2, a1, a2, a3, a4, a5, a6, a7⟩ := T110 (d := d) (i := j) hs hP1 h1 (by omega) hR hg hG1 (by omega) hb hn hap
      have hsz2 : σ2.1 t 1 = (s : Int) := by rw [a4.1 t (by omega)]; exact hsz1
      have hP2 : HP σ2 t B s := hP1.fr (frG.I (g := g) a4) (by omega)
      rw [a2] at a1
      rw [show 30 - k = (30 - (k + 1)) + 1 by omega, rdL] at e1
      by_cases f1 : (rdG B s n j).1 < 0
      · rw [if_pos f1] at e1
        rw [if_neg (by omega)] at a3
        have wv : wi (rdG B s n j).1 = (rdG B s n j).1 := wi_id (by omega) (by omega)
        have mn : mmn (rdG B s n j).1 0 = (rdG B s n j).1 := by
          unfold mmn
          rw [wv, show wi 0 = 0 from rfl, if_neg (by omega)]
        rw [e109_19]
        simp (disch := first | assumption | omega | (simp (disch := omega) only [wN, w0, w1]; omega)) only [e109_0, e109_1, e109_2, e109_5, e109_6, e109_9, e109_12, e109_13, e109_14, e109_15, e109_16, e109_17, e109_21, e109_23, e109_26, e109_27, e109_28, e109_29, e109_30, e109_33, e109_35, e109_37, e109_40, e109_42, e109_43, e109_46, e109_49, e109_51, e109_52, e109_55, e109_56, e109_57, e109_59, e109_62, e109_64, e109_67, e109_68, e109_70, e109_73, e109_74, e109_76, e109_77, e109_78, e109_79, e109_82, e109_85, e109_86, e109_87, e109_90, kl_I, kl_R, kl_N, kl_L, oSm, oNn, Option.bind_some, wN, if_pos, if_neg, nS, tN, t0, w0, w1, w2, w3, w4, w5, wm1, upA_ne, upA_same, if_true, if_false, Bool.false_eq_true, a1, wv, mn, w30]
        rw [← e1]
        refine End.of rfl ⟨rfl, by first | omega | (simp only; omega), fun h => ?_, hf.tr a4⟩
        first | omega | (simp only at h; omega)
      · have a5 := a5 (by omega)
        rw [if_pos (by omega)] at a3
        rw [if_neg f1] at e1
        obtain ⟨e, he⟩ : ∃ e : Nat, (rdG B s n j).1 = (e : Int) := ⟨(rdG B s n j).1.toNat, by omega⟩
        rw [he] at a1 a5 e1
        have hlen : (c1 ++ [(rdG B s n j).2]).length = k + 1 := by rw [List.length_append, hl1]; rfl
        by_cases f2 : e = s
        · rw [if_pos (by omega)] at e1
          have mn := mmn_nn (a := e) (b := 0) (by omega) (by omega)
          rw [Nat.min_eq_right (Nat.zero_le _)] at mn
          have mn : mmn (e : Int) 0 = 0 := mn
          rw [e109_19]
          simp (disch := first | assumption | omega | (simp (disch := omega) only [wN, w0, w1]; omega)) only [e109_0, e109_1, e109_2, e109_5, e109_6, e109_9, e109_12, e109_13, e109_14, e109_15, e109_16, e109_17, e109_21, e109_23, e109_26, e109_27, e109_28, e109_29, e109_30, e109_33, e109_35, e109_37, e109_40, e109_42, e109_43, e109_46, e109_49, e109_51, e109_52, e109_55, e109_56, e109_57, e109_59, e109_62, e109_64, e109_67, e109_68, e109_70, e109_73, e109_74, e109_76, e109_77, e109_78, e109_79, e109_82, e109_85, e109_86, e109_87, e109_90, kl_I, kl_R, kl_N, kl_L, oSm, oNn, Option.bind_some, wN, if_pos, if_neg, nS, tN, t0, w0, w1, w2, w3, w4, w5, wm1, upA_ne, upA_same, if_true, if_false, Bool.false_eq_true, a1, hsz2, mn, w30]
          rw [← e1]
          exact End.of rfl ⟨rfl, by first | omega | (simp only; omega), fun _ => ⟨a3, hv1.app a5.1, by first | omega | (simp only; omega)⟩, hf.tr a4⟩
        · rw [if_neg (by omega), tN] at e1
          have e6 := T106 (d := d + 6) hs hP2 h1 (show e < 1000 by omega)
          have br := byB_r h1 (fun j hj => (hP2.2 j hj).2) e
          have wb : wi (byB B s e) = byB B s e := wi_id (by omega) (by omega)
          by_cases f3 : byB B s e = 59
          · rw [if_neg (fun z => z f3)] at e1
            rw [e109_19]
            simp (disch := first | assumption | omega | (simp (disch := omega) only [wN, w0, w1]; omega)) only [e109_0, e109_1, e109_2, e109_5, e109_6, e109_9, e109_12, e109_13, e109_14, e109_15, e109_16, e109_17, e109_21, e109_23, e109_26, e109_27, e109_28, e109_29, e109_30, e109_33, e109_35, e109_37, e109_40, e109_42, e109_43, e109_46, e109_49, e109_51, e109_52, e109_55, e109_56, e109_57, e109_59, e109_62, e109_64, e109_67, e109_68, e109_70, e109_73, e109_74, e109_76, e109_77, e109_78, e109_79, e109_82, e109_85, e109_86, e109_87, e109_90, kl_I, kl_R, kl_N, kl_L, oSm, oNn, Option.bind_some, wN, if_pos, if_neg, nS, tN, t0, w0, w1, w2, w3, w4, w5, wm1, upA_ne, upA_same, if_true, if_false, Bool.false_eq_true, a1, hsz2, e6, f3, w59, w30]
            exact ih _ _ _ ⟨⟨e + 1, _, rfl, by omega, e1, a3, hv1.app a5.1, hlen⟩, hf.tr a4⟩
          · rw [if_pos f3] at e1
            rw [e109_19]
            simp (disch := first | assumption | omega | (simp (disch := omega) only [wN, w0, w1]; omega)) only [e109_0, e109_1, e109_2, e109_5, e109_6, e109_9, e109_12, e109_13, e109_14, e109_15, e109_16, e109_17, e109_21, e109_23, e109_26, e109_27, e109_28, e109_29, e109_30, e109_33, e109_35, e109_37, e109_40, e109_42, e109_43, e109_46, e109_49, e109_51, e109_52, e109_55, e109_56, e109_57, e109_59, e109_62, e109_64, e109_67, e109_68, e109_70, e109_73, e109_74, e109_76, e109_77, e109_78, e109_79, e109_82, e109_85, e109_86, e109_87, e109_90, kl_I, kl_R, kl_N, kl_L, oSm, oNn, Option.bind_some, wN, if_pos, if_neg, nS, tN, t0, w0, w1, w2, w3, w4, w5, wm1, upA_ne, upA_same, if_true, if_false, Bool.false_eq_true, a1, hsz2, e6, wb, w59, w30, T107]
            rw [← e1]
            refine End.of rfl ⟨rfl, by first | omega | (simp only; omega), fun h => ?_, hf.tr a4⟩
            first | omega | (simp only at h; omega)) 0 (Nat.zero_le _)
    have hz2 : upA σ.1 g (up1 (σ.1 g) 6 0) t 1 = (s : Int) := by rw [upA_ne (by omega), hsz]
    simp (disch := first | assumption | omega | (simp (disch := omega) only [wN, w0, w1]; omega)) only [e109_0, e109_1, e109_2, e109_5, e109_6, e109_9, e109_12, e109_13, e109_14, e109_15, e109_16, e109_17, e109_21, e109_23, e109_26, e109_27, e109_28, e109_29, e109_30, e109_33, e109_35, e109_37, e109_40, e109_42, e109_43, e109_46, e109_49, e109_51, e109_52, e109_55, e109_56, e109_57, e109_59, e109_62, e109_64, e109_67, e109_68, e109_70, e109_73, e109_74, e109_76, e109_77, e109_78, e109_79, e109_82, e109_85, e109_86, e109_87, e109_90, kl_I, kl_R, kl_N, kl_L, oSm, oNn, Option.bind_some, wN, if_pos, if_neg, nS, tN, t0, w0, w1, w2, w3, w4, w5, wm1, upA_ne, upA_same, if_true, if_false, Bool.false_eq_true, q109, hz2]
    exact L _ _ none ⟨⟨0, [], rfl, by omega, er.symm, hG0, fun q hq => by simp at hq, rfl⟩, f0⟩
end TPF
