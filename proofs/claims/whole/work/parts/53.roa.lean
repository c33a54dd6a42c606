/-! ===== Router: steps, wear ===== -/
abbrev Sp : Type := Gt × Bool
def sA (S : List Sp) (j : Nat) : Sp := S.getD j (gz, false)
theorem gA_map (S : List Sp) (j : Nat) : gA (S.map Prod.fst) j = (sA S j).1 := by
  unfold gA sA
  simp only [List.getD_eq_getElem?_getD, List.getElem?_map]
  cases S[j]? <;> rfl
/-- a router at o: its course at o + 1, steps at o + 22, which are swaps at o + 29, wear at o + 30 -/
def roS (sh : Shp) (o : Nat) : Prop := ob sh 6 5 o ∧ srf sh o 0 = o + 1 ∧ srf sh o 1 = o + 22 ∧ srf sh o 2 = o + 29 ∧ srf sh o 3 = o + 30 ∧ crS sh (o + 1) ∧ glS sh (o + 22) 70 ∧ skd sh (o + 29) = 2 ∧ sln sh (o + 29) = 70 ∧ skd sh (o + 30) = 0 ∧ sln sh (o + 30) = 5 ∧ o + 30 < sh.1
def HSt (σ : Mem) (o : Nat) (S : List Sp) : Prop := HG σ (o + 22) (S.map Prod.fst) ∧ ∀ j, j < S.length → σ.1 (o + 29) j = bi (sA S j).2
def upw (w : Nat → Nat) (p : Nat) : Nat → Nat := fun x => if x = p then w x + 1 else w x
def HWe (σ : Mem) (o : Nat) (w : Nat → Nat) : Prop := ∀ p, p < 5 → σ.1 (o + 30) p = (w p : Int)
theorem HSt.fr {o x y : Nat} {σ σ' : Mem} {S : List Sp} (h : HSt σ o S) (hf : frI x y σ σ') (ho : o + 29 < x ∨ y < o + 22) : HSt σ' o S := by
  refine ⟨h.1.frI hf (by omega), fun j hj => ?_⟩
  rw [hf.1 _ (by omega)]; exact h.2 j hj
theorem HWe.fr {o x y : Nat} {σ σ' : Mem} {w : Nat → Nat} (h : HWe σ o w) (hf : frI x y σ σ') (ho : o + 30 < x ∨ y < o + 30) : HWe σ' o w := by
  intro p hp
  rw [hf.1 _ (by omega)]; exact h p hp
section ROA
variable {sh : Shp} {d o n m g p : Nat} {σ : Mem} {S : List Sp} {q : Gt} {b : Bool} {w : Nat → Nat} {c : List Gt} {E : List Ed} {A P : Nat → Nat} {D : Nat}
theorem Z87 (hs : roS sh o) (hS : HSt σ o S) (hg : g < S.length) (h70 : S.length ≤ 70) : run sh (d + 1) 87 [mR o, mI (g : Int)] σ = some (some (mI (bi (sA S g).2)), σ) := by
  obtain ⟨ho, r0, r1, r2, r3, hcr, hgl, k1, l1, k2, l2, hw⟩ := id hs
  have w70 : wi ((70 : Nat) : Int) = 70 := rfl
  have e := hS.2 g hg
  cases hb : (sA S g).2
  · rw [hb] at e
    have e : σ.1 (o + 29) g = 0 := e
    simp (disch := first | assumption | omega | (simp (disch := omega) only [wN, w0, w1]; omega)) only [e87_0, e87_1, e87_4, e87_5, e87_6, e87_9, e87_10, e87_13, e87_14, e87_17, e87_18, e87_19, e87_22, e87_23, e87_26, e87_27, kl_I, kl_R, kl_N, kl_L, oSm, oNn, Option.bind_some, wN, if_pos, if_neg, nS, tN, t0, w0, w1, w2, w3, w4, w5, wm1, upA_ne, upA_same, if_true, if_false, Bool.false_eq_true, q87, r2, l1, w70, e]
    rfl
  · rw [hb] at e
    have e : σ.1 (o + 29) g = 1 := e
    simp (disch := first | assumption | omega | (simp (disch := omega) only [wN, w0, w1]; omega)) only [e87_0, e87_1, e87_4, e87_5, e87_6, e87_9, e87_10, e87_13, e87_14, e87_17, e87_18, e87_19, e87_22, e87_23, e87_26, e87_27, kl_I, kl_R, kl_N, kl_L, oSm, oNn, Option.bind_some, wN, if_pos, if_neg, nS, tN, t0, w0, w1, w2, w3, w4, w5, wm1, upA_ne, upA_same, if_true, if_false, Bool.false_eq_true, q87, r2, l1, w70, e]
    rfl
theorem Z90 (hs : roS sh o) (hS : HSt σ o S) (h70 : S.length < 70) (hn5 : n ≤ 5) (hq : vG n q) : End (run sh (d + 2) 90 [mR o, mI (q.1 : Int), mI (q.2.1 : Int), mI q.2.2, mI (bi b)] σ) (fun r σ' => r = none ∧ HSt σ' o (S ++ [(q, b)]) ∧ frI (o + 22) (o + 29) σ σ') := by
  obtain ⟨ho, r0, r1, r2, r3, hcr, hgl, k1, l1, k2, l2, hw⟩ := id hs
  have hgo := hgl.1
  have hl := hS.1.1
  have hml : (S.map Prod.fst).length = S.length := by simp
  rw [hml] at hl
  have w70 : wi ((70 : Nat) : Int) = 70 := rfl
  have hb01 : bi b = 0 ∨ bi b = 1 := by cases b <;> simp [bi]
  have f0 : frI (o + 29) (o + 29) σ (upA σ.1 (o + 29) (up1 (σ.1 (o + 29)) S.length (bi b)), σ.2) := frI.up (by omega)
  obtain ⟨r, σ1, f1, rfl, f3, f4⟩ := L52 (d := d) (q := q) hgl (hS.1.frI f0 (by omega)) (by rw [hml]; exact h70) (by omega) hn5 hq
  simp (disch := first | assumption | omega | (simp (disch := omega) only [wN, w0, w1]; omega)) only [e90_0, e90_1, e90_4, e90_7, e90_10, e90_11, e90_14, e90_17, e90_18, e90_21, e90_22, e90_25, e90_26, e90_29, e90_30, e90_33, e90_36, e90_38, e90_39, e90_40, e90_43, e90_44, e90_45, e90_46, e90_49, kl_I, kl_R, kl_N, kl_L, oSm, oNn, Option.bind_some, wN, if_pos, if_neg, nS, tN, t0, w0, w1, w2, w3, w4, w5, wm1, upA_ne, upA_same, if_true, if_false, Bool.false_eq_true, q90, r1, r2, hl, l1, w70, f1]
  refine End.of rfl ⟨rfl, ⟨?_, fun j hj => ?_⟩, ⟨fun a ha => ?_, ?_⟩⟩
  · rw [List.map_append]; exact f3
  · rw [(frG.I f4).1 _ (by omega)]
    show upA _ _ _ _ _ = _
    rw [upA_same]
    have e1 : (S ++ [(q, b)]).length = S.length + 1 := by simp
    by_cases e : j = S.length
    · subst e
      rw [up1_same]
      simp [sA]
    · have h2 : j < S.length := by omega
      rw [up1_ne e, hS.2 j h2]
      simp [sA, List.getElem?_append_left h2]
  · rw [(frG.I f4).1 _ (by omega)]
    show upA _ _ _ _ = _
    rw [upA_ne (by omega)]
  · rw [(frG.I f4).2]
theorem Z92 (hs : roS sh o) (hw : HWe σ o w) (hp : p < 5) : End (run sh (d + 1) 92 [mR o, mI (p : Int)] σ) (fun r σ' => r = none ∧ HWe σ' o (upw w p) ∧ frI (o + 30) (o + 30) σ σ') := by
  obtain ⟨ho, r0, r1, r2, r3, hcr, hgl, k1, l1, k2, l2, hw2⟩ := id hs
  have e := hw p hp
  simp (disch := first | assumption | omega | (simp (disch := omega) only [wN, w0, w1]; omega)) only [e92_0, e92_1, e92_4, e92_5, e92_6, e92_9, e92_10, e92_13, e92_14, e92_15, e92_18, kl_I, kl_R, kl_N, kl_L, oSm, oNn, Option.bind_some, wN, if_pos, if_neg, nS, tN, t0, w0, w1, w2, w3, w4, w5, wm1, upA_ne, upA_same, if_true, if_false, Bool.false_eq_true, q92, r3, e, K93n k2 l2 (by omega) hp, K289n k2 l2 (by omega) hw2 hp]
  refine End.of rfl ⟨rfl, fun x hx => ?_, frI.up (by omega)⟩
  show upA _ _ _ _ _ = _
  rw [upA_same]
  by_cases h : x = p
  · subst h; rw [up1_same, upw, if_pos rfl]
  · rw [up1_ne h, upw, if_neg h]; exact hw x hx
theorem Z93 (hs : roS sh o) (hw : HWe σ o w) (hp : p < 5) : run sh d 93 [mR (o + 30), mI (p : Int)] σ = some (some (mI (w p : Int)), σ) := by
  obtain ⟨ho, r0, r1, r2, r3, hcr, hgl, k1, l1, k2, l2, hw2⟩ := id hs
  rw [K93n k2 l2 (by omega) hp, hw p hp]
/-- the gate as it is done: places in place of lines -/
def sgP (P : Nat → Nat) (q : Gt) : Gt := (q.1, P q.2.1, if 3 ≤ q.1 then (P q.2.2.toNat : Int) else q.2.2)
theorem sgP_v {P : Nat → Nat} (hP : okP n m P) (hq : vG n q) : vG m (sgP P q) := by
  obtain ⟨h1, h2, h3, h4, h5⟩ := hq
  refine ⟨h1, hP.1 _ h2, fun h => ?_, fun h => ?_, fun h => ?_⟩
  · simp only [sgP] at h ⊢; rw [if_neg (by omega)]; exact h3 h
  · simp only [sgP] at h ⊢; rw [if_neg (by omega)]; exact h4 h
  · simp only [sgP] at h ⊢
    rw [if_pos h]
    have h6 := h5 h
    have := hP.1 q.2.2.toNat (by omega)
    refine ⟨by omega, by omega, fun e => ?_⟩
    have := hP.2 q.2.2.toNat q.2.1 (by omega) h2 (by omega)
    omega
theorem Z89 (hs : roS sh o) (hK : HKs σ (o + 1) c m E A) (hM : HKm σ (o + 1) n P D) (hk : okK n m c E) (hP : okP n m P) (hg : g < c.length) (hS : HSt σ o S) (h70 : S.length < 70) (hw : HWe σ o w) : End (run sh (d + 3) 89 [mR o, mI (g : Int)] σ) (fun r σ' => r = none ∧ HSt σ' o (S ++ [(sgP P (gA c g), false)]) ∧ HWe σ' o (if 3 ≤ (gA c g).1 then (fun _ => 0) else w) ∧ frI (o + 22) (o + 30) σ σ') := by
  obtain ⟨ho, r0, r1, r2, r3, hcr, hgl, k1, l1, k2, l2, hw2⟩ := id hs
  obtain ⟨hco, c0, c1, c2, c3, hcg, hcB, hcL, ck, cl, cw⟩ := id hcr
  obtain ⟨hn, hm, hE, h30, hv, hvE⟩ := id hk
  have hgo := hgl.1
  have hcgo := hcg.1
  have hlo := hcL.1
  have v := hv.at hg
  have hsv := sgP_v (q := gA c g) hP v
  have e46 := L46 (d := d + 2) hcg hK.1 h30 (by omega) hg
  have e47 := L47 (d := d + 2) hcg hK.1 h30 (by omega) hg
  have e48 := L48 (d := d + 2) hcg hK.1 h30 (by omega) hg
  have e50 := L50 (d := d + 2) hcg hK.1 h30 (by omega) hg hv
  have e77 := Y77 (d := d + 1) hcL hM.1 hn v.2.1
  by_cases h3 : 3 ≤ (gA c g).1
  · obtain ⟨t, ht⟩ : ∃ t : Nat, (gA c g).2.2 = (t : Int) := ⟨(gA c g).2.2.toNat, by have := v.2.2.2.2 h3; omega⟩
    have v5 := v.2.2.2.2 h3
    have e77b := Y77 (d := d + 1) hcL hM.1 hn (show t < n by omega)
    rw [ht] at e48
    obtain ⟨r, σ1, f1, rfl, f3, f4⟩ := F287 (d := d + 1) (v := 0) (σ := σ) k2 hw2 l2 (by omega)
    have hK1 := hK.fr f4 (by omega)
    have hM1 : HKm σ1 (o + 1) n P D := ⟨hM.1.fr f4 (by omega), by rw [f4.1 _ (by omega)]; exact hM.2⟩
    have e46' := L46 (d := d + 2) hcg hK1.1 h30 (by omega) hg
    have e47' := L47 (d := d + 2) hcg hK1.1 h30 (by omega) hg
    have e77' := Y77 (d := d + 1) hcL hM1.1 hn v.2.1
    obtain ⟨r, σ2, g1, rfl, g3, g4⟩ := Z90 (d := d) (b := false) (q := sgP P (gA c g)) hs (hS.fr f4 (by omega)) h70 hm hsv
    have eq : sgP P (gA c g) = ((gA c g).1, P (gA c g).2.1, (P t : Int)) := by rw [sgP, if_pos h3, ht, tN]
    rw [eq] at g1
    have g1 : run sh (d + 2) 90 [mR o, mI ((gA c g).1 : Int), mI (P (gA c g).2.1 : Int), mI (P t : Int), mI 0] σ1 = some (none, σ2) := g1
    simp (disch := first | assumption | omega | (simp (disch := omega) only [wN, w0, w1]; omega)) only [e89_0, e89_1, e89_4, e89_7, e89_8, e89_9, e89_10, e89_13, e89_14, e89_15, e89_16, e89_19, e89_22, e89_23, e89_26, e89_29, e89_30, e89_33, e89_34, e89_35, e89_38, e89_39, e89_42, e89_43, e89_44, e89_45, e89_48, e89_49, e89_52, e89_55, e89_56, e89_57, e89_60, e89_63, e89_64, e89_65, e89_68, kl_I, kl_R, kl_N, kl_L, oSm, oNn, Option.bind_some, wN, if_pos, if_neg, nS, tN, t0, w0, w1, w2, w3, w4, w5, wm1, upA_ne, upA_same, if_true, if_false, Bool.false_eq_true, q89, r0, c0, c2, e48, e50, h3, e77b, r3, f1, e46', e47', e77', g1]
    refine End.of rfl ⟨rfl, g3, ?_, (f4.w (by omega) (by omega)).tr (g4.w (by omega) (by omega))⟩
    intro p hp
    rw [g4.1 _ (by omega), f3 p hp]; rfl
  · obtain ⟨r, σ2, g1, rfl, g3, g4⟩ := Z90 (d := d) (b := false) (q := sgP P (gA c g)) hs hS h70 hm hsv
    have eq : sgP P (gA c g) = ((gA c g).1, P (gA c g).2.1, (gA c g).2.2) := by rw [sgP, if_neg h3]
    rw [eq] at g1
    have g1 : run sh (d + 2) 90 [mR o, mI ((gA c g).1 : Int), mI (P (gA c g).2.1 : Int), mI (gA c g).2.2, mI 0] σ = some (none, σ2) := g1
    simp (disch := first | assumption | omega | (simp (disch := omega) only [wN, w0, w1]; omega)) only [e89_0, e89_1, e89_4, e89_7, e89_8, e89_9, e89_10, e89_13, e89_14, e89_15, e89_16, e89_19, e89_22, e89_23, e89_26, e89_29, e89_30, e89_33, e89_34, e89_35, e89_38, e89_39, e89_42, e89_43, e89_44, e89_45, e89_48, e89_49, e89_52, e89_55, e89_56, e89_57, e89_60, e89_63, e89_64, e89_65, e89_68, kl_I, kl_R, kl_N, kl_L, oSm, oNn, Option.bind_some, wN, if_pos, if_neg, nS, tN, t0, w0, w1, w2, w3, w4, w5, wm1, upA_ne, upA_same, if_true, if_false, Bool.false_eq_true, q89, r0, c0, c2, e48, e50, h3, e46, e47, e77, g1]
    refine End.of rfl ⟨rfl, g3, ?_, g4.w (by omega) (by omega)⟩
    exact hw.fr g4 (by omega)
end ROA

