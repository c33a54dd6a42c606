/-! ===== the law: shorter, whole ===== -/
section PF9
variable {ρ n : Nat} {d : Nat}
theorem B171 {sh : Shp} {kk : Nat} {σ : Mem} {a : AX} (hI : LI (sh, σ, kk) a) (hn : a.1.1 = n) (r9 : 124 ≤ ρ) (rs : ρ < sh.1) (kρ : skd sh ρ = 0) (lρ : sln sh ρ = 1) (hN : sh.1 + 40 < 1000000) : PE (prun (d + 7) 171 [mR 0, mR ρ, mI (n : Int)] (sh, σ, kk)) (fun r S' => r = some (mI 1) ∧ (∃ a', LI S' a' ∧ a'.2.2 = a.2.2) ∧ Ex sh S'.1 ∧ S'.1.1 ≤ sh.1 + 40 ∧ S'.2.2 ≤ kk + 51200 ∧ ∀ b, 124 ≤ b → b < sh.1 → b ≠ ρ → S'.2.1.1 b = σ.1 b ∧ S'.2.1.2 b = σ.2 b) := by
  obtain ⟨hv, n4, n1, c30⟩ := hI.ok
  have hn9 := hI.n.1
  replace hn9 : 124 ≤ sh.1 := hn9
  rw [hn] at hv n4
  replace c30 : a.1.2.1.length ≤ 30 := c30
  obtain ⟨σ1, e1, L1, f1, v1⟩ := B171a (d := d) (ρ := ρ) hI hn rfl r9 rs (by omega)
  have hR : alR a (2 ^ n) 0 0 = alR ((a.1, some a.1, a.2.2) : AX) (2 ^ n) 0 0 := (alR_eq (a := a) (a' := (a.1, some a.1, a.2.2)) rfl (fun _ _ => rfl)).symm
  obtain ⟨sh2, σ2, kk2, a2, w, e2, L2, n2, c2, K2, f2, x2, b2, k2, R2, E2⟩ := B171b (d := d) (ρ := ρ) (D := sh.1) (lf := (saS a.1.2.1).length) (dp := mxx (enS false (fun _ => 1) (saS a.1.2.1)) (saS a.1.2.1).length) (my := a.1.2.1.length) (S := a.1) (ck := a.1.2.1) (R0 := alR a (2 ^ n) 0 0) n4 hn rfl r9 hn9 30 (pgS sh 3 1280) σ1 (kk + 1280) (a.1, some a.1, a.2.2) a.1.2.1 1 none L1 hn rfl c30 rfl (fun _ _ => rfl) rfl pgS_k pgS_l pgS_w (by show ρ < sh.1 + 1; omega) v1 hR (by show sh.1 + 1 + 30 < 1000000; omega) (by omega) (by omega)
  replace b2 : sh2.1 ≤ sh.1 + 1 + 30 + 1 := b2
  have x1 : Ex sh (pgS sh 3 1280) := Ex.gr (by omega)
  have wD : sh.1 < sh2.1 := Nat.lt_of_lt_of_le pgS_w x2.1
  have v2 : σ2.2 sh.1 = alR a (2 ^ n) 0 0 := (f2 sh.1 hn9 pgS_w).2.trans v1
  have y12 : Ex sh sh2 := x1.tr x2
  obtain ⟨σ3, a3, e3, L3, n3, c3, K3, f3⟩ := B171c (d := d) (ρ := ρ) (D := sh.1) (w := w) n4 hn rfl hv c30 r9 hn9 L2 n2 c2 (congrArg Prod.fst K2) E2 ((x2.k pgS_w).trans pgS_k) ((x2.l pgS_w).trans pgS_l) wD (Nat.lt_of_lt_of_le rs y12.1) v2 R2 (by omega)
  have x3 : Ex sh2 (pgS sh2 3 1280) := Ex.gr (by omega)
  have y13 := y12.tr x3
  have wD3 : sh.1 < (pgS sh2 3 1280).1 := Nat.lt_of_lt_of_le wD x3.1
  have wρ3 : ρ < (pgS sh2 3 1280).1 := Nat.lt_of_lt_of_le rs y13.1
  obtain ⟨σ4, a4, w4, v10, e4, L4, n4', K4, hv10, f4⟩ := B171d (d := d) (ρ := ρ) (D := sh.1) (lf := (saS a.1.2.1).length) (dp := mxx (enS false (fun _ => 1) (saS a.1.2.1)) (saS a.1.2.1).length) (my := a.1.2.1.length) (w := w) n4 hn rfl r9 (by omega) L3 n3 c3 rfl (congrArg Prod.fst (K3.trans K2)) E2 ((y13.k rs).trans kρ) ((y13.l rs).trans lρ) wD3 wρ3
  have B := B171e (d := d) (ρ := ρ) (D := sh.1) (lf := (saS a.1.2.1).length) (dp := mxx (enS false (fun _ => 1) (saS a.1.2.1)) (saS a.1.2.1).length) (my := a.1.2.1.length) (w := w4) n4 r9 (by omega) L4 n4' hv10 ((y13.k rs).trans kρ) ((y13.l rs).trans lρ) wD3 wρ3
  have E := e1.trans (e2.trans (e3.trans e4))
  rw [E]
  refine B.imp fun r S' h => ?_
  obtain ⟨h1, h2, h3, h4, h5⟩ := h
  replace h3 : S'.2.2 = kk2 + 1280 := h3
  obtain ⟨a', L5, q5⟩ := h4
  have K9 : a4.2 = (some a.1, a.2.2) := K4.trans (K3.trans K2)
  refine ⟨h1, ⟨a', L5, q5.trans (by rw [K9])⟩, by rw [h2]; exact y13, by rw [h2]; show sh2.1 + 1 ≤ _; omega, by rw [h3]; omega, fun b b1 bs b3 => ?_⟩
  have g1 := f1 b b1 (by omega)
  have g2 := f2 b b1 (by show b < sh.1 + 1; omega)
  have g3 := f3 b b1 (Nat.lt_of_lt_of_le bs y12.1)
  have g4 := f4 b b1 b3
  have g5 := h5 b b1 b3
  exact ⟨(((g5.1.trans g4.1).trans g3.1).trans g2.1).trans g1.1, (((g5.2.trans g4.2).trans g3.2).trans g2.2).trans g1.2⟩
end PF9

