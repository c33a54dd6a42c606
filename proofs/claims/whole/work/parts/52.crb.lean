/-! ===== Course: begun ===== -/
section CRB
variable {sh : Shp} {d k n m s ly cap : Nat} {σ : Mem} {c : List Gt} {E : List Ed} {A P : Nat → Nat} {x : Int} {lo : Bool} {D : Nat} {P0 : Nat → Nat}
theorem U27 (hs : crS sh k) (hK : HKs σ k c m E A) (hn : n ≤ 4) (hly : lyS sh ly) (hap : ly + 2 < k ∨ k + 20 < ly) (hL : HL σ ly n P) : End (run sh (d + 2) 27 [mR k, mR ly] σ) (fun r σ' => r = none ∧ HKs σ' k c m E A ∧ HKm σ' k n P 0 ∧ frI k (k + 19) σ σ') := by
  obtain ⟨ho, r0, r1, r2, r3, hgl, hB, hL1, k1, l1, hw⟩ := id hs
  have hlo := hL1.1
  obtain ⟨r, σ1, f1, rfl, f3, f4⟩ := Y76 (d := d) hL1 hly (by omega) hn hL
  simp (disch := first | assumption | omega | (simp (disch := omega) only [wN, w0, w1]; omega)) only [e27_0, e27_1, e27_4, e27_5, e27_8, e27_9, e27_10, e27_13, kl_I, kl_R, kl_N, kl_L, oSm, oNn, Option.bind_some, wN, if_pos, if_neg, nS, tN, t0, w0, w1, w2, w3, w4, w5, wm1, upA_ne, upA_same, if_true, if_false, Bool.false_eq_true, q27, r2, f1]
  refine End.of rfl ⟨rfl, (hK.fr f4 (by omega)).fr (frI.up (x := k) (y := k) (by omega)) (by omega), ⟨f3.fr (frI.up (x := k) (y := k) (by omega)) (by omega), ?_⟩, (f4.w (by omega) (by omega)).tr (frI.up (by omega))⟩
  show upA _ _ _ _ _ = _
  rw [upA_same, up1_same]; rfl
theorem U26 (hs : crS sh k) (hst : stS sh s cap) (hap : s + 19 < k ∨ k + 20 < s) (hS : HS σ s n c m E P x) (hk : okK n m c E) (hcap : c.length ≤ cap) (hcap2 : cap ≤ 100) : End (run sh (d + 5) 26 [mR k, mR s, mI (bi lo)] σ) (fun r σ' => r = none ∧ HKs σ' k c m E (ahS lo c) ∧ HKm σ' k n P 0 ∧ frI k (k + 20) σ σ') := by
  obtain ⟨ho, r0, r1, r2, r3, hgl, hB, hL1, k1, l1, hw⟩ := id hs
  obtain ⟨ho2, s1, s2, s3, hg2, hB2, hL2⟩ := id hst
  obtain ⟨hn, hm, hE, h30, hv, hvE⟩ := id hk
  have hgo := hgl.1
  have hgo2 := hg2.1
  have hbo := hB.1
  obtain ⟨a1, a2, a3, a4, a5, a6⟩ := hS
  obtain ⟨r, σ1, f1, rfl, f3, f4⟩ := L53 (d := d + 2) hgl hg2 (by omega) a2 h30 hcap (by omega) hcap2 (show n ≤ 5 by omega) hv
  have g1 : frI (k + 1) (k + 5) σ σ1 := frI.w (x := k + 1) (y := k + 1 + 4) f4 (by omega) (by omega)
  obtain ⟨r, σ2, h1, rfl, h3, h4, h5⟩ := M8w (d := d + 1) hB hB2 (by omega) (a3.fr g1 (by omega)) (a4.fr g1 (by omega)) hE hm hvE
  have g2 : frI (k + 1) (k + 16) σ σ2 := (g1.w (by omega) (by omega)).tr (h5.w (by omega) (by omega))
  have hG2 : HG σ2 (k + 1) c := f3.frI h5 (by omega)
  have e62 := L62 (d := d) (lo := lo) (a := k + 20) hgl hG2 h30 (by omega) hv (by omega) (by omega) (by omega) k1 (by omega) (by omega) hw
  have g3 : frI (k + 20) (k + 20) σ2 (upA σ2.1 (k + 20) (ahM lo c (σ2.1 (k + 20)) c.length), σ2.2) := frI.up (by omega)
  have hK : HKs (upA σ2.1 (k + 20) (ahM lo c (σ2.1 (k + 20)) c.length), σ2.2) k c m E (ahS lo c) := by
    refine ⟨hG2.frI g3 (by omega), h3.fr g3 (by omega), h4.fr g3 (by omega), fun g hg => ⟨?_, ahS_lt lo c g⟩⟩
    show upA _ _ _ _ _ = _
    rw [upA_same, ahM, if_pos hg]
  have hLs : HL (upA σ2.1 (k + 20) (ahM lo c (σ2.1 (k + 20)) c.length), σ2.2) (s + 17) n P := (a5.fr g2 (by omega)).fr g3 (by omega)
  obtain ⟨r, σ4, b1, rfl, b3, b4, b5⟩ := U27 (d := d + 2) hs hK hn hL2 (by omega) hLs
  simp (disch := first | assumption | omega | (simp (disch := omega) only [wN, w0, w1]; omega)) only [e26_0, e26_1, e26_4, e26_5, e26_8, e26_11, e26_12, e26_15, e26_16, e26_19, e26_22, e26_23, e26_26, e26_27, e26_28, e26_31, e26_34, e26_35, e26_36, e26_39, e26_42, kl_I, kl_R, kl_N, kl_L, oSm, oNn, Option.bind_some, wN, if_pos, if_neg, nS, tN, t0, w0, w1, w2, w3, w4, w5, wm1, upA_ne, upA_same, if_true, if_false, Bool.false_eq_true, q26, r0, r1, r3, s1, s2, s3, f1, h1, e62, b1]
  exact End.of rfl ⟨rfl, b3, b4, ((g2.w (by omega) (by omega)).tr (g3.w (by omega) (by omega))).tr (b5.w (by omega) (by omega))⟩
end CRB

