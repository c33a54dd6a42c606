/-! ===== State ===== -/
theorem HG.frI {x y g : Nat} {σ σ' : Mem} {c : List Gt} (h : HG σ g c) (hf : frI x y σ σ') (ho : g + 4 < x ∨ y < g) : HG σ' g c := by
  obtain ⟨h1, h2⟩ := h
  refine ⟨by rw [hf.1 _ (by omega)]; exact h1, fun j hj => ?_⟩
  rw [hf.1 _ (by omega), hf.1 _ (by omega), hf.1 _ (by omega), hf.1 _ (by omega)]
  exact h2 j hj
/-- a state at s: its gates at s + 1, its board at s + 8, its layout at s + 17 -/
def stS (sh : Shp) (s cap : Nat) : Prop := ob sh 8 5 s ∧ srf sh s 1 = s + 1 ∧ srf sh s 2 = s + 8 ∧ srf sh s 3 = s + 17 ∧ glS sh (s + 1) cap ∧ bdS sh (s + 8) ∧ lyS sh (s + 17)
/-- n lines, gates c, a board of m places and edges E, lines at P, the number drawn last -/
def HS (σ : Mem) (s n : Nat) (c : List Gt) (m : Nat) (E : List Ed) (P : Nat → Nat) (x : Int) : Prop := σ.1 s 0 = (n : Int) ∧ HG σ (s + 1) c ∧ HB σ (s + 8) m E ∧ HW σ (s + 8) m (farE E) ∧ HL σ (s + 17) n P ∧ σ.1 s 4 = x
section STA
variable {sh : Shp} {d s o n m cap cap2 : Nat} {σ : Mem} {c : List Gt} {E : List Ed} {P : Nat → Nat} {x : Int}
theorem S102 (hs : stS sh s cap) (hs2 : stS sh o cap2) (hap : o + 19 < s ∨ s + 19 < o) (hS : HS σ o n c m E P x) (hn : n ≤ 4) (hc : c.length ≤ cap) (hc2 : c.length ≤ cap2) (hb : cap ≤ 100) (hb2 : cap2 ≤ 100) (hv : okC n c) (hE : E.length ≤ 10) (hm : m ≤ 5) (hvE : okE m E) : End (run sh (d + 4) 102 [mR s, mR o] σ) (fun r σ' => r = none ∧ HS σ' s n c m E P x ∧ frI s (s + 19) σ σ') := by
  obtain ⟨ho, r1, r2, r3, hg, hB, hL⟩ := id hs
  obtain ⟨ho2, q1', q2', q3', hg2, hB2, hL2⟩ := id hs2
  have hgo := hg.1
  have hbo := hB.1
  have hlo := hL.1
  obtain ⟨h0, h1, h2, h3, h4, h5⟩ := hS
  have f0 : frI s (s + 19) σ (upA σ.1 s (up1 (σ.1 s) 0 (n : Int)), σ.2) := frI.up (by omega)
  obtain ⟨a1, σ1, g1, rfl, g3, g4⟩ := L53 (d := d + 1) hg hg2 (by omega) (h1.frI f0 (by omega)) hc hc2 hb hb2 (by omega) hv
  have f1 : frI s (s + 19) σ σ1 := f0.tr (frI.w (x := s + 1) (y := s + 1 + 4) g4 (by omega) (by omega))
  obtain ⟨a2, σ2, k1, rfl, k3, k4, k5⟩ := M8w (d := d) hB hB2 (by omega) (h2.fr f1 (by omega)) (h3.fr f1 (by omega)) hE hm hvE
  have f2 : frI s (s + 19) σ σ2 := f1.tr (k5.w (by omega) (by omega))
  obtain ⟨a3, σ3, p1, rfl, p3, p4⟩ := Y76 (d := d + 2) hL hL2 (by omega) hn (h4.fr f2 (by omega))
  have f3 : frI s (s + 19) σ σ3 := f2.tr (p4.w (by omega) (by omega))
  have x4 : σ3.1 o 4 = x := by rw [f3.1 o (by omega)]; exact h5
  simp (disch := first | assumption | omega | (simp (disch := omega) only [wN, w0, w1]; omega)) only [e102_0, e102_1, e102_2, e102_5, e102_8, e102_9, e102_12, e102_13, e102_16, e102_19, e102_20, e102_23, e102_24, e102_27, e102_30, e102_31, e102_34, e102_35, e102_38, e102_41, e102_42, e102_43, e102_46, e102_49, kl_I, kl_R, kl_N, kl_L, oSm, oNn, Option.bind_some, wN, if_pos, if_neg, nS, tN, t0, w0, w1, w2, w3, w4, w5, wm1, upA_ne, upA_same, if_true, if_false, q102, h0, r1, r2, r3, q1', q2', q3', g1, k1, p1, x4]
  have f4 : frI s s σ3 (upA σ3.1 s (up1 (σ3.1 s) 4 x), σ3.2) := frI.up (by omega)
  refine End.of rfl ⟨rfl, ⟨?_, ?_, ?_, ?_, ?_, ?_⟩, f3.tr (f4.w (by omega) (by omega))⟩
  · show upA _ _ _ _ _ = _
    rw [upA_same, up1_ne (by omega), p4.1 s (by omega), k5.1 s (by omega), g4.1 s (by omega)]
    show upA _ _ _ _ _ = _
    rw [upA_same, up1_same]
  · exact ((g3.frI k5 (by omega)).frI p4 (by omega)).frI f4 (by omega)
  · exact (k3.fr p4 (by omega)).fr f4 (by omega)
  · exact (k4.fr p4 (by omega)).fr f4 (by omega)
  · exact p3.fr f4 (by omega)
  · show upA _ _ _ _ _ = _
    rw [upA_same, up1_same]
end STA
