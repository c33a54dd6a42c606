/-! ===== the reference: fewestOf ===== -/
/-- the first of the layouts below k by which all can be done with l swaps -/
def qL (n : Nat) (c : List Gt) (E : List Ed) (lo : Bool) (l N : Nat) : Bool := caB (farE E) c E (ahS lo c) l (pOf n N) 0
theorem fAl_no {n m : Nat} {c : List Gt} {E : List Ed} {lo : Bool} {l : Nat} (h1 : 1 ≤ n) (hn : n ≤ 4) (hm : m ≤ 5) (h : ∀ N, N < 10 ^ n → rwV n m N = true → qL n c E lo l N = false) : fAl n m c E lo l = none := by
  unfold fAl
  refine fst1_no fun y _ hy => ?_
  have hy2 : y < (rwL n m).length := by omega
  have e : (rwL n m).getD y 0 = (rwL n m)[y] := by simp [List.getD, hy2]
  have hm' := List.getElem_mem hy2
  rw [← e, ← vT_rw h1 hn hm] at hm'
  have hlt := vT_lt m _ _ hm'
  have hv : ∀ k x, x ∈ vT n m k → rwV n m x = true := by
    intro k
    induction k with
    | zero => intro x hx; cases hx
    | succ k ih =>
      intro x hx
      rw [vT] at hx
      split at hx
      · rename_i g
        rw [List.mem_append, List.mem_singleton] at hx
        rcases hx with q | q
        · exact ih x q
        · rw [q]; exact g
      · exact ih x hx
  rw [vT_rw h1 hn hm] at hlt hm'
  exact h _ hlt (hv _ _ (by rw [vT_rw h1 hn hm]; exact hm'))
theorem fAl_at {n m : Nat} {c : List Gt} {E : List Ed} {lo : Bool} {l k : Nat} (h1 : 1 ≤ n) (hn : n ≤ 4) (hm : m ≤ 5) (hk : k < 10 ^ n) (h : ∀ N, N < k → rwV n m N = true → qL n c E lo l N = false) (hv : rwV n m k = true) (hq : qL n c E lo l k = true) : ∃ i, fAl n m c E lo l = some i ∧ (rwL n m).getD i 0 = k := by
  obtain ⟨R, hR⟩ := vT_pre (n := n) (m := m) (k := k + 1) (10 ^ n - (k + 1))
  rw [show k + 1 + (10 ^ n - (k + 1)) = 10 ^ n by omega, vT_rw h1 hn hm, vT, if_pos hv, List.append_assoc] at hR
  have hvv : ∀ k x, x ∈ vT n m k → rwV n m x = true := by
    intro k
    induction k with
    | zero => intro x hx; cases hx
    | succ k ih =>
      intro x hx
      rw [vT] at hx
      split at hx
      · rename_i g
        rw [List.mem_append, List.mem_singleton] at hx
        rcases hx with q | q
        · exact ih x q
        · rw [q]; exact g
      · exact ih x hx
  have e0 : (rwL n m).getD (vT n m k).length 0 = k := by
    rw [hR]
    simp [List.getD]
  refine ⟨(vT n m k).length, ?_, e0⟩
  unfold fAl
  refine fst1_at (by omega) ?_ (fun y _ hy => ?_) ?_
  · rw [hR]
    simp only [List.length_append, List.length_cons, List.length_nil]
    omega
  · have e : (rwL n m).getD y 0 = (vT n m k)[y] := by
      rw [hR]
      simp [List.getD, List.getElem?_append_left hy, hy]
    have hm' := List.getElem_mem hy
    show qL n c E lo l ((rwL n m).getD y 0) = false
    rw [e]
    exact h _ (vT_lt m _ _ hm') (hvv _ _ hm')
  · show qL n c E lo l ((rwL n m).getD (vT n m k).length 0) = true
    rw [e0]; exact hq
section OJ
variable {sh : Shp} {d m n : Nat} {σ : Mem} {E : List Ed} {a : AX} {z w : Int} {c : List Gt} {P A : Nat → Nat} {lo te : Bool}
theorem M271 (hM : MS sh) (h : InvM sh σ a) (hmn : ¬ a.1.2.2.1 < a.1.1) : End (run sh (d + 7) 271 [mR 124, mI (bi lo), mI (bi te)] σ) (fun r σ' => r = some (mI (fwA a lo te)) ∧ InvM sh σ' a) := by
  have hI := h
  have mo := hM.1
  have m160 := hM.2.1
  obtain ⟨ra40, rk40, rl40⟩ := ms40 hM
  obtain ⟨⟨n, c, m, E, P, x⟩, K, B, s, T⟩ := a
  obtain ⟨⟨hG, hN, hMp, hEl, hx0, hE, hP, hoS⟩, hik, hKp, hTp, h140, hTm⟩ := id h
  replace hG : HGm σ 0 c := hG
  replace hN : σ.1 124 8 = (n : Int) := hN
  replace hMp : σ.1 124 9 = (m : Int) := hMp
  replace hEl : σ.1 124 10 = (E.length : Int) := hEl
  replace hx0 : σ.1 124 11 = (x : Int) := hx0
  replace hE : HEm σ 127 128 E := hE
  replace hP : ∀ y, y < n → σ.1 129 y = (P y : Int) := hP
  replace hoS : okZ n c m E P x := hoS
  replace hTp : HPm σ B s := hTp
  replace h140 : s ≤ 140 := h140
  replace hTm : HT sh σ 157 T := hTm
  replace hik : σ.1 124 16 = bi K.isSome := hik
  obtain ⟨n1, n4', c30, hv, m2, m5, E10, hvE, hPk, x16⟩ := id hoS
  obtain ⟨r, σ1, a1, rfl, a2, a3⟩ := M244 (d := d + 2) (lo := lo) hM hG c30 hv hN n4' hMp hEl hE hvE m5 E10
  have hI1 := hI.W a3 (by omega) (by omega) (by omega)
  have hN1 : σ1.1 124 8 = (n : Int) := a2.2.2.2.2.2
  have hMp1 : σ1.1 124 9 = (m : Int) := by rw [a3.2 9 (by omega)]; exact hMp
  have pw : ∀ i, i ≤ 4 → 10 ^ i ≤ 10000 := fun i hi => by
    have : 10 ^ i ≤ 10 ^ 4 := Nat.pow_le_pow_right (by omega) hi
    omega
  have w6' : wi 6 = 6 := rfl
  have w7' : wi 7 = 7 := rfl
  have Mo := for_up (fun i => ev sh (d + 7) 271 10 [some (mR (124)), some (mI (bi lo)), some (mI (bi te)), some (mI ((10 ^ i : Nat) : Int)), some (mI ((i : Nat) : Int)), none] [] (σ1)) (n) (fun i hi => by
    show ev sh (d + 7) 271 10 [some (mR (124)), some (mI (bi lo)), some (mI (bi te)), some (mI ((10 ^ i : Nat) : Int)), some (mI ((i : Nat) : Int)), none] [] (σ1) = ev sh (d + 7) 271 10 [some (mR (124)), some (mI (bi lo)), some (mI (bi te)), some (mI ((10 ^ (i + 1) : Nat) : Int)), some (mI (((i + 1) : Nat) : Int)), none] [] (σ1)
    have p := pw i (by omega)
    have e : ((10 ^ i : Nat) : Int) * 10 = ((10 ^ (i + 1) : Nat) : Int) := by rw [Nat.pow_succ, Int.natCast_mul]; rfl
    rw [e271_10]
    simp (disch := first | assumption | omega | (simp (disch := omega) only [wN, w0, w1]; omega)) only [e271_0, e271_1, e271_2, e271_5, e271_6, e271_7, e271_8, e271_12, e271_13, e271_16, e271_19, e271_20, e271_22, e271_23, e271_24, e271_27, e271_30, e271_31, e271_35, e271_37, e271_40, e271_41, e271_45, e271_46, e271_49, e271_50, e271_52, e271_55, e271_58, e271_59, e271_60, e271_63, e271_65, e271_68, e271_71, e271_72, e271_75, e271_77, e271_80, e271_82, e271_83, e271_86, e271_89, e271_92, e271_95, e271_97, kl_I, kl_R, kl_N, kl_L, oSm, oNn, Option.bind_some, wN, if_pos, if_neg, nS, tN, t0, w0, w1, w2, w3, w4, w5, wm1, upA_ne, upA_same, if_true, if_false, Bool.false_eq_true, hN1, e]) 0 (Nat.zero_le _)
  have pn := pw n (by omega)
  have hla : laI sh 146 := ⟨rk40, rl40⟩
  have wte : wi (bi te) = bi te := by cases te <;> rfl
  show End _ (fun r σ' => r = some (mI (opA (rwL n m) te (fAn n m c E lo 7 0))) ∧ InvM sh σ' ((n, c, m, E, P, x), K, B, s, T))
  have L := for_P (7) (fun i => ∀ (σ2 : Mem) (v5 : Option MV), (frW 146 146 1 0 σ1 σ2 ∨ True ∧ True) → End (ev sh (d + 7) 271 33 [some (mR (124)), some (mI (bi lo)), some (mI (bi te)), some (mI ((10 ^ n : Nat) : Int)), some (mI ((i : Nat) : Int)), v5] [] σ2) (fun r σ' => r = some (mI (opA (rwL n m) te (fAn n m c E lo 7 0))) ∧ InvM sh σ' ((n, c, m, E, P, x), K, B, s, T))) (by
    intro σ2 v5 hp
    replace hp : frW 146 146 1 0 σ1 σ2 ∨ True ∧ True := hp
    show End (ev sh (d + 7) 271 33 [some (mR (124)), some (mI (bi lo)), some (mI (bi te)), some (mI ((10 ^ n : Nat) : Int)), some (mI (((7) : Nat) : Int)), v5] [] σ2) (fun r σ' => r = some (mI (opA (rwL n m) te (fAn n m c E lo 7 0))) ∧ InvM sh σ' ((n, c, m, E, P, x), K, B, s, T))
    sorry) (fun i hi ih => by
    replace ih : ∀ (σ2 : Mem) (v5 : Option MV), (frW 146 146 1 0 σ1 σ2 ∨ True ∧ True) → End (ev sh (d + 7) 271 33 [some (mR (124)), some (mI (bi lo)), some (mI (bi te)), some (mI ((10 ^ n : Nat) : Int)), some (mI (((i + 1) : Nat) : Int)), v5] [] σ2) (fun r σ' => r = some (mI (opA (rwL n m) te (fAn n m c E lo 7 0))) ∧ InvM sh σ' ((n, c, m, E, P, x), K, B, s, T)) := ih
    intro σ2 v5 hp
    replace hp : frW 146 146 1 0 σ1 σ2 ∨ True ∧ True := hp
    show End (ev sh (d + 7) 271 33 [some (mR (124)), some (mI (bi lo)), some (mI (bi te)), some (mI ((10 ^ n : Nat) : Int)), some (mI ((i : Nat) : Int)), v5] [] σ2) (fun r σ' => r = some (mI (opA (rwL n m) te (fAn n m c E lo 7 0))) ∧ InvM sh σ' ((n, c, m, E, P, x), K, B, s, T))
    sorry) 0 (Nat.zero_le _)
  sorry
end OJ

