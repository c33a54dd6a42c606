/-! ===== Tape: a board, bytes written ===== -/
section TPB
variable {sh : Shp} {d t g cap s n i b m : Nat} {σ : Mem} {B : Nat → Nat} {c : List Gt} {E : List Ed}
def poE (B : Nat → Nat) (s m i b : Nat) (E : List Ed) (σ : Mem) (r : Option MV) (σ' : Mem) : Prop := r = some (mI (rdE B s m i E).1) ∧ HB σ' b m (rdE B s m i E).2 ∧ okE m (rdE B s m i E).2 ∧ (rdE B s m i E).2.length ≤ 10 ∧ (rdE B s m i E).1 ≤ 0 ∧ -8000 < (rdE B s m i E).1 ∧ frI b (b + 2) σ σ'
theorem okE.app {q : Ed} (h : okE m E) (hq : q.1 < q.2 ∧ q.2 < m) : okE m (E ++ [q]) := by
  intro x hx
  rcases List.mem_append.mp hx with h1 | h1
  · exact h x h1
  · rw [List.mem_singleton.mp h1]; exact hq
/-- the byte of z above 8 k bits -/
def bzN (z : Int) (k : Nat) : Nat := (xand (xshr z ((8 * k : Nat) : Int)) 255).toNat
theorem xand_255 (x : Int) : ∃ n : Nat, n < 256 ∧ xand x 255 = (n : Int) := by
  have h : ((Int32.ofInt x).toBitVec &&& 255#32).toNat < 256 := by
    rw [BitVec.toNat_and]
    exact Nat.lt_of_le_of_lt Nat.and_le_right (by decide)
  refine ⟨((Int32.ofInt x).toBitVec &&& 255#32).toNat, h, ?_⟩
  show ((Int32.ofInt x).toBitVec &&& 255#32).toInt = _
  rw [BitVec.toInt_eq_toNat_of_lt (by omega)]
theorem bzN_r (z : Int) (k : Nat) : bzN z k < 256 ∧ xand (xshr z ((8 * k : Nat) : Int)) 255 = (bzN z k : Int) := by
  obtain ⟨n, h1, h2⟩ := xand_255 (xshr z ((8 * k : Nat) : Int))
  unfold bzN
  rw [h2, tN]
  exact ⟨h1, rfl⟩
/-- i of the four bytes of z come behind s of them -/
def bzi (B : Nat → Nat) (s : Nat) (z : Int) (i : Nat) : Nat → Nat := fun j => if s ≤ j ∧ j < s + i then bzN z (3 - (j - s)) else B j
theorem bzi_s {B : Nat → Nat} {s i j : Nat} {z : Int} : bzi B s z (i + 1) j = if j = s + i then bzN z (3 - i) else bzi B s z i j := by
  unfold bzi
  by_cases e : j = s + i
  · subst e; rw [if_pos (by omega), if_pos rfl, show s + i - s = i by omega]
  · rw [if_neg e]
    by_cases h : s ≤ j ∧ j < s + i
    · rw [if_pos (by omega), if_pos h]
    · rw [if_neg (by omega), if_neg h]
theorem bzi_0 {B : Nat → Nat} {s : Nat} {z : Int} : bzi B s z 0 = B := funext fun j => by unfold bzi; rw [if_neg (by omega)]
theorem T105 (hs : tpS sh t) (hP : HP σ t B s) (h1 : s + 4 ≤ 140) {z : Int} : End (run sh (d + 1) 105 [mR t, mI z] σ) (fun r σ' => r = none ∧ HP σ' t (bzi B s z 4) (s + 4) ∧ frI t (t + 1) σ σ') := by
  obtain ⟨ho, r0, k1, l1, hw⟩ := id hs
  have w140 : wi ((140 : Nat) : Int) = 140 := rfl
  have L := for_P (4) (fun i => ∀ (σ1 : Mem), (HP σ1 t (bzi B s z i) (s + i) ∧ frI t (t + 1) σ σ1) → End (ev sh (d + 1) 105 3 [some (mR (t)), some (mI (z)), some (mI (24 - 8 * (i : Int)))] [] σ1) (fun r σ' => r = none ∧ HP σ' t (bzi B s z 4) (s + 4) ∧ frI t (t + 1) σ σ')) (by
    intro σ1  hp
    replace hp : HP σ1 t (bzi B s z (4)) (s + (4)) ∧ frI t (t + 1) σ σ1 := hp
    show End (ev sh (d + 1) 105 3 [some (mR (t)), some (mI (z)), some (mI (24 - 8 * ((4) : Int)))] [] σ1) (fun r σ' => r = none ∧ HP σ' t (bzi B s z 4) (s + 4) ∧ frI t (t + 1) σ σ')
    have wm : wi (24 - 8 * ((4 : Nat) : Int)) = -8 := rfl
    rw [e105_3]
    simp (disch := first | assumption | omega | (simp (disch := omega) only [wN, w0, w1]; omega)) only [e105_0, e105_2, e105_4, e105_7, e105_8, e105_11, e105_12, e105_15, e105_16, e105_17, e105_18, e105_21, e105_22, e105_25, e105_26I, e105_26R, e105_27, e105_30, e105_31, e105_32, e105_35, e105_38, e105_41, kl_I, kl_R, kl_N, kl_L, oSm, oNn, Option.bind_some, wN, if_pos, if_neg, nS, tN, t0, w0, w1, w2, w3, w4, w5, wm1, upA_ne, upA_same, if_true, if_false, Bool.false_eq_true, wm]
    exact End.of rfl ⟨rfl, hp⟩) (fun i hi ih => by
    replace ih : ∀ (σ1 : Mem), (HP σ1 t (bzi B s z (i + 1)) (s + (i + 1)) ∧ frI t (t + 1) σ σ1) → End (ev sh (d + 1) 105 3 [some (mR (t)), some (mI (z)), some (mI (24 - 8 * ((i + 1) : Int)))] [] σ1) (fun r σ' => r = none ∧ HP σ' t (bzi B s z 4) (s + 4) ∧ frI t (t + 1) σ σ') := ih
    intro σ1  hp
    replace hp : HP σ1 t (bzi B s z i) (s + i) ∧ frI t (t + 1) σ σ1 := hp
    show End (ev sh (d + 1) 105 3 [some (mR (t)), some (mI (z)), some (mI (24 - 8 * (i : Int)))] [] σ1) (fun r σ' => r = none ∧ HP σ' t (bzi B s z 4) (s + 4) ∧ frI t (t + 1) σ σ')
    have hl := hp.1.1
    have wm : wi (24 - 8 * (i : Int)) = 24 - 8 * (i : Int) := wi_id (by omega) (by omega)
    have wl' : wi ((s + i : Nat) : Int) = ((s + i : Nat) : Int) := wN (by omega)
    have bb := bzN_r z (3 - i)
    have b3 : xand (xshr z (24 - 8 * (i : Int))) 255 = (bzN z (3 - i) : Int) := by
      rw [← bb.2, show ((8 * (3 - i) : Nat) : Int) = 24 - 8 * (i : Int) by omega]
    have a1 : 24 - 8 * (i : Int) + -8 = 24 - 8 * ((i + 1 : Nat) : Int) := by omega
    rw [e105_3]
    simp (disch := first | assumption | omega | (simp (disch := omega) only [wN, w0, w1]; omega)) only [e105_0, e105_2, e105_4, e105_7, e105_8, e105_11, e105_12, e105_15, e105_16, e105_17, e105_18, e105_21, e105_22, e105_25, e105_26I, e105_26R, e105_27, e105_30, e105_31, e105_32, e105_35, e105_38, e105_41, kl_I, kl_R, kl_N, kl_L, oSm, oNn, Option.bind_some, wN, if_pos, if_neg, nS, tN, t0, w0, w1, w2, w3, w4, w5, wm1, upA_ne, upA_same, if_true, if_false, Bool.false_eq_true, hl, r0, K289n k1 l1 (by omega) hw (show s + i < 140 by omega), wm, a1, b3, up1_same, up1_ne, upA_upA]
    refine ih _ ⟨⟨?_, fun j hj => ?_⟩, hp.2.tr ⟨fun a ha => ?_, rfl⟩⟩
    · simp (disch := omega) only [upA_same, upA_ne, up1_same]
      rfl
    · have h0 := hp.1.2 j hj
      simp (disch := omega) only [upA_same, upA_ne]
      rw [bzi_s]
      by_cases e0 : j = s + i
      · subst e0
        rw [up1_same, if_pos rfl]
        exact ⟨rfl, bb.1⟩
      · rw [up1_ne e0, if_neg e0]
        exact h0
    · simp (disch := omega) only [upA_ne]) 0 (Nat.zero_le _)
  simp (disch := first | assumption | omega | (simp (disch := omega) only [wN, w0, w1]; omega)) only [e105_0, e105_2, e105_4, e105_7, e105_8, e105_11, e105_12, e105_15, e105_16, e105_17, e105_18, e105_21, e105_22, e105_25, e105_26I, e105_26R, e105_27, e105_30, e105_31, e105_32, e105_35, e105_38, e105_41, kl_I, kl_R, kl_N, kl_L, oSm, oNn, Option.bind_some, wN, if_pos, if_neg, nS, tN, t0, w0, w1, w2, w3, w4, w5, wm1, upA_ne, upA_same, if_true, if_false, Bool.false_eq_true, q105]
  exact L σ ⟨by rw [bzi_0]; exact hP, frI.rf⟩
end TPB
