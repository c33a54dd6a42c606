/-! ===== Board: reads ===== -/
/-- a board at b -/
def bdS (sh : Shp) (b : Nat) : Prop := ob sh 0 5 b ∧ srf sh b 2 = b + 1 ∧ srf sh b 3 = b + 2 ∧ srf sh b 4 = b + 3 ∧ skd sh (b + 1) = 0 ∧ skd sh (b + 2) = 0 ∧ skd sh (b + 3) = 4 ∧ sln sh (b + 1) = 10 ∧ sln sh (b + 2) = 10 ∧ sln sh (b + 3) = 5 ∧ b + 8 < sh.1 ∧ ∀ p, p < 5 → srf sh (b + 3) p = b + 4 + p ∧ skd sh (b + 4 + p) = 0 ∧ sln sh (b + 4 + p) = 5
abbrev Ed : Type := Nat × Nat
def eA (E : List Ed) (j : Nat) : Ed := E.getD j (0, 0)
/-- edges of a board of m places: the lower place first -/
def okE (m : Nat) (E : List Ed) : Prop := ∀ q, q ∈ E → q.1 < q.2 ∧ q.2 < m
theorem okE.at {m : Nat} {E : List Ed} (h : okE m E) {j : Nat} (hj : j < E.length) : (eA E j).1 < (eA E j).2 ∧ (eA E j).2 < m := by
  have e : eA E j = E[j] := by simp [eA, hj]
  rw [e]
  exact h _ (List.getElem_mem hj)
def HB (σ : Mem) (b m : Nat) (E : List Ed) : Prop := σ.1 b 0 = (m : Int) ∧ σ.1 b 1 = (E.length : Int) ∧ ∀ j, j < E.length → σ.1 (b + 1) j = ((eA E j).1 : Int) ∧ σ.1 (b + 2) j = ((eA E j).2 : Int)
def HF (σ : Mem) (b : Nat) (F : Nat → Nat → Nat) : Prop := ∀ p, p < 5 → ∀ q, q < 5 → σ.1 (b + 4 + p) q = (F p q : Int) ∧ F p q ≤ 99
/-- the same of the places below m alone: what a board holds that was never measured -/
def HW (σ : Mem) (b m : Nat) (F : Nat → Nat → Nat) : Prop := ∃ G, HF σ b G ∧ ∀ p, p < m → ∀ q, q < m → G p q = F p q
theorem HF.W {σ : Mem} {b m : Nat} {F : Nat → Nat → Nat} (h : HF σ b F) : HW σ b m F := ⟨F, h, fun _ _ _ _ => rfl⟩
theorem HW.le {σ : Mem} {b m p q : Nat} {F : Nat → Nat → Nat} (h : HW σ b m F) (hm : m ≤ 5) (hp : p < m) (hq : q < m) : F p q ≤ 99 := by
  obtain ⟨G, h1, h2⟩ := h
  rw [← h2 p hp q hq]
  exact (h1 p (by omega) q (by omega)).2
section BDR
variable {sh : Shp} {d b m : Nat} {σ : Mem} {E : List Ed} {z w : Int} {j p q : Nat} {F : Nat → Nat → Nat}
theorem M2 (hs : bdS sh b) (hB : HB σ b m E) (hE : E.length ≤ 10) : run sh (d + 1) 2 [mR b, mI z] σ = some (some (mI (if 0 ≤ wi z ∧ wi z < E.length then 1 else 0)), σ) := by
  obtain ⟨ho, r2, r3, r4, k1, k2, k3, l1, l2, l3, hw, hf⟩ := id hs
  simp (disch := first | assumption | omega | (simp (disch := omega) only [wN, w0, w1]; omega)) only [e2_0, e2_1, e2_4, e2_5, e2_6, e2_9, e2_12, e2_13, e2_16, e2_17, kl_I, kl_R, kl_N, kl_L, oSm, oNn, Option.bind_some, wN, if_pos, if_neg, nS, tN, t0, w0, w1, w2, w3, w4, w5, wm1, upA_ne, upA_same, if_true, if_false, Bool.false_eq_true, q2, hB.2.1]
  repeat' split
  all_goals first | rfl | omega
theorem M3 (hs : bdS sh b) (hB : HB σ b m E) (hE : E.length ≤ 10) : run sh (d + 2) 3 [mR b, mI z] σ = some (some (mI (if 0 ≤ wi z ∧ wi z < E.length then (eA E (wi z).toNat).1 else -1)), σ) := by
  obtain ⟨ho, r2, r3, r4, k1, k2, k3, l1, l2, l3, hw, hf⟩ := id hs
  by_cases h : 0 ≤ wi z ∧ wi z < E.length
  · have := (hB.2.2 (wi z).toNat (by omega)).1
    simp (disch := first | assumption | omega | (simp (disch := omega) only [wN, w0, w1]; omega)) only [e3_0, e3_1, e3_2, e3_5, e3_8, e3_9, e3_12, e3_13, e3_16, e3_19, e3_20, kl_I, kl_R, kl_N, kl_L, oSm, oNn, Option.bind_some, wN, if_pos, if_neg, nS, tN, t0, w0, w1, w2, w3, w4, w5, wm1, upA_ne, upA_same, if_true, if_false, Bool.false_eq_true, q3, M2 hs hB hE, r2, K93 k1 l1 (by omega), this]
  · simp (disch := first | assumption | omega | (simp (disch := omega) only [wN, w0, w1]; omega)) only [e3_0, e3_1, e3_2, e3_5, e3_8, e3_9, e3_12, e3_13, e3_16, e3_19, e3_20, kl_I, kl_R, kl_N, kl_L, oSm, oNn, Option.bind_some, wN, if_pos, if_neg, nS, tN, t0, w0, w1, w2, w3, w4, w5, wm1, upA_ne, upA_same, if_true, if_false, Bool.false_eq_true, q3, M2 hs hB hE, r2]
theorem M4 (hs : bdS sh b) (hB : HB σ b m E) (hE : E.length ≤ 10) : run sh (d + 2) 4 [mR b, mI z] σ = some (some (mI (if 0 ≤ wi z ∧ wi z < E.length then (eA E (wi z).toNat).2 else -1)), σ) := by
  obtain ⟨ho, r2, r3, r4, k1, k2, k3, l1, l2, l3, hw, hf⟩ := id hs
  by_cases h : 0 ≤ wi z ∧ wi z < E.length
  · have := (hB.2.2 (wi z).toNat (by omega)).2
    simp (disch := first | assumption | omega | (simp (disch := omega) only [wN, w0, w1]; omega)) only [e4_0, e4_1, e4_2, e4_5, e4_8, e4_9, e4_12, e4_13, e4_16, e4_19, e4_20, kl_I, kl_R, kl_N, kl_L, oSm, oNn, Option.bind_some, wN, if_pos, if_neg, nS, tN, t0, w0, w1, w2, w3, w4, w5, wm1, upA_ne, upA_same, if_true, if_false, Bool.false_eq_true, q4, M2 hs hB hE, r3, K93 k2 l2 (by omega), this]
  · simp (disch := first | assumption | omega | (simp (disch := omega) only [wN, w0, w1]; omega)) only [e4_0, e4_1, e4_2, e4_5, e4_8, e4_9, e4_12, e4_13, e4_16, e4_19, e4_20, kl_I, kl_R, kl_N, kl_L, oSm, oNn, Option.bind_some, wN, if_pos, if_neg, nS, tN, t0, w0, w1, w2, w3, w4, w5, wm1, upA_ne, upA_same, if_true, if_false, Bool.false_eq_true, q4, M2 hs hB hE, r3]
theorem N3 (hs : bdS sh b) (hB : HB σ b m E) (hE : E.length ≤ 10) (hj : j < E.length) : run sh (d + 2) 3 [mR b, mI (j : Int)] σ = some (some (mI ((eA E j).1 : Int)), σ) := by
  rw [M3 hs hB hE, wN (by omega), if_pos (by omega), tN]
theorem N4 (hs : bdS sh b) (hB : HB σ b m E) (hE : E.length ≤ 10) (hj : j < E.length) : run sh (d + 2) 4 [mR b, mI (j : Int)] σ = some (some (mI ((eA E j).2 : Int)), σ) := by
  rw [M4 hs hB hE, wN (by omega), if_pos (by omega), tN]
/-- the greatest of the lower half -/
def grS (F : Nat → Nat → Nat) (m : Nat) : Nat := mxx (fun t => mxx (F t) t) m
def jn1 (E : List Ed) (p q j : Nat) : Bool := decide ((eA E j).1 = min p q ∧ (eA E j).2 = max p q)
/-- no edge from j on, k looked at, joins p and q -/
def njB (E : List Ed) (p q : Nat) : Nat → Nat → Bool := fa (fun t => !(jn1 E p q t))
theorem mxx_eq {f g : Nat → Nat} : ∀ n, (∀ x, x < n → f x = g x) → mxx f n = mxx g n
  | 0, _ => rfl
  | n + 1, h => by rw [mxx, mxx, mxx_eq n (fun x hx => h x (by omega)), h n (by omega)]
end BDR
