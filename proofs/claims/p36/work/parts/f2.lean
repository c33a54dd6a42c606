/-! ===== the law: calls that shorter makes ===== -/
theorem shS_nil : shS [] = (0, []) := rfl
theorem shS_lt (c : List Gt) : (shS c).1 < 3 := by
  unfold shS
  split
  · show 1 < 3; omega
  · split
    · unfold jnS
      split <;> (try split) <;> simp
    · show 0 < 3; omega
theorem shN_0 {c : List Gt} (h : (shS c).1 = 0) : ∀ k, shN k c = c
  | 0 => rfl
  | k + 1 => by rw [shN, if_pos h]
theorem shN_st {n : Nat} : ∀ (l : Nat) {c : List Gt}, okC n c → c.length ≤ l → ∀ k, c.length ≤ k → shN k c = saS c
  | 0, c, hv, hl, k, hk => by
    have : c = [] := List.length_eq_zero_iff.mp (by omega)
    subst this
    exact shN_0 rfl k
  | l + 1, c, hv, hl, k, hk => by
    by_cases h : (shS c).1 = 0
    · rw [saS, shN_0 h, shN_0 h]
    · obtain ⟨g1, g2⟩ := shS_ok hv
      obtain ⟨k', rfl⟩ : ∃ k', k = k' + 1 := ⟨k - 1, by omega⟩
      obtain ⟨m, hm⟩ : ∃ m, c.length = m + 1 := ⟨c.length - 1, by omega⟩
      rw [saS, hm, shN, if_neg h, shN, if_neg h, shN_st l g1 (by omega) k' (by omega), shN_st l g1 (by omega) m (by omega)]
theorem saS_st {n : Nat} {c : List Gt} (hv : okC n c) (h : (shS c).1 ≠ 0) : saS (shS c).2 = saS c := by
  obtain ⟨g1, g2⟩ := shS_ok hv
  obtain ⟨m, hm⟩ : ∃ m, c.length = m + 1 := ⟨c.length - 1, by omega⟩
  rw [← shN_st (c.length) g1 (by omega) m (by omega)]
  unfold saS
  rw [hm, shN, if_neg h]
theorem saS_fix {n : Nat} : ∀ (l : Nat) {c : List Gt}, okC n c → c.length ≤ l → (shS (saS c)).1 = 0
  | 0, c, hv, hl => by
    have : c = [] := List.length_eq_zero_iff.mp (by omega)
    subst this; rfl
  | l + 1, c, hv, hl => by
    by_cases h : (shS c).1 = 0
    · rw [saS, shN_0 h]; exact h
    · obtain ⟨g1, g2⟩ := shS_ok hv
      rw [← saS_st hv h]
      exact saS_fix l g1 (by omega)
theorem shS_2 {n : Nat} {c : List Gt} (hv : okC n c) (h : (shS c).1 = 0) : (shS c).2 = c := by
  revert h
  unfold shS
  split
  · intro h; cases h
  · split
    · unfold jnS
      split <;> (try split) <;> intro h <;> cases h
    · intro _; rfl
section PF2
variable {sh : Shp} {d kk n : Nat} {σ : Mem} {a : AX}
theorem cKeep (hI : LI (sh, σ, kk) a) : ∃ σ', run sh (d + 5) 160 [mR 0] σ = some (some (mI (a.1.2.1.length : Int)), σ') ∧ LI (sh, σ', kk) (a.1, some a.1, a.2.2) ∧ fr9 σ σ' :=
  cX (as := [mR 0]) hI (okA_of (zs := [])) (X160 hI.1 hI.2.1)
theorem cUndo {S : SB} (hI : LI (sh, σ, kk) a) (hK : a.2.1 = some S) : ∃ σ', run sh (d + 5) 161 [mR 0] σ = some (some (mI 1), σ') ∧ LI (sh, σ', kk) (S, a.2) ∧ fr9 σ σ' := by
  have e : aUndo a = (1, (S, a.2)) := by unfold aUndo; rw [hK]
  have h := X161 (d := d) hI.1 hI.2.1
  rw [e] at h
  exact cX (as := [mR 0]) hI (okA_of (zs := [])) h
theorem cSht (hI : LI (sh, σ, kk) a) : ∃ σ', run sh (d + 6) 129 [mR 0] σ = some (some (mI ((shS a.1.2.1).1 : Int)), σ') ∧ LI (sh, σ', kk) ((a.1.1, (shS a.1.2.1).2, a.1.2.2), a.2) ∧ fr9 σ σ' :=
  cX (as := [mR 0]) hI (okA_of (zs := [])) (X129 hI.1 hI.2.1)
theorem cShst (hI : LI (sh, σ, kk) a) : ∃ σ', run sh (d + 6) 130 [mR 0] σ = some (some (mI ((a.1.2.1.length - (saS a.1.2.1).length : Nat) : Int)), σ') ∧ LI (sh, σ', kk) ((a.1.1, saS a.1.2.1, a.1.2.2), a.2) ∧ fr9 σ σ' :=
  cX (as := [mR 0]) hI (okA_of (zs := [])) (X130 hI.1 hI.2.1)
theorem cSame {w v : Int} (hI : LI (sh, σ, kk) a) (hw : i32 w) (e : aSame a w = v) : ∃ σ', run sh (d + 6) 135 [mR 0, mI w] σ = some (some (mI v), σ') ∧ LI (sh, σ', kk) a ∧ fr9 σ σ' := by
  rw [← e]
  exact cX (as := [mR 0, mI w]) hI (okA_of (zs := [w])) (X135 hI.1 hI.2.1 hw)
theorem cGate {z w v : Int} (hI : LI (sh, σ, kk) a) (hz : i32 z) (hw : i32 w) (hv : i32 v) : ∃ σ', run sh (d + 3) 119 [mR 0, mI z, mI w, mI v] σ = some (some (mI (aGate a z w v).1), σ') ∧ LI (sh, σ', kk) (aGate a z w v).2 ∧ fr9 σ σ' :=
  cX (as := [mR 0, mI z, mI w, mI v]) hI (okA_of (zs := [z, w, v])) (X119 hI.1 hI.2.1 hz hw hv)
theorem cCnt (hI : LI (sh, σ, kk) a) : run sh (d + 1) 162 [mR 0, mI 0] σ = some (some (mI (a.1.2.1.length : Int)), σ) := by
  have h := X162 (d := d) (w := 0) hI.1 hI.2.1 (by unfold i32; omega)
  exact h.trans rfl
/-- same, as the kept circuit's and the current one's turns -/
theorem sam_0 {S : SB} (hK : a.2.1 = some S) (hn : S.1 = a.1.1) : aSame a 0 = ((tnS a.1.1 S.2.1 a.1.2.1 (2 ^ a.1.1) % 2 : Nat) : Int) := by
  unfold aSame
  rw [if_neg (by decide), hK]
  show (if S.1 ≠ a.1.1 then _ else _) = _
  rw [if_neg (fun z => z hn), if_neg (by decide), if_pos rfl]
theorem sam_1 {S : SB} (hK : a.2.1 = some S) (hn : S.1 = a.1.1) : aSame a 1 = loI (tnS a.1.1 S.2.1 a.1.2.1 (2 ^ a.1.1)) := by
  unfold aSame
  rw [if_neg (by decide), hK]
  show (if S.1 ≠ a.1.1 then _ else _) = _
  rw [if_neg (fun z => z hn), if_neg (by decide), if_neg (by decide)]
theorem sam_2 {S : SB} (hK : a.2.1 = some S) (hn : S.1 = a.1.1) : aSame a 2 = loI (odS a.1.1 S.2.1 a.1.2.1 (2 ^ a.1.1)) := by
  unfold aSame
  rw [if_neg (by decide), hK]
  show (if S.1 ≠ a.1.1 then _ else _) = _
  rw [if_neg (fun z => z hn), if_pos rfl]
theorem alR_eq {a' : AX} {f : Nat} (h1 : a'.1.1 = a.1.1) (h : ∀ f, f < 2 ^ a.1.1 → amV a'.1.2.1 f = amV a.1.2.1 f) : alR a' f 0 0 = alR a f 0 0 := by
  funext i
  unfold alR
  rw [h1]
  split
  · unfold alV aAmp
    rw [h1]
    split
    · rfl
    · rw [h _ (by omega)]
  · rfl
end PF2

