/-! ===== rows of ints, looked at before they are read or written ===== -/
section RWS
variable {sh : Shp} {d r n : Nat} {σ : Mem} {i v : Int}
theorem K93 (hk : skd sh r = 0) (hl : sln sh r = n) (hn : n ≤ 5000) : run sh d 93 [mR r, mI i] σ = some (some (mI (if 0 ≤ wi i ∧ wi i < n then σ.1 r (wi i).toNat else -1)), σ) := by
  have w : wi (n : Int) = n := wi_id (by omega) (by omega)
  simp (disch := first | assumption | omega) only [q93, e93_0, e93_1, e93_4, e93_5, e93_6, e93_7, e93_10, e93_11, e93_12, e93_13, e93_16, e93_17, kl_I, kl_R, kl_N, kl_L, oSm, oNn, Option.bind_some, wN, if_pos, if_neg, nS, tN, t0, w0, w1, w2, w3, w4, w5, wm1, upA_ne, upA_same, if_true, if_false, Bool.false_eq_true, hl, w]
  repeat' split
  all_goals first | rfl | omega
theorem K289 (hk : skd sh r = 0) (hl : sln sh r = n) (hn : n ≤ 5000) (hw : r < sh.1) : run sh d 289 [mR r, mI i, mI v] σ = some (none, if 0 ≤ wi i ∧ wi i < n then (upA σ.1 r (up1 (σ.1 r) (wi i).toNat v), σ.2) else σ) := by
  have w : wi (n : Int) = n := wi_id (by omega) (by omega)
  simp (disch := first | assumption | omega) only [q289, e289_0, e289_1, e289_4, e289_5, e289_6, e289_7, e289_10, e289_11, e289_12, e289_13, e289_14, kl_I, kl_R, kl_N, kl_L, oSm, oNn, Option.bind_some, wN, if_pos, if_neg, nS, tN, t0, w0, w1, w2, w3, w4, w5, wm1, upA_ne, upA_same, if_true, if_false, Bool.false_eq_true, hl, w]
  repeat' split
  all_goals first | rfl | omega
/-- read at a place that is there -/
theorem K93n {j : Nat} (hk : skd sh r = 0) (hl : sln sh r = n) (hn : n ≤ 5000) (hj : j < n) : run sh d 93 [mR r, mI (j : Int)] σ = some (some (mI (σ.1 r j)), σ) := by
  have w : wi (j : Int) = j := wi_id (by omega) (by omega)
  rw [K93 hk hl hn, w, if_pos (by omega), Int.toNat_natCast]
theorem K289n {j : Nat} (hk : skd sh r = 0) (hl : sln sh r = n) (hn : n ≤ 5000) (hw : r < sh.1) (hj : j < n) : run sh d 289 [mR r, mI (j : Int), mI v] σ = some (none, (upA σ.1 r (up1 (σ.1 r) j v), σ.2)) := by
  have w : wi (j : Int) = j := wi_id (by omega) (by omega)
  rw [K289 hk hl hn hw, w, if_pos (by omega), Int.toNat_natCast]
end RWS
