/-! ===== same: turned, put otherwise ===== -/
theorem od_id : ∀ n, n < 5 → (List.range (2 ^ n)).all (fun y => decide (exT (pOf n ((rwL n n).getD 0 0)) y 4 = y)) = true := by decide +kernel
theorem od_len : ∀ n, n < 5 → 0 < (rwL n n).length ∧ (rwL n n).length < 31 := by decide +kernel
theorem od_fin : ∀ n, n < 5 → (List.range n).all (fun a => (List.range n).all (fun b => decide (a = b) || (List.range (rwL n n).length).any (fun i => (List.range (2 ^ n)).all (fun y => decide (swI a b (exT (pOf n ((rwL n n).getD i 0)) y 4) = y))))) = true := by decide +kernel
section SY
variable {n k : Nat} {ck c : List Gt}
theorem tn_bit {t : Nat} : (tnS n ck c k).testBit t = true ↔ t < 8 ∧ ∀ f, f < k → (amV c f).2 = (amV ck f).2 ∧ ∀ y, y < 2 ^ n → (amV c f).1 y = tuQ t ((amV ck f).1 y) := by
  unfold tnS
  rw [bts_bit, Bool.and_eq_true, decide_eq_true_eq, fa_iff]
  refine and_congr_right fun ht => ⟨fun h f hf => ?_, fun h f _ hf => ?_⟩
  · have := h f (by omega) (by omega)
    unfold tnB at this
    rw [Bool.and_eq_true, decide_eq_true_eq, fa_iff] at this
    exact ⟨this.1, fun y hy => of_decide_eq_true (this.2 y (by omega) (by omega))⟩
  · obtain ⟨h1, h2⟩ := h f (by omega)
    unfold tnB
    rw [Bool.and_eq_true, decide_eq_true_eq, fa_iff]
    exact ⟨h1, fun y _ hy => decide_eq_true (h2 y (by omega))⟩
theorem od_bit {i : Nat} : (odS n ck c k).testBit i = true ↔ i < (rwL n n).length ∧ ∀ f, f < k → (amV c f).2 = (amV ck f).2 ∧ ∀ y, y < 2 ^ n → (amV c f).1 (exT (pOf n ((rwL n n).getD i 0)) y 4) = (amV ck f).1 y := by
  unfold odS
  rw [bts_bit, Bool.and_eq_true, decide_eq_true_eq, fa_iff]
  refine and_congr_right fun ht => ⟨fun h f hf => ?_, fun h f _ hf => ?_⟩
  · have := h f (by omega) (by omega)
    unfold odB at this
    rw [Bool.and_eq_true, decide_eq_true_eq, fa_iff] at this
    exact ⟨this.1, fun y hy => of_decide_eq_true (this.2 y (by omega) (by omega))⟩
  · obtain ⟨h1, h2⟩ := h f (by omega)
    unfold odB
    rw [Bool.and_eq_true, decide_eq_true_eq, fa_iff]
    exact ⟨h1, fun y _ hy => decide_eq_true (h2 y (by omega))⟩
theorem tn_0 : tnS n ck c k % 2 = 1 ↔ (tnS n ck c k).testBit 0 = true := by
  rw [Nat.testBit_zero, decide_eq_true_eq]
/-- the same amplitudes: turned by nought -/
theorem sm_0 (h : ∀ f, f < k → amV c f = amV ck f) : (tnS n ck c k).testBit 0 = true :=
  tn_bit.mpr ⟨by omega, fun f hf => by rw [h f hf]; exact ⟨rfl, fun _ _ => rfl⟩⟩
theorem sm_l (h : (tnS n ck c k).testBit 0 = true) : loI (tnS n ck c k) = 0 := loI_at (k := 0) (by omega) h (fun j hj => by omega)
theorem sm_o (n4 : n ≤ 4) (h : (tnS n ck c k).testBit 0 = true) : loI (odS n ck c k) = 0 := by
  refine loI_at (k := 0) (by omega) (od_bit.mpr ⟨(od_len n (by omega)).1, fun f hf => ?_⟩) (fun j hj => by omega)
  obtain ⟨h1, h2⟩ := (tn_bit.mp h).2 f hf
  refine ⟨h1, fun y hy => ?_⟩
  have e := of_decide_eq_true (List.all_eq_true.mp (od_id n (by omega)) y (List.mem_range.mpr hy))
  rw [e]; exact h2 y hy
/-- two lines changed: found -/
theorem sm_w {a b : Nat} (n4 : n ≤ 4) (hv : okC n c) (h : ∀ f, f < 2 ^ n → amV c f = amV ck f) (ha : a < n) (hb : b < n) (hab : a ≠ b) : 0 ≤ loI (odS n ck (c ++ [(5, a, (b : Int))]) (2 ^ n)) := by
  have h1 := List.all_eq_true.mp (od_fin n (by omega)) a (List.mem_range.mpr ha)
  have h2 := List.all_eq_true.mp h1 b (List.mem_range.mpr hb)
  rw [Bool.or_eq_true, decide_eq_true_eq] at h2
  obtain ⟨i, hi, h3⟩ := List.any_eq_true.mp (h2.resolve_left hab)
  have hi' := List.mem_range.mp hi
  have := (od_len n (by omega)).2
  refine loI_ge (k := i) (by omega) (od_bit.mpr ⟨hi', fun f hf => ?_⟩)
  rw [am_sw n4 hv hf ha hb hab, h f hf]
  refine ⟨rfl, fun y hy => ?_⟩
  have e := of_decide_eq_true (List.all_eq_true.mp h3 y (List.mem_range.mpr hy))
  show (amV ck f).1 (swI a b _) = _
  rw [e]
/-- x r x r turns by r -/
theorem sm_xr {K t : Nat} (n4 : n ≤ 4) (n1 : 1 ≤ n) (hv : okC n c) (hK : K < 8) : (tnS n c (c ++ [(2, 0, -1), (0, 0, (K : Int)), (2, 0, -1), (0, 0, (K : Int))]) (2 ^ n)).testBit t = decide (t = K) := by
  rw [Bool.eq_iff_iff, decide_eq_true_eq, tn_bit]
  constructor
  · rintro ⟨h1, h2⟩
    have p1 : 0 < 2 ^ n := Nat.two_pow_pos n
    obtain ⟨-, h3⟩ := h2 0 p1
    obtain ⟨r, hr, hz⟩ := am_some n4 hv p1
    have h4 := h3 r hr
    rw [am_xr n4 n1 hv p1 hK] at h4
    exact (tu_inj K hK t h1 h4 hz).symm
  · rintro rfl
    refine ⟨hK, fun f hf => ?_⟩
    rw [am_xr n4 n1 hv hf hK]
    exact ⟨rfl, fun _ _ => rfl⟩
theorem sm_x1 {K : Nat} (n4 : n ≤ 4) (n1 : 1 ≤ n) (hv : okC n c) (hK : K < 8) : loI (tnS n c (c ++ [(2, 0, -1), (0, 0, (K : Int)), (2, 0, -1), (0, 0, (K : Int))]) (2 ^ n)) = (K : Int) :=
  loI_at (by omega) (by rw [sm_xr n4 n1 hv hK]; exact decide_eq_true rfl) (fun j hj => by rw [sm_xr n4 n1 hv hK]; exact decide_eq_false (by omega))
theorem sm_x0 {K : Nat} (n4 : n ≤ 4) (n1 : 1 ≤ n) (hv : okC n c) (hK : K < 8) : tnS n c (c ++ [(2, 0, -1), (0, 0, (K : Int)), (2, 0, -1), (0, 0, (K : Int))]) (2 ^ n) % 2 = if K = 0 then 1 else 0 := by
  have h := sm_xr (t := 0) n4 n1 hv hK
  rw [Nat.testBit_zero] at h
  by_cases e : K = 0
  · rw [if_pos e]
    exact of_decide_eq_true (h.trans (decide_eq_true e.symm))
  · rw [if_neg e]
    have := of_decide_eq_false (h.trans (decide_eq_false (Ne.symm e)))
    omega
end SY
