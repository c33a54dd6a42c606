/-! ===== what the constructors leave is the start of the two ===== -/
theorem nzCf_at {a : Nat} (h : a < 124) : nzCf (shT.getD a (100, 0, [], 0)) (nzWl.getD a (0, 0, [])) = true := by
  have h1 := nzCf_ok
  rw [Bool.and_eq_true, List.all_eq_true] at h1
  exact h1.2 a (List.mem_range.mpr h)
theorem nzWl_len : nzWl.length = 124 := by
  have h1 := nzCf_ok
  rw [Bool.and_eq_true] at h1
  exact of_decide_eq_true h1.1
theorem nzIsR_sp {v : Option (Option MV)} {r : Nat} (h : nzIsR v r = true) : v = some (some (mR r)) := by
  unfold nzIsR at h
  split at h
  · rw [of_decide_eq_true h]
  · cases h
theorem nzIsI_sp {v : Option (Option MV)} (h : nzIsI v = true) : ∃ z, v = some (some (mI z)) := by
  unfold nzIsI at h
  split at h
  · exact ⟨_, rfl⟩
  · cases h
theorem nzW_wE {cT : Nat → ClassId} {φ : Nat → Nat} {L : Nat} {xs : Nat → Int32} : nzW cT φ nzWl = wE cT φ (shZ L) (sgZ xs) := by
  refine List.ext_getElem? fun a => ?_
  by_cases ha : a < 124
  · rw [nzW_get, wE_get (show a < (shZ L).1 from ha)]
    have hl : a < nzWl.length := by rw [nzWl_len]; exact ha
    have hg : nzWl[a]? = some (nzWl.getD a (0, 0, [])) := by
      rw [List.getD_eq_getElem?_getD, List.getElem?_eq_getElem hl]; rfl
    rw [hg]
    refine congrArg (fun z => some (φ a, z)) ?_
    have hc := nzCf_at ha
    have hsg : ∀ j, (sgZ xs).1 a j = nzI ((nzWl.getD a (0, 0, [])).2.2[j]?) := fun j => sgZ_lo ha
    have hsh : (shZ L).2.2 a = ((shT.getD a (100, 0, [], 0)).1, (shT.getD a (100, 0, [], 0)).2.1, fun k => (shT.getD a (100, 0, [], 0)).2.2.1.getD k (shT.getD a (100, 0, [], 0)).2.2.2) := shZ_ne (by omega)
    have k1 : skd (shZ L) a = (shT.getD a (100, 0, [], 0)).1 := by unfold skd; rw [hsh]
    have k2 : sln (shZ L) a = (shT.getD a (100, 0, [], 0)).2.1 := by unfold sln; rw [hsh]
    have k3 : ∀ k, srf (shZ L) a k = (shT.getD a (100, 0, [], 0)).2.2.1.getD k (shT.getD a (100, 0, [], 0)).2.2.2 := fun k => by unfold srf; rw [hsh]
    generalize nzWl.getD a (0, 0, []) = c at hc hsg ⊢
    generalize shT.getD a (100, 0, [], 0) = q at hc k1 k2 k3
    unfold nzCf at hc
    rw [Bool.and_eq_true, Bool.and_eq_true, decide_eq_true_eq, decide_eq_true_eq] at hc
    obtain ⟨c1, c2, c3⟩ := hc
    by_cases h2 : c.1 ≤ 2
    · rw [nzE_i rfl h2, cE_i (kd := c.1) (by rw [k1, c1]) h2, k2, c2]
      refine congrArg (fun z => Sum.inl (cT c.1, q.2.1, Sum.inl z)) ?_
      funext j
      rw [hsg]
    · by_cases h3 : c.1 = 3
      · rw [nzE_l h3, cE_l (by rw [k1, ← c1, h3]), k2, c2]
        rfl
      · rw [if_neg (by omega)] at c3
        by_cases h4 : c.1 = 4
        · rw [if_pos h4, Bool.and_eq_true, Bool.and_eq_true, decide_eq_true_eq, decide_eq_true_eq, List.all_eq_true] at c3
          obtain ⟨d1, d2, d3⟩ := c3
          rw [nzE_r h4, cE_r (by rw [k1, ← c1, h4]), k2, c2]
          refine congrArg (fun z => Sum.inl (cT 4, q.2.1, Sum.inr (Sum.inr (Sum.inr (Sum.inr z))))) ?_
          funext j
          rw [k3]
          by_cases hj : j < q.2.2.1.length
          · rw [nzIsR_sp (d3 j (List.mem_range.mpr hj))]
            rfl
          · rw [List.getElem?_eq_none (by omega), List.getD_eq_getElem?_getD, List.getElem?_eq_none (by omega), d2]
            rfl
        · rw [if_neg h4, Bool.and_eq_true, decide_eq_true_eq, List.all_eq_true] at c3
          obtain ⟨d1, d3⟩ := c3
          obtain ⟨k, hk⟩ : ∃ k, c.1 = 5 + k := ⟨c.1 - 5, by omega⟩
          rw [nzE_o hk, cE_o (k := k) (by rw [k1, ← c1, hk]), k2]
          refine congrArg (fun z => Sum.inr (k, z)) (List.ext_getElem? fun j => ?_)
          rw [List.getElem?_map, List.getElem?_map]
          by_cases hj : j < q.2.1
          · rw [List.getElem?_range hj]
            have := d3 j (List.mem_range.mpr hj)
            rw [show c.1 - 5 = k by omega] at this
            show _ = some (bif frf k j then Value.ref (φ (srf (shZ L) a j)) else Value.int (Int32.ofInt ((sgZ xs).1 a j)))
            cases hf : frf k j with
            | true =>
              rw [hf] at this
              rw [nzIsR_sp this, k3]
              rfl
            | false =>
              rw [hf] at this
              obtain ⟨z, hz⟩ := nzIsI_sp this
              rw [hsg, hz]
              rfl
          · rw [List.getElem?_eq_none (by omega), List.getElem?_eq_none (by simpa using hj)]
            rfl
  · rw [List.getElem?_eq_none (by rw [nzW_len, nzWl_len]; omega), List.getElem?_eq_none (by rw [wE_len]; show 124 ≤ a; omega)]
def a0Z : AX := ((2, [], 2, [(0, 1)], id, 1), none, (fun _ => 0), 0, (fun k => if k < 3 then 1 else if k < 5 then 3 else 6))
theorem okB_0 : okB a0Z.1 := by
  refine ⟨by decide, by decide, by decide, fun q h => absurd h List.not_mem_nil, by decide, by decide, by decide, fun q h => ?_, fun _ => ⟨fun x h => h, fun x y _ _ h => h⟩, by decide⟩
  simp only [a0Z, List.mem_cons, List.not_mem_nil, or_false] at h
  subst h
  exact ⟨by decide, by decide⟩
theorem aT_0 (k : Nat) (h : k ≤ 5) : k = 0 ∨ k = 1 ∨ k = 2 ∨ k = 3 ∨ k = 4 ∨ k = 5 := by omega
theorem InvX_0 {L : Nat} {xs : Nat → Int32} : InvX (shZ L) (sgZ xs) a0Z := by
  obtain ⟨⟨b1, b2, b3, b4, b5, b6, b7, b8, b9⟩, bF, ⟨l0, l1, p0, p1, p2, p3, p4⟩, bT, ⟨t0', t1', t2', t3', t4', t5'⟩⟩ := nzG_ok
  refine ⟨⟨⟨?_, ⟨?_, fun j h => absurd h (Nat.not_lt_zero _)⟩, ⟨?_, ?_, fun j h => ?_⟩, ⟨fun p q => if (p = 0 ∧ q = 1) ∨ (p = 1 ∧ q = 0) then 1 else 0, fun p hp q hq => ⟨?_, ?_⟩, fun p hp q hq => ?_⟩, ⟨fun x hx => ?_, fun p hp => ?_⟩, ?_⟩, okB_0⟩, ?_, (fun S h => by cases h), ⟨?_, fun j hj => ⟨?_, (by show (0 : Nat) < 256; decide)⟩⟩, Nat.zero_le _, ⟨rfl, rfl, fun k hk => ⟨?_, ?_⟩⟩, ⟨rfl, rfl, fun k hk => ⟨rfl, (by show (1 : Nat) ≤ 20; decide)⟩⟩⟩
  · rw [sgZ_lo (by omega)]; exact b1
  · rw [sgZ_lo (by omega)]; exact b2
  · rw [sgZ_lo (by omega)]; exact b3
  · rw [sgZ_lo (by omega)]; exact b4
  · have hj : j = 0 := by
      have : j < 1 := h
      omega
    subst hj
    rw [sgZ_lo (by omega), sgZ_lo (by omega)]
    exact ⟨b5, b6⟩
  · rw [sgZ_lo (by omega)]
    show nzG (9 + 4 + p) q = ((if (p = 0 ∧ q = 1) ∨ (p = 1 ∧ q = 0) then 1 else 0 : Nat) : Int)
    rw [bF p hp q hq]
    by_cases hc : (p = 0 ∧ q = 1) ∨ (p = 1 ∧ q = 0)
    · rw [if_pos hc, if_pos hc]; rfl
    · rw [if_neg hc, if_neg hc]; rfl
  · show (if (p = 0 ∧ q = 1) ∨ (p = 1 ∧ q = 0) then 1 else 0 : Nat) ≤ 99
    split <;> omega
  · have hp' : p < 2 := hp
    have hq' : q < 2 := hq
    rcases (show p = 0 ∨ p = 1 by omega) with rfl | rfl <;> rcases (show q = 0 ∨ q = 1 by omega) with rfl | rfl <;> decide +kernel
  · have hx' : x < 2 := hx
    rw [sgZ_lo (by omega)]
    rcases (show x = 0 ∨ x = 1 by omega) with rfl | rfl
    · exact l0
    · exact l1
  · rw [sgZ_lo (by omega)]
    rcases (show p = 0 ∨ p = 1 ∨ p = 2 ∨ p = 3 ∨ p = 4 by omega) with rfl | rfl | rfl | rfl | rfl
    · exact p0.trans (by decide +kernel)
    · exact p1.trans (by decide +kernel)
    · exact p2.trans (by decide +kernel)
    · exact p3.trans (by decide +kernel)
    · exact p4.trans (by decide +kernel)
  · rw [sgZ_lo (by omega)]; exact b7
  · rw [sgZ_lo (by omega)]; exact b8
  · rw [sgZ_lo (by omega)]; exact b9
  · rw [sgZ_lo (by omega)]; exact bT j hj
  · rw [sgZ_lo (by omega)]
    rcases aT_0 k hk with rfl | rfl | rfl | rfl | rfl | rfl
    · exact t0'
    · exact t1'
    · exact t2'
    · exact t3'
    · exact t4'
    · exact t5'
  · rcases aT_0 k hk with rfl | rfl | rfl | rfl | rfl | rfl <;> decide
