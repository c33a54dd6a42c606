/-! ===== GateList: gates added, copied, dropped ===== -/
/-- it comes to an end, and there P holds -/
def End (e : Option (Option MV × Mem)) (P : Option MV → Mem → Prop) : Prop := ∃ r σ', e = some (r, σ') ∧ P r σ'
theorem End.of {e : Option (Option MV × Mem)} {P : Option MV → Mem → Prop} {r : Option MV} {σ' : Mem} (h : e = some (r, σ')) (hp : P r σ') : End e P := ⟨r, σ', h, hp⟩
theorem End.imp {e : Option (Option MV × Mem)} {P Q : Option MV → Mem → Prop} (h : End e P) (hq : ∀ r σ', P r σ' → Q r σ') : End e Q := by
  obtain ⟨r, σ', h1, h2⟩ := h
  exact ⟨r, σ', h1, hq _ _ h2⟩
/-- nothing but the gates at g has changed -/
def frG (g : Nat) (σ σ' : Mem) : Prop := (∀ a, (a < g ∨ g + 4 < a) → σ'.1 a = σ.1 a) ∧ σ'.2 = σ.2
theorem frG.rf {g : Nat} {σ : Mem} : frG g σ σ := ⟨fun _ _ => rfl, rfl⟩
theorem frG.tr {g : Nat} {σ σ1 σ2 : Mem} (h : frG g σ σ1) (h2 : frG g σ1 σ2) : frG g σ σ2 := ⟨fun a ha => (h2.1 a ha).trans (h.1 a ha), h2.2.trans h.2⟩
theorem HG.fr {g o : Nat} {σ σ' : Mem} {c : List Gt} (h : HG σ o c) (hf : frG g σ σ') (ho : o + 4 < g ∨ g + 4 < o) : HG σ' o c := by
  obtain ⟨h1, h2⟩ := h
  refine ⟨by rw [hf.1 _ (by omega)]; exact h1, fun j hj => ?_⟩
  rw [hf.1 _ (by omega), hf.1 _ (by omega), hf.1 _ (by omega), hf.1 _ (by omega)]
  exact h2 j hj
theorem gA_l {c e : List Gt} {j : Nat} (h : j < c.length) : gA (c ++ e) j = gA c j := by simp [gA, List.getElem?_append_left h]
theorem gA_n {c : List Gt} {q : Gt} : gA (c ++ [q]) c.length = q := by simp [gA]
theorem gA_mem {c : List Gt} {j : Nat} (h : j < c.length) : gA c j ∈ c := by
  have e : gA c j = c[j] := by simp [gA, h]
  rw [e]; exact List.getElem_mem h
theorem gA_take {c : List Gt} {i j : Nat} (h : j < i) : gA (c.take i) j = gA c j := by simp [gA, List.getElem?_take, h]
theorem take_s {c : List Gt} {i : Nat} (h : i < c.length) : c.take i ++ [gA c i] = c.take (i + 1) := by
  rw [List.take_succ_eq_append_getElem h]
  simp [gA, h]
section GLD
variable {sh : Shp} {d g o cap cap2 n : Nat} {σ : Mem} {c : List Gt} {q : Gt} {x : Nat}
theorem L52 (hg : glS sh g cap) (hG : HG σ g c) (hc : c.length < cap) (hb : cap ≤ 100) (hn5 : n ≤ 5) (hq : vG n q) : End (run sh (d + 1) 52 [mR g, mI (q.1 : Int), mI (q.2.1 : Int), mI q.2.2] σ) (fun r σ' => r = none ∧ HG σ' g (c ++ [q]) ∧ frG g σ σ') := by
  refine End.of (K52 hg hG.1 hc hb) ⟨rfl, ⟨?_, fun j hj => ?_⟩, ⟨fun a ha => ?_, rfl⟩⟩
  · simp only [upA_same, up1_same, List.length_append, List.length_cons, List.length_nil]
    rfl
  · have hm : (if wi (q.1 : Int) < 3 then xshl 1 (q.2.1 : Int) else xor' (xshl 1 (q.2.1 : Int)) (xshl 1 q.2.2)) = (gm q : Int) := by
      have h1 := hq.1
      have h2 := hq.2.1
      rw [wN (by omega), xshl_1 (by omega)]
      unfold gm
      by_cases h3 : q.1 < 3
      · rw [if_pos (by omega), if_pos h3]
      · have h4 := hq.2.2.2.2 (by omega)
        obtain ⟨t, ht⟩ : ∃ t : Nat, q.2.2 = (t : Int) := ⟨q.2.2.toNat, by omega⟩
        rw [if_neg (by omega), if_neg h3, ht, xshl_1 (by omega), xor_nn (pw_lt (n := 31) (by omega) (by omega)) (pw_lt (n := 31) (by omega) (by omega)), tN]
    have e1 : (List.length (c ++ [q])) = c.length + 1 := by simp
    by_cases h : j = c.length
    · subst h
      rw [gA_n]
      simp (disch := omega) only [upA_ne, upA_same, up1_same]
      exact ⟨trivial, trivial, trivial, hm⟩
    · have h2 : j < c.length := by omega
      rw [gA_l h2]
      simp (disch := omega) only [upA_ne, upA_same, up1_ne]
      exact hG.2 j h2
  · simp (disch := omega) only [upA_ne]
theorem L53 (hg : glS sh g cap) (ho2 : glS sh o cap2) (hap : o + 6 < g ∨ g + 6 < o) (hG : HG σ o c) (hc : c.length ≤ cap) (hc2 : c.length ≤ cap2) (hb : cap ≤ 100) (hb2 : cap2 ≤ 100) (hn5 : n ≤ 5) (hv : okC n c) : End (run sh (d + 2) 53 [mR g, mR o] σ) (fun r σ' => r = none ∧ HG σ' g c ∧ frG g σ σ') := by
  have ho := hg.1
  have hoo := ho2.1
  have F := for_P (c.length) (fun i => ∀ (σ1 : Mem), HG σ1 g (c.take i) ∧ frG g σ σ1 → End (ev sh (d + 2) 53 7 [some (mR (g)), some (mR (o)), some (mI ((i : Nat) : Int))] [] σ1) (fun r σ' => r = none ∧ HG σ' g c ∧ frG g σ σ')) (by
    intro σ1  hp
    replace hp : HG σ1 g (c.take (c.length)) ∧ frG g σ σ1 := hp
    show End (ev sh (d + 2) 53 7 [some (mR (g)), some (mR (o)), some (mI (((c.length) : Nat) : Int))] [] σ1) (fun r σ' => r = none ∧ HG σ' g c ∧ frG g σ σ')
    have hn := (hG.fr hp.2 (by omega)).1
    rw [e53_7]
    simp (disch := first | assumption | omega | (simp (disch := omega) only [wN, w0, w1]; omega)) only [e53_0, e53_1, e53_2, e53_5, e53_6, e53_8, e53_9, e53_12, e53_15, e53_16, e53_17, e53_18, e53_21, e53_22, e53_23, e53_26, e53_27, e53_28, e53_31, e53_34, e53_37, e53_40, kl_I, kl_R, kl_N, kl_L, oSm, oNn, Option.bind_some, wN, if_pos, if_neg, nS, tN, t0, w0, w1, w2, w3, w4, w5, wm1, upA_ne, upA_same, hn]
    refine End.of rfl ⟨rfl, ?_, hp.2⟩
    have h1 := hp.1
    rw [List.take_length] at h1
    exact h1) (fun i hi ih => by
    replace ih : ∀ (σ1 : Mem), HG σ1 g (c.take (i + 1)) ∧ frG g σ σ1 → End (ev sh (d + 2) 53 7 [some (mR (g)), some (mR (o)), some (mI (((i + 1) : Nat) : Int))] [] σ1) (fun r σ' => r = none ∧ HG σ' g c ∧ frG g σ σ') := ih
    intro σ1  hp
    replace hp : HG σ1 g (c.take i) ∧ frG g σ σ1 := hp
    show End (ev sh (d + 2) 53 7 [some (mR (g)), some (mR (o)), some (mI ((i : Nat) : Int))] [] σ1) (fun r σ' => r = none ∧ HG σ' g c ∧ frG g σ σ')
    have hG1 := hG.fr hp.2 (by omega)
    have hn := hG1.1
    have hl : (c.take i).length = i := by rw [List.length_take]; omega
    obtain ⟨r, σ2, h1, rfl, h3, h4⟩ := L52 (d := d) (q := gA c i) hg hp.1 (by omega) hb hn5 (hv.at hi)
    rw [e53_7]
    simp (disch := first | assumption | omega | (simp (disch := omega) only [wN, w0, w1]; omega)) only [e53_0, e53_1, e53_2, e53_5, e53_6, e53_8, e53_9, e53_12, e53_15, e53_16, e53_17, e53_18, e53_21, e53_22, e53_23, e53_26, e53_27, e53_28, e53_31, e53_34, e53_37, e53_40, kl_I, kl_R, kl_N, kl_L, oSm, oNn, Option.bind_some, wN, if_pos, if_neg, nS, tN, t0, w0, w1, w2, w3, w4, w5, wm1, upA_ne, upA_same, hn, L46 ho2 hG1 hc2 hb2 hi, L47 ho2 hG1 hc2 hb2 hi, L48 ho2 hG1 hc2 hb2 hi, h1]
    refine ih σ2 ⟨?_, hp.2.tr h4⟩
    rw [take_s hi] at h3
    exact h3) 0 (Nat.zero_le _)
  simp (disch := first | assumption | omega | (simp (disch := omega) only [wN, w0, w1]; omega)) only [e53_0, e53_1, e53_2, e53_5, e53_6, e53_8, e53_9, e53_12, e53_15, e53_16, e53_17, e53_18, e53_21, e53_22, e53_23, e53_26, e53_27, e53_28, e53_31, e53_34, e53_37, e53_40, kl_I, kl_R, kl_N, kl_L, oSm, oNn, Option.bind_some, wN, if_pos, if_neg, nS, tN, t0, w0, w1, w2, w3, w4, w5, wm1, upA_ne, upA_same, q53]
  refine (F _ ⟨⟨?_, fun j hj => ?_⟩, ⟨fun a ha => ?_, rfl⟩⟩)
  · simp [upA_same, up1_same]
  · simp at hj
  · show upA σ.1 g _ a = _
    rw [upA_ne (by omega)]
end GLD
