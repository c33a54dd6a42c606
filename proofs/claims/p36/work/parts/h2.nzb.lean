/-! ===== N's world against the machine's ===== -/
def nzV (φ : Nat → Nat) (v : Option MV) : Value := match v with
  | none => .null
  | some v => eV φ v
def nzI (v : Option (Option MV)) : Int := match v with
  | some (some (.inl z)) => z
  | _ => 0
def nzF (φ : Nat → Nat) (v : Option (Option MV)) : Nat := match v with
  | some (some (.inr (.inr a))) => φ a
  | _ => φ 0
def nzE (cT : Nat → ClassId) (φ : Nat → Nat) (c : NzC) : va_E :=
  if c.1 ≤ 2 then .inl (cT c.1, c.2.1, .inl (fun j => Int32.ofInt (nzI c.2.2[j]?)))
  else if c.1 = 3 then .inl (cT 3, c.2.1, .inr (.inl (fun _ => 0)))
  else if c.1 = 4 then .inl (cT 4, c.2.1, .inr (.inr (.inr (.inr (fun j => some (nzF φ c.2.2[j]?))))))
  else .inr (c.1 - 5, c.2.2.map (nzV φ))
def nzW (cT : Nat → ClassId) (φ : Nat → Nat) (w : List NzC) : va_W := w.mapIdx (fun i c => (φ i, nzE cT φ c))
/-- the same addresses of all that lies below n, and of what is given from the start -/
def nzAg (n : Nat) (φ φ' : Nat → Nat) : Prop := ∀ a, a < n ∨ 1000000 ≤ a → φ' a = φ a
section NZB
variable {cT : Nat → ClassId} {φ φ' : Nat → Nat} {w : List NzC} {c : NzC} {n a : Nat} {ls : List (Option MV)} {st : List MV}
theorem nzAg.rf : nzAg n φ φ := fun _ _ => rfl
theorem nzAg.tr {ψ : Nat → Nat} {k : Nat} (h1 : nzAg n φ φ') (h2 : nzAg k φ' ψ) (hk : n ≤ k) : nzAg n φ ψ := fun a h => by
  rw [h2 a (by omega), h1 a h]
theorem nzW_get : (nzW cT φ w)[a]? = (w[a]?).map (fun c => (φ a, nzE cT φ c)) := by
  simp [nzW, List.getElem?_mapIdx]
theorem nzW_at (h : w[a]? = some c) : (nzW cT φ w)[a]? = some (φ a, nzE cT φ c) := by rw [nzW_get, h]; rfl
theorem nzW_len : (nzW cT φ w).length = w.length := by simp [nzW]
theorem nzE_i {kd : Nat} (hk : c.1 = kd) (h2 : kd ≤ 2) : nzE cT φ c = .inl (cT kd, c.2.1, .inl (fun j => Int32.ofInt (nzI c.2.2[j]?))) := by
  unfold nzE
  rw [hk, if_pos h2]
theorem nzE_l (hk : c.1 = 3) : nzE cT φ c = .inl (cT 3, c.2.1, .inr (.inl (fun _ => 0))) := by
  unfold nzE
  rw [hk]; rfl
theorem nzE_r (hk : c.1 = 4) : nzE cT φ c = .inl (cT 4, c.2.1, .inr (.inr (.inr (.inr (fun j => some (nzF φ c.2.2[j]?)))))) := by
  unfold nzE
  rw [hk]; rfl
theorem nzE_o {k : Nat} (hk : c.1 = 5 + k) : nzE cT φ c = .inr (k, c.2.2.map (nzV φ)) := by
  unfold nzE
  rw [hk, if_neg (by omega), if_neg (by omega), if_neg (by omega), show 5 + k - 5 = k by omega]
theorem nzW_set {x : va_E} (hx : nzE cT φ c = x) : (nzW cT φ w).set a (φ a, x) = nzW cT φ (w.set a c) := by
  subst hx
  refine List.ext_getElem? fun k => ?_
  rw [nzW_get, List.getElem?_set, List.getElem?_set, nzW_get, nzW_len]
  by_cases e : a = k
  · subst e
    rw [if_pos rfl, if_pos rfl]
    by_cases hl : a < w.length
    · rw [if_pos hl, if_pos hl]; rfl
    · rw [if_neg hl, if_neg hl]; rfl
  · rw [if_neg e, if_neg e]
theorem nzW_app : nzW cT φ (w ++ [c]) = nzW cT φ w ++ [(φ w.length, nzE cT φ c)] := by
  refine List.ext_getElem? fun k => ?_
  rw [nzW_get, List.getElem?_append, List.getElem?_append, nzW_get, nzW_len]
  by_cases h : k < w.length
  · rw [if_pos h, if_pos h]
  · rw [if_neg h, if_neg h]
    by_cases e : k = w.length
    · subst e; simp
    · rw [List.getElem?_eq_none (by simp; omega), List.getElem?_eq_none (by simp; omega)]; rfl
theorem nzV_ag {v : Option MV} (h : nzOk n v = true) (hA : nzAg n φ φ') : nzV φ' v = nzV φ v := by
  rcases v with _ | z | z | q
  · rfl
  · rfl
  · rfl
  · simp only [nzOk, Bool.or_eq_true, decide_eq_true_eq] at h
    show Value.ref (φ' q) = Value.ref (φ q)
    rw [hA q h]
theorem nzE_ag (h : (decide (c.1 ≤ 3) || c.2.2.all (nzOk n)) = true) (hn : 0 < n ∨ c.1 ≠ 4) (hA : nzAg n φ φ') : nzE cT φ' c = nzE cT φ c := by
  rw [Bool.or_eq_true, decide_eq_true_eq, List.all_eq_true] at h
  rcases h with h | h
  · unfold nzE
    by_cases h2 : c.1 ≤ 2
    · rw [if_pos h2, if_pos h2]
    · rw [if_neg h2, if_neg h2, if_pos (by omega), if_pos (by omega)]
  · have e2 : c.2.2.map (nzV φ') = c.2.2.map (nzV φ) := List.map_congr_left (fun v hv => nzV_ag (h v hv) hA)
    by_cases h4 : c.1 = 4
    · have hn : 0 < n := hn.resolve_right (fun z => z h4)
      rw [nzE_r h4, nzE_r h4]
      have e1 : (fun j : Nat => some (nzF φ' c.2.2[j]?)) = (fun j : Nat => some (nzF φ c.2.2[j]?)) := by
        funext j
        cases hj : c.2.2[j]? with
        | none => show some (φ' 0) = some (φ 0); rw [hA 0 (Or.inl hn)]
        | some v =>
          have h1 := h v (List.mem_of_getElem? hj)
          rcases v with _ | z | z | q
          · show some (φ' 0) = some (φ 0); rw [hA 0 (Or.inl hn)]
          · show some (φ' 0) = some (φ 0); rw [hA 0 (Or.inl hn)]
          · show some (φ' 0) = some (φ 0); rw [hA 0 (Or.inl hn)]
          · simp only [nzOk, Bool.or_eq_true, decide_eq_true_eq] at h1
            show some (φ' q) = some (φ q)
            rw [hA q h1]
      rw [e1]
    · unfold nzE
      rw [if_neg h4, if_neg h4, e2]
theorem nzWok_w (h : nzWok w ls st = true) {c : NzC} (hc : c ∈ w) : (decide (c.1 ≤ 3) || c.2.2.all (nzOk w.length)) = true := by
  unfold nzWok at h
  rw [Bool.and_eq_true, List.all_eq_true] at h
  exact h.1 c hc
theorem nzW_ag (h : nzWok w ls st = true) (hA : nzAg w.length φ φ') : nzW cT φ' w = nzW cT φ w := by
  refine List.ext_getElem? fun k => ?_
  rw [nzW_get, nzW_get]
  cases hk : w[k]? with
  | none => rfl
  | some c =>
    have hl : k < w.length := (List.getElem?_eq_some_iff.mp hk).1
    show some (φ' k, nzE cT φ' c) = some (φ k, nzE cT φ c)
    rw [hA k (Or.inl hl), nzE_ag (nzWok_w h (List.mem_of_getElem? hk)) (Or.inl (by omega)) hA]
theorem nzSt_ag (h : nzWok w ls st = true) (hA : nzAg w.length φ φ') : st.map (eV φ') = st.map (eV φ) := by
  unfold nzWok at h
  rw [Bool.and_eq_true, Bool.and_eq_true, List.all_eq_true, List.all_eq_true, List.all_eq_true] at h
  exact List.map_congr_left (fun v hv => nzV_ag (v := some v) (h.2.2 v hv) hA)
theorem nzLs_ag {arr : Array Slot} {nL : Nat} (h : nzWok w ls st = true) (hA : nzAg w.length φ φ') (hL : LH φ arr nL ls) : LH φ' arr nL ls := by
  unfold nzWok at h
  rw [Bool.and_eq_true, Bool.and_eq_true, List.all_eq_true, List.all_eq_true, List.all_eq_true] at h
  refine ⟨lv_mono hL.1 (fun q hq => ?_), hL.2⟩
  rw [lvF_mem] at hq ⊢
  obtain ⟨j, v, h1, h2⟩ := hq
  exact ⟨j, v, h1, by rw [h2]; exact congrArg (fun z => (0 + j, z)) (nzV_ag (v := some v) (h.2.1 _ (List.mem_of_getElem? h1)) hA)⟩
theorem nzAg_up {q : Nat} (hn : n < 124) : nzAg n φ (fun a => if a = n then q else φ a) := fun a h => if_neg (by omega)
end NZB
