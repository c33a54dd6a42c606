/-! ===== the shape of all, as the constructors leave it (printed by mkn.py) ===== -/
def shT : List (Nat × Nat × List Nat × Nat) := [(15, 14, [1, 21, 0, 41, 43, 44, 51, 60, 63, 65, 67, 69, 70, 101], 0), (13, 5, [0, 2, 9, 18], 0), (9, 7, [3, 4, 5, 6, 7, 8], 0), (0, 30, [], 0), (0, 30, [], 0), (0, 30, [], 0), (0, 30, [], 0), (0, 30, [], 0), (0, 30, [], 0), (5, 5, [0, 0, 10, 11, 12], 0), (0, 10, [], 0), (0, 10, [], 0), (4, 5, [13, 14, 15, 16, 17], 0), (0, 5, [], 0), (0, 5, [], 0), (0, 5, [], 0), (0, 5, [], 0), (0, 5, [], 0), (10, 2, [19, 20], 0), (0, 4, [], 0), (0, 5, [], 0), (13, 5, [0, 22, 29, 38], 0), (9, 7, [23, 24, 25, 26, 27, 28], 0), (0, 30, [], 0), (0, 30, [], 0), (0, 30, [], 0), (0, 30, [], 0), (0, 30, [], 0), (0, 30, [], 0), (5, 5, [0, 0, 30, 31, 32], 0), (0, 10, [], 0), (0, 10, [], 0), (4, 5, [33, 34, 35, 36, 37], 0), (0, 5, [], 0), (0, 5, [], 0), (0, 5, [], 0), (0, 5, [], 0), (0, 5, [], 0), (10, 2, [39, 40], 0), (0, 4, [], 0), (0, 5, [], 0), (14, 2, [42], 0), (0, 140, [], 0), (0, 6, [], 0), (9, 7, [45, 46, 47, 48, 49, 50], 0), (0, 30, [], 0), (0, 30, [], 0), (0, 30, [], 0), (0, 30, [], 0), (0, 30, [], 0), (0, 30, [], 0), (5, 5, [0, 0, 52, 53, 54], 0), (0, 10, [], 0), (0, 10, [], 0), (4, 5, [55, 56, 57, 58, 59], 0), (0, 5, [], 0), (0, 5, [], 0), (0, 5, [], 0), (0, 5, [], 0), (0, 5, [], 0), (10, 2, [61, 62], 0), (0, 4, [], 0), (0, 5, [], 0), (12, 2, [64], 0), (0, 120, [], 0), (6, 3, [66], 0), (3, 64, [], 0), (6, 3, [68], 0), (3, 64, [], 0), (0, 30, [], 0), (11, 5, [71, 92, 99, 100], 0), (7, 5, [72, 79, 88, 91], 0), (9, 7, [73, 74, 75, 76, 77, 78], 0), (0, 30, [], 0), (0, 30, [], 0), (0, 30, [], 0), (0, 30, [], 0), (0, 30, [], 0), (0, 30, [], 0), (5, 5, [0, 0, 80, 81, 82], 0), (0, 10, [], 0), (0, 10, [], 0), (4, 5, [83, 84, 85, 86, 87], 0), (0, 5, [], 0), (0, 5, [], 0), (0, 5, [], 0), (0, 5, [], 0), (0, 5, [], 0), (10, 2, [89, 90], 0), (0, 4, [], 0), (0, 5, [], 0), (0, 30, [], 0), (9, 7, [93, 94, 95, 96, 97, 98], 0), (0, 70, [], 0), (0, 70, [], 0), (0, 70, [], 0), (0, 70, [], 0), (0, 70, [], 0), (0, 70, [], 0), (2, 70, [], 0), (0, 5, [], 0), (8, 2, [102, 123], 0), (7, 5, [103, 110, 119, 122], 0), (9, 7, [104, 105, 106, 107, 108, 109], 0), (0, 30, [], 0), (0, 30, [], 0), (0, 30, [], 0), (0, 30, [], 0), (0, 30, [], 0), (0, 30, [], 0), (5, 5, [0, 0, 111, 112, 113], 0), (0, 10, [], 0), (0, 10, [], 0), (4, 5, [114, 115, 116, 117, 118], 0), (0, 5, [], 0), (0, 5, [], 0), (0, 5, [], 0), (0, 5, [], 0), (0, 5, [], 0), (10, 2, [120, 121], 0), (0, 4, [], 0), (0, 5, [], 0), (0, 30, [], 0), (3, 2048, [], 0)]
def shf (L a : Nat) : Nat × Nat × (Nat → Nat) := if a = 1000001 then (0, L, fun _ => 0) else if a = 1000000 then (0, 6, fun _ => 0) else ((shT.getD a (100, 0, [], 0)).1, (shT.getD a (100, 0, [], 0)).2.1, fun k => (shT.getD a (100, 0, [], 0)).2.2.1.getD k (shT.getD a (100, 0, [], 0)).2.2.2)
def shZ (L : Nat) : Shp := (124, 2, shf L)
section SHZ
variable {L : Nat}
theorem shZ_ne {a : Nat} (h : a < 1000000) : shf L a = ((shT.getD a (100, 0, [], 0)).1, (shT.getD a (100, 0, [], 0)).2.1, fun k => (shT.getD a (100, 0, [], 0)).2.2.1.getD k (shT.getD a (100, 0, [], 0)).2.2.2) := by
  unfold shf
  rw [if_neg (by omega), if_neg (by omega)]
theorem shf_1 : shf L 1000001 = (0, L, fun _ => 0) := by unfold shf; rw [if_pos rfl]
theorem shf_0 : shf L 1000000 = (0, 6, fun _ => 0) := by unfold shf; rw [if_neg (by omega), if_pos rfl]
theorem shT_out {a : Nat} (h : 124 ≤ a) : shT.getD a (100, 0, [], 0) = (100, 0, [], 0) := by
  rw [List.getD_eq_getElem?_getD, List.getElem?_eq_none (by show 124 ≤ a; exact h)]
  rfl
theorem shZ_wf : wfS (shZ L) := by
  refine ⟨by show 124 ≤ 1000000; omega, fun a ha => ?_⟩
  have ha' : 124 ≤ a := ha
  by_cases h1 : a = 1000001
  · subst h1
    exact Or.inl ⟨by unfold skd; show (shf L 1000001).1 = 0; rw [shf_1], by omega, by show 1000001 < 1000000 + 2; omega⟩
  · by_cases h2 : a = 1000000
    · subst h2
      exact Or.inl ⟨by unfold skd; show (shf L 1000000).1 = 0; rw [shf_0], by omega, by show 1000000 < 1000000 + 2; omega⟩
    · right
      show 5 ≤ (shf L a).1
      have e : shf L a = ((shT.getD a (100, 0, [], 0)).1, (shT.getD a (100, 0, [], 0)).2.1, fun k => (shT.getD a (100, 0, [], 0)).2.2.1.getD k (shT.getD a (100, 0, [], 0)).2.2.2) := by
        unfold shf
        rw [if_neg h1, if_neg h2]
      rw [e, shT_out ha']
      show 5 ≤ 100
      omega
def inX (q : Nat × Nat × List Nat × Nat) : Bool := q.2.2.1.all (fun r => decide (r ≤ 123)) && decide (q.2.2.2 ≤ 123)
theorem shT_X : (List.range 124).all (fun a => inX (shT.getD a (100, 0, [], 0))) = true := by decide +kernel
theorem getD_all {l : List Nat} {d : Nat} {P : Nat → Prop} (hl : ∀ r, r ∈ l → P r) (hd : P d) (k : Nat) : P (l.getD k d) := by
  rw [List.getD_eq_getElem?_getD]
  cases h : l[k]? with
  | none => exact hd
  | some r => exact hl r (List.mem_of_getElem? h)
theorem shZ_r (a k : Nat) (ha : a ≤ 123) : srf (shZ L) a k ≤ 123 := by
  show (shf L a).2.2 k ≤ 123
  rw [shZ_ne (by omega)]
  have h := List.all_eq_true.mp shT_X a (List.mem_range.mpr (by omega))
  unfold inX at h
  rw [Bool.and_eq_true, List.all_eq_true] at h
  exact getD_all (fun r hr => of_decide_eq_true (h.1 r hr)) (of_decide_eq_true h.2) k
theorem shZ_wp : wfP (shZ L) := ⟨shZ_wf, fun a k ha => by
  have ha' : a < 124 := ha
  have := shZ_r (L := L) a k (by omega)
  show _ < 124
  omega⟩
theorem shZ_X : XS (shZ L) := by
  have gl : ∀ g cap, g ∈ [2, 22, 44, 72, 103] ∧ cap = 30 ∨ g = 92 ∧ cap = 70 → glS (shZ L) g cap := by
    rintro g cap (⟨hg, rfl⟩ | ⟨rfl, rfl⟩)
    · simp only [List.mem_cons, List.not_mem_nil, or_false] at hg
      rcases hg with rfl | rfl | rfl | rfl | rfl <;> exact ⟨⟨rfl, rfl, Nat.le_of_ble_eq_true rfl⟩, rfl, rfl, rfl, rfl, rfl, rfl, rfl, rfl, rfl, rfl, rfl, rfl, rfl, rfl, rfl, rfl, rfl, rfl, Nat.le_of_ble_eq_true rfl⟩
    · exact ⟨⟨rfl, rfl, Nat.le_of_ble_eq_true rfl⟩, rfl, rfl, rfl, rfl, rfl, rfl, rfl, rfl, rfl, rfl, rfl, rfl, rfl, rfl, rfl, rfl, rfl, rfl, Nat.le_of_ble_eq_true rfl⟩
  have bd : ∀ b, b ∈ [9, 29, 51, 79, 110] → bdS (shZ L) b := by
    intro b hb
    simp only [List.mem_cons, List.not_mem_nil, or_false] at hb
    rcases hb with rfl | rfl | rfl | rfl | rfl <;> exact ⟨⟨rfl, rfl, Nat.le_of_ble_eq_true rfl⟩, rfl, rfl, rfl, rfl, rfl, rfl, rfl, rfl, rfl, Nat.le_of_ble_eq_true rfl, fun p hp => by
      rcases (show p = 0 ∨ p = 1 ∨ p = 2 ∨ p = 3 ∨ p = 4 by omega) with rfl | rfl | rfl | rfl | rfl <;> exact ⟨rfl, rfl, rfl⟩⟩
  have ly : ∀ l, l ∈ [18, 38, 60, 88, 119] → lyS (shZ L) l := by
    intro l hl
    simp only [List.mem_cons, List.not_mem_nil, or_false] at hl
    rcases hl with rfl | rfl | rfl | rfl | rfl <;> exact ⟨⟨rfl, rfl, Nat.le_of_ble_eq_true rfl⟩, rfl, rfl, rfl, rfl, rfl, rfl, Nat.le_of_ble_eq_true rfl⟩
  have gl' : ∀ g, g ∈ [2, 22, 44, 72, 103] → glS (shZ L) g 30 := fun g hg => gl g 30 (Or.inl ⟨hg, rfl⟩)
  have lt : ∀ k, k < 124 → k < (shZ L).1 := fun k hk => hk
  have cr1 : crS (shZ L) 71 := ⟨⟨rfl, rfl, lt _ (by omega)⟩, rfl, rfl, rfl, rfl, gl' 72 (by simp), bd 79 (by simp), ly 88 (by simp), rfl, rfl, lt _ (by omega)⟩
  have cr2 : crS (shZ L) 102 := ⟨⟨rfl, rfl, lt _ (by omega)⟩, rfl, rfl, rfl, rfl, gl' 103 (by simp), bd 110 (by simp), ly 119 (by simp), rfl, rfl, lt _ (by omega)⟩
  exact ⟨⟨rfl, rfl, lt _ (by omega)⟩, rfl, rfl, rfl, rfl, rfl, rfl, rfl, rfl, rfl, rfl, rfl, rfl, rfl,
    ⟨⟨rfl, rfl, lt _ (by omega)⟩, rfl, rfl, rfl, gl' 2 (by simp), bd 9 (by simp), ly 18 (by simp)⟩, ⟨⟨rfl, rfl, lt _ (by omega)⟩, rfl, rfl, rfl, gl' 22 (by simp), bd 29 (by simp), ly 38 (by simp)⟩,
    ⟨⟨rfl, rfl, lt _ (by omega)⟩, rfl, rfl, rfl, lt _ (by omega)⟩, rfl, rfl, gl' 44 (by simp), bd 51 (by simp), ly 60 (by simp), ⟨⟨rfl, rfl, lt _ (by omega)⟩, rfl, rfl, lt _ (by omega), rfl⟩,
    ⟨⟨rfl, rfl, lt _ (by omega)⟩, rfl, rfl, rfl, lt _ (by omega)⟩, ⟨⟨rfl, rfl, lt _ (by omega)⟩, rfl, rfl, rfl, lt _ (by omega)⟩, rfl, rfl,
    ⟨⟨rfl, rfl, lt _ (by omega)⟩, rfl, rfl, rfl, rfl, cr1, gl 92 70 (Or.inr ⟨rfl, rfl⟩), rfl, rfl, rfl, rfl, lt _ (by omega)⟩,
    ⟨⟨rfl, rfl, lt _ (by omega)⟩, rfl, rfl, cr2, rfl, rfl, lt _ (by omega)⟩, ⟨lt _ (by omega), by show 124 ≤ 1000000; omega⟩, rfl⟩
end SHZ
