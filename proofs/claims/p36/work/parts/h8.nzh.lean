/-! ===== N against the machine: five rows of five ===== -/
/-- a row of five rows of five ints, made in one stroke: the outer at H.size, the inner ones behind it (proved in the last part: the library's rows for it lie in Shelf42) -/
def MwRow : Prop := ∀ (p : Program) (l : Launch) (e : Env) (R : Room) (s : State) (mid : MethodId) (args : Array Value) (below : List Frame) (meth : Method) (c : Code) (H : Heap) (locs : List Loc) (Q : State → Prop) (D : va_G) (cT : Nat → ClassId) (arr : Array Slot) (pc nc ns : Nat) (cc : ByteArray) (rest : List Value) (hx : p.tables.exec = Jvm.exec) (hb : c.code = cc) (hown : s.vm.findClass RX0 = some mid.cls) (hlink : (Cond.classLink RX0 25 "[[I").before args s = true) (hover : (Cond.arrayOver (.array .int)).before args s = true) (harr : (Cond.arrayClass .int).before args s = true)
      (hK : va_K D vwCl (tyL cT) s) (hc : nc + 6 ≤ R.cells) (hsl : ns + 30 ≤ R.slots) (hd : decode cc pc = .ok (.multianewarray 25 2, 4))
      (kk : ∀ (H1 : Heap), H1.size = H.size + 6 → (∀ q, q < H.size → H1[q]? = H[q]?) → H1[H.size]? = some (arrV (cT 4) 5 (fun j => .ref (H.size + 1 + j))) → (∀ j, j < 5 → H1[H.size + 1 + j]? = some (arrV (cT 0) 5 (fun _ => .int 0))) →
        W p l e R s mid args below meth c H1 locs (nc + 6) (ns + 30) Q (F0 mid (pc + 4) arr (.ref H.size :: rest))), W p l e R s mid args below meth c H locs nc ns Q (F0 mid pc arr (.int 5 :: .int 5 :: rest))
section NZE
variable {p : Program} {l : Launch} {e : Env} {R : Room} {s : State} {mid : MethodId} {args : Array Value} {below : List Frame} {meth : Method} {c : Code} {H : Heap} {locs : List Loc} {Q : State → Prop}
variable {D : va_G} {cT : Nat → ClassId} {φ : Nat → Nat} {w : List NzC} {A : Nat → Prop} {ft : Nat} {arr : Array Slot} {ls : List (Option MV)} {st : List MV} {d m pc len x1 x2 nc ns : Nat} {S : NzS}
theorem nzW_app2 {w2 : List NzC} : nzW cT φ (w ++ w2) = nzW cT φ w ++ w2.mapIdx (fun i c => (φ (w.length + i), nzE cT φ c)) := by
  refine List.ext_getElem? fun k => ?_
  rw [nzW_get, List.getElem?_append, List.getElem?_append, nzW_get, nzW_len, List.getElem?_mapIdx]
  by_cases h : k < w.length
  · rw [if_pos h, if_pos h]
  · rw [if_neg h, if_neg h, show w.length + (k - w.length) = k by omega]
theorem nz_multi {i k : Nat} (hmw : MwRow) (hX : NzX p R s mid args meth c D cT d m) (hA : ∀ q, s.heap.size ≤ q → A q) (hs : nzStep d m pc ls st w nc ns (.multianewarray i k) len x1 x2 = some (.inl S)) (hd : decode (mB m) pc = .ok (.multianewarray i k, len)) (hC : NzF D cT φ w A s (mML m) arr ls H locs ft)
    (h1 : S.2.2.2.2.1 ≤ R.cells) (h2 : S.2.2.2.2.2 ≤ R.slots) (kk : Nzk p l e R s mid args below meth c Q D cT A (mML m) ft φ w.length S) : W p l e R s mid args below meth c H locs nc ns Q (F0 mid pc arr (st.map (eV φ))) := by
  obtain ⟨hx, hb, hml, hown, hts, hK, hf, hlo, hin⟩ := hX
  simp only [nzStep] at hs
  split at hs
  rotate_left
  · cases hs
  rename_i y x r
  split at hs
  rotate_left
  · cases hs
  rename_i hc
  obtain ⟨rfl, rfl, hm0, rfl, rfl, rfl⟩ := hc
  unfold nzAl5 at hs
  split at hs
  · rename_i h
    obtain ⟨hw, hl, h0⟩ := h
    unfold nzGo at hs; cases hs
    rw [hm0] at hown
    refine hmw p l e R s mid _ below meth c H locs Q D cT arr pc nc ns _ (r.map (eV φ)) hx hb hown (hts _ nzMA_ok) hC.2.2.2.2.2.2.1 (hts _ nzAr_ok.1) hK h1 h2 hd (fun H1 z1 o1 e1 i1 => ?_)
    let φ' : Nat → Nat := fun a => if w.length ≤ a ∧ a < w.length + 6 then H.size + (a - w.length) else φ a
    have hAg : nzAg w.length φ φ' := fun a ha => if_neg (by omega)
    have hwk : nzWok w ls r = true := hw
    have eph : ∀ j, j < 6 → φ' (w.length + j) = H.size + j := fun j hj => by
      show (if _ then _ else _) = _
      rw [if_pos (by omega)]; omega
    have e0 : ∀ (cc : ClassId), (fun j : Nat => Value.int (Int32.ofInt (nzI (List.replicate 5 (some (mI 0)))[j]?))) = fun _ => .int 0 := by
      intro _
      funext j
      rw [List.getElem?_replicate]
      split <;> rfl
    have hN : ∀ (k : Nat) (q : Nat × va_E), (nzW cT φ' (w ++ nzM5 w.length))[k]? = some q → w.length ≤ k → va_at D vwCl q H1 ∧ q.1 = H.size + (k - w.length) ∧ k < w.length + 6 := by
      intro k q hq hk
      rw [nzW_get, List.getElem?_append_right hk] at hq
      have h6 : k - w.length < 6 := by
        cases hz : (nzM5 w.length)[k - w.length]? with
        | none => rw [hz] at hq; cases hq
        | some _ => exact (List.getElem?_eq_some_iff.mp hz).1
      have ek : φ' k = H.size + (k - w.length) := by
        have := eph (k - w.length) h6
        rwa [show w.length + (k - w.length) = k by omega] at this
      rcases hj : k - w.length with _ | j
      · rw [hj] at hq ek
        have hq' := Option.some.inj hq
        subst hq'
        refine ⟨?_, by show φ' k = _; rw [ek], by omega⟩
        show H1[φ' k]? = _
        rw [ek, Nat.add_zero, e1]
        refine congrArg some ?_
        show arrV (cT 4) 5 _ = vp_cell (cT 4) (5, .inr (.inr (.inr (.inr (fun j => some (nzF φ' ((List.range 5).map (fun j => some (mR (w.length + 1 + j))))[j]?))))))
        unfold vp_cell
        simp only
        unfold arrV
        congr 1
        refine congrArg (fun z => Array.ofFn z) ?_
        funext j
        have hj5 := j.isLt
        show Value.ref (H.size + 1 + j.val) = Value.ref (nzF φ' ((List.range 5).map (fun j => some (mR (w.length + 1 + j))))[j.val]?)
        rw [List.getElem?_map, List.getElem?_range hj5]
        show _ = Value.ref (φ' (w.length + 1 + j.val))
        rw [show w.length + 1 + j.val = w.length + (j.val + 1) by omega, eph (j.val + 1) (by omega), show H.size + (j.val + 1) = H.size + 1 + j.val by omega]
      · rw [hj] at hq ek
        have hj5 : j < 5 := by omega
        have hq2 : (nzM5 w.length)[j + 1]? = some (0, 5, List.replicate 5 (some (mI 0))) := by
          show (List.replicate 5 ((0, 5, List.replicate 5 (some (mI 0))) : NzC))[j]? = _
          rw [List.getElem?_replicate, if_pos hj5]
        rw [hq2] at hq
        have hq' := Option.some.inj hq
        subst hq'
        refine ⟨?_, by show φ' k = _; rw [ek], by omega⟩
        show H1[φ' k]? = _
        rw [ek, show H.size + (j + 1) = H.size + 1 + j by omega, i1 j hj5]
        refine congrArg some ?_
        show arrV (cT 0) 5 _ = arrV (cT 0) 5 (fun j : Nat => Value.int (Int32.ofInt (nzI (List.replicate 5 (some (mI 0)))[j]?)))
        rw [e0 (cT 0)]
    have hO : ∀ (k : Nat) (q : Nat × va_E), (nzW cT φ' (w ++ nzM5 w.length))[k]? = some q → k < w.length → (nzW cT φ w)[k]? = some q := by
      intro k q hq hk
      rw [nzW_app2, List.getElem?_append_left (by rw [nzW_len]; exact hk), nzW_ag hwk hAg] at hq
      exact hq
    have hP1 : va_P D vwCl (nzW cT φ' (w ++ nzM5 w.length)) H1 := by
      intro k q hq
      by_cases hk : k < w.length
      · have hq0 := hO k q hq hk
        exact (hC.2.1 k q hq0).kept (o1 _ (hC.2.1 k q hq0).lt)
      · exact (hN k q hq (by omega)).1
    have hD1 : va_D A (nzW cT φ' (w ++ nzM5 w.length)) := by
      refine ⟨fun a b x y ha hb hxy => ?_, fun k q hq => ?_⟩
      · by_cases h1 : a < w.length
        · have ha0 := hO a x ha h1
          by_cases h2 : b < w.length
          · exact hC.2.2.1.1 a b x y ha0 (hO b y hb h2) hxy
          · have := (hC.2.1 a x ha0).lt
            have := (hN b y hb (by omega)).2.1
            omega
        · have ha1 := hN a x ha (by omega)
          by_cases h2 : b < w.length
          · have hb0 := hO b y hb h2
            have := (hC.2.1 b y hb0).lt
            omega
          · have hb1 := hN b y hb (by omega)
            omega
      · by_cases hk : k < w.length
        · exact hC.2.2.1.2 k q (hO k q hq hk)
        · rw [(hN k q hq (by omega)).2.1]
          exact hA _ (by have := hC.2.2.2.1.1; omega)
    have hS1 : va_S A s.heap H1 locs := ⟨Nat.le_trans hC.2.2.2.1.1 (by omega), fun y h1 h2 => (o1 y (Nat.lt_of_lt_of_le h1 hC.2.2.2.1.1)).trans (hC.2.2.2.1.2.1 y h1 h2), hC.2.2.2.1.2.2⟩
    have hfin := kk φ' arr H1 locs hAg ⟨nzLs_ag hwk hAg hC.1, hP1, hD1, hS1, hC.2.2.2.2⟩
    simp only [List.map_cons, nzSt_ag hwk hAg] at hfin
    have e9 : eV φ' (mR w.length) = Value.ref H.size := by
      show Value.ref (φ' w.length) = _
      rw [show w.length = w.length + 0 from rfl, eph 0 (by omega)]
      rfl
    rw [e9] at hfin
    exact hfin
  · cases hs
end NZE
