/-! ===== THE LAW, from its entry ===== -/
theorem nz_get : ∃ ns, nzZ = some (8, [some (mR 1000001), some (mR 0), none, none, none, none, none], [], nzWl, 124, ns) ∧ ns ≤ 20000 := by
  have h := nzSeen_ok
  have hw : ∀ S, nzZ = some S → nzWl = S.2.2.2.1 := fun S hS => by unfold nzWl; rw [hS]
  unfold nzSeen at h
  split at h
  · rename_i w ns hz
    exact ⟨ns, by rw [hw _ hz]; exact hz, of_decide_eq_true ((Bool.and_eq_true _ _).mp h).2⟩
  · cases h
theorem law_dec {pc : Nat} {i : Instr} {len : Nat} (h : decode (mB 288) pc = .ok (i, len)) : decode code pc = .ok (i, len) := h
theorem LI_0 {L : Nat} {xs : Nat → Int32} : LI (shZ L, sgZ xs, 0) a0Z := ⟨shZ_X, InvX_0, shZ_wp, fun b k hb => shZ_r b k hb⟩
/-- from the entry, for every script of at most 260 ints, the law comes to its end with true -/
theorem whole_start0 (hmw : MwRow) {p : Program} {e : Env} {s : State} {m : MethodId} {below : List Frame} {meth : Method} {c : Code} (l : Launch) (hflags : l.flags = flags0) {b L : Nat} {xs : Nat → Int32} (hL : L ≤ 260) (C0 : lw_At p s m meth c b L xs) : W p l e room_1 s m #[Value.ref b] below meth c s.heap [] 0 0 (lw_Z below #[Value.ref b] s) (entryFrame m ([Value.ref b] : List Value).toArray 7) := by
  obtain ⟨hx, hb, hr, hml, hown, hts, hX, hbl, hlocks, hgv⟩ := id C0
  obtain ⟨D, cT, hK⟩ := nz_K C0
  obtain ⟨ft, hE⟩ := nz_env C0
  obtain ⟨t1, hZ1, hT1⟩ := nz_one C0
  obtain ⟨a1, hS1⟩ := nz_str C0
  obtain ⟨ns, hz, hns⟩ := nz_get
  have hA : ∀ q, s.heap.size ≤ q → (fun q : Nat => s.heap.size ≤ q) q := fun _ h => h
  have hws : ∀ w ∈ WS, w.before #[Value.ref b] s = true := fun w hw => hts w (WS_tbl w hw)
  rw [lg_entry_eq]
  let φ0 : Nat → Nat := fun a => if a = 1000000 then t1 else if a = 1000001 then b else a1
  have f0 : φ0 1000000 = t1 := if_pos rfl
  have f1 : φ0 1000001 = b := by show (if _ then _ else _) = _; rw [if_neg (by omega), if_pos rfl]
  have f2 : φ0 1000002 = a1 := by show (if _ then _ else _) = _; rw [if_neg (by omega), if_neg (by omega)]
  have hLH : LH φ0 ((lg_sl (([mR 1000001] : List MV).map (eV φ0)) ++ List.replicate (mML 288 - (lg_sl (([mR 1000001] : List MV).map (eV φ0))).length) Slot.unset).toArray) (mML 288) (ment 288 [mR 1000001]) := LH.entry (by decide)
  have hsl : (([mR 1000001] : List MV).map (eV φ0)) = [Value.ref b] := by show [Value.ref (φ0 1000001)] = _; rw [f1]
  rw [hsl] at hLH
  refine nz_all hmw 2000 8 288 (0, [some (mR 1000001), none, none, none, none, none, none], [], [], 0, 0) _ hz p l e room_1 s m #[Value.ref b] below meth c (lw_Z below #[Value.ref b] s) D cT φ0 (fun q : Nat => s.heap.size ≤ q) _ s.heap [] ft ⟨hx, hb, hml, hown, hws, hK, by decide, by decide, fun h => absurd h (by decide)⟩ hA (by show (124 : Nat) ≤ 600000; decide) (Nat.le_trans hns (by decide))
    ⟨hLH, fun k q h => by simp [nzW] at h, ⟨fun i j p q h => by simp [nzW] at h, fun k q h => by simp [nzW] at h⟩, va_S.rf, hE⟩ ?_
  intro φ arr H locs hag hC
  dsimp only at hag hC ⊢
  obtain ⟨hC1, hC2, hC3, hC4, hC5⟩ := hC
  have p160 : φ 1000000 = t1 := (hag 1000000 (Or.inr (Nat.le_refl _))).trans f0
  have p161 : φ 1000001 = b := (hag 1000001 (Or.inr (Nat.le_of_ble_eq_true rfl))).trans f1
  have p162 : φ 1000002 = a1 := (hag 1000002 (Or.inr (Nat.le_of_ble_eq_true rfl))).trans f2
  have hC2' : va_P D vwCl (wE cT φ (shZ L) (sgZ xs)) H := by rw [← nzW_wE]; exact hC2
  have hC3' : va_D (fun q : Nat => s.heap.size ≤ q) (wE cT φ (shZ L) (sgZ xs)) := by rw [← nzW_wE]; exact hC3
  have g0 : ∀ j, (sgZ xs).1 1000000 j = 1 := fun j => by
    show (if (1000000 : Nat) = 1000000 then (1 : Int) else if (1000000 : Nat) = 1000001 then (xs j).toInt else nzG 1000000 j) = 1
    rw [if_pos rfl]
  have g1 : ∀ j, (sgZ xs).1 1000001 j = (xs j).toInt := fun j => by
    show (if (1000001 : Nat) = 1000000 then (1 : Int) else if (1000001 : Nat) = 1000001 then (xs j).toInt else nzG 1000001 j) = _
    rw [if_neg (by omega), if_pos rfl]
  have l0 : sln (shZ L) 1000000 = 6 := by show (shf L 1000000).2.1 = 6; rw [shf_0]
  have l1 : sln (shZ L) 1000001 = L := by show (shf L 1000001).2.1 = L; rw [shf_1]
  have k1 : skd (shZ L) 1000001 = 0 := by show (shf L 1000001).1 = 0; rw [shf_1]
  have hen : envA φ (shZ L) (sgZ xs) (fun q : Nat => s.heap.size ≤ q) s s.heap := by
    refine ⟨fun i hi => ?_, fun q hq => va_Nw.of rfl (A := #[Value.ref b]) (hts _ (NL_ok q hq).1), va_Nw.of rfl (A := #[Value.ref b]) (hts _ (by decide +kernel)), fun _ => ?_, fun _ => ?_, Nat.le_of_ble_eq_true rfl⟩
    · have hi2 : i < 2 := hi
      rcases (show i = 0 ∨ i = 1 by omega) with rfl | rfl
      · obtain ⟨cell, h1, h2, h3, h4, h5, h6, h7⟩ := hT1
        show roX (φ 1000000) (sln (shZ L) 1000000) (fun j => Int32.ofInt ((sgZ xs).1 1000000 j)) s s.heap ∧ ¬ s.heap.size ≤ φ 1000000 ∧ φ 1000000 < s.heap.size
        rw [p160, l0]
        have hlt := (Array.getElem?_eq_some_iff.mp h1).1
        exact ⟨⟨cell, h1, h2, h3, h4, h5, fun j hj => by
          rw [h6 j hj]
          show some (Value.int 1) = some (Value.int (Int32.ofInt ((sgZ xs).1 1000000 j)))
          rw [g0]; rfl⟩, Nat.not_le.mpr hlt, hlt⟩
      · obtain ⟨cell, h1, h2, h3, h4, h5⟩ := hX
        show roX (φ 1000001) (sln (shZ L) 1000001) (fun j => Int32.ofInt ((sgZ xs).1 1000001 j)) s s.heap ∧ ¬ s.heap.size ≤ φ 1000001 ∧ φ 1000001 < s.heap.size
        rw [p161, l1]
        refine ⟨⟨cell, h1, h2, h3, by omega, by rw [h4] <;> rfl, fun j hj => ?_⟩, Nat.not_le.mpr hbl, hbl⟩
        rw [h5 j hj]
        show some (Value.int (xs j)) = some (Value.int (Int32.ofInt ((sgZ xs).1 1000001 j)))
        rw [g1, Int32.ofInt_toInt]
    · show va_Z RX10 "ONE_EACH" "[I" (.ref (φ 1000000)) _ s s.heap
      rw [p160]; exact hZ1
    · show strE (φ 1000002) _ s s.heap
      rw [p162]; exact hS1
  obtain ⟨S', hev, hb1, hb2⟩ := law_p (d := 0) (L := L) (sh := shZ L) (kk := 0) (σ := sgZ xs) (a := a0Z) LI_0 rfl rfl rfl rfl k1 l1 hL (by show 124 + 500 < 1000000; omega)
  replace hb1 : S'.1.1 ≤ 124 + 500 := hb1
  obtain ⟨n, hn⟩ := pv_iff.mp hev
  have hCf : Pf D cT φ (shZ L, sgZ xs, 0) (fun q : Nat => s.heap.size ≤ q) s (mML 288) arr [some (mR 1000001), some (mR 0), none, none, none, none, none] H locs := ⟨⟨hC1, hC2', hC3', hC4, hen⟩, shZ_wp⟩
  have c9 : 124 + (S'.1.1 - 124) ≤ 600000 := by omega
  have s9 : ns + (S'.2.2 - 0) ≤ 330000 := by omega
  have s9' : ns + (S'.2.2 - 0) ≤ room_1.slots := Nat.le_trans s9 (by decide)
  refine snd_P n (0 + 11) 288 8 [some (mR 1000001), some (mR 0), none, none, none, none, none] [] (shZ L, sgZ xs, 0) (some (mI 1)) S' hn p l e room_1 s m #[Value.ref b] below meth c 124 ns (lw_Z below #[Value.ref b] s) D cT φ (fun q : Nat => s.heap.size ≤ q) arr H locs ⟨hx, hb, hml, hown, hws, hK, by decide, by decide, by decide, Nat.le_trans hns (by decide)⟩ hA c9 s9' hCf ?_
  intro φ' pc' arr' H' locs' ls' st' hag' hend hC'
  obtain ⟨hC', -⟩ := hC'
  rcases hend with ⟨i, len, x1, x2, hd, hxx⟩ | ⟨hd, a, rfl, hr9, -⟩
  · rcases mex_ret hxx with ⟨v, rfl, rfl, rfl, hv, -⟩ | ⟨v, rfl, rfl, rfl, hv, -⟩ | ⟨rfl, rfl, rfl, hv, -⟩
    · cases hv
      refine va_forget (fun q hq => hC'.2.2.2.1.2.2 q hq) ?_
      refine W.widen (k := 600000) (n := room_1.slots) c9 (Nat.le_trans s9 (by decide)) ?_
      exact lw_ret hx hb hr hlocks (law_dec hd)
    · cases hv
    · cases hv
  · cases hr9
