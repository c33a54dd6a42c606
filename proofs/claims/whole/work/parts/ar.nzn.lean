/-! ===== THE LAW, from its entry ===== -/
theorem nz_get : ∃ ns, nzZ = some (18, [some (mR 161), some (mR 0), some (mR 124), some (mI 0)], [], nzWl, 160, ns) ∧ ns ≤ 20000 := by
  have h := nzSeen_ok
  have hw : ∀ S, nzZ = some S → nzWl = S.2.2.2.1 := fun S hS => by unfold nzWl; rw [hS]
  unfold nzSeen at h
  split at h
  · rename_i w ns hz
    exact ⟨ns, by rw [hw _ hz]; exact hz, of_decide_eq_true ((Bool.and_eq_true _ _).mp h).2⟩
  · cases h
theorem law_dec {pc : Nat} {i : Instr} {len : Nat} (h : decode (mB 288) pc = .ok (i, len)) : decode code pc = .ok (i, len) := h
/-- from the entry, for every script of at most 3072 ints, the law comes to its end with true -/
theorem whole_start0 (hmw : MwRow) {p : Program} {e : Env} {s : State} {m : MethodId} {below : List Frame} {meth : Method} {c : Code} (l : Launch) (hflags : l.flags = flags0) {b L : Nat} {xs : Nat → Int32} (hL : L ≤ 3072) (C0 : lw_At p s m meth c b L xs) : W p l e room_1 s m #[Value.ref b] below meth c s.heap [] 0 0 (lw_Z below #[Value.ref b] s) (entryFrame m ([Value.ref b] : List Value).toArray 4) := by
  obtain ⟨hx, hb, hr, hml, hown, hts, hX, hbl, hlocks, hgv⟩ := id C0
  obtain ⟨D, cT, hK⟩ := nz_K C0
  obtain ⟨ft, hE⟩ := nz_env C0
  obtain ⟨t1, hZ1, hT1⟩ := nz_one C0
  obtain ⟨a1, hS1⟩ := nz_str C0
  obtain ⟨ns, hz, hns⟩ := nz_get
  have hA : ∀ q, s.heap.size ≤ q → (fun q : Nat => s.heap.size ≤ q) q := fun _ h => h
  have hws : ∀ w ∈ WS, w.before #[Value.ref b] s = true := fun w hw => hts w (WS_tbl w hw)
  rw [lg_entry_eq]
  let φ0 : Nat → Nat := fun a => if a = 160 then t1 else if a = 161 then b else a1
  have hLH : LH φ0 ((lg_sl (([mR 161] : List MV).map (eV φ0)) ++ List.replicate (mML 288 - (lg_sl (([mR 161] : List MV).map (eV φ0))).length) Slot.unset).toArray) (mML 288) (ment 288 [mR 161]) := LH.entry (by decide)
  refine nz_all hmw 2000 8 288 (0, [some (mR 161), none, none, none], [], [], 0, 0) _ hz p l e room_1 s m #[Value.ref b] below meth c (lw_Z below #[Value.ref b] s) D cT φ0 (fun q : Nat => s.heap.size ≤ q) _ s.heap [] ft ⟨hx, hb, hml, hown, hws, hK, by decide, by decide, fun h => absurd h (by decide)⟩ hA (by show (160 : Nat) ≤ 600000; decide) (Nat.le_trans hns (by decide))
    ⟨hLH, fun k q h => by simp [nzW] at h, ⟨fun i j p q h => by simp [nzW] at h, fun k q h => by simp [nzW] at h⟩, va_S.rf, hE⟩ ?_
  intro φ arr H locs hag hC
  dsimp only at hag hC ⊢
  obtain ⟨hC1, hC2, hC3, hC4, hC5⟩ := hC
  have p160 : φ 160 = t1 := hag 160 (Or.inr (Nat.le_refl _))
  have p161 : φ 161 = b := hag 161 (Or.inr (by decide))
  have p162 : φ 162 = a1 := hag 162 (Or.inr (by decide))
  have hC2' : va_P D vwCl (wE cT φ (shZ L) (sgZ xs)) H := by rw [← nzW_wE]; exact hC2
  have hC3' : va_D (fun q : Nat => s.heap.size ≤ q) (wE cT φ (shZ L) (sgZ xs)) := by rw [← nzW_wE]; exact hC3
  have hen : envA φ (shZ L) (sgZ xs) (fun q : Nat => s.heap.size ≤ q) s s.heap := by
    refine ⟨fun i hi => ?_, fun q hq => va_Nw.of rfl (A := #[Value.ref b]) (hts _ (NL_ok q hq).1), va_Nw.of rfl (A := #[Value.ref b]) (hts _ (by decide +kernel)), fun _ => ?_, fun _ => ?_⟩
    · have hi2 : i < 2 := hi
      rcases (show i = 0 ∨ i = 1 by omega) with rfl | rfl
      · obtain ⟨cell, h1, h2, h3, h4, h5, h6, h7⟩ := hT1
        show roX (φ 160) 6 (fun j => Int32.ofInt ((sgZ xs).1 160 j)) s s.heap ∧ ¬ s.heap.size ≤ φ 160 ∧ φ 160 < s.heap.size
        rw [p160]
        have hlt := (Array.getElem?_eq_some_iff.mp h1).1
        exact ⟨⟨cell, h1, h2, h3, h4, h5, fun j hj => h6 j hj⟩, Nat.not_le.mpr hlt, hlt⟩
      · obtain ⟨cell, h1, h2, h3, h4, h5⟩ := hX
        show roX (φ 161) L (fun j => Int32.ofInt ((sgZ xs).1 161 j)) s s.heap ∧ ¬ s.heap.size ≤ φ 161 ∧ φ 161 < s.heap.size
        rw [p161]
        refine ⟨⟨cell, h1, h2, h3, by omega, by rw [h4] <;> rfl, fun j hj => ?_⟩, Nat.not_le.mpr hbl, hbl⟩
        rw [h5 j hj]
        show some (Value.int (xs j)) = some (Value.int (Int32.ofInt (xs j).toInt))
        rw [Int32.ofInt_toInt]
    · show va_Z RX10 "ONE_EACH" "[I" (.ref (φ 160)) _ s s.heap
      rw [p160]; exact hZ1
    · show strE (φ 162) _ s s.heap
      rw [p162]; exact hS1
  have hi9 : ∀ j, i32 ((sgZ xs).1 161 j) := fun j => by
    show i32 ((xs j).toInt)
    have h1 := Int32.le_toInt (xs j)
    have h2 := Int32.toInt_lt (xs j)
    unfold i32
    omega
  obtain ⟨σ', hev⟩ := law_m (shZ_L hL) L 0 (sgZ xs) a0Z (by omega) (by omega) hi9 InvX_0 InvM_0
  obtain ⟨n, hn⟩ := ev_iff.mp hev
  have hCf : Cf D cT φ (shZ L) (sgZ xs) (fun q : Nat => s.heap.size ≤ q) s (mML 288) arr [some (mR 161), some (mR 0), some (mR 124), some (mI 0)] H locs := ⟨hC1, hC2', hC3', hC4, hen⟩
  refine snd_all shZ_wf n 15 288 18 [some (mR 161), some (mR 0), some (mR 124), some (mI 0)] [] (sgZ xs) (some (mI 1)) σ' hn p l e room_1 s m #[Value.ref b] below meth c 160 ns (lw_Z below #[Value.ref b] s) D cT φ (fun q : Nat => s.heap.size ≤ q) arr H locs ⟨hx, hb, hml, hown, hws, hK, by decide, by decide, by decide, Nat.le_trans hns (by decide)⟩ hA hCf ?_
  intro pc' arr' H' locs' ls' st' i len x1 x2 hd hxx hC'
  rcases mex_ret hxx with ⟨v, rfl, rfl, rfl, hv, -⟩ | ⟨v, rfl, rfl, rfl, hv, -⟩ | ⟨rfl, rfl, rfl, hv, -⟩
  · cases hv
    refine va_forget (fun q hq => hC'.2.2.2.1.2.2 q hq) ?_
    refine W.widen (k := 600000) (n := room_1.slots) (by omega) (Nat.le_trans hns (by decide)) ?_
    exact lw_ret hx hb hr hlocks (law_dec hd)
  · cases hv
  · cases hv
