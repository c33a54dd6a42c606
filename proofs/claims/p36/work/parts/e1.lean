/-! ===== calls of the class out of the law ===== -/
/-- it comes to an end, and there Q holds -/
def PE (e : Option (Option MV × PS)) (Q : Option MV → PS → Prop) : Prop := ∃ r S', e = some (r, S') ∧ Q r S'
theorem PE.of {e : Option (Option MV × PS)} {Q : Option MV → PS → Prop} {r : Option MV} {S' : PS} (h : e = some (r, S')) (hq : Q r S') : PE e Q := ⟨r, S', h, hq⟩
theorem PE.imp {e : Option (Option MV × PS)} {P Q : Option MV → PS → Prop} (h : PE e P) (hq : ∀ r S', P r S' → Q r S') : PE e Q := by
  obtain ⟨r, S', h1, h2⟩ := h
  exact ⟨r, S', h1, hq _ _ h2⟩
theorem pv_iv {d m pc : Nat} {ls : List (Option MV)} {st : List MV} {S S' : PS} {r : Option MV} (h : pv d m pc ls st S = some (r, S')) (hw : wfP S.1) : pIv S S' := by
  obtain ⟨n, hn⟩ := pv_iff.mp h
  exact pvF_iv _ _ _ _ _ _ _ _ _ hn hw
theorem prun_iv {d m : Nat} {as : List MV} {S S' : PS} {r : Option MV} (h : prun d m as S = some (r, S')) (hw : wfP S.1) : pIv S S' := pv_iv h hw
/-- the class's ids -/
def CX : Nat → Prop := fun a => a ≤ 123
/-- where the law stands: the class's object, the abstract state -/
def LI (S : PS) (a : AX) : Prop := XS S.1 ∧ InvX S.1 S.2.1 a ∧ wfP S.1 ∧ ∀ b k, b ≤ 123 → srf S.1 b k ≤ 123
/-- what lies from 124 on stays -/
def fr9 (σ σ' : Mem) : Prop := ∀ b, 124 ≤ b → σ'.1 b = σ.1 b ∧ σ'.2 b = σ.2 b
theorem LI.cl {S : PS} {a : AX} (h : LI S a) : clS CX S.1 := ⟨fun b k hb => h.2.2.2 b k hb, h.2.2.1.1⟩
theorem okA_of {sh : Shp} {zs : List Int} : okS CX sh (mR 0 :: zs.map mI) := by
  intro w hw
  rcases List.mem_cons.mp hw with rfl | q
  · exact Or.inl (by unfold CX; omega)
  · obtain ⟨z, -, rfl⟩ := List.mem_map.mp q
    trivial
/-- a call of the class: it ends, and what lies from 124 on stays -/
theorem cX {sh : Shp} {σ : Mem} {kk d m : Nat} {as : List MV} {v : MV} {a a' : AX} (hI : LI (sh, σ, kk) a) (ho : okS CX sh as) (h : End (run sh d m as σ) (fun r σ' => r = some v ∧ InvX sh σ' a')) : ∃ σ', run sh d m as σ = some (some v, σ') ∧ LI (sh, σ', kk) a' ∧ fr9 σ σ' := by
  obtain ⟨r, σ', h1, rfl, h2⟩ := h
  have s := run_frame hI.cl h1 ho
  exact ⟨σ', h1, ⟨hI.1, h2, hI.2.2.1, hI.2.2.2⟩, fun b hb => s b (by unfold CX; omega)⟩
theorem LI.ex {S S' : PS} {a : AX} (h : LI S a) (hx : pIv S S') (hk : ∀ b, b < 124 → S'.2.1.1 b = S.2.1.1 b) : LI S' a := by
  obtain ⟨h1, h2, h3, h4⟩ := h
  have h123 : 123 < S.1.1 := h1.2.2.2.2.2.2.2.2.2.2.2.2.2.2.2.2.2.2.2.2.2.2.2.2.2.2.2.2.2.1.1
  refine ⟨XS.ex hx.1 hx.2.2.2.1.1 h1, InvX.ex hx.1 (by omega) h2 (fun b hb => ?_), hx.2.2.2, fun b k hb => ?_⟩
  · rcases hb with hb | hb
    · exact hk b hb
    · exact hx.2.2.1 b hb
  · rw [hx.1.r (by omega)]; exact h4 b k hb
theorem LI.n {S : PS} {a : AX} (h : LI S a) : 124 ≤ S.1.1 ∧ S.1.1 ≤ 1000000 := ⟨h.1.2.2.2.2.2.2.2.2.2.2.2.2.2.2.2.2.2.2.2.2.2.2.2.2.2.2.2.2.2.1.1, h.2.2.1.1.1⟩

