/-! ===== what a grown shape keeps (printed by mkex.py) ===== -/
section EX
variable {sh sh' : Shp}
theorem Ex.k {a : Nat} (hx : Ex sh sh') (ha : a < sh.1) : skd sh' a = skd sh a := by unfold skd; rw [hx.2.2 a (Or.inl ha)]
theorem Ex.l {a : Nat} (hx : Ex sh sh') (ha : a < sh.1) : sln sh' a = sln sh a := by unfold sln; rw [hx.2.2 a (Or.inl ha)]
theorem Ex.r {a k : Nat} (hx : Ex sh sh') (ha : a < sh.1) : srf sh' a k = srf sh a k := by unfold srf; rw [hx.2.2 a (Or.inl ha)]
theorem ob.ex {c n a : Nat} (hx : Ex sh sh') (h : ob sh c n a) : ob sh' c n a := ⟨(hx.k h.2.2).trans h.1, (hx.l h.2.2).trans h.2.1, Nat.lt_of_lt_of_le h.2.2 hx.1⟩
theorem glS.ex {g cap : Nat} (hx : Ex sh sh') (h : glS sh g cap) : glS sh' g cap := by
  obtain ⟨h0, h1, h2, h3, h4, h5, h6, h7, h8, h9, h10, h11, h12, h13, h14, h15, h16, h17, h18, h19⟩ := h
  have ho := h0.2.2
  exact ⟨ob.ex hx h0, (hx.r (by omega)).trans h1, (hx.r (by omega)).trans h2, (hx.r (by omega)).trans h3, (hx.r (by omega)).trans h4, (hx.r (by omega)).trans h5, (hx.r (by omega)).trans h6, (hx.k (by omega)).trans h7, (hx.k (by omega)).trans h8, (hx.k (by omega)).trans h9, (hx.k (by omega)).trans h10, (hx.k (by omega)).trans h11, (hx.k (by omega)).trans h12, (hx.l (by omega)).trans h13, (hx.l (by omega)).trans h14, (hx.l (by omega)).trans h15, (hx.l (by omega)).trans h16, (hx.l (by omega)).trans h17, (hx.l (by omega)).trans h18, Nat.lt_of_lt_of_le h19 hx.1⟩
theorem bdS.ex {b : Nat} (hx : Ex sh sh') (h : bdS sh b) : bdS sh' b := by
  obtain ⟨h0, h1, h2, h3, h4, h5, h6, h7, h8, h9, h10, hp⟩ := h
  have ho := h0.2.2
  exact ⟨ob.ex hx h0, (hx.r (by omega)).trans h1, (hx.r (by omega)).trans h2, (hx.r (by omega)).trans h3, (hx.k (by omega)).trans h4, (hx.k (by omega)).trans h5, (hx.k (by omega)).trans h6, (hx.l (by omega)).trans h7, (hx.l (by omega)).trans h8, (hx.l (by omega)).trans h9, Nat.lt_of_lt_of_le h10 hx.1, fun p hp' => by
    obtain ⟨a1, a2, a3⟩ := hp p hp'
    exact ⟨(hx.r (by omega)).trans a1, (hx.k (by omega)).trans a2, (hx.l (by omega)).trans a3⟩⟩
theorem lyS.ex {l : Nat} (hx : Ex sh sh') (h : lyS sh l) : lyS sh' l := by
  obtain ⟨h0, h1, h2, h3, h4, h5, h6, h7⟩ := h
  have ho := h0.2.2
  exact ⟨ob.ex hx h0, (hx.r (by omega)).trans h1, (hx.r (by omega)).trans h2, (hx.k (by omega)).trans h3, (hx.k (by omega)).trans h4, (hx.l (by omega)).trans h5, (hx.l (by omega)).trans h6, Nat.lt_of_lt_of_le h7 hx.1⟩
theorem stS.ex {s cap : Nat} (hx : Ex sh sh') (h : stS sh s cap) : stS sh' s cap := by
  obtain ⟨h0, h1, h2, h3, h4, h5, h6⟩ := h
  have ho := h0.2.2
  exact ⟨ob.ex hx h0, (hx.r (by omega)).trans h1, (hx.r (by omega)).trans h2, (hx.r (by omega)).trans h3, glS.ex hx h4, bdS.ex hx h5, lyS.ex hx h6⟩
theorem rwS.ex {r cap : Nat} (hx : Ex sh sh') (h : rwS sh r cap) : rwS sh' r cap := by
  obtain ⟨h0, h1, h2, h3, h4⟩ := h
  have ho := h0.2.2
  exact ⟨ob.ex hx h0, (hx.k (by omega)).trans h1, (hx.l (by omega)).trans h2, Nat.lt_of_lt_of_le h3 hx.1, (hx.r (by omega)).trans h4⟩
theorem coS.ex {c : Nat} (hx : Ex sh sh') (h : coS sh c) : coS sh' c := by
  obtain ⟨h0, h1, h2, h3, h4⟩ := h
  have ho := h0.2.2
  exact ⟨ob.ex hx h0, (hx.r (by omega)).trans h1, (hx.k (by omega)).trans h2, (hx.l (by omega)).trans h3, Nat.lt_of_lt_of_le h4 hx.1⟩
theorem tpS.ex {t : Nat} (hx : Ex sh sh') (h : tpS sh t) : tpS sh' t := by
  obtain ⟨h0, h1, h2, h3, h4⟩ := h
  have ho := h0.2.2
  exact ⟨ob.ex hx h0, (hx.r (by omega)).trans h1, (hx.k (by omega)).trans h2, (hx.l (by omega)).trans h3, Nat.lt_of_lt_of_le h4 hx.1⟩
theorem crS.ex {k : Nat} (hx : Ex sh sh') (h : crS sh k) : crS sh' k := by
  obtain ⟨h0, h1, h2, h3, h4, h5, h6, h7, h8, h9, h10⟩ := h
  have ho := h0.2.2
  exact ⟨ob.ex hx h0, (hx.r (by omega)).trans h1, (hx.r (by omega)).trans h2, (hx.r (by omega)).trans h3, (hx.r (by omega)).trans h4, glS.ex hx h5, bdS.ex hx h6, lyS.ex hx h7, (hx.k (by omega)).trans h8, (hx.l (by omega)).trans h9, Nat.lt_of_lt_of_le h10 hx.1⟩
theorem roS.ex {o : Nat} (hx : Ex sh sh') (h : roS sh o) : roS sh' o := by
  obtain ⟨h0, h1, h2, h3, h4, h5, h6, h7, h8, h9, h10, h11⟩ := h
  have ho := h0.2.2
  exact ⟨ob.ex hx h0, (hx.r (by omega)).trans h1, (hx.r (by omega)).trans h2, (hx.r (by omega)).trans h3, (hx.r (by omega)).trans h4, crS.ex hx h5, glS.ex hx h6, (hx.k (by omega)).trans h7, (hx.l (by omega)).trans h8, (hx.k (by omega)).trans h9, (hx.l (by omega)).trans h10, Nat.lt_of_lt_of_le h11 hx.1⟩
theorem fnS.ex {f : Nat} (hx : Ex sh sh') (h : fnS sh f) : fnS sh' f := by
  obtain ⟨h0, h1, h2, h3, h4, h5, h6⟩ := h
  have ho := h0.2.2
  exact ⟨ob.ex hx h0, (hx.r (by omega)).trans h1, (hx.r (by omega)).trans h2, crS.ex hx h3, (hx.k (by omega)).trans h4, (hx.l (by omega)).trans h5, Nat.lt_of_lt_of_le h6 hx.1⟩
theorem XS.ex (hx : Ex sh sh') (hN : sh'.1 ≤ 1000000) (h : XS sh) : XS sh' := by
  obtain ⟨h0, h1, h2, h3, h4, h5, h6, h7, h8, h9, h10, h11, h12, h13, h14, h15, h16, h17, h18, h19, h20, h21, h22, h23, h24, h25, h26, h27, h28, h29, h30⟩ := h
  have ho := h0.2.2
  exact ⟨ob.ex hx h0, (hx.r (by omega)).trans h1, (hx.r (by omega)).trans h2, (hx.r (by omega)).trans h3, (hx.r (by omega)).trans h4, (hx.r (by omega)).trans h5, (hx.r (by omega)).trans h6, (hx.r (by omega)).trans h7, (hx.r (by omega)).trans h8, (hx.r (by omega)).trans h9, (hx.r (by omega)).trans h10, (hx.r (by omega)).trans h11, (hx.r (by omega)).trans h12, (hx.r (by omega)).trans h13, stS.ex hx h14, stS.ex hx h15, tpS.ex hx h16, (hx.k (by omega)).trans h17, (hx.l (by omega)).trans h18, glS.ex hx h19, bdS.ex hx h20, lyS.ex hx h21, rwS.ex hx h22, coS.ex hx h23, coS.ex hx h24, (hx.k (by omega)).trans h25, (hx.l (by omega)).trans h26, roS.ex hx h27, fnS.ex hx h28, ⟨Nat.lt_of_lt_of_le h29.1 hx.1, hN⟩, hx.2.1.trans h30⟩
theorem HT.ex {σ : Mem} {t : Nat} {T : Nat → Nat} (hx : Ex sh sh') (ht : t < sh.1 ∨ 1000000 ≤ t) (h : HT sh σ t T) : HT sh' σ t T := by
  obtain ⟨h1, h2, h3⟩ := h
  refine ⟨?_, ?_, h3⟩
  · unfold skd at h1 ⊢; rw [hx.2.2 t ht]; exact h1
  · unfold sln at h2 ⊢; rw [hx.2.2 t ht]; exact h2
theorem InvX.ex {σ σ' : Mem} {a : AX} (hx : Ex sh sh') (h43 : 43 < sh.1) (h : InvX sh σ a) (hk : ∀ b, b < 124 ∨ 1000000 ≤ b → σ'.1 b = σ.1 b) : InvX sh' σ' a := by
  have h1 : InvX sh σ' a := h.k (fun b hb => hk b (by omega))
  obtain ⟨a1, a2, a3, a4, a5, a6, a7⟩ := h1
  exact ⟨a1, a2, a3, a4, a5, a6.ex hx (Or.inl h43), a7.ex hx (Or.inr (Nat.le_refl _))⟩
end EX
