/-! ===== N against the machine: a step, of any kind ===== -/
theorem nzCall_in {x1 : Nat} {st : List MV} {S : NzS} : nzCall x1 st ≠ some (.inl S) := by
  unfold nzCall
  intro h
  split at h
  · split at h
    · cases h
    · cases h
  · cases h
theorem nzCall_end {x1 : Nat} {st : List MV} : nzCall x1 st ≠ some (.inr (.inr ())) := by
  unfold nzCall
  intro h
  split at h
  · split at h
    · cases h
    · cases h
  · cases h
theorem nzCall_sp {x1 c1 : Nat} {st as r : List MV} (h : nzCall x1 st = some (.inr (.inl (c1, as, r)))) : x1 = c1 ∧ ∃ a As, as = mR a :: As ∧ mNA c1 = As.length + 1 ∧ (ments as).length ≤ mML c1 ∧ mcs r ≤ 8 ∧ st = As.reverse ++ mR a :: r ∧ (st.take (mNA c1)).reverse = as := by
  unfold nzCall at h
  split at h
  · rename_i a As hr
    split at h
    · rename_i hc
      cases h
      have hl : (st.take (mNA x1)).length = mNA x1 := by rw [List.length_take]; exact Nat.min_eq_left hc.1
      have he : st.take (mNA x1) = (mR a :: As).reverse := by rw [← hr, List.reverse_reverse]
      refine ⟨rfl, a, As, rfl, ?_, hc.2.1, hc.2.2, ?_, hr⟩
      · rw [← hl, he]; simp
      · rw [show As.reverse ++ mR a :: st.drop (mNA x1) = (mR a :: As).reverse ++ st.drop (mNA x1) by simp, ← he, List.take_append_drop]
    · cases h
  · cases h
theorem nzStep_end {d m pc len x1 x2 nc ns : Nat} {ls : List (Option MV)} {st : List MV} {w : List NzC} {i : Instr} (hs : nzStep d m pc ls st w nc ns i len x1 x2 = some (.inr (.inr ()))) : i = .return_ ∧ len = 1 ∧ st = [] ∧ mRT m = 0 := by
  cases i with
  | return_ =>
    simp only [nzStep] at hs
    split at hs
    · split at hs
      · rename_i h; exact ⟨rfl, h.1, rfl, h.2⟩
      · cases hs
    · cases hs
  | invokespecial k =>
    simp only [nzStep] at hs
    repeat' split at hs
    all_goals first | (cases hs; done) | (unfold nzGo at hs; cases hs; done) | exact absurd hs nzCall_end
  | invokevirtual k =>
    simp only [nzStep] at hs
    repeat' split at hs
    all_goals first | (cases hs; done) | exact absurd hs nzCall_end
  | if_icmp cd off =>
    cases cd <;> simp only [nzStep, nzGo] at hs <;> (repeat' split at hs) <;> cases hs
  | _ =>
    simp only [nzStep, nzAl, nzAl5, nzGo] at hs
    repeat' split at hs
    all_goals cases hs
theorem nzStep_up {d m pc len x1 x2 nc ns : Nat} {ls : List (Option MV)} {st : List MV} {w : List NzC} {i : Instr} {S : NzS} (hs : nzStep d m pc ls st w nc ns i len x1 x2 = some (.inl S)) : w.length ≤ S.2.2.2.1.length ∧ nc ≤ S.2.2.2.2.1 ∧ ns ≤ S.2.2.2.2.2 := by
  cases i with
  | invokespecial k =>
    simp only [nzStep] at hs
    repeat' split at hs
    all_goals first | (cases hs; done) | (unfold nzGo at hs; cases hs; exact ⟨Nat.le_refl _, Nat.le_refl _, Nat.le_refl _⟩) | exact absurd hs nzCall_in
  | invokevirtual k =>
    simp only [nzStep] at hs
    repeat' split at hs
    all_goals first | (cases hs; done) | exact absurd hs nzCall_in
  | if_icmp cd off =>
    cases cd <;> simp only [nzStep, nzGo] at hs <;> (repeat' split at hs) <;> first | (cases hs; done) | (cases hs; exact ⟨Nat.le_refl _, Nat.le_refl _, Nat.le_refl _⟩)
  | _ =>
    simp only [nzStep, nzAl, nzAl5, nzGo] at hs
    repeat' split at hs
    all_goals first | (cases hs; done) | (cases hs; exact ⟨by simp, by simp, by simp⟩)
theorem nzEv_up : ∀ (n d m : Nat) (S S' : NzS), nzEv n d m S = some S' → S.2.2.2.1.length ≤ S'.2.2.2.1.length ∧ S.2.2.2.2.1 ≤ S'.2.2.2.2.1 ∧ S.2.2.2.2.2 ≤ S'.2.2.2.2.2 := by
  intro n
  induction n with
  | zero => intro d m S S' h; simp [nzEv] at h
  | succ n ih =>
    intro d m S S' h
    rw [nzEv] at h
    split at h
    · cases h; exact ⟨Nat.le_refl _, Nat.le_refl _, Nat.le_refl _⟩
    · split at h
      · cases h
      · split at h
        · cases h
        · rename_i hs
          have a1 := nzStep_up hs
          have a2 := ih _ _ _ _ h
          exact ⟨Nat.le_trans a1.1 a2.1, Nat.le_trans a1.2.1 a2.2.1, Nat.le_trans a1.2.2 a2.2.2⟩
        · split at h
          · cases h
          · split at h
            · split at h
              · cases h
              · rename_i hc
                have a1 := ih _ _ _ _ hc
                have a2 := ih _ _ _ _ h
                simp only at a1 a2
                exact ⟨by omega, by omega, by omega⟩
            · cases h
        · cases h; exact ⟨Nat.le_refl _, Nat.le_refl _, Nat.le_refl _⟩
theorem nzEv_end : ∀ (n d m : Nat) (S S' : NzS), nzEv n d m S = some S' → m ≠ 288 → S'.2.2.1 = [] ∧ decode (mB m) S'.1 = .ok (.return_, 1) := by
  intro n
  induction n with
  | zero => intro d m S S' h; simp [nzEv] at h
  | succ n ih =>
    intro d m S S' h hm
    rw [nzEv] at h
    split at h
    · rename_i h9; exact absurd h9.1 hm
    · split at h
      · cases h
      · rename_i e he
        split at h
        · cases h
        · exact ih _ _ _ _ h hm
        · split at h
          · cases h
          · split at h
            · split at h
              · cases h
              · exact ih _ _ _ _ h hm
            · cases h
        · rename_i hs
          cases h
          obtain ⟨h1, h2, h3, -⟩ := nzStep_end hs
          refine ⟨h3, ?_⟩
          have hd := mcode_dec he
          rw [h1, h2] at hd
          exact hd
section NZI
variable {p : Program} {l : Launch} {e : Env} {R : Room} {s : State} {mid : MethodId} {args : Array Value} {below : List Frame} {meth : Method} {c : Code} {H : Heap} {locs : List Loc} {Q : State → Prop}
variable {D : va_G} {cT : Nat → ClassId} {φ : Nat → Nat} {w : List NzC} {A : Nat → Prop} {ft : Nat} {arr : Array Slot} {ls : List (Option MV)} {st : List MV} {d m pc len x1 x2 nc ns : Nat} {S : NzS} {i : Instr}
theorem nz_step (hmw : MwRow) (hX : NzX p R s mid args meth c D cT d m) (hA : ∀ q, s.heap.size ≤ q → A q) (hmc : mcode m pc = some (i, len, x1, x2)) (hs : nzStep d m pc ls st w nc ns i len x1 x2 = some (.inl S)) (hC : NzF D cT φ w A s (mML m) arr ls H locs ft) (h1 : S.2.2.2.2.1 ≤ R.cells) (h2 : S.2.2.2.2.2 ≤ R.slots)
    (kk : Nzk p l e R s mid args below meth c Q D cT A (mML m) ft φ w.length S) : W p l e R s mid args below meth c H locs nc ns Q (F0 mid pc arr (st.map (eV φ))) := by
  have hd := mcode_dec hmc
  have hk := mcode_chk hmc
  unfold chk at hk
  rw [Bool.and_eq_true] at hk
  replace hk := hk.2
  cases i with
  | aload_n k => exact nz_simple hX hs hd hC (Or.inl ⟨k, rfl⟩) kk
  | iload_n k => exact nz_simple hX hs hd hC (Or.inr (Or.inl ⟨k, rfl⟩)) kk
  | iconst z => exact nz_simple hX hs hd hC (Or.inr (Or.inr (Or.inl ⟨z, rfl⟩))) kk
  | bipush z => exact nz_simple hX hs hd hC (Or.inr (Or.inr (Or.inr (Or.inl ⟨z, rfl⟩)))) kk
  | sipush z => exact nz_simple hX hs hd hC (Or.inr (Or.inr (Or.inr (Or.inr (Or.inl ⟨z, rfl⟩))))) kk
  | dup => exact nz_simple hX hs hd hC (Or.inr (Or.inr (Or.inr (Or.inr (Or.inr (Or.inl rfl)))))) kk
  | istore_n k => exact nz_simple hX hs hd hC (Or.inr (Or.inr (Or.inr (Or.inr (Or.inr (Or.inr (Or.inl ⟨k, rfl⟩))))))) kk
  | astore_n k => exact nz_simple hX hs hd hC (Or.inr (Or.inr (Or.inr (Or.inr (Or.inr (Or.inr (Or.inr (Or.inl ⟨k, rfl⟩)))))))) kk
  | iinc k z => exact nz_simple hX hs hd hC (Or.inr (Or.inr (Or.inr (Or.inr (Or.inr (Or.inr (Or.inr (Or.inr (Or.inl ⟨k, z, rfl⟩))))))))) kk
  | goto z => exact nz_simple hX hs hd hC (Or.inr (Or.inr (Or.inr (Or.inr (Or.inr (Or.inr (Or.inr (Or.inr (Or.inr (Or.inl ⟨z, rfl⟩)))))))))) kk
  | if_icmp cd z =>
    cases cd with
    | ge => exact nz_simple hX hs hd hC (Or.inr (Or.inr (Or.inr (Or.inr (Or.inr (Or.inr (Or.inr (Or.inr (Or.inr (Or.inr ⟨z, rfl⟩)))))))))) kk
    | _ => simp only [nzStep] at hs; cases hs
  | invokestatic k =>
    refine nz_max hX (fun h4 => ?_) hs hd hC h1 h2 kk
    subst h4
    exact List.contains_iff_mem.mp hk
  | new k => exact nz_new hX hA hs hd hC h1 h2 kk
  | newarray t => exact nz_newarr hX hA hs hd hC h1 h2 kk
  | multianewarray i k => exact nz_multi hmw hX hA hs hd hC h1 h2 kk
  | putfield k => exact nz_putfield hX (FL_ok _ (List.contains_iff_mem.mp hk)) hs hd hC kk
  | getfield k => exact nz_getfield hX (FL_ok _ (List.contains_iff_mem.mp hk)) hs hd hC kk
  | iastore => exact nz_iastore hX hs hd hC kk
  | aaload => exact nz_aaload hX hs hd hC kk
  | getstatic k => exact nz_first hX hA hs hd hC h1 h2 kk
  | invokespecial k =>
    by_cases hO : nzOL.contains (mCI m, k) = true
    · exact nz_obj hX hO hs hd hC kk
    · simp only [nzStep, if_neg hO] at hs
      repeat' split at hs
      all_goals first | (cases hs; done) | exact absurd hs nzCall_in
  | invokevirtual k =>
    simp only [nzStep] at hs
    repeat' split at hs
    all_goals first | (cases hs; done) | exact absurd hs nzCall_in
  | return_ =>
    simp only [nzStep] at hs
    repeat' split at hs
    all_goals cases hs
  | _ => simp only [nzStep] at hs; cases hs
end NZI
