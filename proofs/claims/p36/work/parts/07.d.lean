/-! ===== M against the machine: constants, statics, members of the JDK, a step ===== -/
theorem mcs_sum (φ : Nat → Nat) : ∀ st : List MV, ((st.map (eV φ)).map (fun v => v.category)).sum = mcs st
  | [] => rfl
  | v :: st => by
    have ih := mcs_sum φ st
    rcases v with z | z | q <;> (rw [List.map_cons, List.map_cons, List.sum_cons, ih]; rfl)
/-- what a frame of the method m stands on -/
def MCtx (p : Program) (R : Room) (s : State) (mid : MethodId) (args : Array Value) (c : Code) (cells slots : Nat) (D : va_G) (cT : Nat → ClassId) (d m : Nat) : Prop :=
  p.tables.exec = Jvm.exec ∧ c.code = mB m ∧ c.maxLocals = mML m ∧ s.vm.findClass (cnm (mCI m)) = some mid.cls ∧ (∀ w ∈ WS, w.before args s = true) ∧ va_K D vwCl (tyL cT) s ∧ d ≤ R.frames ∧ 40 * d ≤ R.locals ∧ cells ≤ R.cells ∧ slots ≤ R.slots
section SNP
variable {p : Program} {l : Launch} {e : Env} {R : Room} {s : State} {mid : MethodId} {args : Array Value} {below : List Frame} {meth : Method} {c : Code} {H : Heap} {locs : List Loc} {cells slots : Nat} {Q : State → Prop}
variable {D : va_G} {cT : Nat → ClassId} {φ : Nat → Nat} {sh : Shp} {σ σ' : Mem} {A : Nat → Prop} {nL : Nat} {arr : Array Slot} {ls ls' : List (Option MV)} {st st' : List MV} {cc : ByteArray} {d rt pc pc' len x1 x2 : Nat} {rest : List Value}
theorem S_ldc {i own : Nat} (hx : p.tables.exec = Jvm.exec) (hb : c.code = cc) (hts : ∀ w ∈ WS, w.before args s = true) (hown : s.vm.findClass (cnm own) = some mid.cls) (hk0 : x2 = 0 → KOK (own, i, x1)) (hk1 : x2 = 1 → own = 9 ∧ i = 47) (hm : mex sh d rt pc ls st σ (.ldc i) len x1 x2 = some (.inl (pc', ls', st', σ'))) (hd : decode cc pc = .ok ((.ldc i), len)) (hC : Cf D cT φ sh σ A s nL arr ls H locs) (kk : Kn p l e R s mid args below meth c cells slots Q D cT φ sh A nL pc' ls' st' σ') : W p l e R s mid args below meth c H locs cells slots Q (F0 mid pc arr (st.map (eV φ))) := by
  simp only [mex] at hm
  split at hm
  · rename_i hc
    obtain ⟨hl, h0⟩ := hc
    subst hl
    unfold mnx at hm; cases hm
    exact lv_ldc hx hb hown (hts _ (hk0 h0)) hd (kk arr H locs hC)
  · split at hm
    · rename_i hc
      obtain ⟨hl, h1, hR⟩ := hc
      subst hl
      unfold mnx at hm; cases hm
      obtain ⟨rfl, rfl⟩ := hk1 h1
      exact va_ldcS hx hb hown (hC.2.2.2.2.2.2.2.2.1 hR).1 hd (kk arr H locs hC)
    · cases hm
theorem S_ldcw {i own : Nat} (hx : p.tables.exec = Jvm.exec) (hb : c.code = cc) (hts : ∀ w ∈ WS, w.before args s = true) (hown : s.vm.findClass (cnm own) = some mid.cls) (hk0 : x2 = 0 → KOK (own, i, x1)) (hm : mex sh d rt pc ls st σ (.ldc_w i) len x1 x2 = some (.inl (pc', ls', st', σ'))) (hd : decode cc pc = .ok ((.ldc_w i), len)) (hC : Cf D cT φ sh σ A s nL arr ls H locs) (kk : Kn p l e R s mid args below meth c cells slots Q D cT φ sh A nL pc' ls' st' σ') : W p l e R s mid args below meth c H locs cells slots Q (F0 mid pc arr (st.map (eV φ))) := by
  simp only [mex] at hm
  split at hm
  · rename_i hc
    obtain ⟨hl, h0⟩ := hc
    subst hl
    unfold mnx at hm; cases hm
    exact lv_ldcw hx hb hown (hts _ (hk0 h0)) hd (kk arr H locs hC)
  · cases hm
theorem S_ldc2 {i own : Nat} (hx : p.tables.exec = Jvm.exec) (hb : c.code = cc) (hts : ∀ w ∈ WS, w.before args s = true) (hown : s.vm.findClass (cnm own) = some mid.cls) (hk0 : LOK (own, i, x1)) (hm : mex sh d rt pc ls st σ (.ldc2_w i) len x1 x2 = some (.inl (pc', ls', st', σ'))) (hd : decode cc pc = .ok ((.ldc2_w i), len)) (hC : Cf D cT φ sh σ A s nL arr ls H locs) (kk : Kn p l e R s mid args below meth c cells slots Q D cT φ sh A nL pc' ls' st' σ') : W p l e R s mid args below meth c H locs cells slots Q (F0 mid pc arr (st.map (eV φ))) := by
  simp only [mex] at hm
  split at hm
  · rename_i hl
    subst hl
    unfold mnx at hm; cases hm
    exact lv_ldc2 hx hb hown (hts _ hk0) hd (kk arr H locs hC)
  · cases hm
theorem S_getstatic {i own : Nat} (hx : p.tables.exec = Jvm.exec) (hb : c.code = cc) (hts : ∀ w ∈ WS, w.before args s = true) (hown : s.vm.findClass (cnm own) = some mid.cls) (hk : x1 = 1 → (own = 10 ∧ i = 190) ∨ (own = 4 ∧ i = 90)) (hm : mex sh d rt pc ls st σ (.getstatic i) len x1 x2 = some (.inl (pc', ls', st', σ'))) (hd : decode cc pc = .ok ((.getstatic i), len)) (hC : Cf D cT φ sh σ A s nL arr ls H locs) (kk : Kn p l e R s mid args below meth c cells slots Q D cT φ sh A nL pc' ls' st' σ') : W p l e R s mid args below meth c H locs cells slots Q (F0 mid pc arr (st.map (eV φ))) := by
  simp only [mex] at hm
  split at hm
  · rename_i hc
    obtain ⟨hl, h1, hR⟩ := hc
    subst hl
    unfold mnx at hm; cases hm
    have hZ := hC.2.2.2.2.2.2.2.1 hR
    rcases hk h1 with ⟨rfl, rfl⟩ | ⟨rfl, rfl⟩
    · exact va_gets hx hb hZ hC.2.2.2.1 hown (hts _ one_ok) (fun _ h => h) hd (kk arr H locs hC)
    · exact va_getsN hx hb hZ hC.2.2.2.1 hown (va_Nw.use rfl hC.2.2.2.2.2.2.1) (fun _ h => h) hd (kk arr H locs hC)
  · cases hm
theorem fs_cpy {f g : Nat → Int} {sp dp n : Int} : (fun j => Int32.ofInt (if (wi dp).toNat ≤ j ∧ j < (wi dp).toNat + (wi n).toNat then f ((wi sp).toNat + (j - (wi dp).toNat)) else g j)) = va_cpy (fun j => Int32.ofInt (f j)) (fun j => Int32.ofInt (g j)) (Int32.ofInt sp).toNatClampNeg (Int32.ofInt dp).toNatClampNeg (Int32.ofInt n).toNatClampNeg := by
  funext j
  simp only [va_cpy]
  by_cases h : (wi dp).toNat ≤ j ∧ j < (wi dp).toNat + (wi n).toNat
  · rw [if_pos h]
    exact (if_pos h).symm
  · rw [if_neg h]
    exact (if_neg h).symm
theorem S_arraycopy {i own : Nat} (hx : p.tables.exec = Jvm.exec) (hb : c.code = cc) (hml : c.maxLocals = nL) (hK : va_K D vwCl (tyL cT) s) (hts : ∀ w ∈ WS, w.before args s = true) (hown : s.vm.findClass (cnm own) = some mid.cls) (hf : d ≤ R.frames) (hlo : 40 * d ≤ R.locals) (hc1 : cells ≤ R.cells) (hc2 : slots ≤ R.slots) (hk1 : x2 = 1 → False) (hk4 : x2 = 4 → (own, i) ∈ mxL) (hk5 : x2 = 5 → (own, i) ∈ mnL) (hm : mex sh d rt pc ls st σ (.invokestatic i) len x1 x2 = some (.inl (pc', ls', st', σ'))) (hd : decode cc pc = .ok ((.invokestatic i), len)) (hC : Cf D cT φ sh σ A s nL arr ls H locs) (kk : Kn p l e R s mid args below meth c cells slots Q D cT φ sh A nL pc' ls' st' σ') : W p l e R s mid args below meth c H locs cells slots Q (F0 mid pc arr (st.map (eV φ))) := by
  have hsz : c.maxLocals = arr.size := hml.trans hC.1.1.1.symm
  simp only [mex] at hm
  split at hm
  · unfold mcall at hm
    split at hm <;> cases hm
  · split at hm
    · rename_i hc
      exact (hk1 hc.2.1).elim
    · split at hm
      · rename_i hc
        obtain ⟨hl, h4, hdp⟩ := hc
        subst hl
        split at hm
        · rename_i y x r
          split at hm
          · rename_i hr
            unfold mnx at hm; cases hm
            refine va_mmax hx hb hsz hown (hts _ (mxL_ok _ (hk4 h4))) (hts _ mx_ok.1) (hts _ mx_ok.2.1) (hts _ mx_ok.2.2) (by omega) (by rw [mcs_sum]; omega) hc1 hc2 hd (W.vI ?_ (kk arr H locs hC))
            unfold mmx
            by_cases h : wi x < wi y
            · rw [if_pos h, if_pos ((oI_lt _ _).mpr h)]
            · rw [if_neg h, if_neg (fun z => h ((oI_lt _ _).mp z))]
          · cases hm
        · cases hm
      · split at hm
        · rename_i hc
          obtain ⟨hl, h4, hdp⟩ := hc
          subst hl
          split at hm
          · rename_i y x r
            split at hm
            · rename_i hr
              unfold mnx at hm; cases hm
              refine va_mmin hx hb hsz hown (hts _ (mnL_ok _ (hk5 h4))) (hts _ mn_ok.1) (hts _ mn_ok.2.1) (hts _ mn_ok.2.2) (by omega) (by rw [mcs_sum]; omega) hc1 hc2 hd (W.vI ?_ (kk arr H locs hC))
              unfold mmn
              by_cases h : wi y < wi x
              · rw [if_pos h, if_pos ((oI_lt _ _).mpr h)]
              · rw [if_neg h, if_neg (fun z => h ((oI_lt _ _).mp z))]
            · cases hm
          · cases hm
        · cases hm
/-- the letters' places in the text -/
theorem ix_row {i own : Nat} (hx : p.tables.exec = Jvm.exec) (hb : c.code = cc) (hml : c.maxLocals = nL) (hts : ∀ w ∈ WS, w.before args s = true) (hown : s.vm.findClass RX9 = some mid.cls) (hf : 6 ≤ R.frames) (hlo : 240 ≤ R.locals) (hc1 : cells ≤ R.cells) (hc2 : slots ≤ R.slots) {a : Nat} {z : Int} {r : List Value} (hr : (r.map (fun v => v.category)).sum ≤ 8) (hd : decode cc pc = .ok ((.invokevirtual 49), 3)) (hS : va_S A s.heap H locs) (hE : strE a A s s.heap) (hA : ∀ q, s.heap.size ≤ q → A q) (harr : arr.size = nL)
    (kk : ∀ (H1 : Heap) (locs1 : List Loc), H1 = H → va_S A s.heap H1 locs1 → W p l e R s mid args below meth c H1 locs1 cells slots Q (F0 mid (pc + 3) arr (.int (Int32.ofInt (if wi z = 114 then 0 else if wi z = 104 then 1 else if wi z = 120 then 2 else if wi z = 99 then 3 else if wi z = 100 then 4 else if wi z = 119 then 5 else -1)) :: r))) : W p l e R s mid args below meth c H locs cells slots Q (F0 mid pc arr (.int (Int32.ofInt z) :: .ref a :: r)) := ix_all hx hb hml hts hown hf hlo hc1 hc2 hr hd hS hE hA harr kk
theorem S_indexOf {i own : Nat} (hx : p.tables.exec = Jvm.exec) (hb : c.code = cc) (hml : c.maxLocals = nL) (hA : ∀ q, s.heap.size ≤ q → A q) (hts : ∀ w ∈ WS, w.before args s = true) (hown : s.vm.findClass (cnm own) = some mid.cls) (hf : d ≤ R.frames) (hlo : 40 * d ≤ R.locals) (hc1 : cells ≤ R.cells) (hc2 : slots ≤ R.slots) (hk1 : x2 = 2 → own = 9 ∧ i = 49) (hm : mex sh d rt pc ls st σ (.invokevirtual i) len x1 x2 = some (.inl (pc', ls', st', σ'))) (hd : decode cc pc = .ok ((.invokevirtual i), len)) (hC : Cf D cT φ sh σ A s nL arr ls H locs) (kk : Kn p l e R s mid args below meth c cells slots Q D cT φ sh A nL pc' ls' st' σ') : W p l e R s mid args below meth c H locs cells slots Q (F0 mid pc arr (st.map (eV φ))) := by
  simp only [mex] at hm
  split at hm
  · unfold mcall at hm
    split at hm <;> cases hm
  · split at hm
    · rename_i hc
      obtain ⟨hl, h1, hdp, hR⟩ := hc
      subst hl
      obtain ⟨rfl, rfl⟩ := hk1 h1
      split at hm
      · rename_i z a r
        split at hm
        · rename_i hc
          obtain ⟨ha, hr⟩ := hc
          subst ha
          unfold mnx at hm; cases hm
          refine ix_row (i := 49) (own := 9) hx hb hml hts hown (by omega) (by omega) hc1 hc2 (by rw [mcs_sum]; exact hr) hd hC.2.2.2.1 (hC.2.2.2.2.2.2.2.2.1 hR) hA hC.1.1.1 (fun H1 locs1 h9 hS => ?_)
          subst h9
          exact kk arr H1 locs1 ⟨hC.1, hC.2.1, hC.2.2.1, hS, hC.2.2.2.2⟩
        · cases hm
      · cases hm
    · cases hm
theorem snd_step {m : Nat} (hX : MCtx p R s mid args c cells slots D cT d m) (hA : ∀ q, s.heap.size ≤ q → A q) (hwf : wfS sh) (hs : mstep sh d m pc ls st σ = some (.inl (pc', ls', st', σ'))) (hC : Cf D cT φ sh σ A s (mML m) arr ls H locs) (kk : Kn p l e R s mid args below meth c cells slots Q D cT φ sh A (mML m) pc' ls' st' σ') : W p l e R s mid args below meth c H locs cells slots Q (F0 mid pc arr (st.map (eV φ))) := by
  obtain ⟨hx, hb, hml, hown, hts, hK, hf, hlo, hc1, hc2⟩ := hX
  unfold mstep at hs
  cases hc : mcode m pc with
  | none => rw [hc] at hs; cases hs
  | some y =>
    rw [hc] at hs
    obtain ⟨i, len, x1, x2⟩ := y
    have hd := mcode_dec hc
    have hk := mcode_chk hc
    unfold chk at hk
    rw [Bool.and_eq_true] at hk
    replace hk := hk.2
    cases i with
    | iadd => exact S_iadd hx hb hs hd hC kk
    | isub => exact S_isub hx hb hs hd hC kk
    | imul => exact S_imul hx hb hs hd hC kk
    | iand => exact S_iand hx hb hs hd hC kk
    | ior => exact S_ior hx hb hs hd hC kk
    | ixor => exact S_ixor hx hb hs hd hC kk
    | ishl => exact S_ishl hx hb hs hd hC kk
    | ishr => exact S_ishr hx hb hs hd hC kk
    | iushr => exact S_iushr hx hb hs hd hC kk
    | ladd => exact S_ladd hx hb hs hd hC kk
    | lsub => exact S_lsub hx hb hs hd hC kk
    | lmul => exact S_lmul hx hb hs hd hC kk
    | land => exact S_land hx hb hs hd hC kk
    | lor => exact S_lor hx hb hs hd hC kk
    | lshl => exact S_lshl hx hb hs hd hC kk
    | lushr => exact S_lushr hx hb hs hd hC kk
    | idiv => exact S_idiv hx hb hs hd hC kk
    | irem => exact S_irem hx hb hs hd hC kk
    | ldiv => exact S_ldiv hx hb hs hd hC kk
    | lcmp => exact S_lcmp hx hb hs hd hC kk
    | lneg => exact S_lneg hx hb hs hd hC kk
    | l2i => exact S_l2i hx hb hs hd hC kk
    | i2l => exact S_i2l hx hb hs hd hC kk
    | i2b => exact S_i2b hx hb hs hd hC kk
    | i2c => exact S_i2c hx hb hs hd hC kk
    | iconst z => exact S_iconst hx hb hs hd hC kk
    | bipush z => exact S_bipush hx hb hs hd hC kk
    | sipush z => exact S_sipush hx hb hs hd hC kk
    | lconst z => exact S_lconst hx hb hs hd hC kk
    | iload k => exact S_iload hx hb hs hd hC kk
    | iload_n k => exact S_iload_n hx hb hs hd hC kk
    | lload k => exact S_lload hx hb hs hd hC kk
    | lload_n k => exact S_lload_n hx hb hs hd hC kk
    | aload k => exact S_aload hx hb hs hd hC kk
    | aload_n k => exact S_aload_n hx hb hs hd hC kk
    | istore k => exact S_istore hx hb hs hd hC kk
    | istore_n k => exact S_istore_n hx hb hs hd hC kk
    | lstore k => exact S_lstore hx hb hs hd hC kk
    | lstore_n k => exact S_lstore_n hx hb hs hd hC kk
    | astore k => exact S_astore hx hb hs hd hC kk
    | astore_n k => exact S_astore_n hx hb hs hd hC kk
    | iinc k z => exact S_iinc hx hb hs hd hC kk
    | dup => exact S_dup hx hb hs hd hC kk
    | dup2 => exact S_dup2 hx hb hs hd hC kk
    | pop => exact S_pop hx hb hs hd hC kk
    | goto off => exact S_goto hx hb hs hd hC kk
    | ifCond cn off =>
      cases cn with
      | eq => exact S_if_eq hx hb hs hd hC kk
      | ne => exact S_if_ne hx hb hs hd hC kk
      | lt => exact S_if_lt hx hb hs hd hC kk
      | ge => exact S_if_ge hx hb hs hd hC kk
      | gt => exact S_if_gt hx hb hs hd hC kk
      | le => exact S_if_le hx hb hs hd hC kk
    | if_icmp cn off =>
      cases cn with
      | eq => exact S_ic_eq hx hb hs hd hC kk
      | ne => exact S_ic_ne hx hb hs hd hC kk
      | lt => exact S_ic_lt hx hb hs hd hC kk
      | ge => exact S_ic_ge hx hb hs hd hC kk
      | gt => exact S_ic_gt hx hb hs hd hC kk
      | le => exact S_ic_le hx hb hs hd hC kk
    | tableswitch df lo hi offs => exact S_tsw hx hb hs hd hC kk
    | iaload => exact S_iaload hx hb hK hwf hs hd hC kk
    | baload => exact S_baload hx hb hK hwf hs hd hC kk
    | laload => exact S_laload hx hb hK hwf hs hd hC kk
    | aaload => exact S_aaload hx hb hK hwf hs hd hC kk
    | arraylength => exact S_arraylength hx hb hK hwf hs hd hC kk
    | iastore => exact S_iastore hx hb hK hs hd hC kk
    | bastore => exact S_bastore hx hb hK hs hd hC kk
    | lastore => exact S_lastore hx hb hK hs hd hC kk
    | getfield i => exact S_getfield hx hb hK hts hown (FL_ok _ (List.contains_iff_mem.mp hk)) hs hd hC kk
    | putfield i => exact S_putfield hx hb hK hts hown (FL_ok _ (List.contains_iff_mem.mp hk)) hs hd hC kk
    | ldc i =>
      refine S_ldc hx hb hts hown (fun h => ?_) (fun h => ?_) hs hd hC kk
      · subst h; exact KL_ok _ (List.contains_iff_mem.mp hk)
      · subst h; simpa using hk
    | ldc_w i =>
      refine S_ldcw hx hb hts hown (fun h => ?_) hs hd hC kk
      subst h; exact KL_ok _ (List.contains_iff_mem.mp hk)
    | ldc2_w i => exact S_ldc2 hx hb hts hown (LK_ok _ (List.contains_iff_mem.mp hk)) hs hd hC kk
    | getstatic i =>
      refine S_getstatic hx hb hts hown (fun h => ?_) hs hd hC kk
      subst h
      have h9 : (mCI m = 10 ∧ i = 190 ∧ x2 = 0) ∨ (mCI m = 4 ∧ i = 90 ∧ x2 = 3) := by simpa using hk
      rcases h9 with ⟨h1, h2, -⟩ | ⟨h1, h2, -⟩
      · exact Or.inl ⟨h1, h2⟩
      · exact Or.inr ⟨h1, h2⟩
    | invokestatic i =>
      refine S_arraycopy hx hb hml hK hts hown hf hlo hc1 hc2 (fun h => ?_) (fun h => ?_) (fun h => ?_) hs hd hC kk
      · subst h; simpa using hk
      · subst h; exact List.contains_iff_mem.mp hk
      · subst h; exact List.contains_iff_mem.mp hk
    | invokevirtual i =>
      refine S_indexOf hx hb hml hA hts hown hf hlo hc1 hc2 (fun h => ?_) hs hd hC kk
      subst h; simpa using hk
    | ireturn => simp only [mex] at hs; split at hs; · split at hs <;> cases hs
                 · cases hs
    | lreturn => simp only [mex] at hs; split at hs; · split at hs <;> cases hs
                 · cases hs
    | return_ => simp only [mex] at hs; split at hs; · split at hs <;> cases hs
                 · cases hs
    | _ => simp [mex] at hs
end SNP
