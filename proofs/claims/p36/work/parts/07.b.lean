/-! ===== M against the machine, an opcode a row ===== -/
/-- the machine stands as M does -/
def Cf (D : va_G) (cT : Nat → ClassId) (φ : Nat → Nat) (sh : Shp) (σ : Mem) (A : Nat → Prop) (s : State) (nL : Nat) (arr : Array Slot) (ls : List (Option MV)) (H : Heap) (locs : List Loc) : Prop :=
  LH φ arr nL ls ∧ va_P D vwCl (wE cT φ sh σ) H ∧ va_D A (wE cT φ sh σ) ∧ va_S A s.heap H locs ∧ envA φ sh σ A s s.heap
/-- it goes on from every place where it stands as M does -/
def Kn (p : Program) (l : Launch) (e : Env) (R : Room) (s : State) (mid : MethodId) (args : Array Value) (below : List Frame) (meth : Method) (c : Code) (cells slots : Nat) (Q : State → Prop) (D : va_G) (cT : Nat → ClassId) (φ : Nat → Nat) (sh : Shp) (A : Nat → Prop) (nL : Nat) (pc : Nat) (ls : List (Option MV)) (st : List MV) (σ : Mem) : Prop :=
  ∀ (arr : Array Slot) (H : Heap) (locs : List Loc), Cf D cT φ sh σ A s nL arr ls H locs → W p l e R s mid args below meth c H locs cells slots Q (F0 mid pc arr (st.map (eV φ)))
/-- shapes: what is not written is rows of ints; arrays of other kinds may be written -/
def wfS (sh : Shp) : Prop := sh.1 ≤ 1000000 ∧ ∀ a, sh.1 ≤ a → (skd sh a = 0 ∧ 1000000 ≤ a ∧ a < 1000000 + sh.2.1) ∨ 5 ≤ skd sh a
theorem oL_nat (n : Nat) : Int64.ofInt (n : Int) = Int64.ofNat n := by
  apply Int64.toBitVec_inj.mp
  simp [Int64.toBitVec_ofInt]
theorem cnd_t_eq {x y : Int} (h : x = y) : cnd .eq x y = true := decide_eq_true h
theorem cnd_f_eq {x y : Int} (h : ¬ x = y) : cnd .eq x y = false := decide_eq_false h
theorem cnd_t_lt {x y : Int} (h : x < y) : cnd .lt x y = true := decide_eq_true h
theorem cnd_f_lt {x y : Int} (h : ¬ x < y) : cnd .lt x y = false := decide_eq_false h
theorem cnd_t_gt {x y : Int} (h : y < x) : cnd .gt x y = true := decide_eq_true h
theorem cnd_f_gt {x y : Int} (h : ¬ y < x) : cnd .gt x y = false := decide_eq_false h
theorem cnd_t_ne {x y : Int} (h : ¬ x = y) : cnd .ne x y = true := by simp [cnd, h]
theorem cnd_f_ne {x y : Int} (h : x = y) : cnd .ne x y = false := by simp [cnd, h]
theorem cnd_t_ge {x y : Int} (h : ¬ x < y) : cnd .ge x y = true := by simp only [cnd, decide_eq_false h]; rfl
theorem cnd_f_ge {x y : Int} (h : x < y) : cnd .ge x y = false := by simp only [cnd, decide_eq_true h]; rfl
theorem cnd_t_le {x y : Int} (h : ¬ y < x) : cnd .le x y = true := by simp only [cnd, decide_eq_false h]; rfl
theorem cnd_f_le {x y : Int} (h : y < x) : cnd .le x y = false := by simp only [cnd, decide_eq_true h]; rfl
section SND
variable {p : Program} {l : Launch} {e : Env} {R : Room} {s : State} {mid : MethodId} {args : Array Value} {below : List Frame} {meth : Method} {c : Code} {H : Heap} {locs : List Loc} {cells slots : Nat} {Q : State → Prop}
variable {D : va_G} {cT : Nat → ClassId} {φ : Nat → Nat} {sh : Shp} {σ σ' : Mem} {A : Nat → Prop} {nL : Nat} {arr : Array Slot} {ls ls' : List (Option MV)} {st st' : List MV} {cc : ByteArray} {d rt pc pc' len x1 x2 : Nat} {rest : List Value}
theorem W.vI {v v' : Int32} (h : v = v') (k : W p l e R s mid args below meth c H locs cells slots Q (F0 mid pc arr (.int v :: rest))) : W p l e R s mid args below meth c H locs cells slots Q (F0 mid pc arr (.int v' :: rest)) := h ▸ k
theorem W.vL {v v' : Int64} (h : v = v') (k : W p l e R s mid args below meth c H locs cells slots Q (F0 mid pc arr (.long v :: rest))) : W p l e R s mid args below meth c H locs cells slots Q (F0 mid pc arr (.long v' :: rest)) := h ▸ k
theorem S_iadd (hx : p.tables.exec = Jvm.exec) (hb : c.code = cc) (hm : mex sh d rt pc ls st σ (.iadd) len x1 x2 = some (.inl (pc', ls', st', σ'))) (hd : decode cc pc = .ok ((.iadd), len)) (hC : Cf D cT φ sh σ A s nL arr ls H locs) (kk : Kn p l e R s mid args below meth c cells slots Q D cT φ sh A nL pc' ls' st' σ') : W p l e R s mid args below meth c H locs cells slots Q (F0 mid pc arr (st.map (eV φ))) := by
  simp only [mex] at hm
  split at hm
  · rename_i hl; subst hl
    unfold mb2 at hm
    split at hm
    · unfold mnx at hm; cases hm
      exact lv_iadd hx hb hd (W.vI (oI_add _ _) (kk arr H locs hC))
    · cases hm
  · cases hm
theorem S_isub (hx : p.tables.exec = Jvm.exec) (hb : c.code = cc) (hm : mex sh d rt pc ls st σ (.isub) len x1 x2 = some (.inl (pc', ls', st', σ'))) (hd : decode cc pc = .ok ((.isub), len)) (hC : Cf D cT φ sh σ A s nL arr ls H locs) (kk : Kn p l e R s mid args below meth c cells slots Q D cT φ sh A nL pc' ls' st' σ') : W p l e R s mid args below meth c H locs cells slots Q (F0 mid pc arr (st.map (eV φ))) := by
  simp only [mex] at hm
  split at hm
  · rename_i hl; subst hl
    unfold mb2 at hm
    split at hm
    · unfold mnx at hm; cases hm
      exact lv_isub hx hb hd (W.vI (oI_sub _ _) (kk arr H locs hC))
    · cases hm
  · cases hm
theorem S_imul (hx : p.tables.exec = Jvm.exec) (hb : c.code = cc) (hm : mex sh d rt pc ls st σ (.imul) len x1 x2 = some (.inl (pc', ls', st', σ'))) (hd : decode cc pc = .ok ((.imul), len)) (hC : Cf D cT φ sh σ A s nL arr ls H locs) (kk : Kn p l e R s mid args below meth c cells slots Q D cT φ sh A nL pc' ls' st' σ') : W p l e R s mid args below meth c H locs cells slots Q (F0 mid pc arr (st.map (eV φ))) := by
  simp only [mex] at hm
  split at hm
  · rename_i hl; subst hl
    unfold mb2 at hm
    split at hm
    · unfold mnx at hm; cases hm
      exact lv_imul hx hb hd (W.vI (oI_mul _ _) (kk arr H locs hC))
    · cases hm
  · cases hm
theorem S_iand (hx : p.tables.exec = Jvm.exec) (hb : c.code = cc) (hm : mex sh d rt pc ls st σ (.iand) len x1 x2 = some (.inl (pc', ls', st', σ'))) (hd : decode cc pc = .ok ((.iand), len)) (hC : Cf D cT φ sh σ A s nL arr ls H locs) (kk : Kn p l e R s mid args below meth c cells slots Q D cT φ sh A nL pc' ls' st' σ') : W p l e R s mid args below meth c H locs cells slots Q (F0 mid pc arr (st.map (eV φ))) := by
  simp only [mex] at hm
  split at hm
  · rename_i hl; subst hl
    unfold mb2 at hm
    split at hm
    · unfold mnx at hm; cases hm
      exact lv_iand hx hb hd (W.vI (Int32.ofInt_toInt _) (kk arr H locs hC))
    · cases hm
  · cases hm
theorem S_ior (hx : p.tables.exec = Jvm.exec) (hb : c.code = cc) (hm : mex sh d rt pc ls st σ (.ior) len x1 x2 = some (.inl (pc', ls', st', σ'))) (hd : decode cc pc = .ok ((.ior), len)) (hC : Cf D cT φ sh σ A s nL arr ls H locs) (kk : Kn p l e R s mid args below meth c cells slots Q D cT φ sh A nL pc' ls' st' σ') : W p l e R s mid args below meth c H locs cells slots Q (F0 mid pc arr (st.map (eV φ))) := by
  simp only [mex] at hm
  split at hm
  · rename_i hl; subst hl
    unfold mb2 at hm
    split at hm
    · unfold mnx at hm; cases hm
      exact lv_ior hx hb hd (W.vI (Int32.ofInt_toInt _) (kk arr H locs hC))
    · cases hm
  · cases hm
theorem S_ixor (hx : p.tables.exec = Jvm.exec) (hb : c.code = cc) (hm : mex sh d rt pc ls st σ (.ixor) len x1 x2 = some (.inl (pc', ls', st', σ'))) (hd : decode cc pc = .ok ((.ixor), len)) (hC : Cf D cT φ sh σ A s nL arr ls H locs) (kk : Kn p l e R s mid args below meth c cells slots Q D cT φ sh A nL pc' ls' st' σ') : W p l e R s mid args below meth c H locs cells slots Q (F0 mid pc arr (st.map (eV φ))) := by
  simp only [mex] at hm
  split at hm
  · rename_i hl; subst hl
    unfold mb2 at hm
    split at hm
    · unfold mnx at hm; cases hm
      exact lv_ixor hx hb hd (W.vI (Int32.ofInt_toInt _) (kk arr H locs hC))
    · cases hm
  · cases hm
theorem S_ishl (hx : p.tables.exec = Jvm.exec) (hb : c.code = cc) (hm : mex sh d rt pc ls st σ (.ishl) len x1 x2 = some (.inl (pc', ls', st', σ'))) (hd : decode cc pc = .ok ((.ishl), len)) (hC : Cf D cT φ sh σ A s nL arr ls H locs) (kk : Kn p l e R s mid args below meth c cells slots Q D cT φ sh A nL pc' ls' st' σ') : W p l e R s mid args below meth c H locs cells slots Q (F0 mid pc arr (st.map (eV φ))) := by
  simp only [mex] at hm
  split at hm
  · rename_i hl; subst hl
    unfold mb2 at hm
    split at hm
    · unfold mnx at hm; cases hm
      exact lv_ishl hx hb hd (W.vI (Int32.ofInt_toInt _) (kk arr H locs hC))
    · cases hm
  · cases hm
theorem S_ishr (hx : p.tables.exec = Jvm.exec) (hb : c.code = cc) (hm : mex sh d rt pc ls st σ (.ishr) len x1 x2 = some (.inl (pc', ls', st', σ'))) (hd : decode cc pc = .ok ((.ishr), len)) (hC : Cf D cT φ sh σ A s nL arr ls H locs) (kk : Kn p l e R s mid args below meth c cells slots Q D cT φ sh A nL pc' ls' st' σ') : W p l e R s mid args below meth c H locs cells slots Q (F0 mid pc arr (st.map (eV φ))) := by
  simp only [mex] at hm
  split at hm
  · rename_i hl; subst hl
    unfold mb2 at hm
    split at hm
    · unfold mnx at hm; cases hm
      exact lv_ishr hx hb hd (W.vI (Int32.ofInt_toInt _) (kk arr H locs hC))
    · cases hm
  · cases hm
theorem S_iushr (hx : p.tables.exec = Jvm.exec) (hb : c.code = cc) (hm : mex sh d rt pc ls st σ (.iushr) len x1 x2 = some (.inl (pc', ls', st', σ'))) (hd : decode cc pc = .ok ((.iushr), len)) (hC : Cf D cT φ sh σ A s nL arr ls H locs) (kk : Kn p l e R s mid args below meth c cells slots Q D cT φ sh A nL pc' ls' st' σ') : W p l e R s mid args below meth c H locs cells slots Q (F0 mid pc arr (st.map (eV φ))) := by
  simp only [mex] at hm
  split at hm
  · rename_i hl; subst hl
    unfold mb2 at hm
    split at hm
    · unfold mnx at hm; cases hm
      exact lv_iushr hx hb hd rfl (W.vI (Int32.ofInt_toInt _) (kk arr H locs hC))
    · cases hm
  · cases hm
theorem S_ladd (hx : p.tables.exec = Jvm.exec) (hb : c.code = cc) (hm : mex sh d rt pc ls st σ (.ladd) len x1 x2 = some (.inl (pc', ls', st', σ'))) (hd : decode cc pc = .ok ((.ladd), len)) (hC : Cf D cT φ sh σ A s nL arr ls H locs) (kk : Kn p l e R s mid args below meth c cells slots Q D cT φ sh A nL pc' ls' st' σ') : W p l e R s mid args below meth c H locs cells slots Q (F0 mid pc arr (st.map (eV φ))) := by
  simp only [mex] at hm
  split at hm
  · rename_i hl; subst hl
    unfold ml2 at hm
    split at hm
    · unfold mnx at hm; cases hm
      exact lv_ladd hx hb hd (W.vL (oL_add _ _) (kk arr H locs hC))
    · cases hm
  · cases hm
theorem S_lsub (hx : p.tables.exec = Jvm.exec) (hb : c.code = cc) (hm : mex sh d rt pc ls st σ (.lsub) len x1 x2 = some (.inl (pc', ls', st', σ'))) (hd : decode cc pc = .ok ((.lsub), len)) (hC : Cf D cT φ sh σ A s nL arr ls H locs) (kk : Kn p l e R s mid args below meth c cells slots Q D cT φ sh A nL pc' ls' st' σ') : W p l e R s mid args below meth c H locs cells slots Q (F0 mid pc arr (st.map (eV φ))) := by
  simp only [mex] at hm
  split at hm
  · rename_i hl; subst hl
    unfold ml2 at hm
    split at hm
    · unfold mnx at hm; cases hm
      exact lv_lsub hx hb hd (W.vL (oL_sub _ _) (kk arr H locs hC))
    · cases hm
  · cases hm
theorem S_lmul (hx : p.tables.exec = Jvm.exec) (hb : c.code = cc) (hm : mex sh d rt pc ls st σ (.lmul) len x1 x2 = some (.inl (pc', ls', st', σ'))) (hd : decode cc pc = .ok ((.lmul), len)) (hC : Cf D cT φ sh σ A s nL arr ls H locs) (kk : Kn p l e R s mid args below meth c cells slots Q D cT φ sh A nL pc' ls' st' σ') : W p l e R s mid args below meth c H locs cells slots Q (F0 mid pc arr (st.map (eV φ))) := by
  simp only [mex] at hm
  split at hm
  · rename_i hl; subst hl
    unfold ml2 at hm
    split at hm
    · unfold mnx at hm; cases hm
      exact lv_lmul hx hb hd (W.vL (oL_mul _ _) (kk arr H locs hC))
    · cases hm
  · cases hm
theorem S_land (hx : p.tables.exec = Jvm.exec) (hb : c.code = cc) (hm : mex sh d rt pc ls st σ (.land) len x1 x2 = some (.inl (pc', ls', st', σ'))) (hd : decode cc pc = .ok ((.land), len)) (hC : Cf D cT φ sh σ A s nL arr ls H locs) (kk : Kn p l e R s mid args below meth c cells slots Q D cT φ sh A nL pc' ls' st' σ') : W p l e R s mid args below meth c H locs cells slots Q (F0 mid pc arr (st.map (eV φ))) := by
  simp only [mex] at hm
  split at hm
  · rename_i hl; subst hl
    unfold ml2 at hm
    split at hm
    · unfold mnx at hm; cases hm
      exact lv_land hx hb hd (W.vL (Int64.ofInt_toInt _) (kk arr H locs hC))
    · cases hm
  · cases hm
theorem S_lor (hx : p.tables.exec = Jvm.exec) (hb : c.code = cc) (hm : mex sh d rt pc ls st σ (.lor) len x1 x2 = some (.inl (pc', ls', st', σ'))) (hd : decode cc pc = .ok ((.lor), len)) (hC : Cf D cT φ sh σ A s nL arr ls H locs) (kk : Kn p l e R s mid args below meth c cells slots Q D cT φ sh A nL pc' ls' st' σ') : W p l e R s mid args below meth c H locs cells slots Q (F0 mid pc arr (st.map (eV φ))) := by
  simp only [mex] at hm
  split at hm
  · rename_i hl; subst hl
    unfold ml2 at hm
    split at hm
    · unfold mnx at hm; cases hm
      exact lv_lor hx hb hd (W.vL (Int64.ofInt_toInt _) (kk arr H locs hC))
    · cases hm
  · cases hm
theorem S_lshl (hx : p.tables.exec = Jvm.exec) (hb : c.code = cc) (hm : mex sh d rt pc ls st σ (.lshl) len x1 x2 = some (.inl (pc', ls', st', σ'))) (hd : decode cc pc = .ok ((.lshl), len)) (hC : Cf D cT φ sh σ A s nL arr ls H locs) (kk : Kn p l e R s mid args below meth c cells slots Q D cT φ sh A nL pc' ls' st' σ') : W p l e R s mid args below meth c H locs cells slots Q (F0 mid pc arr (st.map (eV φ))) := by
  simp only [mex] at hm
  split at hm
  · rename_i hl; subst hl
    unfold mls at hm
    split at hm
    · unfold mnx at hm; cases hm
      exact lv_lshl hx hb hd rfl (W.vL (Int64.ofInt_toInt _) (kk arr H locs hC))
    · cases hm
  · cases hm
theorem S_lushr (hx : p.tables.exec = Jvm.exec) (hb : c.code = cc) (hm : mex sh d rt pc ls st σ (.lushr) len x1 x2 = some (.inl (pc', ls', st', σ'))) (hd : decode cc pc = .ok ((.lushr), len)) (hC : Cf D cT φ sh σ A s nL arr ls H locs) (kk : Kn p l e R s mid args below meth c cells slots Q D cT φ sh A nL pc' ls' st' σ') : W p l e R s mid args below meth c H locs cells slots Q (F0 mid pc arr (st.map (eV φ))) := by
  simp only [mex] at hm
  split at hm
  · rename_i hl; subst hl
    unfold mls at hm
    split at hm
    · unfold mnx at hm; cases hm
      exact lv_lushr hx hb hd rfl (W.vL (Int64.ofInt_toInt _) (kk arr H locs hC))
    · cases hm
  · cases hm
theorem S_idiv (hx : p.tables.exec = Jvm.exec) (hb : c.code = cc) (hm : mex sh d rt pc ls st σ (.idiv) len x1 x2 = some (.inl (pc', ls', st', σ'))) (hd : decode cc pc = .ok ((.idiv), len)) (hC : Cf D cT φ sh σ A s nL arr ls H locs) (kk : Kn p l e R s mid args below meth c cells slots Q D cT φ sh A nL pc' ls' st' σ') : W p l e R s mid args below meth c H locs cells slots Q (F0 mid pc arr (st.map (eV φ))) := by
  simp only [mex] at hm
  split at hm
  · split at hm
    · rename_i hl; obtain ⟨hl, hy⟩ := hl; subst hl; unfold mnx at hm; cases hm
      exact lv_idiv hx hb hd (fun z => hy ((oI_eq0 _).mp z)) (W.vI (Int32.ofInt_toInt _) (kk arr H locs hC))
    · cases hm
  · cases hm
theorem S_irem (hx : p.tables.exec = Jvm.exec) (hb : c.code = cc) (hm : mex sh d rt pc ls st σ (.irem) len x1 x2 = some (.inl (pc', ls', st', σ'))) (hd : decode cc pc = .ok ((.irem), len)) (hC : Cf D cT φ sh σ A s nL arr ls H locs) (kk : Kn p l e R s mid args below meth c cells slots Q D cT φ sh A nL pc' ls' st' σ') : W p l e R s mid args below meth c H locs cells slots Q (F0 mid pc arr (st.map (eV φ))) := by
  simp only [mex] at hm
  split at hm
  · split at hm
    · rename_i hl; obtain ⟨hl, hy⟩ := hl; subst hl; unfold mnx at hm; cases hm
      exact lv_irem hx hb hd (fun z => hy ((oI_eq0 _).mp z)) (W.vI (Int32.ofInt_toInt _) (kk arr H locs hC))
    · cases hm
  · cases hm
theorem S_ldiv (hx : p.tables.exec = Jvm.exec) (hb : c.code = cc) (hm : mex sh d rt pc ls st σ (.ldiv) len x1 x2 = some (.inl (pc', ls', st', σ'))) (hd : decode cc pc = .ok ((.ldiv), len)) (hC : Cf D cT φ sh σ A s nL arr ls H locs) (kk : Kn p l e R s mid args below meth c cells slots Q D cT φ sh A nL pc' ls' st' σ') : W p l e R s mid args below meth c H locs cells slots Q (F0 mid pc arr (st.map (eV φ))) := by
  simp only [mex] at hm
  split at hm
  · split at hm
    · rename_i hl; obtain ⟨hl, hy⟩ := hl; subst hl; unfold mnx at hm; cases hm
      exact lv_ldiv hx hb hd (fun z => hy ((oL_eq0 _).mp z)) (W.vL (Int64.ofInt_toInt _) (kk arr H locs hC))
    · cases hm
  · cases hm
theorem S_lcmp (hx : p.tables.exec = Jvm.exec) (hb : c.code = cc) (hm : mex sh d rt pc ls st σ (.lcmp) len x1 x2 = some (.inl (pc', ls', st', σ'))) (hd : decode cc pc = .ok ((.lcmp), len)) (hC : Cf D cT φ sh σ A s nL arr ls H locs) (kk : Kn p l e R s mid args below meth c cells slots Q D cT φ sh A nL pc' ls' st' σ') : W p l e R s mid args below meth c H locs cells slots Q (F0 mid pc arr (st.map (eV φ))) := by
  simp only [mex] at hm
  split at hm
  · split at hm
    · rename_i hl; subst hl; unfold mnx at hm; cases hm
      exact W.lcmp hx hb hd (W.vI (oL_cmp _ _) (kk arr H locs hC))
    · cases hm
  · cases hm
theorem S_lneg (hx : p.tables.exec = Jvm.exec) (hb : c.code = cc) (hm : mex sh d rt pc ls st σ (.lneg) len x1 x2 = some (.inl (pc', ls', st', σ'))) (hd : decode cc pc = .ok ((.lneg), len)) (hC : Cf D cT φ sh σ A s nL arr ls H locs) (kk : Kn p l e R s mid args below meth c cells slots Q D cT φ sh A nL pc' ls' st' σ') : W p l e R s mid args below meth c H locs cells slots Q (F0 mid pc arr (st.map (eV φ))) := by
  simp only [mex] at hm
  split at hm
  · rename_i hl; subst hl
    unfold m1L at hm
    split at hm
    · unfold mnx at hm; cases hm
      exact lv_lneg hx hb hd (W.vL (oL_neg _) (kk arr H locs hC))
    · cases hm
  · cases hm
theorem S_l2i (hx : p.tables.exec = Jvm.exec) (hb : c.code = cc) (hm : mex sh d rt pc ls st σ (.l2i) len x1 x2 = some (.inl (pc', ls', st', σ'))) (hd : decode cc pc = .ok ((.l2i), len)) (hC : Cf D cT φ sh σ A s nL arr ls H locs) (kk : Kn p l e R s mid args below meth c cells slots Q D cT φ sh A nL pc' ls' st' σ') : W p l e R s mid args below meth c H locs cells slots Q (F0 mid pc arr (st.map (eV φ))) := by
  simp only [mex] at hm
  split at hm
  · rename_i hl; subst hl
    unfold m1L at hm
    split at hm
    · unfold mnx at hm; cases hm
      exact lv_l2i hx hb hd rfl (W.vI Int64.toInt32_ofInt.symm (kk arr H locs hC))
    · cases hm
  · cases hm
theorem S_i2l (hx : p.tables.exec = Jvm.exec) (hb : c.code = cc) (hm : mex sh d rt pc ls st σ (.i2l) len x1 x2 = some (.inl (pc', ls', st', σ'))) (hd : decode cc pc = .ok ((.i2l), len)) (hC : Cf D cT φ sh σ A s nL arr ls H locs) (kk : Kn p l e R s mid args below meth c cells slots Q D cT φ sh A nL pc' ls' st' σ') : W p l e R s mid args below meth c H locs cells slots Q (F0 mid pc arr (st.map (eV φ))) := by
  simp only [mex] at hm
  split at hm
  · rename_i hl; subst hl
    unfold m1I at hm
    split at hm
    · unfold mnx at hm; cases hm
      exact lv_i2l hx hb hd rfl (W.vL rfl (kk arr H locs hC))
    · cases hm
  · cases hm
theorem S_i2b (hx : p.tables.exec = Jvm.exec) (hb : c.code = cc) (hm : mex sh d rt pc ls st σ (.i2b) len x1 x2 = some (.inl (pc', ls', st', σ'))) (hd : decode cc pc = .ok ((.i2b), len)) (hC : Cf D cT φ sh σ A s nL arr ls H locs) (kk : Kn p l e R s mid args below meth c cells slots Q D cT φ sh A nL pc' ls' st' σ') : W p l e R s mid args below meth c H locs cells slots Q (F0 mid pc arr (st.map (eV φ))) := by
  simp only [mex] at hm
  split at hm
  · rename_i hl; subst hl
    unfold m1I at hm
    split at hm
    · unfold mnx at hm; cases hm
      exact lv_i2b hx hb hd rfl (W.vI (Int32.ofInt_int8ToInt _) (kk arr H locs hC))
    · cases hm
  · cases hm
theorem S_i2c (hx : p.tables.exec = Jvm.exec) (hb : c.code = cc) (hm : mex sh d rt pc ls st σ (.i2c) len x1 x2 = some (.inl (pc', ls', st', σ'))) (hd : decode cc pc = .ok ((.i2c), len)) (hC : Cf D cT φ sh σ A s nL arr ls H locs) (kk : Kn p l e R s mid args below meth c cells slots Q D cT φ sh A nL pc' ls' st' σ') : W p l e R s mid args below meth c H locs cells slots Q (F0 mid pc arr (st.map (eV φ))) := by
  simp only [mex] at hm
  split at hm
  · rename_i hl; subst hl
    unfold m1I at hm
    split at hm
    · unfold mnx at hm; cases hm
      exact lv_i2c hx hb hd rfl (W.vI (Int32.ofInt_toInt _) (kk arr H locs hC))
    · cases hm
  · cases hm
theorem S_iconst {z : Int} (hx : p.tables.exec = Jvm.exec) (hb : c.code = cc) (hm : mex sh d rt pc ls st σ (.iconst z) len x1 x2 = some (.inl (pc', ls', st', σ'))) (hd : decode cc pc = .ok ((.iconst z), len)) (hC : Cf D cT φ sh σ A s nL arr ls H locs) (kk : Kn p l e R s mid args below meth c cells slots Q D cT φ sh A nL pc' ls' st' σ') : W p l e R s mid args below meth c H locs cells slots Q (F0 mid pc arr (st.map (eV φ))) := by
  simp only [mex] at hm
  split at hm
  · rename_i hl; subst hl
    unfold mnx at hm; cases hm
    exact lv_iconst hx hb hd rfl (kk arr H locs hC)
  · cases hm
theorem S_bipush {z : Int} (hx : p.tables.exec = Jvm.exec) (hb : c.code = cc) (hm : mex sh d rt pc ls st σ (.bipush z) len x1 x2 = some (.inl (pc', ls', st', σ'))) (hd : decode cc pc = .ok ((.bipush z), len)) (hC : Cf D cT φ sh σ A s nL arr ls H locs) (kk : Kn p l e R s mid args below meth c cells slots Q D cT φ sh A nL pc' ls' st' σ') : W p l e R s mid args below meth c H locs cells slots Q (F0 mid pc arr (st.map (eV φ))) := by
  simp only [mex] at hm
  split at hm
  · rename_i hl; obtain ⟨hl, hz⟩ := hl; subst hl; unfold mnx at hm; cases hm
    exact lv_bipush hx hb hd rfl (W.vI (by have h9 := Int32.ofInt_int8ToInt (Int8.ofInt z); rw [hz] at h9; exact h9) (kk arr H locs hC))
  · cases hm
theorem S_sipush {z : Int} (hx : p.tables.exec = Jvm.exec) (hb : c.code = cc) (hm : mex sh d rt pc ls st σ (.sipush z) len x1 x2 = some (.inl (pc', ls', st', σ'))) (hd : decode cc pc = .ok ((.sipush z), len)) (hC : Cf D cT φ sh σ A s nL arr ls H locs) (kk : Kn p l e R s mid args below meth c cells slots Q D cT φ sh A nL pc' ls' st' σ') : W p l e R s mid args below meth c H locs cells slots Q (F0 mid pc arr (st.map (eV φ))) := by
  simp only [mex] at hm
  split at hm
  · rename_i hl; obtain ⟨hl, hz⟩ := hl; subst hl; unfold mnx at hm; cases hm
    exact lv_sipush hx hb hd rfl (W.vI (by have h9 := Int32.ofInt_int16ToInt (Int16.ofInt z); rw [hz] at h9; exact h9) (kk arr H locs hC))
  · cases hm
theorem S_lconst {z : Fin 2} (hx : p.tables.exec = Jvm.exec) (hb : c.code = cc) (hm : mex sh d rt pc ls st σ (.lconst z) len x1 x2 = some (.inl (pc', ls', st', σ'))) (hd : decode cc pc = .ok ((.lconst z), len)) (hC : Cf D cT φ sh σ A s nL arr ls H locs) (kk : Kn p l e R s mid args below meth c cells slots Q D cT φ sh A nL pc' ls' st' σ') : W p l e R s mid args below meth c H locs cells slots Q (F0 mid pc arr (st.map (eV φ))) := by
  simp only [mex] at hm
  split at hm
  · rename_i hl; subst hl
    unfold mnx at hm; cases hm
    exact lv_lconst hx hb hd rfl (W.vL (oL_nat _) (kk arr H locs hC))
  · cases hm
theorem S_iload {k : Nat} (hx : p.tables.exec = Jvm.exec) (hb : c.code = cc) (hm : mex sh d rt pc ls st σ (.iload k) len x1 x2 = some (.inl (pc', ls', st', σ'))) (hd : decode cc pc = .ok ((.iload k), len)) (hC : Cf D cT φ sh σ A s nL arr ls H locs) (kk : Kn p l e R s mid args below meth c cells slots Q D cT φ sh A nL pc' ls' st' σ') : W p l e R s mid args below meth c H locs cells slots Q (F0 mid pc arr (st.map (eV φ))) := by
  simp only [mex] at hm
  split at hm
  · rename_i hl; subst hl
    unfold mldI at hm
    split at hm
    · rename_i hv; unfold mnx at hm; cases hm
      exact lv_iload hx hb hd (hC.1.at hv) (kk arr H locs hC)
    · cases hm
  · cases hm
theorem S_iload_n {k : Fin 4} (hx : p.tables.exec = Jvm.exec) (hb : c.code = cc) (hm : mex sh d rt pc ls st σ (.iload_n k) len x1 x2 = some (.inl (pc', ls', st', σ'))) (hd : decode cc pc = .ok ((.iload_n k), len)) (hC : Cf D cT φ sh σ A s nL arr ls H locs) (kk : Kn p l e R s mid args below meth c cells slots Q D cT φ sh A nL pc' ls' st' σ') : W p l e R s mid args below meth c H locs cells slots Q (F0 mid pc arr (st.map (eV φ))) := by
  simp only [mex] at hm
  split at hm
  · rename_i hl; subst hl
    unfold mldI at hm
    split at hm
    · rename_i hv; unfold mnx at hm; cases hm
      exact lv_iload_n hx hb hd rfl (hC.1.at hv) (kk arr H locs hC)
    · cases hm
  · cases hm
theorem S_lload {k : Nat} (hx : p.tables.exec = Jvm.exec) (hb : c.code = cc) (hm : mex sh d rt pc ls st σ (.lload k) len x1 x2 = some (.inl (pc', ls', st', σ'))) (hd : decode cc pc = .ok ((.lload k), len)) (hC : Cf D cT φ sh σ A s nL arr ls H locs) (kk : Kn p l e R s mid args below meth c cells slots Q D cT φ sh A nL pc' ls' st' σ') : W p l e R s mid args below meth c H locs cells slots Q (F0 mid pc arr (st.map (eV φ))) := by
  simp only [mex] at hm
  split at hm
  · rename_i hl; subst hl
    unfold mldL at hm
    split at hm
    · rename_i hv; unfold mnx at hm; cases hm
      exact lv_lload hx hb hd (hC.1.at hv) (kk arr H locs hC)
    · cases hm
  · cases hm
theorem S_lload_n {k : Fin 4} (hx : p.tables.exec = Jvm.exec) (hb : c.code = cc) (hm : mex sh d rt pc ls st σ (.lload_n k) len x1 x2 = some (.inl (pc', ls', st', σ'))) (hd : decode cc pc = .ok ((.lload_n k), len)) (hC : Cf D cT φ sh σ A s nL arr ls H locs) (kk : Kn p l e R s mid args below meth c cells slots Q D cT φ sh A nL pc' ls' st' σ') : W p l e R s mid args below meth c H locs cells slots Q (F0 mid pc arr (st.map (eV φ))) := by
  simp only [mex] at hm
  split at hm
  · rename_i hl; subst hl
    unfold mldL at hm
    split at hm
    · rename_i hv; unfold mnx at hm; cases hm
      exact lv_lload_n hx hb hd rfl (hC.1.at hv) (kk arr H locs hC)
    · cases hm
  · cases hm
theorem S_aload {k : Nat} (hx : p.tables.exec = Jvm.exec) (hb : c.code = cc) (hm : mex sh d rt pc ls st σ (.aload k) len x1 x2 = some (.inl (pc', ls', st', σ'))) (hd : decode cc pc = .ok ((.aload k), len)) (hC : Cf D cT φ sh σ A s nL arr ls H locs) (kk : Kn p l e R s mid args below meth c cells slots Q D cT φ sh A nL pc' ls' st' σ') : W p l e R s mid args below meth c H locs cells slots Q (F0 mid pc arr (st.map (eV φ))) := by
  simp only [mex] at hm
  split at hm
  · rename_i hl; subst hl
    unfold mldR at hm
    split at hm
    · rename_i hv; unfold mnx at hm; cases hm
      exact lv_aload hx hb hd (hC.1.at hv) (kk arr H locs hC)
    · cases hm
  · cases hm
theorem S_aload_n {k : Fin 4} (hx : p.tables.exec = Jvm.exec) (hb : c.code = cc) (hm : mex sh d rt pc ls st σ (.aload_n k) len x1 x2 = some (.inl (pc', ls', st', σ'))) (hd : decode cc pc = .ok ((.aload_n k), len)) (hC : Cf D cT φ sh σ A s nL arr ls H locs) (kk : Kn p l e R s mid args below meth c cells slots Q D cT φ sh A nL pc' ls' st' σ') : W p l e R s mid args below meth c H locs cells slots Q (F0 mid pc arr (st.map (eV φ))) := by
  simp only [mex] at hm
  split at hm
  · rename_i hl; subst hl
    unfold mldR at hm
    split at hm
    · rename_i hv; unfold mnx at hm; cases hm
      exact lv_aload_n hx hb hd rfl (hC.1.at hv) (kk arr H locs hC)
    · cases hm
  · cases hm
theorem S_istore {k : Nat} (hx : p.tables.exec = Jvm.exec) (hb : c.code = cc) (hm : mex sh d rt pc ls st σ (.istore k) len x1 x2 = some (.inl (pc', ls', st', σ'))) (hd : decode cc pc = .ok ((.istore k), len)) (hC : Cf D cT φ sh σ A s nL arr ls H locs) (kk : Kn p l e R s mid args below meth c cells slots Q D cT φ sh A nL pc' ls' st' σ') : W p l e R s mid args below meth c H locs cells slots Q (F0 mid pc arr (st.map (eV φ))) := by
  simp only [mex] at hm
  split at hm
  · rename_i hl; subst hl
    unfold mstI at hm
    split at hm
    · split at hm
      · rename_i hi; unfold mnx at hm; cases hm
        exact lv_istore hx hb hd hC.1.1 (by rw [← hC.1.2]; exact hi) rfl (fun arr9 hl9 => kk arr9 H locs ⟨LH.put hC.1.2 hl9, hC.2⟩)
      · cases hm
    · cases hm
  · cases hm
theorem S_istore_n {k : Fin 4} (hx : p.tables.exec = Jvm.exec) (hb : c.code = cc) (hm : mex sh d rt pc ls st σ (.istore_n k) len x1 x2 = some (.inl (pc', ls', st', σ'))) (hd : decode cc pc = .ok ((.istore_n k), len)) (hC : Cf D cT φ sh σ A s nL arr ls H locs) (kk : Kn p l e R s mid args below meth c cells slots Q D cT φ sh A nL pc' ls' st' σ') : W p l e R s mid args below meth c H locs cells slots Q (F0 mid pc arr (st.map (eV φ))) := by
  simp only [mex] at hm
  split at hm
  · rename_i hl; subst hl
    unfold mstI at hm
    split at hm
    · split at hm
      · rename_i hi; unfold mnx at hm; cases hm
        exact lv_istore_n hx hb hd rfl hC.1.1 (by rw [← hC.1.2]; exact hi) rfl (fun arr9 hl9 => kk arr9 H locs ⟨LH.put hC.1.2 hl9, hC.2⟩)
      · cases hm
    · cases hm
  · cases hm
theorem S_astore {k : Nat} (hx : p.tables.exec = Jvm.exec) (hb : c.code = cc) (hm : mex sh d rt pc ls st σ (.astore k) len x1 x2 = some (.inl (pc', ls', st', σ'))) (hd : decode cc pc = .ok ((.astore k), len)) (hC : Cf D cT φ sh σ A s nL arr ls H locs) (kk : Kn p l e R s mid args below meth c cells slots Q D cT φ sh A nL pc' ls' st' σ') : W p l e R s mid args below meth c H locs cells slots Q (F0 mid pc arr (st.map (eV φ))) := by
  simp only [mex] at hm
  split at hm
  · rename_i hl; subst hl
    unfold mstR at hm
    split at hm
    · split at hm
      · rename_i hi; unfold mnx at hm; cases hm
        exact lv_astore hx hb hd hC.1.1 (by rw [← hC.1.2]; exact hi) rfl (fun arr9 hl9 => kk arr9 H locs ⟨LH.put hC.1.2 hl9, hC.2⟩)
      · cases hm
    · cases hm
  · cases hm
theorem S_astore_n {k : Fin 4} (hx : p.tables.exec = Jvm.exec) (hb : c.code = cc) (hm : mex sh d rt pc ls st σ (.astore_n k) len x1 x2 = some (.inl (pc', ls', st', σ'))) (hd : decode cc pc = .ok ((.astore_n k), len)) (hC : Cf D cT φ sh σ A s nL arr ls H locs) (kk : Kn p l e R s mid args below meth c cells slots Q D cT φ sh A nL pc' ls' st' σ') : W p l e R s mid args below meth c H locs cells slots Q (F0 mid pc arr (st.map (eV φ))) := by
  simp only [mex] at hm
  split at hm
  · rename_i hl; subst hl
    unfold mstR at hm
    split at hm
    · split at hm
      · rename_i hi; unfold mnx at hm; cases hm
        exact lv_astore_n hx hb hd rfl hC.1.1 (by rw [← hC.1.2]; exact hi) rfl (fun arr9 hl9 => kk arr9 H locs ⟨LH.put hC.1.2 hl9, hC.2⟩)
      · cases hm
    · cases hm
  · cases hm
theorem S_lstore {k : Nat} (hx : p.tables.exec = Jvm.exec) (hb : c.code = cc) (hm : mex sh d rt pc ls st σ (.lstore k) len x1 x2 = some (.inl (pc', ls', st', σ'))) (hd : decode cc pc = .ok ((.lstore k), len)) (hC : Cf D cT φ sh σ A s nL arr ls H locs) (kk : Kn p l e R s mid args below meth c cells slots Q D cT φ sh A nL pc' ls' st' σ') : W p l e R s mid args below meth c H locs cells slots Q (F0 mid pc arr (st.map (eV φ))) := by
  simp only [mex] at hm
  split at hm
  · rename_i hl; subst hl
    unfold mstL at hm
    split at hm
    · split at hm
      · rename_i hi; unfold mnx at hm; cases hm
        exact lv_lstore hx hb hd hC.1.1 (by rw [← hC.1.2]; exact hi) rfl (fun arr9 hl9 => kk arr9 H locs ⟨LH.putL hC.1.2 hl9, hC.2⟩)
      · cases hm
    · cases hm
  · cases hm
theorem S_lstore_n {k : Fin 4} (hx : p.tables.exec = Jvm.exec) (hb : c.code = cc) (hm : mex sh d rt pc ls st σ (.lstore_n k) len x1 x2 = some (.inl (pc', ls', st', σ'))) (hd : decode cc pc = .ok ((.lstore_n k), len)) (hC : Cf D cT φ sh σ A s nL arr ls H locs) (kk : Kn p l e R s mid args below meth c cells slots Q D cT φ sh A nL pc' ls' st' σ') : W p l e R s mid args below meth c H locs cells slots Q (F0 mid pc arr (st.map (eV φ))) := by
  simp only [mex] at hm
  split at hm
  · rename_i hl; subst hl
    unfold mstL at hm
    split at hm
    · split at hm
      · rename_i hi; unfold mnx at hm; cases hm
        exact lv_lstore_n hx hb hd rfl hC.1.1 (by rw [← hC.1.2]; exact hi) rfl (fun arr9 hl9 => kk arr9 H locs ⟨LH.putL hC.1.2 hl9, hC.2⟩)
      · cases hm
    · cases hm
  · cases hm
theorem S_iinc {k : Nat} {z : Int} (hx : p.tables.exec = Jvm.exec) (hb : c.code = cc) (hm : mex sh d rt pc ls st σ (.iinc k z) len x1 x2 = some (.inl (pc', ls', st', σ'))) (hd : decode cc pc = .ok ((.iinc k z), len)) (hC : Cf D cT φ sh σ A s nL arr ls H locs) (kk : Kn p l e R s mid args below meth c cells slots Q D cT φ sh A nL pc' ls' st' σ') : W p l e R s mid args below meth c H locs cells slots Q (F0 mid pc arr (st.map (eV φ))) := by
  simp only [mex] at hm
  split at hm
  · rename_i x hv; split at hm
    · rename_i hl; subst hl; unfold mnx at hm; cases hm
      obtain ⟨i9, hi9⟩ := hC.1.place hv
      have hk9 : k < nL := by rw [← hC.1.2]; exact (List.getElem?_eq_some_iff.mp hv).1
      exact lv_iinc hx hb hd hC.1.1 hi9 (oI_add x z).symm hk9 rfl (fun arr9 hl9 => kk arr9 H locs ⟨LH.put hC.1.2 hl9, hC.2⟩)
    · cases hm
  · cases hm
theorem S_dup (hx : p.tables.exec = Jvm.exec) (hb : c.code = cc) (hm : mex sh d rt pc ls st σ (.dup) len x1 x2 = some (.inl (pc', ls', st', σ'))) (hd : decode cc pc = .ok ((.dup), len)) (hC : Cf D cT φ sh σ A s nL arr ls H locs) (kk : Kn p l e R s mid args below meth c cells slots Q D cT φ sh A nL pc' ls' st' σ') : W p l e R s mid args below meth c H locs cells slots Q (F0 mid pc arr (st.map (eV φ))) := by
  simp only [mex] at hm
  split at hm
  · split at hm
    · rename_i hl; subst hl; unfold mnx at hm; cases hm
      exact lv_dup hx hb hd rfl (kk arr H locs hC)
    · cases hm
  · split at hm
    · rename_i hl; subst hl; unfold mnx at hm; cases hm
      exact lv_dup hx hb hd rfl (kk arr H locs hC)
    · cases hm
  · cases hm
theorem S_dup2 (hx : p.tables.exec = Jvm.exec) (hb : c.code = cc) (hm : mex sh d rt pc ls st σ (.dup2) len x1 x2 = some (.inl (pc', ls', st', σ'))) (hd : decode cc pc = .ok ((.dup2), len)) (hC : Cf D cT φ sh σ A s nL arr ls H locs) (kk : Kn p l e R s mid args below meth c cells slots Q D cT φ sh A nL pc' ls' st' σ') : W p l e R s mid args below meth c H locs cells slots Q (F0 mid pc arr (st.map (eV φ))) := by
  simp only [mex] at hm
  split at hm
  · split at hm
    · rename_i hl; subst hl; unfold mnx at hm; cases hm
      exact lv_dup2_11 hx hb hd rfl rfl (kk arr H locs hC)
    · cases hm
  · cases hm
theorem S_pop (hx : p.tables.exec = Jvm.exec) (hb : c.code = cc) (hm : mex sh d rt pc ls st σ (.pop) len x1 x2 = some (.inl (pc', ls', st', σ'))) (hd : decode cc pc = .ok ((.pop), len)) (hC : Cf D cT φ sh σ A s nL arr ls H locs) (kk : Kn p l e R s mid args below meth c cells slots Q D cT φ sh A nL pc' ls' st' σ') : W p l e R s mid args below meth c H locs cells slots Q (F0 mid pc arr (st.map (eV φ))) := by
  simp only [mex] at hm
  split at hm
  · split at hm
    · rename_i hl; subst hl; unfold mnx at hm; cases hm
      exact lv_pop hx hb hd rfl (kk arr H locs hC)
    · cases hm
  · cases hm
theorem S_goto {off : Int} (hx : p.tables.exec = Jvm.exec) (hb : c.code = cc) (hm : mex sh d rt pc ls st σ (.goto off) len x1 x2 = some (.inl (pc', ls', st', σ'))) (hd : decode cc pc = .ok ((.goto off), len)) (hC : Cf D cT φ sh σ A s nL arr ls H locs) (kk : Kn p l e R s mid args below meth c cells slots Q D cT φ sh A nL pc' ls' st' σ') : W p l e R s mid args below meth c H locs cells slots Q (F0 mid pc arr (st.map (eV φ))) := by
  simp only [mex] at hm
  split at hm
  · rename_i hl; obtain ⟨hl, ht⟩ := hl; subst hl; unfold mnx at hm; cases hm
    exact lv_goto hx hb hd ht (kk arr H locs hC)
  · cases hm
theorem S_if_eq {off : Int} (hx : p.tables.exec = Jvm.exec) (hb : c.code = cc) (hm : mex sh d rt pc ls st σ (.ifCond .eq off) len x1 x2 = some (.inl (pc', ls', st', σ'))) (hd : decode cc pc = .ok ((.ifCond .eq off), len)) (hC : Cf D cT φ sh σ A s nL arr ls H locs) (kk : Kn p l e R s mid args below meth c cells slots Q D cT φ sh A nL pc' ls' st' σ') : W p l e R s mid args below meth c H locs cells slots Q (F0 mid pc arr (st.map (eV φ))) := by
  simp only [mex] at hm
  split at hm
  · split at hm
    · rename_i hl; subst hl; unfold mif at hm
      split at hm
      · rename_i ht; unfold mnx at hm; cases hm
        refine lv_if_eq hx hb hd ht ?_ ?_
        · exact fun q => by rw [cnd_t_eq ((oI_eq0 _).mp q)] at kk; exact kk arr H locs hC
        · exact fun q => by rw [cnd_f_eq (fun z => q ((oI_eq0 _).mpr z))] at kk; exact kk arr H locs hC
      · cases hm
    · cases hm
  · cases hm
theorem S_ic_eq {off : Int} (hx : p.tables.exec = Jvm.exec) (hb : c.code = cc) (hm : mex sh d rt pc ls st σ (.if_icmp .eq off) len x1 x2 = some (.inl (pc', ls', st', σ'))) (hd : decode cc pc = .ok ((.if_icmp .eq off), len)) (hC : Cf D cT φ sh σ A s nL arr ls H locs) (kk : Kn p l e R s mid args below meth c cells slots Q D cT φ sh A nL pc' ls' st' σ') : W p l e R s mid args below meth c H locs cells slots Q (F0 mid pc arr (st.map (eV φ))) := by
  simp only [mex] at hm
  split at hm
  · split at hm
    · rename_i hl; subst hl; unfold mif at hm
      split at hm
      · rename_i ht; unfold mnx at hm; cases hm
        refine lv_icmp_eq hx hb hd ht ?_ ?_
        · exact fun q => by rw [cnd_t_eq ((oI_eq _ _).mp q)] at kk; exact kk arr H locs hC
        · exact fun q => by rw [cnd_f_eq (fun z => q ((oI_eq _ _).mpr z))] at kk; exact kk arr H locs hC
      · cases hm
    · cases hm
  · cases hm
theorem S_if_ne {off : Int} (hx : p.tables.exec = Jvm.exec) (hb : c.code = cc) (hm : mex sh d rt pc ls st σ (.ifCond .ne off) len x1 x2 = some (.inl (pc', ls', st', σ'))) (hd : decode cc pc = .ok ((.ifCond .ne off), len)) (hC : Cf D cT φ sh σ A s nL arr ls H locs) (kk : Kn p l e R s mid args below meth c cells slots Q D cT φ sh A nL pc' ls' st' σ') : W p l e R s mid args below meth c H locs cells slots Q (F0 mid pc arr (st.map (eV φ))) := by
  simp only [mex] at hm
  split at hm
  · split at hm
    · rename_i hl; subst hl; unfold mif at hm
      split at hm
      · rename_i ht; unfold mnx at hm; cases hm
        refine lv_if_ne hx hb hd ht ?_ ?_
        · exact fun q => by rw [cnd_t_ne (fun z => q ((oI_eq0 _).mpr z))] at kk; exact kk arr H locs hC
        · exact fun q => by rw [cnd_f_ne ((oI_eq0 _).mp q)] at kk; exact kk arr H locs hC
      · cases hm
    · cases hm
  · cases hm
theorem S_ic_ne {off : Int} (hx : p.tables.exec = Jvm.exec) (hb : c.code = cc) (hm : mex sh d rt pc ls st σ (.if_icmp .ne off) len x1 x2 = some (.inl (pc', ls', st', σ'))) (hd : decode cc pc = .ok ((.if_icmp .ne off), len)) (hC : Cf D cT φ sh σ A s nL arr ls H locs) (kk : Kn p l e R s mid args below meth c cells slots Q D cT φ sh A nL pc' ls' st' σ') : W p l e R s mid args below meth c H locs cells slots Q (F0 mid pc arr (st.map (eV φ))) := by
  simp only [mex] at hm
  split at hm
  · split at hm
    · rename_i hl; subst hl; unfold mif at hm
      split at hm
      · rename_i ht; unfold mnx at hm; cases hm
        refine lv_icmp_ne hx hb hd ht ?_ ?_
        · exact fun q => by rw [cnd_t_ne (fun z => q ((oI_eq _ _).mpr z))] at kk; exact kk arr H locs hC
        · exact fun q => by rw [cnd_f_ne ((oI_eq _ _).mp q)] at kk; exact kk arr H locs hC
      · cases hm
    · cases hm
  · cases hm
theorem S_if_lt {off : Int} (hx : p.tables.exec = Jvm.exec) (hb : c.code = cc) (hm : mex sh d rt pc ls st σ (.ifCond .lt off) len x1 x2 = some (.inl (pc', ls', st', σ'))) (hd : decode cc pc = .ok ((.ifCond .lt off), len)) (hC : Cf D cT φ sh σ A s nL arr ls H locs) (kk : Kn p l e R s mid args below meth c cells slots Q D cT φ sh A nL pc' ls' st' σ') : W p l e R s mid args below meth c H locs cells slots Q (F0 mid pc arr (st.map (eV φ))) := by
  simp only [mex] at hm
  split at hm
  · split at hm
    · rename_i hl; subst hl; unfold mif at hm
      split at hm
      · rename_i ht; unfold mnx at hm; cases hm
        refine lv_if_lt hx hb hd ht ?_ ?_
        · exact fun q => by rw [cnd_t_lt ((oI_lt0 _).mp q)] at kk; exact kk arr H locs hC
        · exact fun q => by rw [cnd_f_lt (fun z => q ((oI_lt0 _).mpr z))] at kk; exact kk arr H locs hC
      · cases hm
    · cases hm
  · cases hm
theorem S_ic_lt {off : Int} (hx : p.tables.exec = Jvm.exec) (hb : c.code = cc) (hm : mex sh d rt pc ls st σ (.if_icmp .lt off) len x1 x2 = some (.inl (pc', ls', st', σ'))) (hd : decode cc pc = .ok ((.if_icmp .lt off), len)) (hC : Cf D cT φ sh σ A s nL arr ls H locs) (kk : Kn p l e R s mid args below meth c cells slots Q D cT φ sh A nL pc' ls' st' σ') : W p l e R s mid args below meth c H locs cells slots Q (F0 mid pc arr (st.map (eV φ))) := by
  simp only [mex] at hm
  split at hm
  · split at hm
    · rename_i hl; subst hl; unfold mif at hm
      split at hm
      · rename_i ht; unfold mnx at hm; cases hm
        refine lv_icmp_lt hx hb hd ht ?_ ?_
        · exact fun q => by rw [cnd_t_lt ((oI_lt _ _).mp q)] at kk; exact kk arr H locs hC
        · exact fun q => by rw [cnd_f_lt (fun z => q ((oI_lt _ _).mpr z))] at kk; exact kk arr H locs hC
      · cases hm
    · cases hm
  · cases hm
theorem S_if_ge {off : Int} (hx : p.tables.exec = Jvm.exec) (hb : c.code = cc) (hm : mex sh d rt pc ls st σ (.ifCond .ge off) len x1 x2 = some (.inl (pc', ls', st', σ'))) (hd : decode cc pc = .ok ((.ifCond .ge off), len)) (hC : Cf D cT φ sh σ A s nL arr ls H locs) (kk : Kn p l e R s mid args below meth c cells slots Q D cT φ sh A nL pc' ls' st' σ') : W p l e R s mid args below meth c H locs cells slots Q (F0 mid pc arr (st.map (eV φ))) := by
  simp only [mex] at hm
  split at hm
  · split at hm
    · rename_i hl; subst hl; unfold mif at hm
      split at hm
      · rename_i ht; unfold mnx at hm; cases hm
        refine lv_if_ge hx hb hd ht ?_ ?_
        · exact fun q => by rw [cnd_t_ge (fun z => Int32.not_lt.mpr q ((oI_lt0 _).mpr z))] at kk; exact kk arr H locs hC
        · exact fun q => by rw [cnd_f_ge ((oI_lt0 _).mp (Int32.not_le.mp q))] at kk; exact kk arr H locs hC
      · cases hm
    · cases hm
  · cases hm
theorem S_ic_ge {off : Int} (hx : p.tables.exec = Jvm.exec) (hb : c.code = cc) (hm : mex sh d rt pc ls st σ (.if_icmp .ge off) len x1 x2 = some (.inl (pc', ls', st', σ'))) (hd : decode cc pc = .ok ((.if_icmp .ge off), len)) (hC : Cf D cT φ sh σ A s nL arr ls H locs) (kk : Kn p l e R s mid args below meth c cells slots Q D cT φ sh A nL pc' ls' st' σ') : W p l e R s mid args below meth c H locs cells slots Q (F0 mid pc arr (st.map (eV φ))) := by
  simp only [mex] at hm
  split at hm
  · split at hm
    · rename_i hl; subst hl; unfold mif at hm
      split at hm
      · rename_i ht; unfold mnx at hm; cases hm
        refine lv_icmp_ge hx hb hd ht ?_ ?_
        · exact fun q => by rw [cnd_t_ge (fun z => Int32.not_lt.mpr q ((oI_lt _ _).mpr z))] at kk; exact kk arr H locs hC
        · exact fun q => by rw [cnd_f_ge ((oI_lt _ _).mp (Int32.not_le.mp q))] at kk; exact kk arr H locs hC
      · cases hm
    · cases hm
  · cases hm
theorem S_if_gt {off : Int} (hx : p.tables.exec = Jvm.exec) (hb : c.code = cc) (hm : mex sh d rt pc ls st σ (.ifCond .gt off) len x1 x2 = some (.inl (pc', ls', st', σ'))) (hd : decode cc pc = .ok ((.ifCond .gt off), len)) (hC : Cf D cT φ sh σ A s nL arr ls H locs) (kk : Kn p l e R s mid args below meth c cells slots Q D cT φ sh A nL pc' ls' st' σ') : W p l e R s mid args below meth c H locs cells slots Q (F0 mid pc arr (st.map (eV φ))) := by
  simp only [mex] at hm
  split at hm
  · split at hm
    · rename_i hl; subst hl; unfold mif at hm
      split at hm
      · rename_i ht; unfold mnx at hm; cases hm
        refine lv_if_gt hx hb hd ht ?_ ?_
        · exact fun q => by rw [cnd_t_gt ((oI_gt0 _).mp q)] at kk; exact kk arr H locs hC
        · exact fun q => by rw [cnd_f_gt (fun z => q ((oI_gt0 _).mpr z))] at kk; exact kk arr H locs hC
      · cases hm
    · cases hm
  · cases hm
theorem S_ic_gt {off : Int} (hx : p.tables.exec = Jvm.exec) (hb : c.code = cc) (hm : mex sh d rt pc ls st σ (.if_icmp .gt off) len x1 x2 = some (.inl (pc', ls', st', σ'))) (hd : decode cc pc = .ok ((.if_icmp .gt off), len)) (hC : Cf D cT φ sh σ A s nL arr ls H locs) (kk : Kn p l e R s mid args below meth c cells slots Q D cT φ sh A nL pc' ls' st' σ') : W p l e R s mid args below meth c H locs cells slots Q (F0 mid pc arr (st.map (eV φ))) := by
  simp only [mex] at hm
  split at hm
  · split at hm
    · rename_i hl; subst hl; unfold mif at hm
      split at hm
      · rename_i ht; unfold mnx at hm; cases hm
        refine lv_icmp_gt hx hb hd ht ?_ ?_
        · exact fun q => by rw [cnd_t_gt ((oI_lt _ _).mp q)] at kk; exact kk arr H locs hC
        · exact fun q => by rw [cnd_f_gt (fun z => q ((oI_lt _ _).mpr z))] at kk; exact kk arr H locs hC
      · cases hm
    · cases hm
  · cases hm
theorem S_if_le {off : Int} (hx : p.tables.exec = Jvm.exec) (hb : c.code = cc) (hm : mex sh d rt pc ls st σ (.ifCond .le off) len x1 x2 = some (.inl (pc', ls', st', σ'))) (hd : decode cc pc = .ok ((.ifCond .le off), len)) (hC : Cf D cT φ sh σ A s nL arr ls H locs) (kk : Kn p l e R s mid args below meth c cells slots Q D cT φ sh A nL pc' ls' st' σ') : W p l e R s mid args below meth c H locs cells slots Q (F0 mid pc arr (st.map (eV φ))) := by
  simp only [mex] at hm
  split at hm
  · split at hm
    · rename_i hl; subst hl; unfold mif at hm
      split at hm
      · rename_i ht; unfold mnx at hm; cases hm
        refine lv_if_le hx hb hd ht ?_ ?_
        · exact fun q => by rw [cnd_t_le (fun z => Int32.not_lt.mpr q ((oI_gt0 _).mpr z))] at kk; exact kk arr H locs hC
        · exact fun q => by rw [cnd_f_le ((oI_gt0 _).mp (Int32.not_le.mp q))] at kk; exact kk arr H locs hC
      · cases hm
    · cases hm
  · cases hm
theorem S_ic_le {off : Int} (hx : p.tables.exec = Jvm.exec) (hb : c.code = cc) (hm : mex sh d rt pc ls st σ (.if_icmp .le off) len x1 x2 = some (.inl (pc', ls', st', σ'))) (hd : decode cc pc = .ok ((.if_icmp .le off), len)) (hC : Cf D cT φ sh σ A s nL arr ls H locs) (kk : Kn p l e R s mid args below meth c cells slots Q D cT φ sh A nL pc' ls' st' σ') : W p l e R s mid args below meth c H locs cells slots Q (F0 mid pc arr (st.map (eV φ))) := by
  simp only [mex] at hm
  split at hm
  · split at hm
    · rename_i hl; subst hl; unfold mif at hm
      split at hm
      · rename_i ht; unfold mnx at hm; cases hm
        refine lv_icmp_le hx hb hd ht ?_ ?_
        · exact fun q => by rw [cnd_t_le (fun z => Int32.not_lt.mpr q ((oI_lt _ _).mpr z))] at kk; exact kk arr H locs hC
        · exact fun q => by rw [cnd_f_le ((oI_lt _ _).mp (Int32.not_le.mp q))] at kk; exact kk arr H locs hC
      · cases hm
    · cases hm
  · cases hm
theorem S_tsw {df lo hi : Int} {offs : Array Int} (hx : p.tables.exec = Jvm.exec) (hb : c.code = cc) (hm : mex sh d rt pc ls st σ (.tableswitch df lo hi offs) len x1 x2 = some (.inl (pc', ls', st', σ'))) (hd : decode cc pc = .ok ((.tableswitch df lo hi offs), len)) (hC : Cf D cT φ sh σ A s nL arr ls H locs) (kk : Kn p l e R s mid args below meth c cells slots Q D cT φ sh A nL pc' ls' st' σ') : W p l e R s mid args below meth c H locs cells slots Q (F0 mid pc arr (st.map (eV φ))) := by
  simp only [mex] at hm
  split at hm
  · split at hm
    · rename_i ho; split at hm
      · rename_i h0; unfold mnx at hm; cases hm
        exact lv_tableOut hx hb hd ho (Int.toNat_of_nonneg h0).symm (kk arr H locs hC)
      · cases hm
    · rename_i ho; split at hm
      · rename_i off hof; split at hm
        · rename_i h0; unfold mnx at hm; cases hm
          exact lv_tableIn hx hb hd (fun z => ho (Or.inl z)) (fun z => ho (Or.inr z)) hof (Int.toNat_of_nonneg h0).symm (kk arr H locs hC)
        · cases hm
      · cases hm
  · cases hm
end SND
