/-! ===== M against the machine: fields and rows ===== -/
section SNM
variable {p : Program} {l : Launch} {e : Env} {R : Room} {s : State} {mid : MethodId} {args : Array Value} {below : List Frame} {meth : Method} {c : Code} {H : Heap} {locs : List Loc} {cells slots : Nat} {Q : State → Prop}
variable {D : va_G} {cT : Nat → ClassId} {φ : Nat → Nat} {sh : Shp} {σ σ' : Mem} {A : Nat → Prop} {nL : Nat} {arr : Array Slot} {ls ls' : List (Option MV)} {st st' : List MV} {cc : ByteArray} {d rt pc pc' len x1 x2 : Nat} {rest : List Value}
theorem cE_i {a kd : Nat} (hk : skd sh a = kd) (h2 : kd ≤ 2) : cE cT φ sh σ a = .inl (cT kd, sln sh a, .inl (fun j => Int32.ofInt (σ.1 a j))) := by
  unfold cE
  rw [hk, if_pos h2]
theorem cE_l {a : Nat} (hk : skd sh a = 3) : cE cT φ sh σ a = .inl (cT 3, sln sh a, .inr (.inl (fun j => Int64.ofInt (σ.2 a j)))) := by
  unfold cE
  rw [hk]; rfl
theorem cE_r {a : Nat} (hk : skd sh a = 4) : cE cT φ sh σ a = .inl (cT 4, sln sh a, .inr (.inr (.inr (.inr (fun j => some (φ (srf sh a j))))))) := by
  unfold cE
  rw [hk]; rfl
theorem cE_o {a k : Nat} (hk : skd sh a = 5 + k) : cE cT φ sh σ a = .inr (k, (List.range (sln sh a)).map (fun j => bif frf k j then .ref (φ (srf sh a j)) else .int (Int32.ofInt (σ.1 a j)))) := by
  unfold cE
  rw [hk, if_neg (by omega), if_neg (by omega), if_neg (by omega), show 5 + k - 5 = k by omega]
/-- a store to the id a: what is left of the world is as it was -/
theorem Cf.sto {a : Nat} {E0 : va_E} {H1 : Heap} {locs1 : List Loc} (hC : Cf D cT φ sh σ A s nL arr ls H locs) (ha : a < sh.1) (h1 : ∀ b, b ≠ a → σ'.1 b = σ.1 b) (h2 : ∀ b, b ≠ a → σ'.2 b = σ.2 b) (hE : cE cT φ sh σ' a = E0)
    (hP : va_P D vwCl ((wE cT φ sh σ).set a (φ a, E0)) H1) (hD : va_D A ((wE cT φ sh σ).set a (φ a, E0))) (hS : va_S A s.heap H1 locs1) : Cf D cT φ sh σ' A s nL arr ls H1 locs1 := by
  subst hE
  rw [wE_set h1 h2] at hP hD
  exact ⟨hC.1, hP, hD, hS, hC.2.2.2.2.sto fun b hb => h1 b (by omega)⟩
theorem ofI_up (f : Nat → Int) (i v : Int) : (fun j => Int32.ofInt (up1 f (wi i).toNat v j)) = upd (fun j => Int32.ofInt (f j)) (Int32.ofInt i).toNatClampNeg (Int32.ofInt v) := by
  funext j
  by_cases h : j = (wi i).toNat
  · rw [up1, if_pos h, upd, if_pos (by rw [h]; rfl)]
  · rw [up1, if_neg h, upd, if_neg (fun z => h (by rw [z]; rfl))]
theorem S_iaload (hx : p.tables.exec = Jvm.exec) (hb : c.code = cc) (hK : va_K D vwCl (tyL cT) s) (hwf : wfS sh) (hm : mex sh d rt pc ls st σ (.iaload) len x1 x2 = some (.inl (pc', ls', st', σ'))) (hd : decode cc pc = .ok ((.iaload), len)) (hC : Cf D cT φ sh σ A s nL arr ls H locs) (kk : Kn p l e R s mid args below meth c cells slots Q D cT φ sh A nL pc' ls' st' σ') : W p l e R s mid args below meth c H locs cells slots Q (F0 mid pc arr (st.map (eV φ))) := by
  simp only [mex] at hm
  split at hm
  · rename_i hl; subst hl
    unfold mald at hm
    split at hm
    · rename_i i a r
      split at hm
      · rename_i hc
        obtain ⟨hk, h0, h1⟩ := hc
        unfold mnx at hm; cases hm
        by_cases ha : a < sh.1
        · have hg := wE_get (cT := cT) (φ := φ) (σ := σ) ha
          rw [cE_i hk (by omega)] at hg
          exact va_iald hx hb hK hC.2.1 a 0 hg rfl ((oI_in _ _).mpr ⟨h0, h1⟩) hd (kk arr H locs hC)
        · rcases hwf.2 a (by omega) with ⟨_, hge, hlt⟩ | h5
          · obtain ⟨g1, g2, g3⟩ := hC.2.2.2.2.1 (a - 1000000) (by omega)
            rw [show 1000000 + (a - 1000000) = a by omega] at g1 g2 g3
            obtain ⟨cell, q1, q2, q3, q4, -, q6⟩ := g1.kept (hC.2.2.2.1.2.1 _ g3 g2)
            have hi9 : (wi i).toNat < sln sh a := by omega
            exact W.iald (v := .int (Int32.ofInt (σ.1 a (wi i).toNat))) hx hb q1 q2 q3 (fun z => by
              rcases z with z | z
              · have := (oI_lt0 i).mp z; omega
              · rw [oI_cl] at z; omega) (by rw [oI_cl]; exact q6 _ hi9) rfl rfl hd (kk arr H locs hC)
          · omega
      · cases hm
    · cases hm
  · cases hm
theorem wf_lt (hwf : wfS sh) {a kd : Nat} (hk : skd sh a = kd) (h1 : 1 ≤ kd) (h2 : kd ≤ 4) : a < sh.1 := by
  rcases Nat.lt_or_ge a sh.1 with h | h
  · exact h
  · rcases hwf.2 a h with ⟨h3, -⟩ | h3 <;> omega
theorem S_baload (hx : p.tables.exec = Jvm.exec) (hb : c.code = cc) (hK : va_K D vwCl (tyL cT) s) (hwf : wfS sh) (hm : mex sh d rt pc ls st σ (.baload) len x1 x2 = some (.inl (pc', ls', st', σ'))) (hd : decode cc pc = .ok ((.baload), len)) (hC : Cf D cT φ sh σ A s nL arr ls H locs) (kk : Kn p l e R s mid args below meth c cells slots Q D cT φ sh A nL pc' ls' st' σ') : W p l e R s mid args below meth c H locs cells slots Q (F0 mid pc arr (st.map (eV φ))) := by
  simp only [mex] at hm
  split at hm
  · split at hm
    · split at hm
      · rename_i hl; subst hl
        unfold mald at hm
        simp only at hm
        split at hm
        · rename_i hc
          obtain ⟨hk, h0, h1⟩ := hc
          unfold mnx at hm; cases hm
          have hg := wE_get (cT := cT) (φ := φ) (σ := σ) (wf_lt hwf hk (by omega) (by omega))
          rw [cE_i hk (by omega)] at hg
          exact va_zald hx hb hK hC.2.1 _ 2 hg rfl ((oI_in _ _).mpr ⟨h0, h1⟩) hd (kk arr H locs hC)
        · cases hm
      · cases hm
    · split at hm
      · rename_i hl; subst hl
        unfold mald at hm
        simp only at hm
        split at hm
        · rename_i hc
          obtain ⟨hk, h0, h1⟩ := hc
          unfold mnx at hm; cases hm
          have hg := wE_get (cT := cT) (φ := φ) (σ := σ) (wf_lt hwf hk (by omega) (by omega))
          rw [cE_i hk (by omega)] at hg
          exact va_bald hx hb hK hC.2.1 _ 1 hg rfl ((oI_in _ _).mpr ⟨h0, h1⟩) hd (kk arr H locs hC)
        · cases hm
      · cases hm
  · cases hm
theorem S_laload (hx : p.tables.exec = Jvm.exec) (hb : c.code = cc) (hK : va_K D vwCl (tyL cT) s) (hwf : wfS sh) (hm : mex sh d rt pc ls st σ (.laload) len x1 x2 = some (.inl (pc', ls', st', σ'))) (hd : decode cc pc = .ok ((.laload), len)) (hC : Cf D cT φ sh σ A s nL arr ls H locs) (kk : Kn p l e R s mid args below meth c cells slots Q D cT φ sh A nL pc' ls' st' σ') : W p l e R s mid args below meth c H locs cells slots Q (F0 mid pc arr (st.map (eV φ))) := by
  simp only [mex] at hm
  split at hm
  · rename_i hl; subst hl
    unfold mald at hm
    split at hm
    · rename_i i a r
      split at hm
      · rename_i hc
        obtain ⟨hk, h0, h1⟩ := hc
        unfold mnx at hm; cases hm
        have hg := wE_get (cT := cT) (φ := φ) (σ := σ) (wf_lt hwf hk (by omega) (by omega))
        rw [cE_l hk] at hg
        exact va_lald hx hb hK hC.2.1 _ 3 hg rfl ((oI_in _ _).mpr ⟨h0, h1⟩) hd (kk arr H locs hC)
      · cases hm
    · cases hm
  · cases hm
theorem S_aaload (hx : p.tables.exec = Jvm.exec) (hb : c.code = cc) (hK : va_K D vwCl (tyL cT) s) (hwf : wfS sh) (hm : mex sh d rt pc ls st σ (.aaload) len x1 x2 = some (.inl (pc', ls', st', σ'))) (hd : decode cc pc = .ok ((.aaload), len)) (hC : Cf D cT φ sh σ A s nL arr ls H locs) (kk : Kn p l e R s mid args below meth c cells slots Q D cT φ sh A nL pc' ls' st' σ') : W p l e R s mid args below meth c H locs cells slots Q (F0 mid pc arr (st.map (eV φ))) := by
  simp only [mex] at hm
  split at hm
  · rename_i hl; subst hl
    unfold mald at hm
    split at hm
    · rename_i i a r
      split at hm
      · rename_i hc
        obtain ⟨hk, h0, h1⟩ := hc
        unfold mnx at hm; cases hm
        have hg := wE_get (cT := cT) (φ := φ) (σ := σ) (wf_lt hwf hk (by omega) (by omega))
        rw [cE_r hk] at hg
        have hi9 : (wi i).toNat < sln sh a := by omega
        exact W.aald (ty := .array .int) hx hb (hC.2.1 _ _ hg) ((hK.2 4 _ rfl).1 (sln sh a) (fun j => .ref (φ (srf sh a j)))) rfl (fun q => by cases q) (by
          show ¬ (_ ∨ (arrV _ _ _).slots.size ≤ _)
          rw [arrV_size]; exact (oI_in _ _).mpr ⟨h0, h1⟩) (by show (arrV _ _ _).slots[_]? = _; rw [oI_cl, arrV_read _ _ hi9]; rfl) rfl rfl hd (kk arr H locs hC)
      · cases hm
    · cases hm
  · cases hm
theorem S_arraylength (hx : p.tables.exec = Jvm.exec) (hb : c.code = cc) (hK : va_K D vwCl (tyL cT) s) (hwf : wfS sh) (hm : mex sh d rt pc ls st σ (.arraylength) len x1 x2 = some (.inl (pc', ls', st', σ'))) (hd : decode cc pc = .ok ((.arraylength), len)) (hC : Cf D cT φ sh σ A s nL arr ls H locs) (kk : Kn p l e R s mid args below meth c cells slots Q D cT φ sh A nL pc' ls' st' σ') : W p l e R s mid args below meth c H locs cells slots Q (F0 mid pc arr (st.map (eV φ))) := by
  simp only [mex] at hm
  split at hm
  · rename_i a r
    split at hm
    · rename_i hl
      obtain ⟨hl, hk⟩ := hl
      subst hl
      unfold mnx at hm; cases hm
      have e9 : Int32.ofNat (sln sh a) = Int32.ofInt (sln sh a : Int) := (oI_nat _).symm
      by_cases ha : a < sh.1
      · have hg := wE_get (cT := cT) (φ := φ) (σ := σ) ha
        rcases (show skd sh a = 0 ∨ skd sh a = 1 ∨ skd sh a = 2 ∨ skd sh a = 3 ∨ skd sh a = 4 by omega) with h | h | h | h | h
        · rw [cE_i h (by omega)] at hg
          exact va_alen hx hb hK hC.2.1 a 0 hg (ty := .int) rfl e9 hd (kk arr H locs hC)
        · rw [cE_i h (by omega)] at hg
          exact va_alen hx hb hK hC.2.1 a 1 hg (ty := .byte) rfl e9 hd (kk arr H locs hC)
        · rw [cE_i h (by omega)] at hg
          exact va_alen hx hb hK hC.2.1 a 2 hg (ty := .boolean) rfl e9 hd (kk arr H locs hC)
        · rw [cE_l h] at hg
          exact va_alen hx hb hK hC.2.1 a 3 hg (ty := .long) rfl e9 hd (kk arr H locs hC)
        · rw [cE_r h] at hg
          exact va_alen hx hb hK hC.2.1 a 4 hg (ty := .array .int) rfl e9 hd (kk arr H locs hC)
      · rcases hwf.2 a (by omega) with ⟨_, hge, hlt⟩ | h5
        · obtain ⟨g1, g2, g3⟩ := hC.2.2.2.2.1 (a - 1000000) (by omega)
          rw [show 1000000 + (a - 1000000) = a by omega] at g1 g2 g3
          obtain ⟨cell, q1, q2, q3, q4, q5, q6⟩ := g1.kept (hC.2.2.2.1.2.1 _ g3 g2)
          exact W.alen hx hb q1 q2 (q5.trans e9) rfl rfl hd (kk arr H locs hC)
        · omega
    · cases hm
  · cases hm
theorem S_iastore (hx : p.tables.exec = Jvm.exec) (hb : c.code = cc) (hK : va_K D vwCl (tyL cT) s) (hm : mex sh d rt pc ls st σ (.iastore) len x1 x2 = some (.inl (pc', ls', st', σ'))) (hd : decode cc pc = .ok ((.iastore), len)) (hC : Cf D cT φ sh σ A s nL arr ls H locs) (kk : Kn p l e R s mid args below meth c cells slots Q D cT φ sh A nL pc' ls' st' σ') : W p l e R s mid args below meth c H locs cells slots Q (F0 mid pc arr (st.map (eV φ))) := by
  simp only [mex] at hm
  split at hm
  · rename_i hl; subst hl
    unfold mast at hm
    split at hm
    · rename_i v i a r
      split at hm
      · rename_i hc
        obtain ⟨hk, ha, h0, h1⟩ := hc
        unfold mnx at hm; cases hm
        have hg := wE_get (cT := cT) (φ := φ) (σ := σ) ha
        rw [cE_i hk (by omega)] at hg
        refine va_iast hx hb hK hC.2.1 hC.2.2.1 hC.2.2.2.1 a 0 hg rfl ((oI_in _ _).mpr ⟨h0, h1⟩) hd (fun H1 locs1 hP hD hS => kk arr H1 locs1 (hC.sto ha (fun b hb => upA_ne hb) (fun _ _ => rfl) ?_ hP hD hS))
        rw [cE_i hk (by omega)]
        simp only [upA_eq]
        rw [ofI_up]
      · cases hm
    · cases hm
  · cases hm
theorem S_bastore (hx : p.tables.exec = Jvm.exec) (hb : c.code = cc) (hK : va_K D vwCl (tyL cT) s) (hm : mex sh d rt pc ls st σ (.bastore) len x1 x2 = some (.inl (pc', ls', st', σ'))) (hd : decode cc pc = .ok ((.bastore), len)) (hC : Cf D cT φ sh σ A s nL arr ls H locs) (kk : Kn p l e R s mid args below meth c cells slots Q D cT φ sh A nL pc' ls' st' σ') : W p l e R s mid args below meth c H locs cells slots Q (F0 mid pc arr (st.map (eV φ))) := by
  simp only [mex] at hm
  split at hm
  · split at hm
    · split at hm
      · rename_i hl
        obtain ⟨hl, hv⟩ := hl
        subst hl
        unfold mast at hm
        simp only at hm
        split at hm
        · rename_i hc
          obtain ⟨hk, ha, h0, h1⟩ := hc
          unfold mnx at hm; cases hm
          have hg := wE_get (cT := cT) (φ := φ) (σ := σ) ha
          rw [cE_i hk (by omega)] at hg
          refine va_zast hx hb hK hC.2.1 hC.2.2.1 hC.2.2.2.1 _ 2 hg rfl ((oI_in _ _).mpr ⟨h0, h1⟩) hd (fun H1 locs1 hP hD hS => kk arr H1 locs1 (hC.sto ha (fun b hb => upA_ne hb) (fun _ _ => rfl) ?_ hP hD hS))
          rw [cE_i hk (by omega)]
          simp only [upA_eq]
          rw [ofI_up]
          rcases hv with rfl | rfl <;> rfl
        · cases hm
      · cases hm
    · split at hm
      · rename_i hl; subst hl
        unfold mast at hm
        simp only at hm
        split at hm
        · rename_i hc
          obtain ⟨hk, ha, h0, h1⟩ := hc
          unfold mnx at hm; cases hm
          have hg := wE_get (cT := cT) (φ := φ) (σ := σ) ha
          rw [cE_i hk (by omega)] at hg
          refine va_bast hx hb hK hC.2.1 hC.2.2.1 hC.2.2.2.1 _ 1 hg rfl ((oI_in _ _).mpr ⟨h0, h1⟩) hd (fun H1 locs1 hP hD hS => kk arr H1 locs1 (hC.sto ha (fun b hb => upA_ne hb) (fun _ _ => rfl) ?_ hP hD hS))
          rw [cE_i hk (by omega)]
          simp only [upA_eq]
          rw [ofI_up, vp_nar_byte]
          rw [show Int32.ofInt (xi2b _) = _ from Int32.ofInt_int8ToInt _]
        · cases hm
      · cases hm
  · cases hm
theorem S_lastore (hx : p.tables.exec = Jvm.exec) (hb : c.code = cc) (hK : va_K D vwCl (tyL cT) s) (hm : mex sh d rt pc ls st σ (.lastore) len x1 x2 = some (.inl (pc', ls', st', σ'))) (hd : decode cc pc = .ok ((.lastore), len)) (hC : Cf D cT φ sh σ A s nL arr ls H locs) (kk : Kn p l e R s mid args below meth c cells slots Q D cT φ sh A nL pc' ls' st' σ') : W p l e R s mid args below meth c H locs cells slots Q (F0 mid pc arr (st.map (eV φ))) := by
  simp only [mex] at hm
  split at hm
  · rename_i v i a r
    split at hm
    · rename_i hc
      obtain ⟨hl, hk, ha, h0, h1⟩ := hc
      subst hl
      unfold mnx at hm; cases hm
      have hg := wE_get (cT := cT) (φ := φ) (σ := σ) ha
      rw [cE_l hk] at hg
      refine va_last hx hb hK hC.2.1 hC.2.2.1 hC.2.2.2.1 a 3 hg rfl ((oI_in _ _).mpr ⟨h0, h1⟩) hd (fun H1 locs1 hP hD hS => kk arr H1 locs1 (hC.sto ha (fun _ _ => rfl) (fun b hb => upA_ne hb) ?_ hP hD hS))
      rw [cE_l hk]
      simp only [upA_eq]
      congr 6
      funext j
      by_cases h : j = (wi i).toNat
      · rw [up1, if_pos h, vp_updL, if_pos (by rw [h]; rfl)]
      · rw [up1, if_neg h, vp_updL, if_neg (fun z => h (by rw [z]; rfl))]
    · cases hm
  · cases hm
theorem S_getfield {i own : Nat} (hx : p.tables.exec = Jvm.exec) (hb : c.code = cc) (hK : va_K D vwCl (tyL cT) s) (hts : ∀ w ∈ WS, w.before args s = true) (hown : s.vm.findClass (cnm own) = some mid.cls) (hF : FOK (own, i, x1, x2)) (hm : mex sh d rt pc ls st σ (.getfield i) len x1 x2 = some (.inl (pc', ls', st', σ'))) (hd : decode cc pc = .ok ((.getfield i), len)) (hC : Cf D cT φ sh σ A s nL arr ls H locs) (kk : Kn p l e R s mid args below meth c cells slots Q D cT φ sh A nL pc' ls' st' σ') : W p l e R s mid args below meth c H locs cells slots Q (F0 mid pc arr (st.map (eV φ))) := by
  simp only [mex] at hm
  split at hm
  · rename_i a r
    split at hm
    · rename_i hc
      obtain ⟨hl, hk, hn, ha⟩ := hc
      subst hl
      unfold mnx at hm; cases hm
      obtain ⟨C, T, N, ty, g1, g2, g3, g4, g5, g6, g7⟩ := hF
      have hg := wE_get (cT := cT) (φ := φ) (σ := σ) ha
      rw [cE_o hk] at hg
      refine va_get hx hb hts g4 hown hK hC.2.1 a hg g1 x2 g2 (hts _ g3) (fun _ h => h) (v := eV φ (bif frf x1 x2 then mR (srf sh a x2) else mI (σ.1 a x2))) ?_ hd (kk arr H locs hC)
      rw [List.getElem?_map, List.getElem?_range hn]
      show Option.map _ (some x2) = _
      cases hq : frf x1 x2 <;> simp [hq, eV]
    · cases hm
  · cases hm
theorem S_putfield {i own : Nat} (hx : p.tables.exec = Jvm.exec) (hb : c.code = cc) (hK : va_K D vwCl (tyL cT) s) (hts : ∀ w ∈ WS, w.before args s = true) (hown : s.vm.findClass (cnm own) = some mid.cls) (hF : FOK (own, i, x1, x2)) (hm : mex sh d rt pc ls st σ (.putfield i) len x1 x2 = some (.inl (pc', ls', st', σ'))) (hd : decode cc pc = .ok ((.putfield i), len)) (hC : Cf D cT φ sh σ A s nL arr ls H locs) (kk : Kn p l e R s mid args below meth c cells slots Q D cT φ sh A nL pc' ls' st' σ') : W p l e R s mid args below meth c H locs cells slots Q (F0 mid pc arr (st.map (eV φ))) := by
  simp only [mex] at hm
  split at hm
  · rename_i v a r
    split at hm
    · rename_i hc
      obtain ⟨hl, hk, hn, ha, hfr, hbl⟩ := hc
      subst hl
      unfold mnx at hm; cases hm
      obtain ⟨C, T, N, ty, g1, g2, g3, g4, g5, g6, g7⟩ := hF
      obtain ⟨f1, f2⟩ := g7 hfr
      have hg := wE_get (cT := cT) (φ := φ) (σ := σ) ha
      rw [cE_o hk] at hg
      have hnar : narrow (ty x2) (.int (Int32.ofInt v)) = .int (Int32.ofInt v) ∧ fits (ty x2) (.int (Int32.ofInt v)) = true := by
        rw [show ty x2 = _ from f2]
        cases hq : fbl x1 x2 with
        | false => exact ⟨vp_nar_int _, rfl⟩
        | true => rcases hbl hq with rfl | rfl <;> exact ⟨rfl, rfl⟩
      refine va_put hx hb hts g4 ty g5 g6 hown hK hC.2.1 hC.2.2.1 hC.2.2.2.1 a hg g1 x2 g2 (hts _ g3) (fun _ h => h) f1 (g5 x2 g2) hnar.1 hnar.2 (by simpa using hn) hd (fun H1 locs1 hP hD hS => kk arr H1 locs1 (hC.sto ha (fun b hb => upA_ne hb) (fun _ _ => rfl) ?_ hP hD hS))
      rw [cE_o hk]
      refine congrArg (fun z => Sum.inr (x1, z)) (List.ext_getElem? fun j => ?_)
      by_cases hj : j < sln sh a
      · rw [List.getElem?_map, List.getElem?_range hj]
        by_cases hjx : j = x2
        · subst hjx
          rw [List.getElem?_set_self (by simpa using hj)]
          simp [upA_eq, up1, hfr, eV]
        · rw [List.getElem?_set_ne (Ne.symm hjx), List.getElem?_map, List.getElem?_range hj]
          simp [upA_eq, up1, hjx]
      · rw [List.getElem?_eq_none (by simpa using hj), List.getElem?_eq_none (by simpa using hj)]
    · cases hm
  · cases hm
end SNM
