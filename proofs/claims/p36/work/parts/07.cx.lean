/-! ===== String.indexOf over the six letters: the words (printed by genix.py) ===== -/
theorem ixk_ix1 : Cond.code yJ0_indexOf_0f7a4 cJ0_indexOf_0f7a4 2 (some .int) ∈ WS := (wt3 140 (by decide +kernel) (by decide +kernel))
theorem ixi_ix1 : Cond.instanceMethod yJ0_indexOf_0f7a4 ∈ WS ∧ Cond.selects RJ0 yJ0_indexOf_0f7a4 yJ0_indexOf_0f7a4 ∈ WS := ⟨(wt3 138 (by decide +kernel) (by decide +kernel)), (wt3 139 (by decide +kernel) (by decide +kernel))⟩
theorem ixk_ix2 : Cond.code yJ0_indexOf_7cf53 cJ0_indexOf_7cf53 3 (some .int) ∈ WS := (wt3 144 (by decide +kernel) (by decide +kernel))
theorem ixi_ix2 : Cond.instanceMethod yJ0_indexOf_7cf53 ∈ WS ∧ Cond.selects RJ0 yJ0_indexOf_7cf53 yJ0_indexOf_7cf53 ∈ WS := ⟨(wt3 142 (by decide +kernel) (by decide +kernel)), (wt3 143 (by decide +kernel) (by decide +kernel))⟩
theorem ixk_isl : Cond.code yJ0_isLatin1_aae02 cJ0_isLatin1_aae02 1 (some .boolean) ∈ WS := (wt3 148 (by decide +kernel) (by decide +kernel))
theorem ixi_isl : Cond.instanceMethod yJ0_isLatin1_aae02 ∈ WS ∧ Cond.selects RJ0 yJ0_isLatin1_aae02 yJ0_isLatin1_aae02 ∈ WS := ⟨(wt3 146 (by decide +kernel) (by decide +kernel)), (wt3 147 (by decide +kernel) (by decide +kernel))⟩
theorem ixk_len : Cond.code yJ0_length_8abf5 cJ0_length_8abf5 1 (some .int) ∈ WS := (wt3 154 (by decide +kernel) (by decide +kernel))
theorem ixi_len : Cond.instanceMethod yJ0_length_8abf5 ∈ WS ∧ Cond.selects RJ0 yJ0_length_8abf5 yJ0_length_8abf5 ∈ WS := ⟨(wt3 152 (by decide +kernel) (by decide +kernel)), (wt3 153 (by decide +kernel) (by decide +kernel))⟩
theorem ixk_cod : Cond.code yJ0_coder_7d493 cJ0_coder_7d493 1 (some .byte) ∈ WS := (wt3 158 (by decide +kernel) (by decide +kernel))
theorem ixi_cod : Cond.instanceMethod yJ0_coder_7d493 ∈ WS ∧ Cond.selects RJ0 yJ0_coder_7d493 yJ0_coder_7d493 ∈ WS := ⟨(wt3 156 (by decide +kernel) (by decide +kernel)), (wt3 157 (by decide +kernel) (by decide +kernel))⟩
theorem ixk_ix4 : Cond.code yJ1_indexOf_4cfef cJ1_indexOf_4cfef 4 (some .int) ∈ WS := (wt3 161 (by decide +kernel) (by decide +kernel))
theorem ixi_ix4 : Cond.static yJ1_indexOf_4cfef ∈ WS := (wt3 160 (by decide +kernel) (by decide +kernel))
theorem ixk_can : Cond.code yJ1_canEncode_9a6ad cJ1_canEncode_9a6ad 1 (some .boolean) ∈ WS := (wt3 164 (by decide +kernel) (by decide +kernel))
theorem ixi_can : Cond.static yJ1_canEncode_9a6ad ∈ WS := (wt3 163 (by decide +kernel) (by decide +kernel))
theorem ixk_ixc : Cond.code yJ1_indexOfChar_4cfef cJ1_indexOfChar_4cfef 6 (some .int) ∈ WS := (wt3 169 (by decide +kernel) (by decide +kernel))
theorem ixi_ixc : Cond.static yJ1_indexOfChar_4cfef ∈ WS := (wt3 168 (by decide +kernel) (by decide +kernel))
theorem ixn : Cond.initialized RJ0 ∈ WS ∧ Cond.initialized RJ1 ∈ WS := ⟨(wt1 14 (by decide +kernel) (by decide +kernel)), (wt1 15 (by decide +kernel) (by decide +kernel))⟩
theorem ixl_ix1 : Cond.methodLink RX9 49 yJ0_indexOf_0f7a4 ∈ WS := (wt3 137 (by decide +kernel) (by decide +kernel))
theorem ixl_ix2 : Cond.methodLink RJ0 633 yJ0_indexOf_7cf53 ∈ WS := (wt3 141 (by decide +kernel) (by decide +kernel))
theorem ixl_isl : Cond.methodLink RJ0 492 yJ0_isLatin1_aae02 ∈ WS := (wt3 145 (by decide +kernel) (by decide +kernel))
theorem ixl_len : Cond.methodLink RJ0 505 yJ0_length_8abf5 ∈ WS := (wt3 151 (by decide +kernel) (by decide +kernel))
theorem ixl_cod : Cond.methodLink RJ0 335 yJ0_coder_7d493 ∈ WS := (wt3 155 (by decide +kernel) (by decide +kernel))
theorem ixl_ix4 : Cond.methodLink RJ0 637 yJ1_indexOf_4cfef ∈ WS := (wt3 159 (by decide +kernel) (by decide +kernel))
theorem ixl_can : Cond.methodLink RJ1 88 yJ1_canEncode_9a6ad ∈ WS := (wt3 162 (by decide +kernel) (by decide +kernel))
theorem ixl_ixc : Cond.methodLink RJ1 95 yJ1_indexOfChar_4cfef ∈ WS := (wt3 167 (by decide +kernel) (by decide +kernel))
theorem ixl_mx : Cond.methodLink RJ1 92 Lib.Math.max.name ∈ WS ∧ Cond.methodLink RJ1 38 Lib.Math.min.name ∈ WS := ⟨(wt3 165 (by decide +kernel) (by decide +kernel)), (wt3 166 (by decide +kernel) (by decide +kernel))⟩
theorem ixf : Cond.fieldLink RJ0 38 RJ0 "COMPACT_STRINGS" "Z" ∈ WS ∧ Cond.fieldLink RJ0 15 RJ0 "coder" "B" ∈ WS ∧ Cond.fieldLink RJ0 9 RJ0 "value" "[B" ∈ WS := ⟨(wt3 149 (by decide +kernel) (by decide +kernel)), (wt4 61 (by decide +kernel) (by decide +kernel)), (wt4 62 (by decide +kernel) (by decide +kernel))⟩
def ixB (j : Nat) : Int32 := ([114, 104, 120, 99, 100, 119] : List Int32).getD j 0
def ixD (a v : Nat) (A : Nat → Prop) (U : State) (H : Heap) : Prop := va_O RJ0 a A U H ∧ va_OF RJ0 "coder" "B" (.int 0) a A U H ∧ va_OF RJ0 "value" "[B" (.ref v) a A U H ∧ va_T .byte v 6 (fun j => .int (ixB j)) A U H ∧ va_Z RJ0 "COMPACT_STRINGS" "Z" (.int 1) A U H
theorem ixD.call {a v : Nat} {A B : Nat → Prop} {s U : State} {H : Heap} {locs : List Loc} (h : ixD a v A s s.heap) (hS : va_S A s.heap H locs) (hAB : ∀ q, B q → A q) (hW : s.WarmedH U.vm) : ixD a v B U H := by
  obtain ⟨h1, h2, h3, h4, h5⟩ := h
  exact ⟨((h1.kept hS.2.1).narrow hAB).moved hW.alike, ((h2.kept hS.2.1).narrow hAB).moved hW.alike, ((h3.kept hS.2.1).narrow hAB).moved hW.alike, ((h4.kept hS.2.1).narrow hAB).moved hW.alike, ((h5.kept hS.2.1).narrow hAB).moved hW.alike⟩
theorem ixD.blind {a v : Nat} {A : Nat → Prop} {U U' : State} {H : Heap} (hv : U.vm = U'.vm) (h : ixD a v A U H) : ixD a v A U' H := by
  have hm : U.vm.Alike U'.vm := by rw [hv]; exact Vm.Alike.refl _
  obtain ⟨h1, h2, h3, h4, h5⟩ := h
  exact ⟨h1.moved hm, h2.moved hm, h3.moved hm, h4.moved hm, h5.moved hm⟩
abbrev ixA (H0 : Heap) : Nat → Prop := fun q => H0.size ≤ q
def ixPc (av : List Value) (a v : Nat) (H0 : Heap) : Array Value → State → Prop := va_Pc av (fun U => U.heap = H0 ∧ ixD a v (ixA H0) U U.heap)
def ixQ (r : Int32) (H0 : Heap) : Array Value → State → Outcome → State → Prop := va_Qi (fun x (_ : Unit) => x = r) (fun _ t => t.heap = H0) (ixA H0)
abbrev ixRm (d : Nat) : Room := { frames := d, cells := 0, slots := 0, locals := 40 * d }
def ixMet (l : Launch) (y : MethodName) (cc : ByteArray) (maxL : Nat) (ret : FieldType) (d : Nat) (av : List Value) (a v : Nat) (r : Int32) : Prop := ∀ H0 : Heap, Met l y (Cond.code y cc maxL (some ret) :: WS) (ixRm d) (ixPc av a v H0) (ixQ r H0) 0 0 (ixA H0)
theorem ixPc_blind {av : List Value} {a v : Nat} {H0 : Heap} : FrameBlind (ixPc av a v H0) := by
  intro x U g mk h
  obtain ⟨h0, h1, h2⟩ := h
  exact ⟨h0, h1, ixD.blind (U := U) (U' := U.calling g mk x) rfl h2⟩
theorem ix_good {y : MethodName} {cc : ByteArray} {maxL : Nat} {ret : Option FieldType} (h : Cond.code y cc maxL ret ∈ WS) : GoodIn WS (Cond.code y cc maxL ret :: WS) := by
  intro w hw
  rcases List.mem_cons.mp hw with rfl | h1
  · exact ⟨h, good_of_word (WS_good _ h)⟩
  · exact ⟨h1, good_of_word (WS_good _ h1)⟩
section IX
variable {p : Program} {l : Launch} {e : Env} {R : Room} {s : State} {m : MethodId} {args : Array Value} {below : List Frame} {meth : Method} {c : Code} {H : Heap} {locs : List Loc} {cells slots : Nat} {Q : State → Prop}
variable {A : Nat → Prop} {arr : Array Slot} {cc bytes : ByteArray} {d pc nL maxL index a v n : Nat} {ret : FieldType} {y : MethodName} {own : String} {r : Int32} {rest As : List Value}
theorem ix_go {st0 : List Value} {a0 : Array Value} (hr : va_Run p l e R s m args below meth c H locs cells slots 0 0 (F0 m pc arr st0) rest (ixQ r H a0) (ixA H)) (hS : va_S A s.heap H locs) (hA : ∀ q, s.heap.size ≤ q → A q)
    (kk : ∀ locs1, va_S A s.heap H locs1 → W p l e R s m args below meth c H locs1 cells slots Q (F0 m (pc + 3) arr (.int r :: rest))) : W p l e R s m args below meth c H locs cells slots Q (F0 m pc arr st0) := by
  have hF : ∀ q, ixA H q → A q := fun q h => hA q (Nat.le_trans hS.1 h)
  refine va_calli hr hS (fun q _ h => hF q h) hF (fun x u t H1 locs1 ht hvm hx hB hz hk hS1 => ?_)
  rw [ht] at hB
  subst hx
  subst hB
  exact kk locs1 hS1
/-- a method of the text itself -/
theorem ix_v (hx : p.tables.exec = Jvm.exec) (hb : c.code = cc) (hml : c.maxLocals = nL) (hown : s.vm.findClass own = some m.cls) (hts : ∀ w ∈ WS, w.before args s = true) (hM : ixMet l y bytes maxL ret d (.ref a :: As) a v r) (hc : Cond.code y bytes maxL (some ret) ∈ WS) (hi : Cond.instanceMethod y ∈ WS ∧ Cond.selects RJ0 y y ∈ WS) (hini : Cond.initialized y.cls ∈ WS) (hl : Cond.methodLink own index y ∈ WS)
    (hn : y.cls ≠ "java/lang/invoke/MethodHandle" ∧ y.cls ≠ "java/lang/invoke/VarHandle" ∧ (parseMethodDescriptor y.desc).map (fun d => d.parameters.length) = some n) (hln : As.length = n) (hE : ixD a v A s s.heap) (hS : va_S A s.heap H locs) (hA : ∀ q, s.heap.size ≤ q → A q) (harr : arr.size = nL) (hrest : (rest.map fun v => v.category).sum ≤ 8) (hd : decode cc pc = .ok (.invokevirtual index, 3)) (hf : d + 1 ≤ R.frames) (hlo : 40 * (d + 1) ≤ R.locals) (hm : maxL ≤ 21) (hc1 : cells ≤ R.cells) (hc2 : slots ≤ R.slots)
    (kk : ∀ locs1, va_S A s.heap H locs1 → W p l e R s m args below meth c H locs1 cells slots Q (F0 m (pc + 3) arr (.int r :: rest))) : W p l e R s m args below meth c H locs cells slots Q (F0 m pc arr (As.reverse ++ .ref a :: rest)) := by
  have hF : ∀ q, ixA H q → A q := fun q h => hA q (Nat.le_trans hS.1 h)
  obtain ⟨cell, g1, g2, g3, g4⟩ := hE.1.kept hS.2.1
  refine ix_go (va_runV (bytes := bytes) (maxL := maxL) (ret := some ret) (C := RJ0) (own := own) (Ts := WS) (n := n) (As := As) ⟨hx, hb, hml, hown, hts⟩ (hM H) ⟨callB_of n hts (ix_good hc) rfl rfl rfl (hts _ hini) (hts _ hl) hn ⟨hf, by show 8 + (maxL + 11) + 40 * d ≤ R.locals; omega⟩, hts _ hi.1, hts _ hi.2⟩ ⟨ixPc_blind, ⟨cell, g1, g2, g3⟩, fun U hU hW => ⟨rfl, hU, by rw [hU]; exact ixD.call hE hS hF hW⟩⟩ rfl hln harr rfl (lv_room hrest) hd ⟨hc1, hc2⟩) hS hA kk
/-- a static method -/
theorem ix_s (hx : p.tables.exec = Jvm.exec) (hb : c.code = cc) (hml : c.maxLocals = nL) (hown : s.vm.findClass own = some m.cls) (hts : ∀ w ∈ WS, w.before args s = true) (hM : ixMet l y bytes maxL ret d As a v r) (hc : Cond.code y bytes maxL (some ret) ∈ WS) (hi : Cond.static y ∈ WS) (hini : Cond.initialized y.cls ∈ WS) (hl : Cond.methodLink own index y ∈ WS)
    (hn : y.cls ≠ "java/lang/invoke/MethodHandle" ∧ y.cls ≠ "java/lang/invoke/VarHandle" ∧ (parseMethodDescriptor y.desc).map (fun d => d.parameters.length) = some n) (hln : As.length = n) (hE : ixD a v A s s.heap) (hS : va_S A s.heap H locs) (hA : ∀ q, s.heap.size ≤ q → A q) (harr : arr.size = nL) (hrest : (rest.map fun v => v.category).sum ≤ 8) (hd : decode cc pc = .ok (.invokestatic index, 3)) (hf : d + 1 ≤ R.frames) (hlo : 40 * (d + 1) ≤ R.locals) (hm : maxL ≤ 21) (hc1 : cells ≤ R.cells) (hc2 : slots ≤ R.slots)
    (kk : ∀ locs1, va_S A s.heap H locs1 → W p l e R s m args below meth c H locs1 cells slots Q (F0 m (pc + 3) arr (.int r :: rest))) : W p l e R s m args below meth c H locs cells slots Q (F0 m pc arr (As.reverse ++ rest)) := by
  have hF : ∀ q, ixA H q → A q := fun q h => hA q (Nat.le_trans hS.1 h)
  refine ix_go (va_runS (bytes := bytes) (maxL := maxL) (ret := some ret) (own := own) (Ts := WS) (n := n) (As := As) ⟨hx, hb, hml, hown, hts⟩ (hM H) ⟨callB_of n hts (ix_good hc) rfl rfl rfl (hts _ hini) (hts _ hl) hn ⟨hf, by show 8 + (maxL + 11) + 40 * d ≤ R.locals; omega⟩, hts _ hi⟩ ⟨ixPc_blind, fun U hU hW => ⟨rfl, hU, by rw [hU]; exact ixD.call hE hS hF hW⟩⟩ rfl hln harr rfl (lv_room hrest) hd ⟨hc1, hc2⟩) hS hA kk
end IX
theorem ix_cod (l : Launch) (d a v : Nat) : ixMet l yJ0_coder_7d493 cJ0_coder_7d493 1 .byte d [.ref a] a v 0 := by
  intro H0
  refine Met.ofW (cc := cJ0_coder_7d493) (maxL := 1) (ret := some .byte) (by decide) rfl ?_
  intro p e s m args below meth c s₁ B hml hv
  obtain ⟨rfl, hH, hE⟩ := hv
  subst hH
  have hx := B.exec
  have hb := B.bytes
  have hr := B.returns
  have hts0 := atoms_spec (ws := Cond.code yJ0_coder_7d493 cJ0_coder_7d493 1 (some .byte) :: WS) B.pre
  have hts : ∀ w ∈ WS, w.before #[Value.ref a] s = true := fun w hw => hts0 w (List.mem_cons_of_mem _ hw)
  have hown : s.vm.findClass RJ0 = some m.cls := findClass_of_methodNamed B.named
  have hlocks := B.notSynchronized
  have hS : va_S (ixA s.heap) s.heap s.heap [] := va_S.rf
  have hl := lv_entry ([.ref a]) (n := 1) (Nat.le_of_ble_eq_true rfl)
  rw [lg_entry_eq]
  generalize (lg_sl ([.ref a]) ++ List.replicate (1 - (lg_sl ([.ref a])).length) Slot.unset).toArray = ls at hl ⊢
  have hl : lv_has ls 1 [(0, .ref a)] := hl
  refine va_gets hx hb hE.2.2.2.2 hS hown (hts _ ixf.1) (fun _ h => h) (show decode cJ0_coder_7d493 0 = .ok (.getstatic 38, 3) by decide +kernel) ?_
  refine lv_if_eq (tgt := 13) hx hb (show decode cJ0_coder_7d493 3 = .ok (.ifCond .eq 10, 3) by decide +kernel) (by decide) (fun h => absurd h (by decide)) (fun _ => ?_)
  refine lv_aload_n hx hb (show decode cJ0_coder_7d493 6 = .ok (.aload_n 0, 1) by decide +kernel) rfl (lv_at hl 0 rfl) ?_
  refine vk_getf hx hb hE.2.1 hS hown (hts _ ixf.2.1) (fun _ h => h) (show decode cJ0_coder_7d493 7 = .ok (.getfield 15, 3) by decide +kernel) ?_
  refine lv_goto (tgt := 14) hx hb (show decode cJ0_coder_7d493 10 = .ok (.goto 4, 3) by decide +kernel) (by decide) ?_
  exact W.zret hx hb hr rfl (fun t ht hW => ⟨⟨0, (), rfl, rfl, ht⟩, hS.F ht⟩) hS.2.2 (show decode cJ0_coder_7d493 14 = .ok (.ireturn, 1) by decide +kernel)
theorem ix_isl (l : Launch) (d a v : Nat) : ixMet l yJ0_isLatin1_aae02 cJ0_isLatin1_aae02 1 .boolean d [.ref a] a v 1 := by
  intro H0
  refine Met.ofW (cc := cJ0_isLatin1_aae02) (maxL := 1) (ret := some .boolean) (by decide) rfl ?_
  intro p e s m args below meth c s₁ B hml hv
  obtain ⟨rfl, hH, hE⟩ := hv
  subst hH
  have hx := B.exec
  have hb := B.bytes
  have hr := B.returns
  have hts0 := atoms_spec (ws := Cond.code yJ0_isLatin1_aae02 cJ0_isLatin1_aae02 1 (some .boolean) :: WS) B.pre
  have hts : ∀ w ∈ WS, w.before #[Value.ref a] s = true := fun w hw => hts0 w (List.mem_cons_of_mem _ hw)
  have hown : s.vm.findClass RJ0 = some m.cls := findClass_of_methodNamed B.named
  have hlocks := B.notSynchronized
  have hS : va_S (ixA s.heap) s.heap s.heap [] := va_S.rf
  have hl := lv_entry ([.ref a]) (n := 1) (Nat.le_of_ble_eq_true rfl)
  rw [lg_entry_eq]
  generalize (lg_sl ([.ref a]) ++ List.replicate (1 - (lg_sl ([.ref a])).length) Slot.unset).toArray = ls at hl ⊢
  have hl : lv_has ls 1 [(0, .ref a)] := hl
  refine va_gets hx hb hE.2.2.2.2 hS hown (hts _ ixf.1) (fun _ h => h) (show decode cJ0_isLatin1_aae02 0 = .ok (.getstatic 38, 3) by decide +kernel) ?_
  refine lv_if_eq (tgt := 17) hx hb (show decode cJ0_isLatin1_aae02 3 = .ok (.ifCond .eq 14, 3) by decide +kernel) (by decide) (fun h => absurd h (by decide)) (fun _ => ?_)
  refine lv_aload_n hx hb (show decode cJ0_isLatin1_aae02 6 = .ok (.aload_n 0, 1) by decide +kernel) rfl (lv_at hl 0 rfl) ?_
  refine vk_getf hx hb hE.2.1 hS hown (hts _ ixf.2.1) (fun _ h => h) (show decode cJ0_isLatin1_aae02 7 = .ok (.getfield 15, 3) by decide +kernel) ?_
  refine lv_if_ne (tgt := 17) hx hb (show decode cJ0_isLatin1_aae02 10 = .ok (.ifCond .ne 7, 3) by decide +kernel) (by decide) (fun h => absurd rfl h) (fun _ => ?_)
  refine lv_iconst (v := 1) hx hb (show decode cJ0_isLatin1_aae02 13 = .ok (.iconst 1, 1) by decide +kernel) (by decide) ?_
  refine lv_goto (tgt := 18) hx hb (show decode cJ0_isLatin1_aae02 14 = .ok (.goto 4, 3) by decide +kernel) (by decide) ?_
  exact W.zret hx hb hr rfl (fun t ht hW => ⟨⟨1, (), rfl, rfl, ht⟩, hS.F ht⟩) hS.2.2 (show decode cJ0_isLatin1_aae02 18 = .ok (.ireturn, 1) by decide +kernel)
theorem ix_len (l : Launch) (d a v : Nat) : ixMet l yJ0_length_8abf5 cJ0_length_8abf5 1 .int (d + 1) [.ref a] a v 6 := by
  intro H0
  refine Met.ofW (cc := cJ0_length_8abf5) (maxL := 1) (ret := some .int) (by decide) rfl ?_
  intro p e s m args below meth c s₁ B hml hv
  obtain ⟨rfl, hH, hE⟩ := hv
  subst hH
  have hx := B.exec
  have hb := B.bytes
  have hr := B.returns
  have hts0 := atoms_spec (ws := Cond.code yJ0_length_8abf5 cJ0_length_8abf5 1 (some .int) :: WS) B.pre
  have hts : ∀ w ∈ WS, w.before #[Value.ref a] s = true := fun w hw => hts0 w (List.mem_cons_of_mem _ hw)
  have hown : s.vm.findClass RJ0 = some m.cls := findClass_of_methodNamed B.named
  have hlocks := B.notSynchronized
  have hS : va_S (ixA s.heap) s.heap s.heap [] := va_S.rf
  have hl := lv_entry ([.ref a]) (n := 1) (Nat.le_of_ble_eq_true rfl)
  rw [lg_entry_eq]
  generalize (lg_sl ([.ref a]) ++ List.replicate (1 - (lg_sl ([.ref a])).length) Slot.unset).toArray = ls at hl ⊢
  have hl : lv_has ls 1 [(0, .ref a)] := hl
  refine lv_aload_n hx hb (show decode cJ0_length_8abf5 0 = .ok (.aload_n 0, 1) by decide +kernel) rfl (lv_at hl 0 rfl) ?_
  refine vk_getf hx hb hE.2.2.1 hS hown (hts _ ixf.2.2) (fun _ h => h) (show decode cJ0_length_8abf5 1 = .ok (.getfield 9, 3) by decide +kernel) ?_
  refine va_tlen (v := 6) hx hb hE.2.2.2.1 hS (by decide) (show decode cJ0_length_8abf5 4 = .ok (.arraylength, 1) by decide +kernel) ?_
  refine lv_aload_n hx hb (show decode cJ0_length_8abf5 5 = .ok (.aload_n 0, 1) by decide +kernel) rfl (lv_at hl 0 rfl) ?_
  refine ix_v (As := []) (n := 0) (rest := [.int 6]) hx hb hml hown hts (ix_cod l d a v) ixk_cod ixi_cod ixn.1 ixl_cod (by decide +kernel) rfl hE hS (fun _ h => h) hl.1 (by decide) (show decode cJ0_length_8abf5 6 = .ok (.invokevirtual 335, 3) by decide +kernel) (Nat.le_refl _) (Nat.le_refl _) (by decide) (Nat.zero_le _) (Nat.zero_le _) (fun locs1 hS => ?_)
  refine lv_ishr hx hb (show decode cJ0_length_8abf5 9 = .ok (.ishr, 1) by decide +kernel) ?_
  exact W.iret (v := 6) hx hb hr (fun t ht hW => ⟨⟨6, (), rfl, rfl, ht⟩, hS.F ht⟩) hS.2.2 (show decode cJ0_length_8abf5 10 = .ok (.ireturn, 1) by decide +kernel)
def ixN (z : Int32) : Int32 := if z < 0 then 0 else if 255 < z then 0 else 1
theorem ix_can (l : Launch) (d a v : Nat) (z : Int32) : ixMet l yJ1_canEncode_9a6ad cJ1_canEncode_9a6ad 1 .boolean d [.int z] a v (ixN z) := by
  intro H0
  refine Met.ofW (cc := cJ1_canEncode_9a6ad) (maxL := 1) (ret := some .boolean) (by decide) rfl ?_
  intro p e s m args below meth c s₁ B hml hv
  obtain ⟨rfl, hH, hE⟩ := hv
  subst hH
  have hx := B.exec
  have hb := B.bytes
  have hr := B.returns
  have hlocks := B.notSynchronized
  have hS : va_S (ixA s.heap) s.heap s.heap [] := va_S.rf
  have hl := lv_entry ([.int z]) (n := 1) (Nat.le_of_ble_eq_true rfl)
  rw [lg_entry_eq]
  generalize (lg_sl ([.int z]) ++ List.replicate (1 - (lg_sl ([.int z])).length) Slot.unset).toArray = ls at hl ⊢
  have hl : lv_has ls 1 [(0, .int z)] := hl
  have f0 : ∀ {t0 : Int32} (_ : t0 = ixN z) (_ : narrow .boolean (.int t0) = .int t0), W p l e (ixRm d) s m #[Value.int z] below meth c s.heap [] 0 0 (MQ below (ixQ (ixN z) s.heap) #[Value.int z] s 0 0 (ixA s.heap)) (F0 m 16 ls [.int t0]) := by
    intro t0 h1 h2
    exact W.zret hx hb hr h2 (fun t ht hW => ⟨⟨t0, (), rfl, h1, ht⟩, hS.F ht⟩) hS.2.2 (show decode cJ1_canEncode_9a6ad 16 = .ok (.ireturn, 1) by decide +kernel)
  have fZ : ixN z = 0 → W p l e (ixRm d) s m #[Value.int z] below meth c s.heap [] 0 0 (MQ below (ixQ (ixN z) s.heap) #[Value.int z] s 0 0 (ixA s.heap)) (F0 m 15 ls []) := by
    intro h
    refine lv_iconst (v := 0) hx hb (show decode cJ1_canEncode_9a6ad 15 = .ok (.iconst 0, 1) by decide +kernel) (by decide) ?_
    exact f0 h.symm rfl
  refine lv_iload_n hx hb (show decode cJ1_canEncode_9a6ad 0 = .ok (.iload_n 0, 1) by decide +kernel) rfl (lv_at hl 0 rfl) ?_
  refine lv_if_lt (tgt := 15) hx hb (show decode cJ1_canEncode_9a6ad 1 = .ok (.ifCond .lt 14, 3) by decide +kernel) (by decide) (fun h => fZ (if_pos h)) (fun h => ?_)
  refine lv_iload_n hx hb (show decode cJ1_canEncode_9a6ad 4 = .ok (.iload_n 0, 1) by decide +kernel) rfl (lv_at hl 0 rfl) ?_
  refine lv_sipush (v := 255) hx hb (show decode cJ1_canEncode_9a6ad 5 = .ok (.sipush 255, 3) by decide +kernel) (by decide) ?_
  refine lv_icmp_gt (tgt := 15) hx hb (show decode cJ1_canEncode_9a6ad 8 = .ok (.if_icmp .gt 7, 3) by decide +kernel) (by decide) (fun h2 => fZ (by unfold ixN; rw [if_neg h, if_pos h2])) (fun h2 => ?_)
  refine lv_iconst (v := 1) hx hb (show decode cJ1_canEncode_9a6ad 11 = .ok (.iconst 1, 1) by decide +kernel) (by decide) ?_
  refine lv_goto (tgt := 16) hx hb (show decode cJ1_canEncode_9a6ad 12 = .ok (.goto 4, 3) by decide +kernel) (by decide) ?_
  exact f0 (by unfold ixN; rw [if_neg h, if_neg h2]) rfl
def ixF (c : Int32) : Nat → Nat → Int32
  | 0, _ => -1
  | k + 1, i => if ixB i = c then nI i else ixF c k (i + 1)
theorem ix_ixc (l : Launch) (d a v : Nat) (z : Int32) : ixMet l yJ1_indexOfChar_4cfef cJ1_indexOfChar_4cfef 6 .int d [.ref v, .int z, .int 0, .int 6] a v (ixF z.toInt8.toInt32 6 0) := by
  intro H0
  refine Met.ofW (cc := cJ1_indexOfChar_4cfef) (maxL := 6) (ret := some .int) (by decide) rfl ?_
  intro p e s m args below meth c s₁ B hml hv
  obtain ⟨rfl, hH, hE⟩ := hv
  subst hH
  have hx := B.exec
  have hb := B.bytes
  have hr := B.returns
  have hlocks := B.notSynchronized
  have hS : va_S (ixA s.heap) s.heap s.heap [] := va_S.rf
  have hl := lv_entry ([.ref v, .int z, .int 0, .int 6]) (n := 6) (Nat.le_of_ble_eq_true rfl)
  rw [lg_entry_eq]
  generalize (lg_sl ([.ref v, .int z, .int 0, .int 6]) ++ List.replicate (6 - (lg_sl ([.ref v, .int z, .int 0, .int 6])).length) Slot.unset).toArray = ls at hl ⊢
  have hl : lv_has ls 6 [(0, .ref v), (1, .int z), (2, .int 0), (3, .int 6)] := hl
  generalize hcc : z.toInt8.toInt32 = cz
  have loop : ∀ (k i : Nat), i + k = 6 → ixF cz k i = ixF cz 6 0 → ∀ ls : Array Slot, lv_has ls 6 [(5, .int (nI i)), (4, .int cz), (0, .ref v), (1, .int z), (2, .int 0), (3, .int 6)] → W p l e (ixRm d) s m #[Value.ref v, .int z, .int 0, .int 6] below meth c s.heap [] 0 0 (MQ below (ixQ (ixF cz 6 0) s.heap) #[Value.ref v, .int z, .int 0, .int 6] s 0 0 (ixA s.heap)) (F0 m 7 ls []) := by
    intro k
    induction k with
    | zero =>
      intro i hi he ls hl
      refine lv_iload hx hb (show decode cJ1_indexOfChar_4cfef 7 = .ok (.iload 5, 2) by decide +kernel) (lv_at hl 0 rfl) ?_
      refine lv_iload_n hx hb (show decode cJ1_indexOfChar_4cfef 9 = .ok (.iload_n 3, 1) by decide +kernel) rfl (lv_at hl 5 rfl) ?_
      refine lv_icmp_ge (tgt := 31) hx hb (show decode cJ1_indexOfChar_4cfef 10 = .ok (.if_icmp .ge 21, 3) by decide +kernel) (by decide) (fun _ => ?_) (fun h => absurd (by rw [show i = 6 by omega]; decide) h)
      refine lv_iconst (v := -1) hx hb (show decode cJ1_indexOfChar_4cfef 31 = .ok (.iconst (-1), 1) by decide +kernel) (by decide) ?_
      exact W.iret (v := -1) hx hb hr (fun t ht hW => ⟨⟨-1, (), rfl, he, ht⟩, hS.F ht⟩) hS.2.2 (show decode cJ1_indexOfChar_4cfef 32 = .ok (.ireturn, 1) by decide +kernel)
    | succ k ih =>
      intro i hi he ls hl
      refine lv_iload hx hb (show decode cJ1_indexOfChar_4cfef 7 = .ok (.iload 5, 2) by decide +kernel) (lv_at hl 0 rfl) ?_
      refine lv_iload_n hx hb (show decode cJ1_indexOfChar_4cfef 9 = .ok (.iload_n 3, 1) by decide +kernel) rfl (lv_at hl 5 rfl) ?_
      refine lv_icmp_ge (tgt := 31) hx hb (show decode cJ1_indexOfChar_4cfef 10 = .ok (.if_icmp .ge 21, 3) by decide +kernel) (by decide) (fun h => absurd h ?_) (fun _ => ?_)
      · rcases (show i = 0 ∨ i = 1 ∨ i = 2 ∨ i = 3 ∨ i = 4 ∨ i = 5 by omega) with rfl | rfl | rfl | rfl | rfl | rfl <;> decide
      refine lv_aload_n hx hb (show decode cJ1_indexOfChar_4cfef 13 = .ok (.aload_n 0, 1) by decide +kernel) rfl (lv_at hl 2 rfl) ?_
      refine lv_iload hx hb (show decode cJ1_indexOfChar_4cfef 14 = .ok (.iload 5, 2) by decide +kernel) (lv_at hl 0 rfl) ?_
      refine va_tb (v := .int (ixB i)) hx hb hE.2.2.2.1 hS (vp_in_nI (by omega) (by omega)) (by rw [nI_clamp (by omega)]) (show decode cJ1_indexOfChar_4cfef 16 = .ok (.baload, 1) by decide +kernel) ?_
      refine lv_iload hx hb (show decode cJ1_indexOfChar_4cfef 17 = .ok (.iload 4, 2) by decide +kernel) (lv_at hl 1 rfl) ?_
      rw [ixF] at he
      refine lv_icmp_ne (tgt := 25) hx hb (show decode cJ1_indexOfChar_4cfef 19 = .ok (.if_icmp .ne 6, 3) by decide +kernel) (by decide) (fun h => ?_) (fun h => ?_)
      · rw [if_neg h] at he
        refine lv_iinc (v := nI (i + 1)) (lv' := [(5, .int (nI (i + 1))), (4, .int cz), (0, .ref v), (1, .int z), (2, .int 0), (3, .int 6)]) hx hb (show decode cJ1_indexOfChar_4cfef 25 = .ok (.iinc 5 1, 3) by decide +kernel) hl (k := 0) rfl (by rw [nI_succ]; rfl) (by decide) rfl (fun ls hl => ?_)
        refine lv_goto (tgt := 7) hx hb (show decode cJ1_indexOfChar_4cfef 28 = .ok (.goto (-21), 3) by decide +kernel) (by decide) ?_
        exact ih (i + 1) (by omega) he ls hl
      · rw [if_pos h] at he
        refine lv_iload hx hb (show decode cJ1_indexOfChar_4cfef 22 = .ok (.iload 5, 2) by decide +kernel) (lv_at hl 0 rfl) ?_
        exact W.iret (v := nI i) hx hb hr (fun t ht hW => ⟨⟨nI i, (), rfl, he, ht⟩, hS.F ht⟩) hS.2.2 (show decode cJ1_indexOfChar_4cfef 24 = .ok (.ireturn, 1) by decide +kernel)
  refine lv_iload_n hx hb (show decode cJ1_indexOfChar_4cfef 0 = .ok (.iload_n 1, 1) by decide +kernel) rfl (lv_at hl 1 rfl) ?_
  refine lv_i2b (v := cz) hx hb (show decode cJ1_indexOfChar_4cfef 1 = .ok (.i2b, 1) by decide +kernel) hcc ?_
  refine lv_istore (lv' := [(4, .int cz), (0, .ref v), (1, .int z), (2, .int 0), (3, .int 6)]) hx hb (show decode cJ1_indexOfChar_4cfef 2 = .ok (.istore 4, 2) by decide +kernel) hl (by decide) rfl (fun ls hl => ?_)
  refine lv_iload_n hx hb (show decode cJ1_indexOfChar_4cfef 4 = .ok (.iload_n 2, 1) by decide +kernel) rfl (lv_at hl 3 rfl) ?_
  refine lv_istore (lv' := [(5, .int 0), (4, .int cz), (0, .ref v), (1, .int z), (2, .int 0), (3, .int 6)]) hx hb (show decode cJ1_indexOfChar_4cfef 5 = .ok (.istore 5, 2) by decide +kernel) hl (by decide) rfl (fun ls hl => ?_)
  exact loop 6 0 rfl rfl ls hl
theorem ix_min6 : (if (6 : Int32) < 6 then (6 : Int32) else 6) = 6 := rfl
def ixR (z : Int32) : Int32 := if ixN z = 0 then -1 else ixF z.toInt8.toInt32 6 0
theorem ix_ix4 (l : Launch) (d a v : Nat) (z : Int32) : ixMet l yJ1_indexOf_4cfef cJ1_indexOf_4cfef 4 .int (d + 1) [.ref v, .int z, .int 0, .int 6] a v (ixR z) := by
  intro H0
  refine Met.ofW (cc := cJ1_indexOf_4cfef) (maxL := 4) (ret := some .int) (by decide) rfl ?_
  intro p e s m args below meth c s₁ B hml hv
  obtain ⟨rfl, hH, hE⟩ := hv
  subst hH
  have hx := B.exec
  have hb := B.bytes
  have hr := B.returns
  have hts0 := atoms_spec (ws := Cond.code yJ1_indexOf_4cfef cJ1_indexOf_4cfef 4 (some .int) :: WS) B.pre
  have hts : ∀ w ∈ WS, w.before #[Value.ref v, .int z, .int 0, .int 6] s = true := fun w hw => hts0 w (List.mem_cons_of_mem _ hw)
  have hown : s.vm.findClass RJ1 = some m.cls := findClass_of_methodNamed B.named
  have hlocks := B.notSynchronized
  have hS : va_S (ixA s.heap) s.heap s.heap [] := va_S.rf
  have hl := lv_entry ([.ref v, .int z, .int 0, .int 6]) (n := 4) (Nat.le_of_ble_eq_true rfl)
  rw [lg_entry_eq]
  generalize (lg_sl ([.ref v, .int z, .int 0, .int 6]) ++ List.replicate (4 - (lg_sl ([.ref v, .int z, .int 0, .int 6])).length) Slot.unset).toArray = ls at hl ⊢
  have hl : lv_has ls 4 [(0, .ref v), (1, .int z), (2, .int 0), (3, .int 6)] := hl
  refine lv_iload_n hx hb (show decode cJ1_indexOf_4cfef 0 = .ok (.iload_n 1, 1) by decide +kernel) rfl (lv_at hl 1 rfl) ?_
  refine ix_s (As := [.int z]) (n := 1) (rest := []) hx hb hml hown hts (ix_can l d a v z) ixk_can ixi_can ixn.2 ixl_can (by decide +kernel) rfl hE hS (fun _ h => h) hl.1 (by decide) (show decode cJ1_indexOf_4cfef 1 = .ok (.invokestatic 88, 3) by decide +kernel) (Nat.le_refl _) (Nat.le_refl _) (by decide) (Nat.zero_le _) (Nat.zero_le _) (fun locs1 hS => ?_)
  refine lv_if_ne (tgt := 9) hx hb (show decode cJ1_indexOf_4cfef 4 = .ok (.ifCond .ne 5, 3) by decide +kernel) (by decide) (fun h => ?_) (fun h => ?_)
  · refine lv_iload_n hx hb (show decode cJ1_indexOf_4cfef 9 = .ok (.iload_n 2, 1) by decide +kernel) rfl (lv_at hl 2 rfl) ?_
    refine lv_iconst (v := 0) hx hb (show decode cJ1_indexOf_4cfef 10 = .ok (.iconst 0, 1) by decide +kernel) (by decide) ?_
    refine va_mmax hx hb (hml.trans hl.1.symm) hown (hts _ ixl_mx.1) (hts _ mx_ok.1) (hts _ mx_ok.2.1) (hts _ mx_ok.2.2) (Nat.succ_le_succ (Nat.zero_le _)) (by show 0 + 13 ≤ 40 * (d + 1); omega) (Nat.zero_le _) (Nat.zero_le _) (show decode cJ1_indexOf_4cfef 11 = .ok (.invokestatic 92, 3) by decide +kernel) ?_
    refine lv_istore_n (lv' := [(2, .int 0), (0, .ref v), (1, .int z), (3, .int 6)]) hx hb (show decode cJ1_indexOf_4cfef 14 = .ok (.istore_n 2, 1) by decide +kernel) rfl hl (by decide) rfl (fun ls hl => ?_)
    refine lv_iload_n hx hb (show decode cJ1_indexOf_4cfef 15 = .ok (.iload_n 3, 1) by decide +kernel) rfl (lv_at hl 3 rfl) ?_
    refine lv_aload_n hx hb (show decode cJ1_indexOf_4cfef 16 = .ok (.aload_n 0, 1) by decide +kernel) rfl (lv_at hl 1 rfl) ?_
    refine va_tlen (v := 6) hx hb hE.2.2.2.1 hS (by decide) (show decode cJ1_indexOf_4cfef 17 = .ok (.arraylength, 1) by decide +kernel) ?_
    refine va_mmin hx hb (hml.trans hl.1.symm) hown (hts _ ixl_mx.2) (hts _ mn_ok.1) (hts _ mn_ok.2.1) (hts _ mn_ok.2.2) (Nat.succ_le_succ (Nat.zero_le _)) (by show 0 + 13 ≤ 40 * (d + 1); omega) (Nat.zero_le _) (Nat.zero_le _) (show decode cJ1_indexOf_4cfef 18 = .ok (.invokestatic 38, 3) by decide +kernel) ?_
    refine lv_istore_n (lv' := [(3, .int 6), (2, .int 0), (0, .ref v), (1, .int z)]) hx hb (show decode cJ1_indexOf_4cfef 21 = .ok (.istore_n 3, 1) by decide +kernel) rfl hl (by decide) rfl (fun ls hl => ?_)
    refine lv_iload_n hx hb (show decode cJ1_indexOf_4cfef 22 = .ok (.iload_n 2, 1) by decide +kernel) rfl (lv_at hl 1 rfl) ?_
    refine lv_iload_n hx hb (show decode cJ1_indexOf_4cfef 23 = .ok (.iload_n 3, 1) by decide +kernel) rfl (lv_at hl 0 rfl) ?_
    refine lv_icmp_lt (tgt := 29) hx hb (show decode cJ1_indexOf_4cfef 24 = .ok (.if_icmp .lt 5, 3) by decide +kernel) (by decide) (fun _ => ?_) (fun h => absurd (by decide) h)
    refine lv_aload_n hx hb (show decode cJ1_indexOf_4cfef 29 = .ok (.aload_n 0, 1) by decide +kernel) rfl (lv_at hl 2 rfl) ?_
    refine lv_iload_n hx hb (show decode cJ1_indexOf_4cfef 30 = .ok (.iload_n 1, 1) by decide +kernel) rfl (lv_at hl 3 rfl) ?_
    refine lv_iload_n hx hb (show decode cJ1_indexOf_4cfef 31 = .ok (.iload_n 2, 1) by decide +kernel) rfl (lv_at hl 1 rfl) ?_
    refine lv_iload_n hx hb (show decode cJ1_indexOf_4cfef 32 = .ok (.iload_n 3, 1) by decide +kernel) rfl (lv_at hl 0 rfl) ?_
    refine ix_s (As := [.ref v, .int z, .int 0, .int 6]) (n := 4) (rest := []) hx hb hml hown hts (ix_ixc l d a v z) ixk_ixc ixi_ixc ixn.2 ixl_ixc (by decide +kernel) rfl hE hS (fun _ h => h) hl.1 (by decide) (show decode cJ1_indexOf_4cfef 33 = .ok (.invokestatic 95, 3) by decide +kernel) (Nat.le_refl _) (Nat.le_refl _) (by decide) (Nat.zero_le _) (Nat.zero_le _) (fun locs1 hS => ?_)
    exact W.iret (v := ixF z.toInt8.toInt32 6 0) hx hb hr (fun t ht hW => ⟨⟨_, (), rfl, (if_neg h).symm, ht⟩, hS.F ht⟩) hS.2.2 (show decode cJ1_indexOf_4cfef 36 = .ok (.ireturn, 1) by decide +kernel)
  · refine lv_iconst (v := -1) hx hb (show decode cJ1_indexOf_4cfef 7 = .ok (.iconst (-1), 1) by decide +kernel) (by decide) ?_
    exact W.iret (v := -1) hx hb hr (fun t ht hW => ⟨⟨_, (), rfl, (if_pos h).symm, ht⟩, hS.F ht⟩) hS.2.2 (show decode cJ1_indexOf_4cfef 8 = .ok (.ireturn, 1) by decide +kernel)
theorem ix_ix2 (l : Launch) (d a v : Nat) (z : Int32) : ixMet l yJ0_indexOf_7cf53 cJ0_indexOf_7cf53 3 .int (d + 1 + 1) [.ref a, .int z, .int 0] a v (ixR z) := by
  intro H0
  refine Met.ofW (cc := cJ0_indexOf_7cf53) (maxL := 3) (ret := some .int) (by decide) rfl ?_
  intro p e s m args below meth c s₁ B hml hv
  obtain ⟨rfl, hH, hE⟩ := hv
  subst hH
  have hx := B.exec
  have hb := B.bytes
  have hr := B.returns
  have hts0 := atoms_spec (ws := Cond.code yJ0_indexOf_7cf53 cJ0_indexOf_7cf53 3 (some .int) :: WS) B.pre
  have hts : ∀ w ∈ WS, w.before #[Value.ref a, .int z, .int 0] s = true := fun w hw => hts0 w (List.mem_cons_of_mem _ hw)
  have hown : s.vm.findClass RJ0 = some m.cls := findClass_of_methodNamed B.named
  have hlocks := B.notSynchronized
  have hS : va_S (ixA s.heap) s.heap s.heap [] := va_S.rf
  have hl := lv_entry ([.ref a, .int z, .int 0]) (n := 3) (Nat.le_of_ble_eq_true rfl)
  rw [lg_entry_eq]
  generalize (lg_sl ([.ref a, .int z, .int 0]) ++ List.replicate (3 - (lg_sl ([.ref a, .int z, .int 0])).length) Slot.unset).toArray = ls at hl ⊢
  have hl : lv_has ls 3 [(0, .ref a), (1, .int z), (2, .int 0)] := hl
  refine lv_aload_n hx hb (show decode cJ0_indexOf_7cf53 0 = .ok (.aload_n 0, 1) by decide +kernel) rfl (lv_at hl 0 rfl) ?_
  refine ix_v (As := []) (n := 0) (rest := []) hx hb hml hown hts (ix_isl l (d + 1) a v) ixk_isl ixi_isl ixn.1 ixl_isl (by decide +kernel) rfl hE hS (fun _ h => h) hl.1 (by decide) (show decode cJ0_indexOf_7cf53 1 = .ok (.invokevirtual 492, 3) by decide +kernel) (Nat.le_refl _) (Nat.le_refl _) (by decide) (Nat.zero_le _) (Nat.zero_le _) (fun locs1 hS => ?_)
  refine lv_if_eq (tgt := 23) hx hb (show decode cJ0_indexOf_7cf53 4 = .ok (.ifCond .eq 19, 3) by decide +kernel) (by decide) (fun h => absurd h (by decide)) (fun _ => ?_)
  refine lv_aload_n hx hb (show decode cJ0_indexOf_7cf53 7 = .ok (.aload_n 0, 1) by decide +kernel) rfl (lv_at hl 0 rfl) ?_
  refine vk_getf hx hb hE.2.2.1 hS hown (hts _ ixf.2.2) (fun _ h => h) (show decode cJ0_indexOf_7cf53 8 = .ok (.getfield 9, 3) by decide +kernel) ?_
  refine lv_iload_n hx hb (show decode cJ0_indexOf_7cf53 11 = .ok (.iload_n 1, 1) by decide +kernel) rfl (lv_at hl 1 rfl) ?_
  refine lv_iload_n hx hb (show decode cJ0_indexOf_7cf53 12 = .ok (.iload_n 2, 1) by decide +kernel) rfl (lv_at hl 2 rfl) ?_
  refine lv_aload_n hx hb (show decode cJ0_indexOf_7cf53 13 = .ok (.aload_n 0, 1) by decide +kernel) rfl (lv_at hl 0 rfl) ?_
  refine ix_v (As := []) (n := 0) (rest := [.int 0, .int z, .ref v]) hx hb hml hown hts (ix_len l d a v) ixk_len ixi_len ixn.1 ixl_len (by decide +kernel) rfl hE hS (fun _ h => h) hl.1 (by show 1 + (1 + (1 + 0)) ≤ 8; decide) (show decode cJ0_indexOf_7cf53 14 = .ok (.invokevirtual 505, 3) by decide +kernel) (Nat.le_refl _) (Nat.le_refl _) (by decide) (Nat.zero_le _) (Nat.zero_le _) (fun locs1 hS => ?_)
  refine ix_s (As := [.ref v, .int z, .int 0, .int 6]) (n := 4) (rest := []) hx hb hml hown hts (ix_ix4 l d a v z) ixk_ix4 ixi_ix4 ixn.2 ixl_ix4 (by decide +kernel) rfl hE hS (fun _ h => h) hl.1 (by decide) (show decode cJ0_indexOf_7cf53 17 = .ok (.invokestatic 637, 3) by decide +kernel) (Nat.le_refl _) (Nat.le_refl _) (by decide) (Nat.zero_le _) (Nat.zero_le _) (fun locs1 hS => ?_)
  refine lv_goto (tgt := 36) hx hb (show decode cJ0_indexOf_7cf53 20 = .ok (.goto 16, 3) by decide +kernel) (by decide) ?_
  exact W.iret (v := ixR z) hx hb hr (fun t ht hW => ⟨⟨_, (), rfl, rfl, ht⟩, hS.F ht⟩) hS.2.2 (show decode cJ0_indexOf_7cf53 36 = .ok (.ireturn, 1) by decide +kernel)
theorem ix_ix1 (l : Launch) (d a v : Nat) (z : Int32) : ixMet l yJ0_indexOf_0f7a4 cJ0_indexOf_0f7a4 2 .int (d + 1 + 1 + 1) [.ref a, .int z] a v (ixR z) := by
  intro H0
  refine Met.ofW (cc := cJ0_indexOf_0f7a4) (maxL := 2) (ret := some .int) (by decide) rfl ?_
  intro p e s m args below meth c s₁ B hml hv
  obtain ⟨rfl, hH, hE⟩ := hv
  subst hH
  have hx := B.exec
  have hb := B.bytes
  have hr := B.returns
  have hts0 := atoms_spec (ws := Cond.code yJ0_indexOf_0f7a4 cJ0_indexOf_0f7a4 2 (some .int) :: WS) B.pre
  have hts : ∀ w ∈ WS, w.before #[Value.ref a, .int z] s = true := fun w hw => hts0 w (List.mem_cons_of_mem _ hw)
  have hown : s.vm.findClass RJ0 = some m.cls := findClass_of_methodNamed B.named
  have hlocks := B.notSynchronized
  have hS : va_S (ixA s.heap) s.heap s.heap [] := va_S.rf
  have hl := lv_entry ([.ref a, .int z]) (n := 2) (Nat.le_of_ble_eq_true rfl)
  rw [lg_entry_eq]
  generalize (lg_sl ([.ref a, .int z]) ++ List.replicate (2 - (lg_sl ([.ref a, .int z])).length) Slot.unset).toArray = ls at hl ⊢
  have hl : lv_has ls 2 [(0, .ref a), (1, .int z)] := hl
  refine lv_aload_n hx hb (show decode cJ0_indexOf_0f7a4 0 = .ok (.aload_n 0, 1) by decide +kernel) rfl (lv_at hl 0 rfl) ?_
  refine lv_iload_n hx hb (show decode cJ0_indexOf_0f7a4 1 = .ok (.iload_n 1, 1) by decide +kernel) rfl (lv_at hl 1 rfl) ?_
  refine lv_iconst (v := 0) hx hb (show decode cJ0_indexOf_0f7a4 2 = .ok (.iconst 0, 1) by decide +kernel) (by decide) ?_
  refine ix_v (As := [.int z, .int 0]) (n := 2) (rest := []) hx hb hml hown hts (ix_ix2 l d a v z) ixk_ix2 ixi_ix2 ixn.1 ixl_ix2 (by decide +kernel) rfl hE hS (fun _ h => h) hl.1 (by decide) (show decode cJ0_indexOf_0f7a4 3 = .ok (.invokevirtual 633, 3) by decide +kernel) (Nat.le_refl _) (Nat.le_refl _) (by decide) (Nat.zero_le _) (Nat.zero_le _) (fun locs1 hS => ?_)
  exact W.iret (v := ixR z) hx hb hr (fun t ht hW => ⟨⟨_, (), rfl, rfl, ht⟩, hS.F ht⟩) hS.2.2 (show decode cJ0_indexOf_0f7a4 6 = .ok (.ireturn, 1) by decide +kernel)
theorem ixR_fin : ∀ n, n < 256 → ixR (Int32.ofNat n) = Int32.ofInt (if (n : Int) = 114 then 0 else if (n : Int) = 104 then 1 else if (n : Int) = 120 then 2 else if (n : Int) = 99 then 3 else if (n : Int) = 100 then 4 else if (n : Int) = 119 then 5 else -1) := by decide +kernel
theorem ixR_val (z : Int) : ixR (Int32.ofInt z) = Int32.ofInt (if wi z = 114 then 0 else if wi z = 104 then 1 else if wi z = 120 then 2 else if wi z = 99 then 3 else if wi z = 100 then 4 else if wi z = 119 then 5 else -1) := by
  by_cases h0 : wi z < 0 ∨ 255 < wi z
  · have e : ixN (Int32.ofInt z) = 0 := by
      unfold ixN
      split
      · rfl
      · rename_i hn
        have hz : 255 < wi z := h0.resolve_left (fun h => hn ((oI_lt0 z).mpr h))
        have : (255 : Int32) < Int32.ofInt z := (oI_lt 255 z).mpr (by show wi 255 < wi z; rw [show wi 255 = 255 from rfl]; exact hz)
        rw [if_pos this]
    unfold ixR
    rw [if_pos e, if_neg (by omega), if_neg (by omega), if_neg (by omega), if_neg (by omega), if_neg (by omega), if_neg (by omega)]
    rfl
  · have hn : ((wi z).toNat : Int) = wi z := by omega
    have e : Int32.ofInt z = Int32.ofNat (wi z).toNat := by rw [← oI_nat, hn, oI_wi]
    have := ixR_fin (wi z).toNat (by omega)
    rw [hn] at this
    rw [e]
    exact this
section IXR
variable {p : Program} {l : Launch} {e : Env} {R : Room} {s : State} {mid : MethodId} {args : Array Value} {below : List Frame} {meth : Method} {c : Code} {H : Heap} {locs : List Loc} {cells slots : Nat} {Q : State → Prop}
variable {A : Nat → Prop} {nL : Nat} {arr : Array Slot} {cc : ByteArray} {pc : Nat}
theorem ix_all (hx : p.tables.exec = Jvm.exec) (hb : c.code = cc) (hml : c.maxLocals = nL) (hts : ∀ w ∈ WS, w.before args s = true) (hown : s.vm.findClass RX9 = some mid.cls) (hf : 6 ≤ R.frames) (hlo : 240 ≤ R.locals) (hc1 : cells ≤ R.cells) (hc2 : slots ≤ R.slots) {a : Nat} {z : Int} {r : List Value} (hr : (r.map (fun v => v.category)).sum ≤ 8) (hd : decode cc pc = .ok ((.invokevirtual 49), 3)) (hS : va_S A s.heap H locs) (hE : strE a A s s.heap) (hA : ∀ q, s.heap.size ≤ q → A q) (harr : arr.size = nL)
    (kk : ∀ (H1 : Heap) (locs1 : List Loc), H1 = H → va_S A s.heap H1 locs1 → W p l e R s mid args below meth c H1 locs1 cells slots Q (F0 mid (pc + 3) arr (.int (Int32.ofInt (if wi z = 114 then 0 else if wi z = 104 then 1 else if wi z = 120 then 2 else if wi z = 99 then 3 else if wi z = 100 then 4 else if wi z = 119 then 5 else -1)) :: r))) : W p l e R s mid args below meth c H locs cells slots Q (F0 mid pc arr (.int (Int32.ofInt z) :: .ref a :: r)) := by
  obtain ⟨hR, v, hS6, hZ⟩ := hE
  obtain ⟨d1, d2, d3, d4⟩ := hS6.1 0 (by decide)
  have hD : ixD a v A s s.heap := ⟨d1, d2, d3, d4, hZ⟩
  refine ix_v (As := [.int (Int32.ofInt z)]) (n := 1) (rest := r) (d := 0 + 1 + 1 + 1) hx hb hml hown hts (ix_ix1 l 0 a v (Int32.ofInt z)) ixk_ix1 ixi_ix1 ixn.1 ixl_ix1 (by decide +kernel) rfl hD hS hA harr hr hd (by omega) (by omega) (by decide) hc1 hc2 (fun locs1 hS1 => ?_)
  rw [ixR_val]
  exact kk H locs1 rfl hS1
end IXR
