/-! ===== the law's loop, a call at a time (printed by genlw.py) ===== -/
def CX : Nat → Prop := fun a => a ≤ 123
def CM : Nat → Prop := fun a => 124 ≤ a ∧ a < 160
/-- where all lies, the script too -/
def LZS (sh : Shp) (L : Nat) : Prop := XS sh ∧ MS sh ∧ clS CX sh ∧ clS CM sh ∧ sh.1 = 160 ∧ skd sh 161 = 0 ∧ sln sh 161 = L ∧ L ≤ 3072
section LWS
variable {sh : Shp} {σ : Mem} {a : AX} {L : Nat}
theorem InvX.sm {σ' : Mem} (h : InvX sh σ a) (hN : sh.1 = 160) (hs : same CM σ σ') : InvX sh σ' a := h.k (fun b hb => (hs b (by unfold CM; omega)).1)
theorem InvM.sm {σ' : Mem} (h : InvM sh σ a) (hs : same CX σ σ') : InvM sh σ' a := by
  have e : ∀ b, 124 ≤ b → σ'.1 b = σ.1 b := fun b hb => (hs b (by unfold CX; omega)).1
  exact h.k ⟨fun i _ => by rw [e 124 (by omega)], fun i _ => by rw [e 125 (by omega)], fun i _ => by rw [e 126 (by omega)], fun b p _ => e b (by omega), e 157 (by omega)⟩
theorem lpair {d mx mm : Nat} {as : List MV} {v : MV} {a' : AX} (hL : LZS sh L) (has : ∀ w ∈ as, okV (fun _ => False) sh w) (h : InvX sh σ a) (hm : InvM sh σ a) (eX : End (run sh d mx (mR 0 :: as) σ) (fun r σ' => r = some v ∧ InvX sh σ' a')) (eM : ∀ σ', InvM sh σ' a → End (run sh d mm (mR 124 :: as) σ') (fun r σ'' => r = some v ∧ InvM sh σ'' a')) : ∃ σ1 σ2, run sh d mx (mR 0 :: as) σ = some (some v, σ1) ∧ run sh d mm (mR 124 :: as) σ1 = some (some v, σ2) ∧ InvX sh σ2 a' ∧ InvM sh σ2 a' ∧ σ1.1 161 = σ.1 161 ∧ σ2.1 161 = σ.1 161 := by
  obtain ⟨_, _, hcx, hcm, hN, _⟩ := hL
  have okA : ∀ C : Nat → Prop, ∀ w ∈ as, okV C sh w := fun C w hw => by
    have q := has w hw
    rcases w with z | z | b
    · trivial
    · trivial
    · rcases q with q | q
      · exact q.elim
      · exact Or.inr q
  obtain ⟨r, σ1, a1, rfl, a2⟩ := eX
  have s1 := run_frame hcx a1 (fun w hw => by
    rcases List.mem_cons.mp hw with rfl | q
    · exact Or.inl (by unfold CX; omega)
    · exact okA CX w q)
  obtain ⟨r, σ2, b1, rfl, b2⟩ := eM σ1 (hm.sm s1)
  have s2 := run_frame hcm b1 (fun w hw => by
    rcases List.mem_cons.mp hw with rfl | q
    · exact Or.inl (by unfold CM; omega)
    · exact okA CM w q)
  have e1 : σ1.1 161 = σ.1 161 := (s1 161 (by unfold CX; omega)).1
  have e2 : σ2.1 161 = σ1.1 161 := (s2 161 (by unfold CM; omega)).1
  exact ⟨σ1, σ2, a1, b1, a2.sm hN s2, b2, e1, e2.trans e1⟩
theorem iS4 (j : Nat) : (j : Int) + 4 = ((j + 4 : Nat) : Int) := rfl
theorem iS5 (j : Nat) : (j : Int) + 5 = ((j + 5 : Nat) : Int) := rfl
theorem lcmp_s (x : Int) : lcmp' x x = 0 := lcmp_0 rfl

theorem lc_0 {i : Nat} (hL : LZS sh L) (hi : i + 6 ≤ L) (hs : ∀ j, i32 (σ.1 161 j)) (h : InvX sh σ a) (hm : InvM sh σ a) : ∃ σ' a', ev sh 15 288 180 [some (mR 161), some (mR 0), some (mR 124), some (mI (i : Int))] [] σ = ev sh 15 288 1081 [some (mR 161), some (mR 0), some (mR 124), some (mI (i : Int))] [] σ' ∧ InvX sh σ' a' ∧ InvM sh σ' a' ∧ σ'.1 161 = σ.1 161 := by
  obtain ⟨hX, hM, hcx, hcm, hN, k161, l161, L3⟩ := id hL
  have xo := hX.1
  have mo := hM.1
  have i1 := hs (i + 1)
  obtain ⟨z1, y1⟩ : ∃ z, σ.1 161 (i + 1) = z := ⟨_, rfl⟩
  rw [y1] at i1
  have i2 := hs (i + 2)
  obtain ⟨z2, y2⟩ : ∃ z, σ.1 161 (i + 2) = z := ⟨_, rfl⟩
  rw [y2] at i2
  have i3 := hs (i + 3)
  obtain ⟨z3, y3⟩ : ∃ z, σ.1 161 (i + 3) = z := ⟨_, rfl⟩
  rw [y3] at i3
  have i4 := hs (i + 4)
  obtain ⟨z4, y4⟩ : ∃ z, σ.1 161 (i + 4) = z := ⟨_, rfl⟩
  rw [y4] at i4
  have i5 := hs (i + 5)
  obtain ⟨z5, y5⟩ : ∃ z, σ.1 161 (i + 5) = z := ⟨_, rfl⟩
  rw [y5] at i5
  obtain ⟨σ1, σ2, e1, e2, q1, q2, g1, g2⟩ := lpair (d := 14) (as := [mI z1, mI z2, mI z3, mI z4, mI z5]) (v := mI (aFeed a z1 z2 z3 z4 z5).1) (a' := (aFeed a z1 z2 z3 z4 z5).2) hL (by intro w hw; simp only [List.mem_cons, List.mem_nil_iff, or_false, List.not_mem_nil] at hw; rcases hw with rfl | rfl | rfl | rfl | rfl <;> trivial) h hm (X114 (d := 12) hX h) (fun σ' hm' => M176 (d := 13) hM hm')
  refine ⟨σ2, _, ?_, q1, q2, g2⟩
  simp (disch := first | assumption | omega | (simp (disch := omega) only [wN, w0, w1]; omega)) only [e288_180, e288_181, e288_182, e288_183, e288_184, e288_185, e288_186, e288_187, e288_188, e288_189, e288_190, e288_191, e288_192, e288_193, e288_194, e288_195, e288_196, e288_197, e288_198, e288_199, e288_200, e288_201, e288_202, e288_203, e288_204, e288_205, e288_206, e288_209, e288_210, e288_211, e288_212, e288_213, e288_214, e288_215, e288_216, e288_217, e288_218, e288_219, e288_220, e288_221, e288_222, e288_223, e288_224, e288_225, e288_226, e288_227, e288_228, e288_229, e288_230, e288_231, e288_232, e288_233, e288_234, e288_235, e288_238, e288_241, e288_242, kl_I, kl_R, kl_N, kl_L, oSm, oNn, Option.bind_some, wN, if_pos, if_neg, nS, tN, t0, w0, w1, w2, w3, w4, w5, wm1, upA_ne, upA_same, if_true, if_false, Bool.false_eq_true, k161, l161, nS, nS2, nS3, iS4, iS5, lcmp_s, e1, g1, e2, y1, y2, y3, y4, y5]
theorem lc_1 {i : Nat} (hL : LZS sh L) (hi : i + 6 ≤ L) (hs : ∀ j, i32 (σ.1 161 j)) (h : InvX sh σ a) (hm : InvM sh σ a) : ∃ σ' a', ev sh 15 288 243 [some (mR 161), some (mR 0), some (mR 124), some (mI (i : Int))] [] σ = ev sh 15 288 1081 [some (mR 161), some (mR 0), some (mR 124), some (mI (i : Int))] [] σ' ∧ InvX sh σ' a' ∧ InvM sh σ' a' ∧ σ'.1 161 = σ.1 161 := by
  obtain ⟨hX, hM, hcx, hcm, hN, k161, l161, L3⟩ := id hL
  have xo := hX.1
  have mo := hM.1
  have i1 := hs (i + 1)
  obtain ⟨z1, y1⟩ : ∃ z, σ.1 161 (i + 1) = z := ⟨_, rfl⟩
  rw [y1] at i1
  obtain ⟨σ1, σ2, e1, e2, q1, q2, g1, g2⟩ := lpair (d := 14) (as := [mI z1]) (v := mI (aLines a z1).1) (a' := (aLines a z1).2) hL (by intro w hw; simp only [List.mem_cons, List.mem_nil_iff, or_false, List.not_mem_nil] at hw; rcases hw with rfl <;> trivial) h hm (X115 (d := 12) hX h i1) (fun σ' hm' => M187 (d := 12) hM hm' i1)
  refine ⟨σ2, _, ?_, q1, q2, g2⟩
  simp (disch := first | assumption | omega | (simp (disch := omega) only [wN, w0, w1]; omega)) only [e288_243, e288_244, e288_245, e288_246, e288_247, e288_248, e288_249, e288_252, e288_253, e288_254, e288_255, e288_256, e288_257, e288_258, e288_261, e288_264, e288_265, kl_I, kl_R, kl_N, kl_L, oSm, oNn, Option.bind_some, wN, if_pos, if_neg, nS, tN, t0, w0, w1, w2, w3, w4, w5, wm1, upA_ne, upA_same, if_true, if_false, Bool.false_eq_true, k161, l161, nS, nS2, nS3, iS4, iS5, lcmp_s, e1, g1, e2, y1]
theorem lc_2 {i : Nat} (hL : LZS sh L) (hi : i + 6 ≤ L) (hs : ∀ j, i32 (σ.1 161 j)) (h : InvX sh σ a) (hm : InvM sh σ a) : ∃ σ' a', ev sh 15 288 266 [some (mR 161), some (mR 0), some (mR 124), some (mI (i : Int))] [] σ = ev sh 15 288 1081 [some (mR 161), some (mR 0), some (mR 124), some (mI (i : Int))] [] σ' ∧ InvX sh σ' a' ∧ InvM sh σ' a' ∧ σ'.1 161 = σ.1 161 := by
  obtain ⟨hX, hM, hcx, hcm, hN, k161, l161, L3⟩ := id hL
  have xo := hX.1
  have mo := hM.1
  have i1 := hs (i + 1)
  obtain ⟨z1, y1⟩ : ∃ z, σ.1 161 (i + 1) = z := ⟨_, rfl⟩
  rw [y1] at i1
  obtain ⟨σ1, σ2, e1, e2, q1, q2, g1, g2⟩ := lpair (d := 14) (as := [mI z1]) (v := mI (aCirc a z1).1) (a' := (aCirc a z1).2) hL (by intro w hw; simp only [List.mem_cons, List.mem_nil_iff, or_false, List.not_mem_nil] at hw; rcases hw with rfl <;> trivial) h hm (X116 (d := 5) hX h i1) (fun σ' hm' => M183 (d := 10) hM hm' i1)
  refine ⟨σ2, _, ?_, q1, q2, g2⟩
  simp (disch := first | assumption | omega | (simp (disch := omega) only [wN, w0, w1]; omega)) only [e288_266, e288_267, e288_268, e288_269, e288_270, e288_271, e288_272, e288_275, e288_276, e288_277, e288_278, e288_279, e288_280, e288_281, e288_284, e288_287, e288_288, kl_I, kl_R, kl_N, kl_L, oSm, oNn, Option.bind_some, wN, if_pos, if_neg, nS, tN, t0, w0, w1, w2, w3, w4, w5, wm1, upA_ne, upA_same, if_true, if_false, Bool.false_eq_true, k161, l161, nS, nS2, nS3, iS4, iS5, lcmp_s, e1, g1, e2, y1]
theorem lc_3 {i : Nat} (hL : LZS sh L) (hi : i + 6 ≤ L) (hs : ∀ j, i32 (σ.1 161 j)) (h : InvX sh σ a) (hm : InvM sh σ a) : ∃ σ' a', ev sh 15 288 289 [some (mR 161), some (mR 0), some (mR 124), some (mI (i : Int))] [] σ = ev sh 15 288 1081 [some (mR 161), some (mR 0), some (mR 124), some (mI (i : Int))] [] σ' ∧ InvX sh σ' a' ∧ InvM sh σ' a' ∧ σ'.1 161 = σ.1 161 := by
  obtain ⟨hX, hM, hcx, hcm, hN, k161, l161, L3⟩ := id hL
  have xo := hX.1
  have mo := hM.1
  have i1 := hs (i + 1)
  obtain ⟨z1, y1⟩ : ∃ z, σ.1 161 (i + 1) = z := ⟨_, rfl⟩
  rw [y1] at i1
  obtain ⟨σ1, σ2, e1, e2, q1, q2, g1, g2⟩ := lpair (d := 14) (as := [mI z1]) (v := mI (aBoard a z1).1) (a' := (aBoard a z1).2) hL (by intro w hw; simp only [List.mem_cons, List.mem_nil_iff, or_false, List.not_mem_nil] at hw; rcases hw with rfl <;> trivial) h hm (X117 (d := 5) hX h i1) (fun σ' hm' => M186 (d := 10) hM hm' i1)
  refine ⟨σ2, _, ?_, q1, q2, g2⟩
  simp (disch := first | assumption | omega | (simp (disch := omega) only [wN, w0, w1]; omega)) only [e288_289, e288_290, e288_291, e288_292, e288_293, e288_294, e288_295, e288_298, e288_299, e288_300, e288_301, e288_302, e288_303, e288_304, e288_307, e288_310, e288_311, kl_I, kl_R, kl_N, kl_L, oSm, oNn, Option.bind_some, wN, if_pos, if_neg, nS, tN, t0, w0, w1, w2, w3, w4, w5, wm1, upA_ne, upA_same, if_true, if_false, Bool.false_eq_true, k161, l161, nS, nS2, nS3, iS4, iS5, lcmp_s, e1, g1, e2, y1]
theorem lc_4 {i : Nat} (hL : LZS sh L) (hi : i + 6 ≤ L) (hs : ∀ j, i32 (σ.1 161 j)) (h : InvX sh σ a) (hm : InvM sh σ a) : ∃ σ' a', ev sh 15 288 312 [some (mR 161), some (mR 0), some (mR 124), some (mI (i : Int))] [] σ = ev sh 15 288 1081 [some (mR 161), some (mR 0), some (mR 124), some (mI (i : Int))] [] σ' ∧ InvX sh σ' a' ∧ InvM sh σ' a' ∧ σ'.1 161 = σ.1 161 := by
  obtain ⟨hX, hM, hcx, hcm, hN, k161, l161, L3⟩ := id hL
  have xo := hX.1
  have mo := hM.1
  have i1 := hs (i + 1)
  obtain ⟨z1, y1⟩ : ∃ z, σ.1 161 (i + 1) = z := ⟨_, rfl⟩
  rw [y1] at i1
  have i2 := hs (i + 2)
  obtain ⟨z2, y2⟩ : ∃ z, σ.1 161 (i + 2) = z := ⟨_, rfl⟩
  rw [y2] at i2
  have i3 := hs (i + 3)
  obtain ⟨z3, y3⟩ : ∃ z, σ.1 161 (i + 3) = z := ⟨_, rfl⟩
  rw [y3] at i3
  obtain ⟨σ1, σ2, e1, e2, q1, q2, g1, g2⟩ := lpair (d := 14) (as := [mI z1, mI z2, mI z3]) (v := mI (aGate a z1 z2 z3).1) (a' := (aGate a z1 z2 z3).2) hL (by intro w hw; simp only [List.mem_cons, List.mem_nil_iff, or_false, List.not_mem_nil] at hw; rcases hw with rfl | rfl | rfl <;> trivial) h hm (X119 (d := 11) hX h i1 i2 i3) (fun σ' hm' => M191 (d := 11) hM hm' i1 i2 i3)
  refine ⟨σ2, _, ?_, q1, q2, g2⟩
  simp (disch := first | assumption | omega | (simp (disch := omega) only [wN, w0, w1]; omega)) only [e288_312, e288_313, e288_314, e288_315, e288_316, e288_317, e288_318, e288_319, e288_320, e288_321, e288_322, e288_323, e288_324, e288_325, e288_326, e288_327, e288_328, e288_331, e288_332, e288_333, e288_334, e288_335, e288_336, e288_337, e288_338, e288_339, e288_340, e288_341, e288_342, e288_343, e288_344, e288_345, e288_346, e288_347, e288_350, e288_353, e288_354, kl_I, kl_R, kl_N, kl_L, oSm, oNn, Option.bind_some, wN, if_pos, if_neg, nS, tN, t0, w0, w1, w2, w3, w4, w5, wm1, upA_ne, upA_same, if_true, if_false, Bool.false_eq_true, k161, l161, nS, nS2, nS3, iS4, iS5, lcmp_s, e1, g1, e2, y1, y2, y3]
theorem lc_5 {i : Nat} (hL : LZS sh L) (hi : i + 6 ≤ L) (hs : ∀ j, i32 (σ.1 161 j)) (h : InvX sh σ a) (hm : InvM sh σ a) : ∃ σ' a', ev sh 15 288 355 [some (mR 161), some (mR 0), some (mR 124), some (mI (i : Int))] [] σ = ev sh 15 288 1081 [some (mR 161), some (mR 0), some (mR 124), some (mI (i : Int))] [] σ' ∧ InvX sh σ' a' ∧ InvM sh σ' a' ∧ σ'.1 161 = σ.1 161 := by
  obtain ⟨hX, hM, hcx, hcm, hN, k161, l161, L3⟩ := id hL
  have xo := hX.1
  have mo := hM.1
  have i1 := hs (i + 1)
  obtain ⟨z1, y1⟩ : ∃ z, σ.1 161 (i + 1) = z := ⟨_, rfl⟩
  rw [y1] at i1
  obtain ⟨σ1, σ2, e1, e2, q1, q2, g1, g2⟩ := lpair (d := 14) (as := [mI z1]) (v := mI (aDraws a z1).1) (a' := (aDraws a z1).2) hL (by intro w hw; simp only [List.mem_cons, List.mem_nil_iff, or_false, List.not_mem_nil] at hw; rcases hw with rfl <;> trivial) h hm (X122 (d := 11) hX h i1) (fun σ' hm' => M194 (d := 12) hM hm' i1)
  refine ⟨σ2, _, ?_, q1, q2, g2⟩
  simp (disch := first | assumption | omega | (simp (disch := omega) only [wN, w0, w1]; omega)) only [e288_355, e288_356, e288_357, e288_358, e288_359, e288_360, e288_361, e288_364, e288_365, e288_366, e288_367, e288_368, e288_369, e288_370, e288_373, e288_376, e288_377, kl_I, kl_R, kl_N, kl_L, oSm, oNn, Option.bind_some, wN, if_pos, if_neg, nS, tN, t0, w0, w1, w2, w3, w4, w5, wm1, upA_ne, upA_same, if_true, if_false, Bool.false_eq_true, k161, l161, nS, nS2, nS3, iS4, iS5, lcmp_s, e1, g1, e2, y1]
theorem lc_6 {i : Nat} (hL : LZS sh L) (hi : i + 6 ≤ L) (hs : ∀ j, i32 (σ.1 161 j)) (h : InvX sh σ a) (hm : InvM sh σ a) : ∃ σ' a', ev sh 15 288 378 [some (mR 161), some (mR 0), some (mR 124), some (mI (i : Int))] [] σ = ev sh 15 288 1081 [some (mR 161), some (mR 0), some (mR 124), some (mI (i : Int))] [] σ' ∧ InvX sh σ' a' ∧ InvM sh σ' a' ∧ σ'.1 161 = σ.1 161 := by
  obtain ⟨hX, hM, hcx, hcm, hN, k161, l161, L3⟩ := id hL
  have xo := hX.1
  have mo := hM.1
  have i1 := hs (i + 1)
  obtain ⟨z1, y1⟩ : ∃ z, σ.1 161 (i + 1) = z := ⟨_, rfl⟩
  rw [y1] at i1
  have i2 := hs (i + 2)
  obtain ⟨z2, y2⟩ : ∃ z, σ.1 161 (i + 2) = z := ⟨_, rfl⟩
  rw [y2] at i2
  obtain ⟨σ1, σ2, e1, e2, q1, q2, g1, g2⟩ := lpair (d := 14) (as := [mI z1, mI z2]) (v := mI (aPlace a z1 z2).1) (a' := (aPlace a z1 z2).2) hL (by intro w hw; simp only [List.mem_cons, List.mem_nil_iff, or_false, List.not_mem_nil] at hw; rcases hw with rfl | rfl <;> trivial) h hm (X143 (d := 11) hX h i1 i2) (fun σ' hm' => M195 (d := 12) hM hm' i1 i2)
  refine ⟨σ2, _, ?_, q1, q2, g2⟩
  simp (disch := first | assumption | omega | (simp (disch := omega) only [wN, w0, w1]; omega)) only [e288_378, e288_379, e288_380, e288_381, e288_382, e288_383, e288_384, e288_385, e288_386, e288_387, e288_388, e288_389, e288_392, e288_393, e288_394, e288_395, e288_396, e288_397, e288_398, e288_399, e288_400, e288_401, e288_402, e288_403, e288_406, e288_409, e288_410, kl_I, kl_R, kl_N, kl_L, oSm, oNn, Option.bind_some, wN, if_pos, if_neg, nS, tN, t0, w0, w1, w2, w3, w4, w5, wm1, upA_ne, upA_same, if_true, if_false, Bool.false_eq_true, k161, l161, nS, nS2, nS3, iS4, iS5, lcmp_s, e1, g1, e2, y1, y2]
theorem lc_7 {i : Nat} (hL : LZS sh L) (hi : i + 6 ≤ L) (hs : ∀ j, i32 (σ.1 161 j)) (h : InvX sh σ a) (hm : InvM sh σ a) : ∃ σ' a', ev sh 15 288 411 [some (mR 161), some (mR 0), some (mR 124), some (mI (i : Int))] [] σ = ev sh 15 288 1081 [some (mR 161), some (mR 0), some (mR 124), some (mI (i : Int))] [] σ' ∧ InvX sh σ' a' ∧ InvM sh σ' a' ∧ σ'.1 161 = σ.1 161 := by
  obtain ⟨hX, hM, hcx, hcm, hN, k161, l161, L3⟩ := id hL
  have xo := hX.1
  have mo := hM.1
  have i1 := hs (i + 1)
  obtain ⟨z1, y1⟩ : ∃ z, σ.1 161 (i + 1) = z := ⟨_, rfl⟩
  rw [y1] at i1
  have i2 := hs (i + 2)
  obtain ⟨z2, y2⟩ : ∃ z, σ.1 161 (i + 2) = z := ⟨_, rfl⟩
  rw [y2] at i2
  obtain ⟨σ1, σ2, e1, e2, q1, q2, g1, g2⟩ := lpair (d := 14) (as := [mI z1, mI z2]) (v := mI (aGateIs a z1 z2)) (a' := a) hL (by intro w hw; simp only [List.mem_cons, List.mem_nil_iff, or_false, List.not_mem_nil] at hw; rcases hw with rfl | rfl <;> trivial) h hm (X125 (d := 8) hX h i1 i2) (fun σ' hm' => M214 (d := 10) hM hm' i1 i2)
  refine ⟨σ2, _, ?_, q1, q2, g2⟩
  simp (disch := first | assumption | omega | (simp (disch := omega) only [wN, w0, w1]; omega)) only [e288_411, e288_412, e288_413, e288_414, e288_415, e288_416, e288_417, e288_418, e288_419, e288_420, e288_421, e288_422, e288_425, e288_426, e288_427, e288_428, e288_429, e288_430, e288_431, e288_432, e288_433, e288_434, e288_435, e288_436, e288_439, e288_442, e288_443, kl_I, kl_R, kl_N, kl_L, oSm, oNn, Option.bind_some, wN, if_pos, if_neg, nS, tN, t0, w0, w1, w2, w3, w4, w5, wm1, upA_ne, upA_same, if_true, if_false, Bool.false_eq_true, k161, l161, nS, nS2, nS3, iS4, iS5, lcmp_s, e1, g1, e2, y1, y2]
theorem lc_8 {i : Nat} (hL : LZS sh L) (hi : i + 6 ≤ L) (hs : ∀ j, i32 (σ.1 161 j)) (h : InvX sh σ a) (hm : InvM sh σ a) : ∃ σ' a', ev sh 15 288 444 [some (mR 161), some (mR 0), some (mR 124), some (mI (i : Int))] [] σ = ev sh 15 288 1081 [some (mR 161), some (mR 0), some (mR 124), some (mI (i : Int))] [] σ' ∧ InvX sh σ' a' ∧ InvM sh σ' a' ∧ σ'.1 161 = σ.1 161 := by
  obtain ⟨hX, hM, hcx, hcm, hN, k161, l161, L3⟩ := id hL
  have xo := hX.1
  have mo := hM.1
  have i1 := hs (i + 1)
  obtain ⟨z1, y1⟩ : ∃ z, σ.1 161 (i + 1) = z := ⟨_, rfl⟩
  rw [y1] at i1
  have i2 := hs (i + 2)
  obtain ⟨z2, y2⟩ : ∃ z, σ.1 161 (i + 2) = z := ⟨_, rfl⟩
  rw [y2] at i2
  obtain ⟨σ1, σ2, e1, e2, q1, q2, g1, g2⟩ := lpair (d := 14) (as := [mI z1, mI z2]) (v := mI (aAhead a z1 z2)) (a' := a) hL (by intro w hw; simp only [List.mem_cons, List.mem_nil_iff, or_false, List.not_mem_nil] at hw; rcases hw with rfl | rfl <;> trivial) h hm (X126 (d := 9) hX h i1 i2) (fun σ' hm' => M213 (d := 10) hM hm' i1 i2)
  refine ⟨σ2, _, ?_, q1, q2, g2⟩
  simp (disch := first | assumption | omega | (simp (disch := omega) only [wN, w0, w1]; omega)) only [e288_444, e288_445, e288_446, e288_447, e288_448, e288_449, e288_450, e288_451, e288_452, e288_453, e288_454, e288_455, e288_458, e288_459, e288_460, e288_461, e288_462, e288_463, e288_464, e288_465, e288_466, e288_467, e288_468, e288_469, e288_472, e288_475, e288_476, kl_I, kl_R, kl_N, kl_L, oSm, oNn, Option.bind_some, wN, if_pos, if_neg, nS, tN, t0, w0, w1, w2, w3, w4, w5, wm1, upA_ne, upA_same, if_true, if_false, Bool.false_eq_true, k161, l161, nS, nS2, nS3, iS4, iS5, lcmp_s, e1, g1, e2, y1, y2]
theorem lc_9 {i : Nat} (hL : LZS sh L) (hi : i + 6 ≤ L) (hs : ∀ j, i32 (σ.1 161 j)) (h : InvX sh σ a) (hm : InvM sh σ a) : ∃ σ' a', ev sh 15 288 477 [some (mR 161), some (mR 0), some (mR 124), some (mI (i : Int))] [] σ = ev sh 15 288 1081 [some (mR 161), some (mR 0), some (mR 124), some (mI (i : Int))] [] σ' ∧ InvX sh σ' a' ∧ InvM sh σ' a' ∧ σ'.1 161 = σ.1 161 := by
  obtain ⟨hX, hM, hcx, hcm, hN, k161, l161, L3⟩ := id hL
  have xo := hX.1
  have mo := hM.1
  have i1 := hs (i + 1)
  obtain ⟨z1, y1⟩ : ∃ z, σ.1 161 (i + 1) = z := ⟨_, rfl⟩
  rw [y1] at i1
  obtain ⟨σ1, σ2, e1, e2, q1, q2, g1, g2⟩ := lpair (d := 14) (as := [mI z1]) (v := mI (aCircIs a z1)) (a' := a) hL (by intro w hw; simp only [List.mem_cons, List.mem_nil_iff, or_false, List.not_mem_nil] at hw; rcases hw with rfl <;> trivial) h hm (X127 (d := 8) hX h i1) (fun σ' hm' => M225 (d := 7) hM hm' i1)
  refine ⟨σ2, _, ?_, q1, q2, g2⟩
  simp (disch := first | assumption | omega | (simp (disch := omega) only [wN, w0, w1]; omega)) only [e288_477, e288_478, e288_479, e288_480, e288_481, e288_482, e288_483, e288_486, e288_487, e288_488, e288_489, e288_490, e288_491, e288_492, e288_495, e288_498, e288_499, kl_I, kl_R, kl_N, kl_L, oSm, oNn, Option.bind_some, wN, if_pos, if_neg, nS, tN, t0, w0, w1, w2, w3, w4, w5, wm1, upA_ne, upA_same, if_true, if_false, Bool.false_eq_true, k161, l161, nS, nS2, nS3, iS4, iS5, lcmp_s, e1, g1, e2, y1]
theorem lc_10 {i : Nat} (hL : LZS sh L) (hi : i + 6 ≤ L) (hs : ∀ j, i32 (σ.1 161 j)) (h : InvX sh σ a) (hm : InvM sh σ a) : ∃ σ' a', ev sh 15 288 500 [some (mR 161), some (mR 0), some (mR 124), some (mI (i : Int))] [] σ = ev sh 15 288 1081 [some (mR 161), some (mR 0), some (mR 124), some (mI (i : Int))] [] σ' ∧ InvX sh σ' a' ∧ InvM sh σ' a' ∧ σ'.1 161 = σ.1 161 := by
  obtain ⟨hX, hM, hcx, hcm, hN, k161, l161, L3⟩ := id hL
  have xo := hX.1
  have mo := hM.1
  have i1 := hs (i + 1)
  obtain ⟨z1, y1⟩ : ∃ z, σ.1 161 (i + 1) = z := ⟨_, rfl⟩
  rw [y1] at i1
  have i2 := hs (i + 2)
  obtain ⟨z2, y2⟩ : ∃ z, σ.1 161 (i + 2) = z := ⟨_, rfl⟩
  rw [y2] at i2
  have i3 := hs (i + 3)
  obtain ⟨z3, y3⟩ : ∃ z, σ.1 161 (i + 3) = z := ⟨_, rfl⟩
  rw [y3] at i3
  obtain ⟨σ1, σ2, e1, e2, q1, q2, g1, g2⟩ := lpair (d := 14) (as := [mI z1, mI z2, mI z3]) (v := mL (aAmp a z1 z2 z3)) (a' := a) hL (by intro w hw; simp only [List.mem_cons, List.mem_nil_iff, or_false, List.not_mem_nil] at hw; rcases hw with rfl | rfl | rfl <;> trivial) h hm (X132 (d := 10) hX h i1 i2 i3) (fun σ' hm' => M206 (d := 11) hM hm' i1 i2 i3)
  refine ⟨σ2, _, ?_, q1, q2, g2⟩
  simp (disch := first | assumption | omega | (simp (disch := omega) only [wN, w0, w1]; omega)) only [e288_500, e288_501, e288_502, e288_503, e288_504, e288_505, e288_506, e288_507, e288_508, e288_509, e288_510, e288_511, e288_512, e288_513, e288_514, e288_515, e288_516, e288_519, e288_520, e288_521, e288_522, e288_523, e288_524, e288_525, e288_526, e288_527, e288_528, e288_529, e288_530, e288_531, e288_532, e288_533, e288_534, e288_535, e288_538, e288_539, e288_542, e288_543, kl_I, kl_R, kl_N, kl_L, oSm, oNn, Option.bind_some, wN, if_pos, if_neg, nS, tN, t0, w0, w1, w2, w3, w4, w5, wm1, upA_ne, upA_same, if_true, if_false, Bool.false_eq_true, k161, l161, nS, nS2, nS3, iS4, iS5, lcmp_s, e1, g1, e2, y1, y2, y3]
theorem lc_11 {i : Nat} (hL : LZS sh L) (hi : i + 6 ≤ L) (hs : ∀ j, i32 (σ.1 161 j)) (h : InvX sh σ a) (hm : InvM sh σ a) : ∃ σ' a', ev sh 15 288 544 [some (mR 161), some (mR 0), some (mR 124), some (mI (i : Int))] [] σ = ev sh 15 288 1081 [some (mR 161), some (mR 0), some (mR 124), some (mI (i : Int))] [] σ' ∧ InvX sh σ' a' ∧ InvM sh σ' a' ∧ σ'.1 161 = σ.1 161 := by
  obtain ⟨hX, hM, hcx, hcm, hN, k161, l161, L3⟩ := id hL
  have xo := hX.1
  have mo := hM.1
  have i1 := hs (i + 1)
  obtain ⟨z1, y1⟩ : ∃ z, σ.1 161 (i + 1) = z := ⟨_, rfl⟩
  rw [y1] at i1
  have i2 := hs (i + 2)
  obtain ⟨z2, y2⟩ : ∃ z, σ.1 161 (i + 2) = z := ⟨_, rfl⟩
  rw [y2] at i2
  have i3 := hs (i + 3)
  obtain ⟨z3, y3⟩ : ∃ z, σ.1 161 (i + 3) = z := ⟨_, rfl⟩
  rw [y3] at i3
  obtain ⟨σ1, σ2, e1, e2, q1, q2, g1, g2⟩ := lpair (d := 14) (as := [mI z1, mI z2, mI z3]) (v := mL (aCha a z1 z2 z3)) (a' := a) hL (by intro w hw; simp only [List.mem_cons, List.mem_nil_iff, or_false, List.not_mem_nil] at hw; rcases hw with rfl | rfl | rfl <;> trivial) h hm (X133 (d := 10) hX h i1 i2 i3) (fun σ' hm' => M207 (d := 11) hM hm' i1 i2 i3)
  refine ⟨σ2, _, ?_, q1, q2, g2⟩
  simp (disch := first | assumption | omega | (simp (disch := omega) only [wN, w0, w1]; omega)) only [e288_544, e288_545, e288_546, e288_547, e288_548, e288_549, e288_550, e288_551, e288_552, e288_553, e288_554, e288_555, e288_556, e288_557, e288_558, e288_559, e288_560, e288_563, e288_564, e288_565, e288_566, e288_567, e288_568, e288_569, e288_570, e288_571, e288_572, e288_573, e288_574, e288_575, e288_576, e288_577, e288_578, e288_579, e288_582, e288_583, e288_586, e288_587, kl_I, kl_R, kl_N, kl_L, oSm, oNn, Option.bind_some, wN, if_pos, if_neg, nS, tN, t0, w0, w1, w2, w3, w4, w5, wm1, upA_ne, upA_same, if_true, if_false, Bool.false_eq_true, k161, l161, nS, nS2, nS3, iS4, iS5, lcmp_s, e1, g1, e2, y1, y2, y3]
theorem lc_12 {i : Nat} (hL : LZS sh L) (hi : i + 6 ≤ L) (hs : ∀ j, i32 (σ.1 161 j)) (h : InvX sh σ a) (hm : InvM sh σ a) : ∃ σ' a', ev sh 15 288 588 [some (mR 161), some (mR 0), some (mR 124), some (mI (i : Int))] [] σ = ev sh 15 288 1081 [some (mR 161), some (mR 0), some (mR 124), some (mI (i : Int))] [] σ' ∧ InvX sh σ' a' ∧ InvM sh σ' a' ∧ σ'.1 161 = σ.1 161 := by
  obtain ⟨hX, hM, hcx, hcm, hN, k161, l161, L3⟩ := id hL
  have xo := hX.1
  have mo := hM.1
  have i1 := hs (i + 1)
  obtain ⟨z1, y1⟩ : ∃ z, σ.1 161 (i + 1) = z := ⟨_, rfl⟩
  rw [y1] at i1
  obtain ⟨σ1, σ2, e1, e2, q1, q2, g1, g2⟩ := lpair (d := 14) (as := [mI z1]) (v := mI (aSpr a z1)) (a' := a) hL (by intro w hw; simp only [List.mem_cons, List.mem_nil_iff, or_false, List.not_mem_nil] at hw; rcases hw with rfl <;> trivial) h hm (X134 (d := 10) hX h i1) (fun σ' hm' => M209 (d := 11) hM hm' i1)
  refine ⟨σ2, _, ?_, q1, q2, g2⟩
  simp (disch := first | assumption | omega | (simp (disch := omega) only [wN, w0, w1]; omega)) only [e288_588, e288_589, e288_590, e288_591, e288_592, e288_593, e288_594, e288_597, e288_598, e288_599, e288_600, e288_601, e288_602, e288_603, e288_606, e288_609, e288_610, kl_I, kl_R, kl_N, kl_L, oSm, oNn, Option.bind_some, wN, if_pos, if_neg, nS, tN, t0, w0, w1, w2, w3, w4, w5, wm1, upA_ne, upA_same, if_true, if_false, Bool.false_eq_true, k161, l161, nS, nS2, nS3, iS4, iS5, lcmp_s, e1, g1, e2, y1]
theorem lc_13 {i : Nat} (hL : LZS sh L) (hi : i + 6 ≤ L) (hs : ∀ j, i32 (σ.1 161 j)) (h : InvX sh σ a) (hm : InvM sh σ a) : ∃ σ' a', ev sh 15 288 611 [some (mR 161), some (mR 0), some (mR 124), some (mI (i : Int))] [] σ = ev sh 15 288 1081 [some (mR 161), some (mR 0), some (mR 124), some (mI (i : Int))] [] σ' ∧ InvX sh σ' a' ∧ InvM sh σ' a' ∧ σ'.1 161 = σ.1 161 := by
  obtain ⟨hX, hM, hcx, hcm, hN, k161, l161, L3⟩ := id hL
  have xo := hX.1
  have mo := hM.1
  obtain ⟨σ1, σ2, e1, e2, q1, q2, g1, g2⟩ := lpair (d := 14) (as := []) (v := mI (aShorter a).1) (a' := (aShorter a).2) hL (by intro w hw; simp only [List.mem_cons, List.mem_nil_iff, or_false, List.not_mem_nil] at hw; first | exact hw.elim | skip) h hm (X129 (d := 8) hX h) (fun σ' hm' => M221 (d := 9) hM hm')
  refine ⟨σ2, _, ?_, q1, q2, g2⟩
  replace e1 : run sh 14 129 [mR 0] σ = _ := e1
  replace e2 : run sh 14 221 [mR 124] σ1 = _ := e2
  simp (disch := first | assumption | omega | (simp (disch := omega) only [wN, w0, w1]; omega)) only [e288_611, e288_612, e288_615, e288_616, e288_619, e288_622, e288_623, kl_I, kl_R, kl_N, kl_L, oSm, oNn, Option.bind_some, wN, if_pos, if_neg, nS, tN, t0, w0, w1, w2, w3, w4, w5, wm1, upA_ne, upA_same, if_true, if_false, Bool.false_eq_true, k161, l161, nS, nS2, nS3, iS4, iS5, lcmp_s, e1, g1, e2]
theorem lc_14 {i : Nat} (hL : LZS sh L) (hi : i + 6 ≤ L) (hs : ∀ j, i32 (σ.1 161 j)) (h : InvX sh σ a) (hm : InvM sh σ a) : ∃ σ' a', ev sh 15 288 624 [some (mR 161), some (mR 0), some (mR 124), some (mI (i : Int))] [] σ = ev sh 15 288 1081 [some (mR 161), some (mR 0), some (mR 124), some (mI (i : Int))] [] σ' ∧ InvX sh σ' a' ∧ InvM sh σ' a' ∧ σ'.1 161 = σ.1 161 := by
  obtain ⟨hX, hM, hcx, hcm, hN, k161, l161, L3⟩ := id hL
  have xo := hX.1
  have mo := hM.1
  obtain ⟨σ1, σ2, e1, e2, q1, q2, g1, g2⟩ := lpair (d := 14) (as := []) (v := mI (aShortest a).1) (a' := (aShortest a).2) hL (by intro w hw; simp only [List.mem_cons, List.mem_nil_iff, or_false, List.not_mem_nil] at hw; first | exact hw.elim | skip) h hm (X130 (d := 8) hX h) (fun σ' hm' => M222 (d := 8) hM hm')
  refine ⟨σ2, _, ?_, q1, q2, g2⟩
  replace e1 : run sh 14 130 [mR 0] σ = _ := e1
  replace e2 : run sh 14 222 [mR 124] σ1 = _ := e2
  simp (disch := first | assumption | omega | (simp (disch := omega) only [wN, w0, w1]; omega)) only [e288_624, e288_625, e288_628, e288_629, e288_632, e288_635, e288_636, kl_I, kl_R, kl_N, kl_L, oSm, oNn, Option.bind_some, wN, if_pos, if_neg, nS, tN, t0, w0, w1, w2, w3, w4, w5, wm1, upA_ne, upA_same, if_true, if_false, Bool.false_eq_true, k161, l161, nS, nS2, nS3, iS4, iS5, lcmp_s, e1, g1, e2]
theorem lc_15 {i : Nat} (hL : LZS sh L) (hi : i + 6 ≤ L) (hs : ∀ j, i32 (σ.1 161 j)) (h : InvX sh σ a) (hm : InvM sh σ a) : ∃ σ' a', ev sh 15 288 637 [some (mR 161), some (mR 0), some (mR 124), some (mI (i : Int))] [] σ = ev sh 15 288 1081 [some (mR 161), some (mR 0), some (mR 124), some (mI (i : Int))] [] σ' ∧ InvX sh σ' a' ∧ InvM sh σ' a' ∧ σ'.1 161 = σ.1 161 := by
  obtain ⟨hX, hM, hcx, hcm, hN, k161, l161, L3⟩ := id hL
  have xo := hX.1
  have mo := hM.1
  have i1 := hs (i + 1)
  obtain ⟨z1, y1⟩ : ∃ z, σ.1 161 (i + 1) = z := ⟨_, rfl⟩
  rw [y1] at i1
  obtain ⟨σ1, σ2, e1, e2, q1, q2, g1, g2⟩ := lpair (d := 14) (as := [mI z1]) (v := mI (aSame a z1)) (a' := a) hL (by intro w hw; simp only [List.mem_cons, List.mem_nil_iff, or_false, List.not_mem_nil] at hw; rcases hw with rfl <;> trivial) h hm (X135 (d := 8) hX h i1) (fun σ' hm' => M231 (d := 9) hM hm' i1)
  refine ⟨σ2, _, ?_, q1, q2, g2⟩
  simp (disch := first | assumption | omega | (simp (disch := omega) only [wN, w0, w1]; omega)) only [e288_637, e288_638, e288_639, e288_640, e288_641, e288_642, e288_643, e288_646, e288_647, e288_648, e288_649, e288_650, e288_651, e288_652, e288_655, e288_658, e288_659, kl_I, kl_R, kl_N, kl_L, oSm, oNn, Option.bind_some, wN, if_pos, if_neg, nS, tN, t0, w0, w1, w2, w3, w4, w5, wm1, upA_ne, upA_same, if_true, if_false, Bool.false_eq_true, k161, l161, nS, nS2, nS3, iS4, iS5, lcmp_s, e1, g1, e2, y1]
theorem lc_16 {i : Nat} (hL : LZS sh L) (hi : i + 6 ≤ L) (hs : ∀ j, i32 (σ.1 161 j)) (h : InvX sh σ a) (hm : InvM sh σ a) : ∃ σ' a', ev sh 15 288 660 [some (mR 161), some (mR 0), some (mR 124), some (mI (i : Int))] [] σ = ev sh 15 288 1081 [some (mR 161), some (mR 0), some (mR 124), some (mI (i : Int))] [] σ' ∧ InvX sh σ' a' ∧ InvM sh σ' a' ∧ σ'.1 161 = σ.1 161 := by
  obtain ⟨hX, hM, hcx, hcm, hN, k161, l161, L3⟩ := id hL
  have xo := hX.1
  have mo := hM.1
  have i1 := hs (i + 1)
  obtain ⟨z1, y1⟩ : ∃ z, σ.1 161 (i + 1) = z := ⟨_, rfl⟩
  rw [y1] at i1
  obtain ⟨σ1, σ2, e1, e2, q1, q2, g1, g2⟩ := lpair (d := 14) (as := [mI z1]) (v := mI (aBIs a z1)) (a' := a) hL (by intro w hw; simp only [List.mem_cons, List.mem_nil_iff, or_false, List.not_mem_nil] at hw; rcases hw with rfl <;> trivial) h hm (End.of (X140 (d := 10) hX h i1) ⟨rfl, h⟩) (fun σ' hm' => M235 (d := 12) hM hm' i1)
  refine ⟨σ2, _, ?_, q1, q2, g2⟩
  simp (disch := first | assumption | omega | (simp (disch := omega) only [wN, w0, w1]; omega)) only [e288_660, e288_661, e288_662, e288_663, e288_664, e288_665, e288_666, e288_669, e288_670, e288_671, e288_672, e288_673, e288_674, e288_675, e288_678, e288_681, e288_682, kl_I, kl_R, kl_N, kl_L, oSm, oNn, Option.bind_some, wN, if_pos, if_neg, nS, tN, t0, w0, w1, w2, w3, w4, w5, wm1, upA_ne, upA_same, if_true, if_false, Bool.false_eq_true, k161, l161, nS, nS2, nS3, iS4, iS5, lcmp_s, e1, g1, e2, y1]
theorem lc_17 {i : Nat} (hL : LZS sh L) (hi : i + 6 ≤ L) (hs : ∀ j, i32 (σ.1 161 j)) (h : InvX sh σ a) (hm : InvM sh σ a) : ∃ σ' a', ev sh 15 288 683 [some (mR 161), some (mR 0), some (mR 124), some (mI (i : Int))] [] σ = ev sh 15 288 1081 [some (mR 161), some (mR 0), some (mR 124), some (mI (i : Int))] [] σ' ∧ InvX sh σ' a' ∧ InvM sh σ' a' ∧ σ'.1 161 = σ.1 161 := by
  obtain ⟨hX, hM, hcx, hcm, hN, k161, l161, L3⟩ := id hL
  have xo := hX.1
  have mo := hM.1
  have i1 := hs (i + 1)
  obtain ⟨z1, y1⟩ : ∃ z, σ.1 161 (i + 1) = z := ⟨_, rfl⟩
  rw [y1] at i1
  have i2 := hs (i + 2)
  obtain ⟨z2, y2⟩ : ∃ z, σ.1 161 (i + 2) = z := ⟨_, rfl⟩
  rw [y2] at i2
  obtain ⟨σ1, σ2, e1, e2, q1, q2, g1, g2⟩ := lpair (d := 14) (as := [mI z1, mI z2]) (v := mI (aFar a z1 z2)) (a' := a) hL (by intro w hw; simp only [List.mem_cons, List.mem_nil_iff, or_false, List.not_mem_nil] at hw; rcases hw with rfl | rfl <;> trivial) h hm (End.of (X141 (d := 12) hX h i1 i2) ⟨rfl, h⟩) (fun σ' hm' => M236 (d := 12) hM hm' i1 i2)
  refine ⟨σ2, _, ?_, q1, q2, g2⟩
  simp (disch := first | assumption | omega | (simp (disch := omega) only [wN, w0, w1]; omega)) only [e288_683, e288_684, e288_685, e288_686, e288_687, e288_688, e288_689, e288_690, e288_691, e288_692, e288_693, e288_694, e288_697, e288_698, e288_699, e288_700, e288_701, e288_702, e288_703, e288_704, e288_705, e288_706, e288_707, e288_708, e288_711, e288_714, e288_715, kl_I, kl_R, kl_N, kl_L, oSm, oNn, Option.bind_some, wN, if_pos, if_neg, nS, tN, t0, w0, w1, w2, w3, w4, w5, wm1, upA_ne, upA_same, if_true, if_false, Bool.false_eq_true, k161, l161, nS, nS2, nS3, iS4, iS5, lcmp_s, e1, g1, e2, y1, y2]
theorem lc_18 {i : Nat} (hL : LZS sh L) (hi : i + 6 ≤ L) (hs : ∀ j, i32 (σ.1 161 j)) (h : InvX sh σ a) (hm : InvM sh σ a) : ∃ σ' a', ev sh 15 288 716 [some (mR 161), some (mR 0), some (mR 124), some (mI (i : Int))] [] σ = ev sh 15 288 1081 [some (mR 161), some (mR 0), some (mR 124), some (mI (i : Int))] [] σ' ∧ InvX sh σ' a' ∧ InvM sh σ' a' ∧ σ'.1 161 = σ.1 161 := by
  obtain ⟨hX, hM, hcx, hcm, hN, k161, l161, L3⟩ := id hL
  have xo := hX.1
  have mo := hM.1
  have i1 := hs (i + 1)
  obtain ⟨z1, y1⟩ : ∃ z, σ.1 161 (i + 1) = z := ⟨_, rfl⟩
  rw [y1] at i1
  obtain ⟨σ1, σ2, e1, e2, q1, q2, g1, g2⟩ := lpair (d := 14) (as := [mI z1]) (v := mI (aLay a z1)) (a' := a) hL (by intro w hw; simp only [List.mem_cons, List.mem_nil_iff, or_false, List.not_mem_nil] at hw; rcases hw with rfl <;> trivial) h hm (End.of (X144 (d := 9) hX h i1) ⟨rfl, h⟩) (fun σ' hm' => M241 (d := 11) hM hm' i1)
  refine ⟨σ2, _, ?_, q1, q2, g2⟩
  simp (disch := first | assumption | omega | (simp (disch := omega) only [wN, w0, w1]; omega)) only [e288_716, e288_717, e288_718, e288_719, e288_720, e288_721, e288_722, e288_725, e288_726, e288_727, e288_728, e288_729, e288_730, e288_731, e288_734, e288_737, e288_738, kl_I, kl_R, kl_N, kl_L, oSm, oNn, Option.bind_some, wN, if_pos, if_neg, nS, tN, t0, w0, w1, w2, w3, w4, w5, wm1, upA_ne, upA_same, if_true, if_false, Bool.false_eq_true, k161, l161, nS, nS2, nS3, iS4, iS5, lcmp_s, e1, g1, e2, y1]
theorem lc_19 {i : Nat} (hL : LZS sh L) (hi : i + 6 ≤ L) (hs : ∀ j, i32 (σ.1 161 j)) (h : InvX sh σ a) (hm : InvM sh σ a) : ∃ σ' a', ev sh 15 288 739 [some (mR 161), some (mR 0), some (mR 124), some (mI (i : Int))] [] σ = ev sh 15 288 1081 [some (mR 161), some (mR 0), some (mR 124), some (mI (i : Int))] [] σ' ∧ InvX sh σ' a' ∧ InvM sh σ' a' ∧ σ'.1 161 = σ.1 161 := by
  obtain ⟨hX, hM, hcx, hcm, hN, k161, l161, L3⟩ := id hL
  have xo := hX.1
  have mo := hM.1
  have i1 := hs (i + 1)
  obtain ⟨z1, y1⟩ : ∃ z, σ.1 161 (i + 1) = z := ⟨_, rfl⟩
  rw [y1] at i1
  obtain ⟨σ1, σ2, e1, e2, q1, q2, g1, g2⟩ := lpair (d := 14) (as := [mI z1]) (v := mI (aGood a z1)) (a' := a) hL (by intro w hw; simp only [List.mem_cons, List.mem_nil_iff, or_false, List.not_mem_nil] at hw; rcases hw with rfl <;> trivial) h hm (X145 (d := 9) hX h i1) (fun σ' hm' => M243 (d := 11) hM hm' i1)
  refine ⟨σ2, _, ?_, q1, q2, g2⟩
  simp (disch := first | assumption | omega | (simp (disch := omega) only [wN, w0, w1]; omega)) only [e288_739, e288_740, e288_741, e288_742, e288_743, e288_744, e288_745, e288_748, e288_749, e288_750, e288_751, e288_752, e288_753, e288_754, e288_757, e288_760, e288_761, kl_I, kl_R, kl_N, kl_L, oSm, oNn, Option.bind_some, wN, if_pos, if_neg, nS, tN, t0, w0, w1, w2, w3, w4, w5, wm1, upA_ne, upA_same, if_true, if_false, Bool.false_eq_true, k161, l161, nS, nS2, nS3, iS4, iS5, lcmp_s, e1, g1, e2, y1]
theorem lc_20 {i : Nat} (hL : LZS sh L) (hi : i + 6 ≤ L) (hs : ∀ j, i32 (σ.1 161 j)) (h : InvX sh σ a) (hm : InvM sh σ a) : ∃ σ' a', ev sh 15 288 762 [some (mR 161), some (mR 0), some (mR 124), some (mI (i : Int))] [] σ = ev sh 15 288 1081 [some (mR 161), some (mR 0), some (mR 124), some (mI (i : Int))] [] σ' ∧ InvX sh σ' a' ∧ InvM sh σ' a' ∧ σ'.1 161 = σ.1 161 := by
  obtain ⟨hX, hM, hcx, hcm, hN, k161, l161, L3⟩ := id hL
  have xo := hX.1
  have mo := hM.1
  have i1 := hs (i + 1)
  obtain ⟨z1, y1⟩ : ∃ z, σ.1 161 (i + 1) = z := ⟨_, rfl⟩
  rw [y1] at i1
  have i2 := hs (i + 2)
  obtain ⟨z2, y2⟩ : ∃ z, σ.1 161 (i + 2) = z := ⟨_, rfl⟩
  rw [y2] at i2
  obtain ⟨σ1, σ2, e1, e2, q1, q2, g1, g2⟩ := lpair (d := 14) (as := [mI z1, mI z2]) (v := mI (aRoute a z1 z2)) (a' := a) hL (by intro w hw; simp only [List.mem_cons, List.mem_nil_iff, or_false, List.not_mem_nil] at hw; rcases hw with rfl | rfl <;> trivial) h hm (X150 (d := 7) hX h i1 i2) (fun σ' hm' => M260 (d := 7) hM hm' i1 i2)
  refine ⟨σ2, _, ?_, q1, q2, g2⟩
  simp (disch := first | assumption | omega | (simp (disch := omega) only [wN, w0, w1]; omega)) only [e288_762, e288_763, e288_764, e288_765, e288_766, e288_767, e288_768, e288_769, e288_770, e288_771, e288_772, e288_773, e288_776, e288_777, e288_778, e288_779, e288_780, e288_781, e288_782, e288_783, e288_784, e288_785, e288_786, e288_787, e288_790, e288_793, e288_794, kl_I, kl_R, kl_N, kl_L, oSm, oNn, Option.bind_some, wN, if_pos, if_neg, nS, tN, t0, w0, w1, w2, w3, w4, w5, wm1, upA_ne, upA_same, if_true, if_false, Bool.false_eq_true, k161, l161, nS, nS2, nS3, iS4, iS5, lcmp_s, e1, g1, e2, y1, y2]
theorem lc_21 {i : Nat} (hL : LZS sh L) (hi : i + 6 ≤ L) (hs : ∀ j, i32 (σ.1 161 j)) (h : InvX sh σ a) (hm : InvM sh σ a) : ∃ σ' a', ev sh 15 288 795 [some (mR 161), some (mR 0), some (mR 124), some (mI (i : Int))] [] σ = ev sh 15 288 1081 [some (mR 161), some (mR 0), some (mR 124), some (mI (i : Int))] [] σ' ∧ InvX sh σ' a' ∧ InvM sh σ' a' ∧ σ'.1 161 = σ.1 161 := by
  obtain ⟨hX, hM, hcx, hcm, hN, k161, l161, L3⟩ := id hL
  have xo := hX.1
  have mo := hM.1
  have i1 := hs (i + 1)
  obtain ⟨z1, y1⟩ : ∃ z, σ.1 161 (i + 1) = z := ⟨_, rfl⟩
  rw [y1] at i1
  have i2 := hs (i + 2)
  obtain ⟨z2, y2⟩ : ∃ z, σ.1 161 (i + 2) = z := ⟨_, rfl⟩
  rw [y2] at i2
  have i3 := hs (i + 3)
  obtain ⟨z3, y3⟩ : ∃ z, σ.1 161 (i + 3) = z := ⟨_, rfl⟩
  rw [y3] at i3
  obtain ⟨σ1, σ2, e1, e2, q1, q2, g1, g2⟩ := lpair (d := 14) (as := [mI z1, mI z2, mI z3]) (v := mI (aRouted a z1 z2 z3)) (a' := a) hL (by intro w hw; simp only [List.mem_cons, List.mem_nil_iff, or_false, List.not_mem_nil] at hw; rcases hw with rfl | rfl | rfl <;> trivial) h hm (X151 (d := 7) hX h i1 i2 i3) (fun σ' hm' => M261 (d := 7) hM hm' i1 i2 i3)
  refine ⟨σ2, _, ?_, q1, q2, g2⟩
  simp (disch := first | assumption | omega | (simp (disch := omega) only [wN, w0, w1]; omega)) only [e288_795, e288_796, e288_797, e288_798, e288_799, e288_800, e288_801, e288_802, e288_803, e288_804, e288_805, e288_806, e288_807, e288_808, e288_809, e288_810, e288_811, e288_814, e288_815, e288_816, e288_817, e288_818, e288_819, e288_820, e288_821, e288_822, e288_823, e288_824, e288_825, e288_826, e288_827, e288_828, e288_829, e288_830, e288_833, e288_836, e288_837, kl_I, kl_R, kl_N, kl_L, oSm, oNn, Option.bind_some, wN, if_pos, if_neg, nS, tN, t0, w0, w1, w2, w3, w4, w5, wm1, upA_ne, upA_same, if_true, if_false, Bool.false_eq_true, k161, l161, nS, nS2, nS3, iS4, iS5, lcmp_s, e1, g1, e2, y1, y2, y3]
theorem lc_22 {i : Nat} (hL : LZS sh L) (hi : i + 6 ≤ L) (hs : ∀ j, i32 (σ.1 161 j)) (h : InvX sh σ a) (hm : InvM sh σ a) : ∃ σ' a', ev sh 15 288 838 [some (mR 161), some (mR 0), some (mR 124), some (mI (i : Int))] [] σ = ev sh 15 288 1081 [some (mR 161), some (mR 0), some (mR 124), some (mI (i : Int))] [] σ' ∧ InvX sh σ' a' ∧ InvM sh σ' a' ∧ σ'.1 161 = σ.1 161 := by
  obtain ⟨hX, hM, hcx, hcm, hN, k161, l161, L3⟩ := id hL
  have xo := hX.1
  have mo := hM.1
  obtain ⟨σ1, σ2, e1, e2, q1, q2, g1, g2⟩ := lpair (d := 14) (as := []) (v := mI (aFewest a)) (a' := a) hL (by intro w hw; simp only [List.mem_cons, List.mem_nil_iff, or_false, List.not_mem_nil] at hw; first | exact hw.elim | skip) h hm (X153 (d := 0) hX h) (fun σ' hm' => M270 (d := 6) hM hm')
  refine ⟨σ2, _, ?_, q1, q2, g2⟩
  replace e1 : run sh 14 153 [mR 0] σ = _ := e1
  replace e2 : run sh 14 270 [mR 124] σ1 = _ := e2
  simp (disch := first | assumption | omega | (simp (disch := omega) only [wN, w0, w1]; omega)) only [e288_838, e288_839, e288_842, e288_843, e288_846, e288_849, e288_850, kl_I, kl_R, kl_N, kl_L, oSm, oNn, Option.bind_some, wN, if_pos, if_neg, nS, tN, t0, w0, w1, w2, w3, w4, w5, wm1, upA_ne, upA_same, if_true, if_false, Bool.false_eq_true, k161, l161, nS, nS2, nS3, iS4, iS5, lcmp_s, e1, g1, e2]
theorem lc_23 {i : Nat} (hL : LZS sh L) (hi : i + 6 ≤ L) (hs : ∀ j, i32 (σ.1 161 j)) (h : InvX sh σ a) (hm : InvM sh σ a) : ∃ σ' a', ev sh 15 288 851 [some (mR 161), some (mR 0), some (mR 124), some (mI (i : Int))] [] σ = ev sh 15 288 1081 [some (mR 161), some (mR 0), some (mR 124), some (mI (i : Int))] [] σ' ∧ InvX sh σ' a' ∧ InvM sh σ' a' ∧ σ'.1 161 = σ.1 161 := by
  obtain ⟨hX, hM, hcx, hcm, hN, k161, l161, L3⟩ := id hL
  have xo := hX.1
  have mo := hM.1
  have i1 := hs (i + 1)
  obtain ⟨z1, y1⟩ : ∃ z, σ.1 161 (i + 1) = z := ⟨_, rfl⟩
  rw [y1] at i1
  obtain ⟨σ1, σ2, e1, e2, q1, q2, g1, g2⟩ := lpair (d := 14) (as := [mI z1]) (v := mI (aFewOf a z1)) (a' := a) hL (by intro w hw; simp only [List.mem_cons, List.mem_nil_iff, or_false, List.not_mem_nil] at hw; rcases hw with rfl <;> trivial) h hm (X154 (d := 0) hX h i1) (fun σ' hm' => M272 (d := 6) hM hm' i1)
  refine ⟨σ2, _, ?_, q1, q2, g2⟩
  simp (disch := first | assumption | omega | (simp (disch := omega) only [wN, w0, w1]; omega)) only [e288_851, e288_852, e288_853, e288_854, e288_855, e288_856, e288_857, e288_860, e288_861, e288_862, e288_863, e288_864, e288_865, e288_866, e288_869, e288_872, e288_873, kl_I, kl_R, kl_N, kl_L, oSm, oNn, Option.bind_some, wN, if_pos, if_neg, nS, tN, t0, w0, w1, w2, w3, w4, w5, wm1, upA_ne, upA_same, if_true, if_false, Bool.false_eq_true, k161, l161, nS, nS2, nS3, iS4, iS5, lcmp_s, e1, g1, e2, y1]
theorem lc_24 {i : Nat} (hL : LZS sh L) (hi : i + 6 ≤ L) (hs : ∀ j, i32 (σ.1 161 j)) (h : InvX sh σ a) (hm : InvM sh σ a) : ∃ σ' a', ev sh 15 288 874 [some (mR 161), some (mR 0), some (mR 124), some (mI (i : Int))] [] σ = ev sh 15 288 1081 [some (mR 161), some (mR 0), some (mR 124), some (mI (i : Int))] [] σ' ∧ InvX sh σ' a' ∧ InvM sh σ' a' ∧ σ'.1 161 = σ.1 161 := by
  obtain ⟨hX, hM, hcx, hcm, hN, k161, l161, L3⟩ := id hL
  have xo := hX.1
  have mo := hM.1
  have i1 := hs (i + 1)
  obtain ⟨z1, y1⟩ : ∃ z, σ.1 161 (i + 1) = z := ⟨_, rfl⟩
  rw [y1] at i1
  have i2 := hs (i + 2)
  obtain ⟨z2, y2⟩ : ∃ z, σ.1 161 (i + 2) = z := ⟨_, rfl⟩
  rw [y2] at i2
  obtain ⟨σ1, σ2, e1, e2, q1, q2, g1, g2⟩ := lpair (d := 14) (as := [mI z1, mI z2]) (v := mI (aSpend a z1 z2).1) (a' := (aSpend a z1 z2).2) hL (by intro w hw; simp only [List.mem_cons, List.mem_nil_iff, or_false, List.not_mem_nil] at hw; rcases hw with rfl | rfl <;> trivial) h hm (X157 (d := 13) hX h i1 i2) (fun σ' hm' => M273 (d := 13) hM hm' i1 i2)
  refine ⟨σ2, _, ?_, q1, q2, g2⟩
  simp (disch := first | assumption | omega | (simp (disch := omega) only [wN, w0, w1]; omega)) only [e288_874, e288_875, e288_876, e288_877, e288_878, e288_879, e288_880, e288_881, e288_882, e288_883, e288_884, e288_885, e288_888, e288_889, e288_890, e288_891, e288_892, e288_893, e288_894, e288_895, e288_896, e288_897, e288_898, e288_899, e288_902, e288_905, e288_906, kl_I, kl_R, kl_N, kl_L, oSm, oNn, Option.bind_some, wN, if_pos, if_neg, nS, tN, t0, w0, w1, w2, w3, w4, w5, wm1, upA_ne, upA_same, if_true, if_false, Bool.false_eq_true, k161, l161, nS, nS2, nS3, iS4, iS5, lcmp_s, e1, g1, e2, y1, y2]
theorem lc_25 {i : Nat} (hL : LZS sh L) (hi : i + 6 ≤ L) (hs : ∀ j, i32 (σ.1 161 j)) (h : InvX sh σ a) (hm : InvM sh σ a) : ∃ σ' a', ev sh 15 288 907 [some (mR 161), some (mR 0), some (mR 124), some (mI (i : Int))] [] σ = ev sh 15 288 1081 [some (mR 161), some (mR 0), some (mR 124), some (mI (i : Int))] [] σ' ∧ InvX sh σ' a' ∧ InvM sh σ' a' ∧ σ'.1 161 = σ.1 161 := by
  obtain ⟨hX, hM, hcx, hcm, hN, k161, l161, L3⟩ := id hL
  have xo := hX.1
  have mo := hM.1
  have i1 := hs (i + 1)
  obtain ⟨z1, y1⟩ : ∃ z, σ.1 161 (i + 1) = z := ⟨_, rfl⟩
  rw [y1] at i1
  have i2 := hs (i + 2)
  obtain ⟨z2, y2⟩ : ∃ z, σ.1 161 (i + 2) = z := ⟨_, rfl⟩
  rw [y2] at i2
  obtain ⟨σ1, σ2, e1, e2, q1, q2, g1, g2⟩ := lpair (d := 14) (as := [mI z1, mI z2]) (v := mI (aLasts a z1 z2)) (a' := a) hL (by intro w hw; simp only [List.mem_cons, List.mem_nil_iff, or_false, List.not_mem_nil] at hw; rcases hw with rfl | rfl <;> trivial) h hm (X158 (d := 7) hX h i1 i2) (fun σ' hm' => M276 (d := 7) hM hm' i1 i2)
  refine ⟨σ2, _, ?_, q1, q2, g2⟩
  simp (disch := first | assumption | omega | (simp (disch := omega) only [wN, w0, w1]; omega)) only [e288_907, e288_908, e288_909, e288_910, e288_911, e288_912, e288_913, e288_914, e288_915, e288_916, e288_917, e288_918, e288_921, e288_922, e288_923, e288_924, e288_925, e288_926, e288_927, e288_928, e288_929, e288_930, e288_931, e288_932, e288_935, e288_938, e288_939, kl_I, kl_R, kl_N, kl_L, oSm, oNn, Option.bind_some, wN, if_pos, if_neg, nS, tN, t0, w0, w1, w2, w3, w4, w5, wm1, upA_ne, upA_same, if_true, if_false, Bool.false_eq_true, k161, l161, nS, nS2, nS3, iS4, iS5, lcmp_s, e1, g1, e2, y1, y2]
theorem lc_26 {i : Nat} (hL : LZS sh L) (hi : i + 6 ≤ L) (hs : ∀ j, i32 (σ.1 161 j)) (h : InvX sh σ a) (hm : InvM sh σ a) : ∃ σ' a', ev sh 15 288 940 [some (mR 161), some (mR 0), some (mR 124), some (mI (i : Int))] [] σ = ev sh 15 288 1081 [some (mR 161), some (mR 0), some (mR 124), some (mI (i : Int))] [] σ' ∧ InvX sh σ' a' ∧ InvM sh σ' a' ∧ σ'.1 161 = σ.1 161 := by
  obtain ⟨hX, hM, hcx, hcm, hN, k161, l161, L3⟩ := id hL
  have xo := hX.1
  have mo := hM.1
  have i1 := hs (i + 1)
  obtain ⟨z1, y1⟩ : ∃ z, σ.1 161 (i + 1) = z := ⟨_, rfl⟩
  rw [y1] at i1
  obtain ⟨σ1, σ2, e1, e2, q1, q2, g1, g2⟩ := lpair (d := 14) (as := [mI z1]) (v := mI (aUrgent a z1)) (a' := a) hL (by intro w hw; simp only [List.mem_cons, List.mem_nil_iff, or_false, List.not_mem_nil] at hw; rcases hw with rfl <;> trivial) h hm (X159 (d := 8) hX h i1) (fun σ' hm' => M277 (d := 9) hM hm' i1)
  refine ⟨σ2, _, ?_, q1, q2, g2⟩
  simp (disch := first | assumption | omega | (simp (disch := omega) only [wN, w0, w1]; omega)) only [e288_940, e288_941, e288_942, e288_943, e288_944, e288_945, e288_946, e288_949, e288_950, e288_951, e288_952, e288_953, e288_954, e288_955, e288_958, e288_961, e288_962, kl_I, kl_R, kl_N, kl_L, oSm, oNn, Option.bind_some, wN, if_pos, if_neg, nS, tN, t0, w0, w1, w2, w3, w4, w5, wm1, upA_ne, upA_same, if_true, if_false, Bool.false_eq_true, k161, l161, nS, nS2, nS3, iS4, iS5, lcmp_s, e1, g1, e2, y1]
theorem lc_27 {i : Nat} (hL : LZS sh L) (hi : i + 6 ≤ L) (hs : ∀ j, i32 (σ.1 161 j)) (h : InvX sh σ a) (hm : InvM sh σ a) : ∃ σ' a', ev sh 15 288 963 [some (mR 161), some (mR 0), some (mR 124), some (mI (i : Int))] [] σ = ev sh 15 288 1081 [some (mR 161), some (mR 0), some (mR 124), some (mI (i : Int))] [] σ' ∧ InvX sh σ' a' ∧ InvM sh σ' a' ∧ σ'.1 161 = σ.1 161 := by
  obtain ⟨hX, hM, hcx, hcm, hN, k161, l161, L3⟩ := id hL
  have xo := hX.1
  have mo := hM.1
  have i1 := hs (i + 1)
  obtain ⟨z1, y1⟩ : ∃ z, σ.1 161 (i + 1) = z := ⟨_, rfl⟩
  rw [y1] at i1
  obtain ⟨σ1, σ2, e1, e2, q1, q2, g1, g2⟩ := lpair (d := 14) (as := [mI z1]) (v := mI (aBest a z1)) (a' := a) hL (by intro w hw; simp only [List.mem_cons, List.mem_nil_iff, or_false, List.not_mem_nil] at hw; rcases hw with rfl <;> trivial) h hm (X152 (d := 7) hX h i1) (fun σ' hm' => M262 (d := 7) hM hm' i1)
  refine ⟨σ2, _, ?_, q1, q2, g2⟩
  simp (disch := first | assumption | omega | (simp (disch := omega) only [wN, w0, w1]; omega)) only [e288_963, e288_964, e288_965, e288_966, e288_967, e288_968, e288_969, e288_972, e288_973, e288_974, e288_975, e288_976, e288_977, e288_978, e288_981, e288_984, e288_985, kl_I, kl_R, kl_N, kl_L, oSm, oNn, Option.bind_some, wN, if_pos, if_neg, nS, tN, t0, w0, w1, w2, w3, w4, w5, wm1, upA_ne, upA_same, if_true, if_false, Bool.false_eq_true, k161, l161, nS, nS2, nS3, iS4, iS5, lcmp_s, e1, g1, e2, y1]
theorem lc_28 {i : Nat} (hL : LZS sh L) (hi : i + 6 ≤ L) (hs : ∀ j, i32 (σ.1 161 j)) (h : InvX sh σ a) (hm : InvM sh σ a) : ∃ σ' a', ev sh 15 288 986 [some (mR 161), some (mR 0), some (mR 124), some (mI (i : Int))] [] σ = ev sh 15 288 1081 [some (mR 161), some (mR 0), some (mR 124), some (mI (i : Int))] [] σ' ∧ InvX sh σ' a' ∧ InvM sh σ' a' ∧ σ'.1 161 = σ.1 161 := by
  obtain ⟨hX, hM, hcx, hcm, hN, k161, l161, L3⟩ := id hL
  have xo := hX.1
  have mo := hM.1
  have i1 := hs (i + 1)
  obtain ⟨z1, y1⟩ : ∃ z, σ.1 161 (i + 1) = z := ⟨_, rfl⟩
  rw [y1] at i1
  obtain ⟨σ1, σ2, e1, e2, q1, q2, g1, g2⟩ := lpair (d := 14) (as := [mI z1]) (v := mI (aSeed a z1).1) (a' := (aSeed a z1).2) hL (by intro w hw; simp only [List.mem_cons, List.mem_nil_iff, or_false, List.not_mem_nil] at hw; rcases hw with rfl <;> trivial) h hm (X124 (d := 13) hX h i1) (fun σ' hm' => M278 (d := 13) hM hm' i1)
  refine ⟨σ2, _, ?_, q1, q2, g2⟩
  simp (disch := first | assumption | omega | (simp (disch := omega) only [wN, w0, w1]; omega)) only [e288_986, e288_987, e288_988, e288_989, e288_990, e288_991, e288_992, e288_995, e288_996, e288_997, e288_998, e288_999, e288_1000, e288_1001, e288_1004, e288_1007, e288_1008, kl_I, kl_R, kl_N, kl_L, oSm, oNn, Option.bind_some, wN, if_pos, if_neg, nS, tN, t0, w0, w1, w2, w3, w4, w5, wm1, upA_ne, upA_same, if_true, if_false, Bool.false_eq_true, k161, l161, nS, nS2, nS3, iS4, iS5, lcmp_s, e1, g1, e2, y1]
theorem lc_29 {i : Nat} (hL : LZS sh L) (hi : i + 6 ≤ L) (hs : ∀ j, i32 (σ.1 161 j)) (h : InvX sh σ a) (hm : InvM sh σ a) : ∃ σ' a', ev sh 15 288 1009 [some (mR 161), some (mR 0), some (mR 124), some (mI (i : Int))] [] σ = ev sh 15 288 1081 [some (mR 161), some (mR 0), some (mR 124), some (mI (i : Int))] [] σ' ∧ InvX sh σ' a' ∧ InvM sh σ' a' ∧ σ'.1 161 = σ.1 161 := by
  obtain ⟨hX, hM, hcx, hcm, hN, k161, l161, L3⟩ := id hL
  have xo := hX.1
  have mo := hM.1
  obtain ⟨σ1, σ2, e1, e2, q1, q2, g1, g2⟩ := lpair (d := 14) (as := []) (v := mI (aKeep a).1) (a' := (aKeep a).2) hL (by intro w hw; simp only [List.mem_cons, List.mem_nil_iff, or_false, List.not_mem_nil] at hw; first | exact hw.elim | skip) h hm (X160 (d := 9) hX h) (fun σ' hm' => M279 (d := 13) hM hm')
  refine ⟨σ2, _, ?_, q1, q2, g2⟩
  replace e1 : run sh 14 160 [mR 0] σ = _ := e1
  replace e2 : run sh 14 279 [mR 124] σ1 = _ := e2
  simp (disch := first | assumption | omega | (simp (disch := omega) only [wN, w0, w1]; omega)) only [e288_1009, e288_1010, e288_1013, e288_1014, e288_1017, e288_1020, e288_1021, kl_I, kl_R, kl_N, kl_L, oSm, oNn, Option.bind_some, wN, if_pos, if_neg, nS, tN, t0, w0, w1, w2, w3, w4, w5, wm1, upA_ne, upA_same, if_true, if_false, Bool.false_eq_true, k161, l161, nS, nS2, nS3, iS4, iS5, lcmp_s, e1, g1, e2]
theorem lc_30 {i : Nat} (hL : LZS sh L) (hi : i + 6 ≤ L) (hs : ∀ j, i32 (σ.1 161 j)) (h : InvX sh σ a) (hm : InvM sh σ a) : ∃ σ' a', ev sh 15 288 1022 [some (mR 161), some (mR 0), some (mR 124), some (mI (i : Int))] [] σ = ev sh 15 288 1081 [some (mR 161), some (mR 0), some (mR 124), some (mI (i : Int))] [] σ' ∧ InvX sh σ' a' ∧ InvM sh σ' a' ∧ σ'.1 161 = σ.1 161 := by
  obtain ⟨hX, hM, hcx, hcm, hN, k161, l161, L3⟩ := id hL
  have xo := hX.1
  have mo := hM.1
  obtain ⟨σ1, σ2, e1, e2, q1, q2, g1, g2⟩ := lpair (d := 14) (as := []) (v := mI (aUndo a).1) (a' := (aUndo a).2) hL (by intro w hw; simp only [List.mem_cons, List.mem_nil_iff, or_false, List.not_mem_nil] at hw; first | exact hw.elim | skip) h hm (X161 (d := 9) hX h) (fun σ' hm' => M280 (d := 13) hM hm')
  refine ⟨σ2, _, ?_, q1, q2, g2⟩
  replace e1 : run sh 14 161 [mR 0] σ = _ := e1
  replace e2 : run sh 14 280 [mR 124] σ1 = _ := e2
  simp (disch := first | assumption | omega | (simp (disch := omega) only [wN, w0, w1]; omega)) only [e288_1022, e288_1023, e288_1026, e288_1027, e288_1030, e288_1033, e288_1034, kl_I, kl_R, kl_N, kl_L, oSm, oNn, Option.bind_some, wN, if_pos, if_neg, nS, tN, t0, w0, w1, w2, w3, w4, w5, wm1, upA_ne, upA_same, if_true, if_false, Bool.false_eq_true, k161, l161, nS, nS2, nS3, iS4, iS5, lcmp_s, e1, g1, e2]
theorem lc_31 {i : Nat} (hL : LZS sh L) (hi : i + 6 ≤ L) (hs : ∀ j, i32 (σ.1 161 j)) (h : InvX sh σ a) (hm : InvM sh σ a) : ∃ σ' a', ev sh 15 288 1035 [some (mR 161), some (mR 0), some (mR 124), some (mI (i : Int))] [] σ = ev sh 15 288 1081 [some (mR 161), some (mR 0), some (mR 124), some (mI (i : Int))] [] σ' ∧ InvX sh σ' a' ∧ InvM sh σ' a' ∧ σ'.1 161 = σ.1 161 := by
  obtain ⟨hX, hM, hcx, hcm, hN, k161, l161, L3⟩ := id hL
  have xo := hX.1
  have mo := hM.1
  have i1 := hs (i + 1)
  obtain ⟨z1, y1⟩ : ∃ z, σ.1 161 (i + 1) = z := ⟨_, rfl⟩
  rw [y1] at i1
  obtain ⟨σ1, σ2, e1, e2, q1, q2, g1, g2⟩ := lpair (d := 14) (as := [mI z1]) (v := mI (aCheck a z1).1) (a' := (aCheck a z1).2) hL (by intro w hw; simp only [List.mem_cons, List.mem_nil_iff, or_false, List.not_mem_nil] at hw; rcases hw with rfl <;> trivial) h hm (X118 (d := 12) hX h i1) (fun σ' hm' => M281 (d := 13) hM hm' i1)
  refine ⟨σ2, _, ?_, q1, q2, g2⟩
  simp (disch := first | assumption | omega | (simp (disch := omega) only [wN, w0, w1]; omega)) only [e288_1035, e288_1036, e288_1037, e288_1038, e288_1039, e288_1040, e288_1041, e288_1044, e288_1045, e288_1046, e288_1047, e288_1048, e288_1049, e288_1050, e288_1053, e288_1056, e288_1057, kl_I, kl_R, kl_N, kl_L, oSm, oNn, Option.bind_some, wN, if_pos, if_neg, nS, tN, t0, w0, w1, w2, w3, w4, w5, wm1, upA_ne, upA_same, if_true, if_false, Bool.false_eq_true, k161, l161, nS, nS2, nS3, iS4, iS5, lcmp_s, e1, g1, e2, y1]
theorem lc_32 {i : Nat} (hL : LZS sh L) (hi : i + 6 ≤ L) (hs : ∀ j, i32 (σ.1 161 j)) (h : InvX sh σ a) (hm : InvM sh σ a) : ∃ σ' a', ev sh 15 288 1058 [some (mR 161), some (mR 0), some (mR 124), some (mI (i : Int))] [] σ = ev sh 15 288 1081 [some (mR 161), some (mR 0), some (mR 124), some (mI (i : Int))] [] σ' ∧ InvX sh σ' a' ∧ InvM sh σ' a' ∧ σ'.1 161 = σ.1 161 := by
  obtain ⟨hX, hM, hcx, hcm, hN, k161, l161, L3⟩ := id hL
  have xo := hX.1
  have mo := hM.1
  have i1 := hs (i + 1)
  obtain ⟨z1, y1⟩ : ∃ z, σ.1 161 (i + 1) = z := ⟨_, rfl⟩
  rw [y1] at i1
  obtain ⟨σ1, σ2, e1, e2, q1, q2, g1, g2⟩ := lpair (d := 14) (as := [mI z1]) (v := mI (aCount a z1)) (a' := a) hL (by intro w hw; simp only [List.mem_cons, List.mem_nil_iff, or_false, List.not_mem_nil] at hw; rcases hw with rfl <;> trivial) h hm (End.of (X162 (d := 13) hX h i1) ⟨rfl, h⟩) (fun σ' hm' => End.of (M282 (d := 14) hM hm' i1) ⟨rfl, hm'⟩)
  refine ⟨σ2, _, ?_, q1, q2, g2⟩
  simp (disch := first | assumption | omega | (simp (disch := omega) only [wN, w0, w1]; omega)) only [e288_1058, e288_1059, e288_1060, e288_1061, e288_1062, e288_1063, e288_1064, e288_1067, e288_1068, e288_1069, e288_1070, e288_1071, e288_1072, e288_1073, e288_1076, e288_1079, e288_1080, kl_I, kl_R, kl_N, kl_L, oSm, oNn, Option.bind_some, wN, if_pos, if_neg, nS, tN, t0, w0, w1, w2, w3, w4, w5, wm1, upA_ne, upA_same, if_true, if_false, Bool.false_eq_true, k161, l161, nS, nS2, nS3, iS4, iS5, lcmp_s, e1, g1, e2, y1]
end LWS
