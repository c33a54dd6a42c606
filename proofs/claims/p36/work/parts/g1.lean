/-! ===== the law: bytes told ===== -/
/-- the first m bytes of word i -/
def Wd (b : Nat → Nat) (i : Nat) : Nat → Nat
  | 0 => 0
  | m + 1 => Wd b i m * 2 ^ 8 ||| b (4 * i + m)
theorem Wd_s (b : Nat → Nat) (i m : Nat) (hb : b (4 * i + m) < 128) : Wd b i (m + 1) = Wd b i m * 256 + b (4 * i + m) := by
  rw [Wd, Nat.mul_comm, ← Nat.two_pow_add_eq_or_of_lt (by omega : b (4 * i + m) < 2 ^ 8), Nat.mul_comm]
theorem Wd_e {b : Nat → Nat} (hb : ∀ j, b j < 128) (i : Nat) : Wd b i 1 = b (4 * i) ∧ Wd b i 2 = Wd b i 1 * 256 + b (4 * i + 1) ∧ Wd b i 3 = Wd b i 2 * 256 + b (4 * i + 2) ∧ Wd b i 4 = Wd b i 3 * 256 + b (4 * i + 3) := by
  refine ⟨?_, Wd_s b i 1 (hb _), Wd_s b i 2 (hb _), Wd_s b i 3 (hb _)⟩
  have h := Wd_s b i 0 (hb _)
  rw [show Wd b i 0 = 0 from rfl, Nat.zero_mul] at h
  exact h.trans (Nat.zero_add _)
theorem Wd_4 {b : Nat → Nat} (hb : ∀ j, b j < 128) (i : Nat) : Wd b i 4 = b (4 * i) * 16777216 + b (4 * i + 1) * 65536 + b (4 * i + 2) * 256 + b (4 * i + 3) := by
  obtain ⟨h1, h2, h3, h4⟩ := Wd_e hb i
  rw [h4, h3, h2, h1]
  omega
theorem Wd_lt {b : Nat → Nat} (hb : ∀ j, b j < 128) (i m : Nat) (hm : m < 4) : Wd b i m < 8388608 := by
  obtain ⟨h1, h2, h3, h4⟩ := Wd_e hb i
  have q0 := hb (4 * i)
  have q1 := hb (4 * i + 1)
  have q2 := hb (4 * i + 2)
  rcases (show m = 0 ∨ m = 1 ∨ m = 2 ∨ m = 3 by omega) with e | e | e | e
  · rw [e, show Wd b i 0 = 0 from rfl]; omega
  · rw [e, h1]; omega
  · rw [e, h2, h1]; omega
  · rw [e, h3, h2, h1]; omega
theorem bz_W {b : Nat → Nat} (hb : ∀ j, b j < 128) (i r : Nat) (hr : r < 4) : bzN ((Wd b i 4 : Nat) : Int) (3 - r) = b (4 * i + r) := by
  have e := Wd_4 hb i
  have q0 := hb (4 * i)
  have q1 := hb (4 * i + 1)
  have q2 := hb (4 * i + 2)
  have q3 := hb (4 * i + 3)
  have hl : Wd b i 4 < 2147483648 := by omega
  unfold bzN
  rw [xshr_nn (by omega) hl, show (255 : Int) = ((255 : Nat) : Int) from rfl, xand_nn (Nat.lt_of_le_of_lt (Nat.div_le_self _ _) hl), tN, show (255 : Nat) = 2 ^ 8 - 1 by rfl, Nat.and_two_pow_sub_one_eq_mod, e]
  rcases (show r = 0 ∨ r = 1 ∨ r = 2 ∨ r = 3 by omega) with rfl | rfl | rfl | rfl
  · show (_ : Nat) / 16777216 % 256 = b (4 * i); omega
  · show _ / 65536 % 256 = _; omega
  · show _ / 256 % 256 = _; omega
  · show _ / 1 % 256 = _; omega
/-- the row of five words behind q bytes -/
def vvR (b : Nat → Nat) (q : Nat) : Nat → Int := fun i => ((Wd b i (min 4 (q - 4 * i)) : Nat) : Int)
theorem vvR_0 (b : Nat → Nat) : vvR b 0 = fun _ => 0 := by
  funext i
  unfold vvR
  rw [Nat.zero_sub]; rfl
theorem vvR_s (b : Nat → Nat) (q : Nat) : up1 (vvR b q) (q / 4) ((Wd b (q / 4) (q % 4) * 2 ^ 8 ||| b q : Nat) : Int) = vvR b (q + 1) := by
  funext i
  unfold up1
  by_cases h : i = q / 4
  · subst h
    rw [if_pos rfl]
    unfold vvR
    rw [show min 4 (q + 1 - 4 * (q / 4)) = q % 4 + 1 by omega, Wd, show 4 * (q / 4) + q % 4 = q by omega]
  · rw [if_neg h]
    unfold vvR
    rw [show min 4 (q + 1 - 4 * i) = min 4 (q - 4 * i) by omega]
theorem vvR_at (b : Nat → Nat) (q : Nat) : vvR b q (q / 4) = ((Wd b (q / 4) (q % 4) : Nat) : Int) := by
  unfold vvR
  rw [show min 4 (q - 4 * (q / 4)) = q % 4 by omega]
theorem vvR_e (b : Nat → Nat) (i : Nat) (hi : i < 5) : vvR b 20 i = ((Wd b i 4 : Nat) : Int) := by
  unfold vvR
  rw [show min 4 (20 - 4 * i) = 4 by omega]
theorem pok_I {N : Nat} {z : Int} : pok N (some (mI z)) = true := rfl
theorem pok_N {N : Nat} : pok N none = true := rfl
theorem pok_R {N a : Nat} (h : a < N) : pok N (some (mR a)) = true := by simp [pok, h]
theorem up1_z (k : Nat) : up1 (fun _ => (0 : Int)) k 0 = fun _ => 0 := by
  funext i; unfold up1; split <;> rfl
theorem fd_b {b B : Nat → Nat} {s : Nat} (hb : ∀ j, b j < 128) : ∀ x, bzi (bzi (bzi (bzi (bzi B s (Wd b 0 4 : Nat) 4) (s + 4) (Wd b 1 4 : Nat) 4) (s + 8) (Wd b 2 4 : Nat) 4) (s + 12) (Wd b 3 4 : Nat) 4) (s + 16) (Wd b 4 4 : Nat) 4 x = if s ≤ x ∧ x < s + 20 then b (x - s) else B x := by
  intro x
  unfold bzi
  by_cases h4 : s + 16 ≤ x ∧ x < s + 16 + 4
  · rw [if_pos h4, if_pos (by omega), bz_W hb 4 _ (by omega), show 4 * 4 + (x - (s + 16)) = x - s by omega]
  · rw [if_neg h4]
    by_cases h3 : s + 12 ≤ x ∧ x < s + 12 + 4
    · rw [if_pos h3, if_pos (by omega), bz_W hb 3 _ (by omega), show 4 * 3 + (x - (s + 12)) = x - s by omega]
    · rw [if_neg h3]
      by_cases h2 : s + 8 ≤ x ∧ x < s + 8 + 4
      · rw [if_pos h2, if_pos (by omega), bz_W hb 2 _ (by omega), show 4 * 2 + (x - (s + 8)) = x - s by omega]
      · rw [if_neg h2]
        by_cases h1 : s + 4 ≤ x ∧ x < s + 4 + 4
        · rw [if_pos h1, if_pos (by omega), bz_W hb 1 _ (by omega), show 4 * 1 + (x - (s + 4)) = x - s by omega]
        · rw [if_neg h1]
          by_cases h0 : s ≤ x ∧ x < s + 4
          · rw [if_pos h0, if_pos (by omega), bz_W hb 0 _ (by omega), show 4 * 0 + (x - s) = x - s by omega]
          · rw [if_neg h0, if_neg (by omega)]
theorem cFeed {sh : Shp} {d kk : Nat} {σ : Mem} {a : AX} {z1 z2 z3 z4 z5 : Int} (hI : LI (sh, σ, kk) a) : ∃ σ', run sh (d + 2) 114 [mR 0, mI z1, mI z2, mI z3, mI z4, mI z5] σ = some (some (mI (aFeed a z1 z2 z3 z4 z5).1), σ') ∧ LI (sh, σ', kk) (aFeed a z1 z2 z3 z4 z5).2 ∧ fr9 σ σ' :=
  cX (as := [mR 0, mI z1, mI z2, mI z3, mI z4, mI z5]) hI (okA_of (zs := [z1, z2, z3, z4, z5])) (X114 hI.1 hI.2.1)
section PG1
variable {n t M : Nat} {d : Nat}
/-- twenty bytes -/
theorem B163a {sh : Shp} {kk k : Nat} {σ : Mem} {a : AX} {b : Nat → Nat} {v4 v5 : Option MV} (hI : LI (sh, σ, kk) a) (t9 : 124 ≤ t) (ts : t < sh.1) (kt : skd sh t = 0) (lt : sln sh t = M) (hnM : n ≤ M) (hM : M < 1000) (hkn : k < n) (hb : ∀ j, b j < 128) (hb1 : ∀ q, q < 20 → k + q < n → σ.1 t (k + q) = (b q : Int)) (hb2 : ∀ q, q < 20 → ¬ k + q < n → b q = 0) (hs : a.2.2.2.1 = k) (h120 : k ≤ 120) (hN : sh.1 < 1000000) (h4 : pok sh.1 v4 = true) (h5 : pok sh.1 v5 = true) :
    ∃ (σ' : Mem) (B : Nat → Nat), pv (d + 3) 163 2 [some (mR 0), some (mR t), some (mI (n : Int)), some (mI (k : Int)), v4, v5] [] (sh, σ, kk) = pv (d + 3) 163 2 [some (mR 0), some (mR t), some (mI (n : Int)), some (mI ((k + 20 : Nat) : Int)), some (mR sh.1), some (mI 20)] [] (pgS sh 0 5, σ', kk + 5) ∧ LI (pgS sh 0 5, σ', kk + 5) (a.1, a.2.1, B, k + 20, a.2.2.2.2) ∧ (∀ x, B x = if k ≤ x ∧ x < k + 20 then b (x - k) else a.2.2.1 x) ∧ ∀ x, 124 ≤ x → x < sh.1 → σ'.1 x = σ.1 x ∧ σ'.2 x = σ.2 x := by
  have hn9 := hI.n.1
  replace hn9 : 124 ≤ sh.1 := hn9
  have kw : skd (pgS sh 0 5) sh.1 = 0 := pgS_k
  have lw : sln (pgS sh 0 5) sh.1 = 5 := pgS_l
  have ww : sh.1 < (pgS sh 0 5).1 := pgS_w
  have tne : t ≠ sh.1 := by omega
  have kt' : skd (pgS sh 0 5) t = 0 := (pgS_kn tne).trans kt
  have lt' : sln (pgS sh 0 5) t = M := (pgS_ln tne).trans lt
  have L0 : LI (pgS sh 0 5, (upA σ.1 sh.1 (vvR b 20), σ.2), kk + 5) a := by
    have := (hI.new (kk' := kk + 5) (kd := 0) (n := 5) hN).1
    have h2 := LI.up1 (b := sh.1) (g := vvR b 20) this hn9 hN
    have e : upA (pgI sh σ).1 sh.1 (vvR b 20) = upA σ.1 sh.1 (vvR b 20) := upA_upA _ _ _ _
    rw [e] at h2
    exact h2
  have xo := L0.1.1
  obtain ⟨σ', x1, L1, f1⟩ := cFeed (d := d) (z1 := ((Wd b 0 4 : Nat) : Int)) (z2 := ((Wd b 1 4 : Nat) : Int)) (z3 := ((Wd b 2 4 : Nat) : Int)) (z4 := ((Wd b 3 4 : Nat) : Int)) (z5 := ((Wd b 4 4 : Nat) : Int)) L0
  have eF : aFeed a ((Wd b 0 4 : Nat) : Int) ((Wd b 1 4 : Nat) : Int) ((Wd b 2 4 : Nat) : Int) ((Wd b 3 4 : Nat) : Int) ((Wd b 4 4 : Nat) : Int) = (((k + 20 : Nat) : Int), (a.1, a.2.1, fun x => if k ≤ x ∧ x < k + 20 then b (x - k) else a.2.2.1 x, k + 20, a.2.2.2.2)) := by
    unfold aFeed
    rw [hs, if_neg (by omega)]
    refine Prod.ext rfl (Prod.ext rfl (Prod.ext rfl (Prod.ext ?_ rfl)))
    funext x
    exact fd_b hb x
  rw [eF] at x1 L1
  have w20 : wi 20 = 20 := rfl
  have z5 : (wi 5).toNat = 5 := rfl
  have h05 : 0 ≤ wi 5 := by decide
  have h45 : wi 5 ≤ 4096 := by decide
  have tt1 : (1 : Int).toNat = 1 := rfl
  have tt2 : (2 : Int).toNat = 2 := rfl
  have tt3 : (3 : Int).toNat = 3 := rfl
  have tt4 : (4 : Int).toNat = 4 := rfl
  have q1 : (pgI sh σ).1 = upA σ.1 sh.1 (fun _ => 0) := rfl
  have q2 : (pgI sh σ).2 = σ.2 := rfl
  have n4 : ¬ wi 4 = 0 := by decide
  have hpw : pwk sh.1 [some (mR 0), some (mR t), some (mI (n : Int)), some (mI (k : Int)), v4, v5] [] = true := by
    unfold pwk
    simp only [List.all_cons, List.all_nil, Bool.and_true, pok_I, pok_R (show 0 < sh.1 by omega), pok_R ts, h4, h5]
  -- the inner loop
  have F := for_up (fun q => pv (d + 3) 163 35 [some (mR 0), some (mR t), some (mI (n : Int)), some (mI (k : Int)), some (mR sh.1), some (mI (q : Int))] [] (pgS sh 0 5, (upA σ.1 sh.1 (vvR b q), σ.2), kk + 5)) 20 (fun q hq => by
    show pv (d + 3) 163 35 [some (mR 0), some (mR t), some (mI (n : Int)), some (mI (k : Int)), some (mR sh.1), some (mI (q : Int))] [] (pgS sh 0 5, (upA σ.1 sh.1 (vvR b q), σ.2), kk + 5) = pv (d + 3) 163 35 [some (mR 0), some (mR t), some (mI (n : Int)), some (mI (k : Int)), some (mR sh.1), some (mI ((q + 1 : Nat) : Int))] [] (pgS sh 0 5, (upA σ.1 sh.1 (vvR b (q + 1)), σ.2), kk + 5)
    have d4 : xdiv (q : Int) 4 = ((q / 4 : Nat) : Int) := xdiv_nn (a := q) (b := 4) (by omega) (by omega)
    have hd4 : q / 4 < 5 := by omega
    have wd : wi ((q / 4 : Nat) : Int) = ((q / 4 : Nat) : Int) := wN (by omega)
    have hW := Wd_lt hb (q / 4) (q % 4) (by omega)
    have hbq := hb q
    have s8 : xshl ((Wd b (q / 4) (q % 4) : Nat) : Int) 8 = ((Wd b (q / 4) (q % 4) * 2 ^ 8 : Nat) : Int) := xshl_nn (a := Wd b (q / 4) (q % 4)) (k := 8) (by omega) (by omega)
    have or8 : xor' ((Wd b (q / 4) (q % 4) * 2 ^ 8 : Nat) : Int) ((b q : Nat) : Int) = ((Wd b (q / 4) (q % 4) * 2 ^ 8 ||| b q : Nat) : Int) := xor_nn (by omega) (by omega)
    have ekq : (k : Int) + (q : Int) = ((k + q : Nat) : Int) := rfl
    have va := vvR_at b q
    have vs := vvR_s b q
    generalize Wd b (q / 4) (q % 4) = W at *
    generalize q / 4 = Q at *
    rw [e163_35]
    by_cases h : k + q < n
    · have hv : upA σ.1 sh.1 (vvR b q) t (k + q) = (b q : Int) := by rw [upA_ne tne]; exact hb1 q hq h
      have a255 : xand ((b q : Nat) : Int) 255 = ((b q : Nat) : Int) := by
        rw [show (255 : Int) = ((255 : Nat) : Int) from rfl, xand_nn (by omega), show (255 : Nat) = 2 ^ 8 - 1 by rfl, Nat.and_two_pow_sub_one_eq_mod, Nat.mod_eq_of_lt (by omega)]
      simp (disch := first | assumption | omega | (simp (disch := omega) only [wN, w0, w1]; omega)) only [e163_0, e163_1, e163_3, e163_4, e163_7, e163_10I, e163_10R, e163_11, e163_12, e163_13, e163_14I, e163_14R, e163_15, e163_16, e163_17, e163_18I, e163_18R, e163_19, e163_20, e163_21, e163_22I, e163_22R, e163_23, e163_24, e163_25, e163_26I, e163_26R, e163_27, e163_28, e163_29, e163_30, e163_32, e163_33, e163_37, e163_39, e163_42, e163_44, e163_46, e163_47, e163_48, e163_50, e163_52, e163_53, e163_54, e163_55, e163_57, e163_58, e163_59, e163_61, e163_62, e163_63, e163_66, e163_67, e163_68, e163_70, e163_71, e163_72, e163_75, e163_76, e163_79, e163_80, e163_81, e163_82, e163_85, e163_88, e163_89, e163_91, e163_92, e163_93, e163_95, e163_96, e163_97, e163_99, e163_100, e163_101, e163_103, e163_104, e163_105, e163_107, e163_108, e163_109, e163_112, e163_113, e163_116, e163_119, e163_8, kl_I, kl_R, kl_N, kl_L, oSm, oNn, Option.bind_some, wN, if_pos, if_neg, nS, tN, t0, w0, w1, w2, w3, w4, w5, wm1, upA_ne, upA_same, if_true, if_false, Bool.false_eq_true, w20, d4, wd, lw, va, ekq, lt', hv, a255, s8, or8, upA_upA, vs]
    · rw [hb2 q hq h] at or8 vs
      replace or8 : xor' ((W * 2 ^ 8 : Nat) : Int) 0 = ((W * 2 ^ 8 ||| 0 : Nat) : Int) := or8
      simp (disch := first | assumption | omega | (simp (disch := omega) only [wN, w0, w1]; omega)) only [e163_0, e163_1, e163_3, e163_4, e163_7, e163_10I, e163_10R, e163_11, e163_12, e163_13, e163_14I, e163_14R, e163_15, e163_16, e163_17, e163_18I, e163_18R, e163_19, e163_20, e163_21, e163_22I, e163_22R, e163_23, e163_24, e163_25, e163_26I, e163_26R, e163_27, e163_28, e163_29, e163_30, e163_32, e163_33, e163_37, e163_39, e163_42, e163_44, e163_46, e163_47, e163_48, e163_50, e163_52, e163_53, e163_54, e163_55, e163_57, e163_58, e163_59, e163_61, e163_62, e163_63, e163_66, e163_67, e163_68, e163_70, e163_71, e163_72, e163_75, e163_76, e163_79, e163_80, e163_81, e163_82, e163_85, e163_88, e163_89, e163_91, e163_92, e163_93, e163_95, e163_96, e163_97, e163_99, e163_100, e163_101, e163_103, e163_104, e163_105, e163_107, e163_108, e163_109, e163_112, e163_113, e163_116, e163_119, e163_8, kl_I, kl_R, kl_N, kl_L, oSm, oNn, Option.bind_some, wN, if_pos, if_neg, nS, tN, t0, w0, w1, w2, w3, w4, w5, wm1, upA_ne, upA_same, if_true, if_false, Bool.false_eq_true, w20, d4, wd, lw, va, ekq, s8, or8, upA_upA, vs]
    ) 0 (Nat.zero_le _)
  refine ⟨σ', _, ?_, L1, fun x => rfl, fun x h1 h2 => ?_⟩
  · rw [e163_2]
    simp (disch := first | assumption | omega | (simp (disch := omega) only [wN, w0, w1]; omega)) only [e163_0, e163_1, e163_3, e163_4, e163_7, e163_10I, e163_10R, e163_11, e163_12, e163_13, e163_14I, e163_14R, e163_15, e163_16, e163_17, e163_18I, e163_18R, e163_19, e163_20, e163_21, e163_22I, e163_22R, e163_23, e163_24, e163_25, e163_26I, e163_26R, e163_27, e163_28, e163_29, e163_30, e163_32, e163_33, e163_37, e163_39, e163_42, e163_44, e163_46, e163_47, e163_48, e163_50, e163_52, e163_53, e163_54, e163_55, e163_57, e163_58, e163_59, e163_61, e163_62, e163_63, e163_66, e163_67, e163_68, e163_70, e163_71, e163_72, e163_75, e163_76, e163_79, e163_80, e163_81, e163_82, e163_85, e163_88, e163_89, e163_91, e163_92, e163_93, e163_95, e163_96, e163_97, e163_99, e163_100, e163_101, e163_103, e163_104, e163_105, e163_107, e163_108, e163_109, e163_112, e163_113, e163_116, e163_119, kl_I, kl_R, kl_N, kl_L, oSm, oNn, Option.bind_some, wN, if_pos, if_neg, nS, tN, t0, w0, w1, w2, w3, w4, w5, wm1, upA_ne, upA_same, if_true, if_false, Bool.false_eq_true]
    rw [e163_8 h05 h45 hN hpw, z5]
    simp (disch := first | assumption | omega | (simp (disch := omega) only [wN, w0, w1]; omega)) only [e163_0, e163_1, e163_3, e163_4, e163_7, e163_10I, e163_10R, e163_11, e163_12, e163_13, e163_14I, e163_14R, e163_15, e163_16, e163_17, e163_18I, e163_18R, e163_19, e163_20, e163_21, e163_22I, e163_22R, e163_23, e163_24, e163_25, e163_26I, e163_26R, e163_27, e163_28, e163_29, e163_30, e163_32, e163_33, e163_37, e163_39, e163_42, e163_44, e163_46, e163_47, e163_48, e163_50, e163_52, e163_53, e163_54, e163_55, e163_57, e163_58, e163_59, e163_61, e163_62, e163_63, e163_66, e163_67, e163_68, e163_70, e163_71, e163_72, e163_75, e163_76, e163_79, e163_80, e163_81, e163_82, e163_85, e163_88, e163_89, e163_91, e163_92, e163_93, e163_95, e163_96, e163_97, e163_99, e163_100, e163_101, e163_103, e163_104, e163_105, e163_107, e163_108, e163_109, e163_112, e163_113, e163_116, e163_119, e163_8, kl_I, kl_R, kl_N, kl_L, oSm, oNn, Option.bind_some, wN, if_pos, if_neg, nS, tN, t0, w0, w1, w2, w3, w4, w5, wm1, upA_ne, upA_same, if_true, if_false, Bool.false_eq_true, lw, q1, q2, tt1, tt2, tt3, tt4, up1_z, upA_upA]
    rw [← vvR_0 b]
    refine (Eq.trans ?_ F).trans ?_
    · rfl
    · have e20 : (k : Int) + 20 = ((k + 20 : Nat) : Int) := rfl
      have g0 := vvR_e b 0 (by omega)
      have g1 := vvR_e b 1 (by omega)
      have g2 := vvR_e b 2 (by omega)
      have g3 := vvR_e b 3 (by omega)
      have g4 := vvR_e b 4 (by omega)
      rw [e163_35]
      simp (disch := first | assumption | omega | (simp (disch := omega) only [wN, w0, w1]; omega)) only [e163_0, e163_1, e163_3, e163_4, e163_7, e163_10I, e163_10R, e163_11, e163_12, e163_13, e163_14I, e163_14R, e163_15, e163_16, e163_17, e163_18I, e163_18R, e163_19, e163_20, e163_21, e163_22I, e163_22R, e163_23, e163_24, e163_25, e163_26I, e163_26R, e163_27, e163_28, e163_29, e163_30, e163_32, e163_33, e163_37, e163_39, e163_42, e163_44, e163_46, e163_47, e163_48, e163_50, e163_52, e163_53, e163_54, e163_55, e163_57, e163_58, e163_59, e163_61, e163_62, e163_63, e163_66, e163_67, e163_68, e163_70, e163_71, e163_72, e163_75, e163_76, e163_79, e163_80, e163_81, e163_82, e163_85, e163_88, e163_89, e163_91, e163_92, e163_93, e163_95, e163_96, e163_97, e163_99, e163_100, e163_101, e163_103, e163_104, e163_105, e163_107, e163_108, e163_109, e163_112, e163_113, e163_116, e163_119, e163_8, kl_I, kl_R, kl_N, kl_L, oSm, oNn, Option.bind_some, wN, if_pos, if_neg, nS, tN, t0, w0, w1, w2, w3, w4, w5, wm1, upA_ne, upA_same, if_true, if_false, Bool.false_eq_true, w20, lw, g0, g1, g2, g3, g4, tt1, tt2, tt3, tt4, x1, e20]
      all_goals rfl
  · have f := f1 x h1
    exact ⟨f.1.trans (upA_ne (by omega)), f.2⟩
theorem B163 {sh : Shp} {kk : Nat} {σ : Mem} {a : AX} {L : Nat → Nat} (hI : LI (sh, σ, kk) a) (t9 : 124 ≤ t) (ts : t < sh.1) (kt : skd sh t = 0) (lt : sln sh t = M) (hnM : n ≤ M) (hM : M < 1000) (h120 : n ≤ 120) (hL : ∀ j, j < n → σ.1 t j = (L j : Int) ∧ L j < 128) (hs : a.2.2.2.1 = 0) (hN : sh.1 + 6 < 1000000) :
    PE (prun (d + 3) 163 [mR 0, mR t, mI (n : Int)] (sh, σ, kk)) (fun r S' => r = none ∧ (∃ B s, LI S' (a.1, a.2.1, B, s, a.2.2.2.2) ∧ n ≤ s ∧ ∀ j, j < n → B j = L j) ∧ Ex sh S'.1 ∧ S'.1.1 ≤ sh.1 + 6 ∧ S'.2.2 ≤ kk + 30 ∧ ∀ b, 124 ≤ b → b < sh.1 → S'.2.1.1 b = σ.1 b ∧ S'.2.1.2 b = σ.2 b) := by
  have R : ∀ l m : Nat, m + l = (n + 19) / 20 → ∀ (sh1 : Shp) (σ1 : Mem) (kk1 : Nat) (B : Nat → Nat) (v4 v5 : Option MV), LI (sh1, σ1, kk1) (a.1, a.2.1, B, 20 * m, a.2.2.2.2) → Ex sh sh1 → sh1.1 + l ≤ sh.1 + 6 → kk1 + 5 * l ≤ kk + 30 → (∀ j, j < n → j < 20 * m → B j = L j) → (∀ b, 124 ≤ b → b < sh.1 → σ1.1 b = σ.1 b ∧ σ1.2 b = σ.2 b) → pok sh1.1 v4 = true → pok sh1.1 v5 = true →
      PE (pv (d + 3) 163 2 [some (mR 0), some (mR t), some (mI (n : Int)), some (mI ((20 * m : Nat) : Int)), v4, v5] [] (sh1, σ1, kk1)) (fun r S' => r = none ∧ (∃ B s, LI S' (a.1, a.2.1, B, s, a.2.2.2.2) ∧ n ≤ s ∧ ∀ j, j < n → B j = L j) ∧ Ex sh S'.1 ∧ S'.1.1 ≤ sh.1 + 6 ∧ S'.2.2 ≤ kk + 30 ∧ ∀ b, 124 ≤ b → b < sh.1 → S'.2.1.1 b = σ.1 b ∧ S'.2.1.2 b = σ.2 b) := by
    intro l
    induction l with
    | zero =>
      intro m hm sh1 σ1 kk1 B v4 v5 hI1 hx hs1 hk1 hB hf _ _
      have hge : ¬ 20 * m < n := by omega
      have w20m : wi ((20 * m : Nat) : Int) = ((20 * m : Nat) : Int) := wN (by omega)
      rw [e163_2]
      simp (disch := first | assumption | omega | (simp (disch := omega) only [wN, w0, w1]; omega)) only [e163_0, e163_1, e163_3, e163_4, e163_10I, e163_10R, e163_11, e163_12, e163_13, e163_14I, e163_14R, e163_15, e163_16, e163_17, e163_18I, e163_18R, e163_19, e163_20, e163_21, e163_22I, e163_22R, e163_23, e163_24, e163_25, e163_26I, e163_26R, e163_27, e163_28, e163_29, e163_30, e163_32, e163_33, e163_37, e163_39, e163_42, e163_44, e163_46, e163_47, e163_48, e163_50, e163_52, e163_53, e163_54, e163_55, e163_57, e163_58, e163_59, e163_61, e163_62, e163_63, e163_66, e163_67, e163_68, e163_70, e163_71, e163_72, e163_75, e163_76, e163_79, e163_80, e163_81, e163_82, e163_85, e163_88, e163_89, e163_91, e163_92, e163_93, e163_95, e163_96, e163_97, e163_99, e163_100, e163_101, e163_103, e163_104, e163_105, e163_107, e163_108, e163_109, e163_112, e163_113, e163_116, e163_119, kl_I, kl_R, kl_N, kl_L, oSm, oNn, Option.bind_some, wN, if_pos, if_neg, nS, tN, t0, w0, w1, w2, w3, w4, w5, wm1, upA_ne, upA_same, if_true, if_false, Bool.false_eq_true, w20m]
      exact PE.of rfl ⟨rfl, ⟨B, 20 * m, hI1, by omega, fun j hj => hB j hj (by omega)⟩, hx, by show sh1.1 ≤ _; omega, by show kk1 ≤ _; omega, hf⟩
    | succ l ih =>
      intro m hm sh1 σ1 kk1 B v4 v5 hI1 hx hs1 hk1 hB hf h4 h5
      have hlt : 20 * m < n := by omega
      have ts1 : t < sh1.1 := Nat.lt_of_lt_of_le ts hx.1
      obtain ⟨σ2, B2, e2, L2, b2, f2⟩ := B163a (n := n) (t := t) (M := M) (d := d) (k := 20 * m) (b := fun q => if 20 * m + q < n then L (20 * m + q) else 0) (v4 := v4) (v5 := v5) hI1 t9 ts1 ((hx.k ts).trans kt) ((hx.l ts).trans lt) hnM hM hlt (fun j => by
          show (if 20 * m + j < n then L (20 * m + j) else 0) < 128
          split
          · exact (hL _ (by assumption)).2
          · omega) (fun q _ hq => by
          show _ = ((if 20 * m + q < n then L (20 * m + q) else 0 : Nat) : Int)
          rw [if_pos hq, (hf t t9 ts).1]; exact (hL _ hq).1) (fun q _ hq => if_neg hq) rfl (by omega) (by omega) h4 h5
      rw [e2]
      have e20 : 20 * m + 20 = 20 * (m + 1) := by omega
      rw [e20] at L2 ⊢
      refine ih (m + 1) (by omega) _ σ2 _ B2 _ _ L2 (hx.tr (Ex.gr (by omega))) (by show sh1.1 + 1 + l ≤ _; omega) (by omega) (fun j hj h20 => ?_) (fun b h1 h2 => ?_) (pok_R pgS_w) rfl
      · rw [b2]
        by_cases h : 20 * m ≤ j
        · rw [if_pos (by omega)]
          show (if 20 * m + (j - 20 * m) < n then L (20 * m + (j - 20 * m)) else 0) = _
          rw [show 20 * m + (j - 20 * m) = j by omega, if_pos hj]
        · rw [if_neg (by omega)]
          exact hB j hj (by omega)
      · have g := f2 b h1 (Nat.lt_of_lt_of_le h2 hx.1)
        exact ⟨g.1.trans (hf b h1 h2).1, g.2.trans (hf b h1 h2).2⟩
  have ha : (a.1, a.2.1, a.2.2.1, 20 * 0, a.2.2.2.2) = a := by
    obtain ⟨a1, a2, a3, a4, a5⟩ := a
    replace hs : a4 = 0 := hs
    subst hs; rfl
  have R0 := R ((n + 19) / 20) 0 (Nat.zero_add _) sh σ kk a.2.2.1 none none (by rw [ha]; exact hI) Ex.rf (by omega) (by omega) (fun j _ h => absurd h (Nat.not_lt_zero _)) (fun _ _ _ => ⟨rfl, rfl⟩) rfl rfl
  rw [q163]
  simp (disch := first | assumption | omega | (simp (disch := omega) only [wN, w0, w1]; omega)) only [e163_0, e163_1, e163_3, e163_4, e163_10I, e163_10R, e163_11, e163_12, e163_13, e163_14I, e163_14R, e163_15, e163_16, e163_17, e163_18I, e163_18R, e163_19, e163_20, e163_21, e163_22I, e163_22R, e163_23, e163_24, e163_25, e163_26I, e163_26R, e163_27, e163_28, e163_29, e163_30, e163_32, e163_33, e163_37, e163_39, e163_42, e163_44, e163_46, e163_47, e163_48, e163_50, e163_52, e163_53, e163_54, e163_55, e163_57, e163_58, e163_59, e163_61, e163_62, e163_63, e163_66, e163_67, e163_68, e163_70, e163_71, e163_72, e163_75, e163_76, e163_79, e163_80, e163_81, e163_82, e163_85, e163_88, e163_89, e163_91, e163_92, e163_93, e163_95, e163_96, e163_97, e163_99, e163_100, e163_101, e163_103, e163_104, e163_105, e163_107, e163_108, e163_109, e163_112, e163_113, e163_116, e163_119, kl_I, kl_R, kl_N, kl_L, oSm, oNn, Option.bind_some, wN, if_pos, if_neg, nS, tN, t0, w0, w1, w2, w3, w4, w5, wm1, upA_ne, upA_same, if_true, if_false, Bool.false_eq_true]
  exact R0
end PG1

