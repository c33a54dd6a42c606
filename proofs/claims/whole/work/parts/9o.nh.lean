/-! ===== the reference: same ===== -/
theorem bd_tuW {B : Int} {W : Vc} (h : bdW B W) (k s : Nat) : bdW B (upQ W s (tuQ k (W s))) := fun r => by
  rw [upQ_if]
  split
  · exact bd_tu k (h s)
  · exact h r
/-- from state f: the one now is the kept one turned by k eighths, lines exchanged by P -/
def smB (n : Nat) (ck c : List Gt) (k : Nat) (P : Nat → Nat) (f : Nat) : Bool := decide ((amV c f).2 = (amV ck f).2) && fa (fun y => decide ((amV c f).1 (exT P y n) = tuQ k ((amV ck f).1 y))) (2 ^ n - 0) 0
section NH
variable {sh : Shp} {d t n s : Nat} {σ : Mem} {z w : Int} {c ck : List Gt} {a : AX} {o : Nat} {U V : Vc}
theorem M227p (hM : MS sh) (hV : HV σ 137 V) (hU : HV σ 143 U) (bV : bdW 1073741824 V) (bU : bdW 1073741824 U) (f : Nat) {k : Nat} {y : Nat} (hy : y < 16) (ht : t < 16) : ev sh (d + 4) 227 67 [some (mR (124)), some (mI ((k : Nat) : Int)), some (mI ((o : Nat) : Int)), some (mI ((f : Nat) : Int)), some (mI ((y : Nat) : Int)), some (mI ((t : Nat) : Int)), some (mI ((0 : Nat) : Int))] [] σ = if V t = U y then ev sh (d + 4) 227 109 [some (mR (124)), some (mI ((k : Nat) : Int)), some (mI ((o : Nat) : Int)), some (mI ((f : Nat) : Int)), some (mI ((y : Nat) : Int)), some (mI ((t : Nat) : Int)), some (mI ((4 : Nat) : Int))] [] σ else some (some (mI 0), σ) := by
  have mo := hM.1
  have m160 := hM.2.1
  obtain ⟨ra29, rk29, rl29⟩ := ms29 hM
  obtain ⟨ra36, rk36, rl36⟩ := ms36 hM
  have key : fa (fun x => decide (prt (V t) x = prt (U y) x)) (4 - 0) 0 = true ↔ V t = U y := by
    rw [fa_iff]
    constructor
    · intro h
      exact prt_all fun x hx => by simpa using h x (by omega) (by omega)
    · intro h x _ _
      rw [h]; simp
  have F := for_dn (fun i => ev sh (d + 4) 227 67 [some (mR (124)), some (mI ((k : Nat) : Int)), some (mI ((o : Nat) : Int)), some (mI ((f : Nat) : Int)), some (mI ((y : Nat) : Int)), some (mI ((t : Nat) : Int)), some (mI ((i : Nat) : Int))] [] (σ)) (fun i => if fa (fun x => decide (prt (V t) x = prt (U y) x)) (4 - i) i = true then ev sh (d + 4) 227 109 [some (mR (124)), some (mI ((k : Nat) : Int)), some (mI ((o : Nat) : Int)), some (mI ((f : Nat) : Int)), some (mI ((y : Nat) : Int)), some (mI ((t : Nat) : Int)), some (mI ((4 : Nat) : Int))] [] σ else some (some (mI 0), σ)) (4) (by
    show ev sh (d + 4) 227 67 [some (mR (124)), some (mI ((k : Nat) : Int)), some (mI ((o : Nat) : Int)), some (mI ((f : Nat) : Int)), some (mI ((y : Nat) : Int)), some (mI ((t : Nat) : Int)), some (mI (((4) : Nat) : Int))] [] (σ) = if fa (fun x => decide (prt (V t) x = prt (U y) x)) (4 - (4)) (4) = true then ev sh (d + 4) 227 109 [some (mR (124)), some (mI ((k : Nat) : Int)), some (mI ((o : Nat) : Int)), some (mI ((f : Nat) : Int)), some (mI ((y : Nat) : Int)), some (mI ((t : Nat) : Int)), some (mI ((4 : Nat) : Int))] [] σ else some (some (mI 0), σ)
    rw [fa_e, e227_67]
    simp (disch := first | assumption | omega | (simp (disch := omega) only [wN, w0, w1]; omega)) only [e227_0, e227_1, e227_2, e227_3, e227_4, e227_5, e227_8, e227_9, e227_12, e227_13, e227_14, e227_17, e227_18, e227_21, e227_22, e227_25, e227_28, e227_29, e227_30, e227_31, e227_33, e227_35, e227_36, e227_37, e227_40, e227_41, e227_44, e227_45, e227_46, e227_49, e227_51, e227_52, e227_55, e227_56, e227_58, e227_59, e227_62, e227_64, e227_65, e227_69, e227_70, e227_73, e227_74, e227_77, e227_78, e227_80, e227_81, e227_83, e227_84, e227_85, e227_86, e227_89, e227_90, e227_92, e227_93, e227_95, e227_96, e227_97, e227_98, e227_101, e227_102, e227_103, e227_106, e227_112, e227_115, e227_118, e227_121, e227_122, kl_I, kl_R, kl_N, kl_L, oSm, oNn, Option.bind_some, wN, if_pos, if_neg, nS, tN, t0, w0, w1, w2, w3, w4, w5, wm1, upA_ne, upA_same, if_true, if_false, Bool.false_eq_true]) (fun i hi ih => by
    replace ih : ev sh (d + 4) 227 67 [some (mR (124)), some (mI ((k : Nat) : Int)), some (mI ((o : Nat) : Int)), some (mI ((f : Nat) : Int)), some (mI ((y : Nat) : Int)), some (mI ((t : Nat) : Int)), some (mI (((i + 1) : Nat) : Int))] [] (σ) = if fa (fun x => decide (prt (V t) x = prt (U y) x)) (4 - (i + 1)) (i + 1) = true then ev sh (d + 4) 227 109 [some (mR (124)), some (mI ((k : Nat) : Int)), some (mI ((o : Nat) : Int)), some (mI ((f : Nat) : Int)), some (mI ((y : Nat) : Int)), some (mI ((t : Nat) : Int)), some (mI ((4 : Nat) : Int))] [] σ else some (some (mI 0), σ) := ih
    show ev sh (d + 4) 227 67 [some (mR (124)), some (mI ((k : Nat) : Int)), some (mI ((o : Nat) : Int)), some (mI ((f : Nat) : Int)), some (mI ((y : Nat) : Int)), some (mI ((t : Nat) : Int)), some (mI ((i : Nat) : Int))] [] (σ) = if fa (fun x => decide (prt (V t) x = prt (U y) x)) (4 - i) i = true then ev sh (d + 4) 227 109 [some (mR (124)), some (mI ((k : Nat) : Int)), some (mI ((o : Nat) : Int)), some (mI ((f : Nat) : Int)), some (mI ((y : Nat) : Int)), some (mI ((t : Nat) : Int)), some (mI ((4 : Nat) : Int))] [] σ else some (some (mI 0), σ)
    have g1 := hV.at ht hi
    have g2 := hU.at hy hi
    have b1 := prt_bd (bV t) i
    have b2 := prt_bd (bU y) i
    have lw := lcmp_w (x := prt (U y) i) (y := prt (V t) i) (by omega) (by omega)
    rw [fa_s hi, e227_67]
    by_cases e : prt (V t) i = prt (U y) i
    · have n0 := lw.mpr e.symm
      clear lw
      simp (disch := first | assumption | omega | (simp (disch := omega) only [wN, w0, w1]; omega)) only [e227_0, e227_1, e227_2, e227_3, e227_4, e227_5, e227_8, e227_9, e227_12, e227_13, e227_14, e227_17, e227_18, e227_21, e227_22, e227_25, e227_28, e227_29, e227_30, e227_31, e227_33, e227_35, e227_36, e227_37, e227_40, e227_41, e227_44, e227_45, e227_46, e227_49, e227_51, e227_52, e227_55, e227_56, e227_58, e227_59, e227_62, e227_64, e227_65, e227_69, e227_70, e227_73, e227_74, e227_77, e227_78, e227_80, e227_81, e227_83, e227_84, e227_85, e227_86, e227_89, e227_90, e227_92, e227_93, e227_95, e227_96, e227_97, e227_98, e227_101, e227_102, e227_103, e227_106, e227_112, e227_115, e227_118, e227_121, e227_122, kl_I, kl_R, kl_N, kl_L, oSm, oNn, Option.bind_some, wN, if_pos, if_neg, nS, tN, t0, w0, w1, w2, w3, w4, w5, wm1, upA_ne, upA_same, if_true, if_false, Bool.false_eq_true, ra29, rl29, ra36, rl36, n4, ← Int.natCast_add, g1, g2]
      rw [ih]
      simp [e]
    · have n0 : ¬ wi (lcmp' (prt (U y) i) (prt (V t) i)) = 0 := fun q => e (lw.mp q).symm
      clear lw
      simp (disch := first | assumption | omega | (simp (disch := omega) only [wN, w0, w1]; omega)) only [e227_0, e227_1, e227_2, e227_3, e227_4, e227_5, e227_8, e227_9, e227_12, e227_13, e227_14, e227_17, e227_18, e227_21, e227_22, e227_25, e227_28, e227_29, e227_30, e227_31, e227_33, e227_35, e227_36, e227_37, e227_40, e227_41, e227_44, e227_45, e227_46, e227_49, e227_51, e227_52, e227_55, e227_56, e227_58, e227_59, e227_62, e227_64, e227_65, e227_69, e227_70, e227_73, e227_74, e227_77, e227_78, e227_80, e227_81, e227_83, e227_84, e227_85, e227_86, e227_89, e227_90, e227_92, e227_93, e227_95, e227_96, e227_97, e227_98, e227_101, e227_102, e227_103, e227_106, e227_112, e227_115, e227_118, e227_121, e227_122, kl_I, kl_R, kl_N, kl_L, oSm, oNn, Option.bind_some, wN, if_pos, if_neg, nS, tN, t0, w0, w1, w2, w3, w4, w5, wm1, upA_ne, upA_same, if_true, if_false, Bool.false_eq_true, ra29, rl29, ra36, rl36, n4, ← Int.natCast_add, g1, g2]
      simp [e]) 0 (Nat.zero_le _)
  rw [F]
  by_cases h : V t = U y
  · rw [if_pos (key.mpr h), if_pos h]
  · rw [if_neg (fun q => h (key.mp q)), if_neg h]
theorem M227 {k : Nat} (hM : MS sh) (hG : HGm σ 0 c) (hc : c.length ≤ 30) (hv : okC n c) (hK : HGm σ 1 ck) (hck : ck.length ≤ 30) (hvk : okC n ck) (hN : σ.1 124 8 = (n : Int)) (h1 : 1 ≤ n) (hn : n ≤ 4) (ho : o < faC n) (hk : k < 8) : End (run sh (d + 4) 227 [mR 124, mI (k : Int), mI (o : Int)] σ) (fun r σ' => r = some (mI (bi (fa (smB n ck c k (ordP n o)) (2 ^ n - 0) 0))) ∧ frW 137 144 31 37 σ σ') := by
  have mo := hM.1
  have m160 := hM.2.1
  obtain ⟨ra36, rk36, rl36⟩ := ms36 hM
  have p16 : 2 ^ n ≤ 2 ^ 4 := Nat.pow_le_pow_right (by omega) hn
  have xs := xshl_1 (k := n) (by omega)
  have oP : ∀ x, x < n → ordP n o x < n := fun x hx => by
    have k := stK_at hn ho hx
    simp only [stK, Bool.and_eq_true, decide_eq_true_eq] at k
    exact k.2
  have la : laR sh 143 := ⟨(ms36 hM).2.1, (ms36 hM).2.2, by omega⟩
  have fal : ∀ f, f < 2 ^ n → smB n ck c k (ordP n o) f = false → fa (smB n ck c k (ordP n o)) (2 ^ n - 0) 0 = false := fun f hf h => by
    cases q : fa (smB n ck c k (ordP n o)) (2 ^ n - 0) 0 with
    | false => rfl
    | true => rw [(fa_iff _ _).mp q f (by omega) (by omega)] at h; cases h
  have L := for_P (2 ^ n) (fun i => ∀ (σ1 : Mem) (v4 v5 v6 : Option MV), ((∀ f, f < i → smB n ck c k (ordP n o) f = true) ∧ frW 137 144 31 37 σ σ1) → End (ev sh (d + 4) 227 2 [some (mR (124)), some (mI ((k : Nat) : Int)), some (mI ((o : Nat) : Int)), some (mI ((i : Nat) : Int)), v4, v5, v6] [] σ1) (fun r σ' => r = some (mI (bi (fa (smB n ck c k (ordP n o)) (2 ^ n - 0) 0))) ∧ frW 137 144 31 37 σ σ')) (by
    intro σ1 v4 v5 v6 hp
    replace hp : (∀ f, f < (2 ^ n) → smB n ck c k (ordP n o) f = true) ∧ frW 137 144 31 37 σ σ1 := hp
    show End (ev sh (d + 4) 227 2 [some (mR (124)), some (mI ((k : Nat) : Int)), some (mI ((o : Nat) : Int)), some (mI (((2 ^ n) : Nat) : Int)), v4, v5, v6] [] σ1) (fun r σ' => r = some (mI (bi (fa (smB n ck c k (ordP n o)) (2 ^ n - 0) 0))) ∧ frW 137 144 31 37 σ σ')
    have hN1 : σ1.1 124 8 = (n : Int) := by rw [hp.2.2 8 (by omega)]; exact hN
    have x : fa (smB n ck c k (ordP n o)) (2 ^ n - 0) 0 = true := (fa_iff _ _).mpr fun f _ q => hp.1 f (by omega)
    rw [e227_2]
    simp (disch := first | assumption | omega | (simp (disch := omega) only [wN, w0, w1]; omega)) only [e227_0, e227_1, e227_3, e227_4, e227_5, e227_8, e227_9, e227_12, e227_13, e227_14, e227_17, e227_18, e227_21, e227_22, e227_25, e227_28, e227_29, e227_30, e227_31, e227_35, e227_36, e227_37, e227_40, e227_41, e227_44, e227_45, e227_46, e227_49, e227_51, e227_52, e227_55, e227_56, e227_58, e227_59, e227_62, e227_64, e227_65, e227_69, e227_70, e227_73, e227_74, e227_77, e227_78, e227_80, e227_81, e227_83, e227_84, e227_85, e227_86, e227_89, e227_90, e227_92, e227_93, e227_95, e227_96, e227_97, e227_98, e227_101, e227_102, e227_103, e227_106, e227_112, e227_115, e227_118, e227_121, e227_122, kl_I, kl_R, kl_N, kl_L, oSm, oNn, Option.bind_some, wN, if_pos, if_neg, nS, tN, t0, w0, w1, w2, w3, w4, w5, wm1, upA_ne, upA_same, if_true, if_false, Bool.false_eq_true, hN1, xs]
    exact End.of rfl ⟨rfl, hp.2⟩) (fun i hi ih => by
    replace ih : ∀ (σ1 : Mem) (v4 v5 v6 : Option MV), ((∀ f, f < (i + 1) → smB n ck c k (ordP n o) f = true) ∧ frW 137 144 31 37 σ σ1) → End (ev sh (d + 4) 227 2 [some (mR (124)), some (mI ((k : Nat) : Int)), some (mI ((o : Nat) : Int)), some (mI (((i + 1) : Nat) : Int)), v4, v5, v6] [] σ1) (fun r σ' => r = some (mI (bi (fa (smB n ck c k (ordP n o)) (2 ^ n - 0) 0))) ∧ frW 137 144 31 37 σ σ') := ih
    intro σ1 v4 v5 v6 hp
    replace hp : (∀ f, f < i → smB n ck c k (ordP n o) f = true) ∧ frW 137 144 31 37 σ σ1 := hp
    show End (ev sh (d + 4) 227 2 [some (mR (124)), some (mI ((k : Nat) : Int)), some (mI ((o : Nat) : Int)), some (mI ((i : Nat) : Int)), v4, v5, v6] [] σ1) (fun r σ' => r = some (mI (bi (fa (smB n ck c k (ordP n o)) (2 ^ n - 0) 0))) ∧ frW 137 144 31 37 σ σ')
    obtain ⟨hf, hp⟩ := hp
    have hN1 : σ1.1 124 8 = (n : Int) := by rw [hp.2 8 (by omega)]; exact hN
    have k26 : σ1.1 126 = σ.1 126 := (hp.1 126 (by omega) (by omega)).1
    have k25 : σ1.1 125 = σ.1 125 := (hp.1 125 (by omega) (by omega)).1
    obtain ⟨r, σ2, a1, rfl, aV, a31, aU, a37, af⟩ := M226 (d := d) (s := i) (σ := σ1) hM (hG.k (by rw [k26]) (fun _ _ _ => by rw [k25])) hc hv (hK.k (by rw [k26]) (fun _ _ _ => by rw [k25])) hck hvk hN1 hn hi
    have hN2 : σ2.1 124 8 = (n : Int) := by rw [af.2 8 (by omega)]; exact hN1
    have f2 : frW 137 144 31 37 σ σ2 := hp.tr (af.w (by omega) (by omega) (by omega) (by omega))
    have bV := amV_bd (s := i) hc
    have bU := amV_bd (s := i) hck
    have l1 := amV_le c i
    have l2 := amV_le ck i
    have smE : smB n ck c k (ordP n o) i = (decide ((amV c i).2 = (amV ck i).2) && fa (fun y => decide ((amV c i).1 (exT (ordP n o) y n) = tuQ k ((amV ck i).1 y))) (2 ^ n - 0) 0) := rfl
    generalize hA : amV c i = A at *
    generalize hB : amV ck i = B at *
    obtain ⟨V, p⟩ := A
    obtain ⟨U, q⟩ := B
    simp only at *
    by_cases e : p = q
    · subst e
      have hi0 := hi
      have T := for_P (2 ^ n) (fun j => ∀ (σ3 : Mem) (v5 v6 : Option MV), ((∀ y, y < j → V (exT (ordP n o) y n) = tuQ k (U y)) ∧ HV σ3 137 V ∧ (∃ U', HV σ3 143 U' ∧ bdW 1073741824 U' ∧ ∀ y, j ≤ y → U' y = U y) ∧ frW 137 144 31 37 σ σ3) → End (ev sh (d + 4) 227 33 [some (mR (124)), some (mI ((k : Nat) : Int)), some (mI ((o : Nat) : Int)), some (mI ((i : Nat) : Int)), some (mI ((j : Nat) : Int)), v5, v6] [] σ3) (fun r σ' => r = some (mI (bi (fa (smB n ck c k (ordP n o)) (2 ^ n - 0) 0))) ∧ frW 137 144 31 37 σ σ')) (by
        intro σ3 v5 v6 hp
        replace hp : (∀ y, y < (2 ^ n) → V (exT (ordP n o) y n) = tuQ k (U y)) ∧ HV σ3 137 V ∧ (∃ U', HV σ3 143 U' ∧ bdW 1073741824 U' ∧ ∀ y, (2 ^ n) ≤ y → U' y = U y) ∧ frW 137 144 31 37 σ σ3 := hp
        show End (ev sh (d + 4) 227 33 [some (mR (124)), some (mI ((k : Nat) : Int)), some (mI ((o : Nat) : Int)), some (mI ((i : Nat) : Int)), some (mI (((2 ^ n) : Nat) : Int)), v5, v6] [] σ3) (fun r σ' => r = some (mI (bi (fa (smB n ck c k (ordP n o)) (2 ^ n - 0) 0))) ∧ frW 137 144 31 37 σ σ')
        obtain ⟨t1, t2, t3, t4⟩ := hp
        have hN3 : σ3.1 124 8 = (n : Int) := by rw [t4.2 8 (by omega)]; exact hN
        rw [e227_33]
        simp (disch := first | assumption | omega | (simp (disch := omega) only [wN, w0, w1]; omega)) only [e227_0, e227_1, e227_3, e227_4, e227_5, e227_8, e227_9, e227_12, e227_13, e227_14, e227_17, e227_18, e227_21, e227_22, e227_25, e227_28, e227_29, e227_30, e227_31, e227_35, e227_36, e227_37, e227_40, e227_41, e227_44, e227_45, e227_46, e227_49, e227_51, e227_52, e227_55, e227_56, e227_58, e227_59, e227_62, e227_64, e227_65, e227_69, e227_70, e227_73, e227_74, e227_77, e227_78, e227_80, e227_81, e227_83, e227_84, e227_85, e227_86, e227_89, e227_90, e227_92, e227_93, e227_95, e227_96, e227_97, e227_98, e227_101, e227_102, e227_103, e227_106, e227_112, e227_115, e227_118, e227_121, e227_122, kl_I, kl_R, kl_N, kl_L, oSm, oNn, Option.bind_some, wN, if_pos, if_neg, nS, tN, t0, w0, w1, w2, w3, w4, w5, wm1, upA_ne, upA_same, if_true, if_false, Bool.false_eq_true, hN3, xs]
        refine ih _ _ _ _ ⟨fun f h => ?_, t4⟩
        by_cases e : f = i
        · subst e
          rw [smE, decide_eq_true rfl, Bool.true_and]
          exact (fa_iff _ _).mpr fun y _ h2 => decide_eq_true (t1 y (by omega))
        · exact hf f (by omega)) (fun j hi ih => by
        replace ih : ∀ (σ3 : Mem) (v5 v6 : Option MV), ((∀ y, y < (j + 1) → V (exT (ordP n o) y n) = tuQ k (U y)) ∧ HV σ3 137 V ∧ (∃ U', HV σ3 143 U' ∧ bdW 1073741824 U' ∧ ∀ y, (j + 1) ≤ y → U' y = U y) ∧ frW 137 144 31 37 σ σ3) → End (ev sh (d + 4) 227 33 [some (mR (124)), some (mI ((k : Nat) : Int)), some (mI ((o : Nat) : Int)), some (mI ((i : Nat) : Int)), some (mI (((j + 1) : Nat) : Int)), v5, v6] [] σ3) (fun r σ' => r = some (mI (bi (fa (smB n ck c k (ordP n o)) (2 ^ n - 0) 0))) ∧ frW 137 144 31 37 σ σ') := ih
        intro σ3 v5 v6 hp
        replace hp : (∀ y, y < j → V (exT (ordP n o) y n) = tuQ k (U y)) ∧ HV σ3 137 V ∧ (∃ U', HV σ3 143 U' ∧ bdW 1073741824 U' ∧ ∀ y, j ≤ y → U' y = U y) ∧ frW 137 144 31 37 σ σ3 := hp
        show End (ev sh (d + 4) 227 33 [some (mR (124)), some (mI ((k : Nat) : Int)), some (mI ((o : Nat) : Int)), some (mI ((i : Nat) : Int)), some (mI ((j : Nat) : Int)), v5, v6] [] σ3) (fun r σ' => r = some (mI (bi (fa (smB n ck c k (ordP n o)) (2 ^ n - 0) 0))) ∧ frW 137 144 31 37 σ σ')
        obtain ⟨t1, t2, ⟨U', t3, tb, te⟩, t4⟩ := hp
        have hN3 : σ3.1 124 8 = (n : Int) := by rw [t4.2 8 (by omega)]; exact hN
        obtain ⟨r, σ4, b1, rfl, b2, b3⟩ := M197 (d := d + 3) (s := j) (k := k) hM la t3 (by omega) hk
        have hN4 : σ4.1 124 8 = (n : Int) := by rw [b3.1]; exact hN3
        obtain ⟨r, σ5, c1, rfl, c2⟩ := M230 (d := d + 1) (s := j) (o := o) (σ := σ4) hM hN4 h1 hn ho hi
        have hV5 : HV σ5 137 V := fun y hy => by rw [(c2.1 137 (by omega) (by omega)).2, b3.2 137 (by omega)]; exact t2 y hy
        have hU5 : HV σ5 143 (upQ U' j (tuQ k (U' j))) := fun y hy => by rw [(c2.1 143 (by omega) (by omega)).2]; exact b2 y hy
        have bU5 := bd_tuW tb k j
        have ex := exT_lt (P := ordP n o) hi oP n
        have W := M227p (d := d) (o := o) (t := exT (ordP n o) j n) (y := j) (k := k) hM hV5 hU5 bV bU5 i (by omega) (by omega)
        have e0 : upQ U' j (tuQ k (U' j)) j = tuQ k (U j) := by rw [upQ_same, te j (Nat.le_refl _)]
        rw [e0] at W
        have f5 : frW 137 144 31 37 σ σ5 := (t4.tr (frL.W b3 (by omega))).tr (c2.w (by omega) (by omega) (by omega) (by omega))
        rw [e227_33]
        simp (disch := first | assumption | omega | (simp (disch := omega) only [wN, w0, w1]; omega)) only [e227_0, e227_1, e227_3, e227_4, e227_5, e227_8, e227_9, e227_12, e227_13, e227_14, e227_17, e227_18, e227_21, e227_22, e227_25, e227_28, e227_29, e227_30, e227_31, e227_35, e227_36, e227_37, e227_40, e227_41, e227_44, e227_45, e227_46, e227_49, e227_51, e227_52, e227_55, e227_56, e227_58, e227_59, e227_62, e227_64, e227_65, e227_69, e227_70, e227_73, e227_74, e227_77, e227_78, e227_80, e227_81, e227_83, e227_84, e227_85, e227_86, e227_89, e227_90, e227_92, e227_93, e227_95, e227_96, e227_97, e227_98, e227_101, e227_102, e227_103, e227_106, e227_112, e227_115, e227_118, e227_121, e227_122, kl_I, kl_R, kl_N, kl_L, oSm, oNn, Option.bind_some, wN, if_pos, if_neg, nS, tN, t0, w0, w1, w2, w3, w4, w5, wm1, upA_ne, upA_same, if_true, if_false, Bool.false_eq_true, hN3, xs, ra36, rl36, b1, c1]
        refine End.cg W ?_
        by_cases e : V (exT (ordP n o) j n) = tuQ k (U j)
        · rw [if_pos e, e227_109]
          simp (disch := first | assumption | omega | (simp (disch := omega) only [wN, w0, w1]; omega)) only [e227_0, e227_1, e227_3, e227_4, e227_5, e227_8, e227_9, e227_12, e227_13, e227_14, e227_17, e227_18, e227_21, e227_22, e227_25, e227_28, e227_29, e227_30, e227_31, e227_35, e227_36, e227_37, e227_40, e227_41, e227_44, e227_45, e227_46, e227_49, e227_51, e227_52, e227_55, e227_56, e227_58, e227_59, e227_62, e227_64, e227_65, e227_69, e227_70, e227_73, e227_74, e227_77, e227_78, e227_80, e227_81, e227_83, e227_84, e227_85, e227_86, e227_89, e227_90, e227_92, e227_93, e227_95, e227_96, e227_97, e227_98, e227_101, e227_102, e227_103, e227_106, e227_112, e227_115, e227_118, e227_121, e227_122, kl_I, kl_R, kl_N, kl_L, oSm, oNn, Option.bind_some, wN, if_pos, if_neg, nS, tN, t0, w0, w1, w2, w3, w4, w5, wm1, upA_ne, upA_same, if_true, if_false, Bool.false_eq_true]
          refine ih _ _ _ ⟨fun y hy => ?_, hV5, ⟨_, hU5, bU5, fun y hy => ?_⟩, f5⟩
          · by_cases q : y = j
            · rw [q]; exact e
            · exact t1 y (by omega)
          · rw [upQ_ne (by omega)]
            exact te y (by omega)
        · rw [if_neg e]
          refine End.of rfl ⟨?_, f5⟩
          rw [fal i hi0 (by
            rw [smE, decide_eq_true rfl, Bool.true_and]
            cases q : fa (fun y => decide (V (exT (ordP n o) y n) = tuQ k (U y))) (2 ^ n - 0) 0 with
            | false => rfl
            | true => exact absurd (of_decide_eq_true ((fa_iff _ _).mp q j (by omega) (by omega))) e)]
          rfl) 0 (Nat.zero_le _)
      rw [e227_2]
      simp (disch := first | assumption | omega | (simp (disch := omega) only [wN, w0, w1]; omega)) only [e227_0, e227_1, e227_3, e227_4, e227_5, e227_8, e227_9, e227_12, e227_13, e227_14, e227_17, e227_18, e227_21, e227_22, e227_25, e227_28, e227_29, e227_30, e227_31, e227_35, e227_36, e227_37, e227_40, e227_41, e227_44, e227_45, e227_46, e227_49, e227_51, e227_52, e227_55, e227_56, e227_58, e227_59, e227_62, e227_64, e227_65, e227_69, e227_70, e227_73, e227_74, e227_77, e227_78, e227_80, e227_81, e227_83, e227_84, e227_85, e227_86, e227_89, e227_90, e227_92, e227_93, e227_95, e227_96, e227_97, e227_98, e227_101, e227_102, e227_103, e227_106, e227_112, e227_115, e227_118, e227_121, e227_122, kl_I, kl_R, kl_N, kl_L, oSm, oNn, Option.bind_some, wN, if_pos, if_neg, nS, tN, t0, w0, w1, w2, w3, w4, w5, wm1, upA_ne, upA_same, if_true, if_false, Bool.false_eq_true, hN1, xs, a1, a31, a37]
      exact T σ2 _ _ ⟨fun y hy => by omega, aV, ⟨U, aU, bU, fun _ _ => rfl⟩, f2⟩
    · rw [e227_2]
      simp (disch := first | assumption | omega | (simp (disch := omega) only [wN, w0, w1]; omega)) only [e227_0, e227_1, e227_3, e227_4, e227_5, e227_8, e227_9, e227_12, e227_13, e227_14, e227_17, e227_18, e227_21, e227_22, e227_25, e227_28, e227_29, e227_30, e227_31, e227_35, e227_36, e227_37, e227_40, e227_41, e227_44, e227_45, e227_46, e227_49, e227_51, e227_52, e227_55, e227_56, e227_58, e227_59, e227_62, e227_64, e227_65, e227_69, e227_70, e227_73, e227_74, e227_77, e227_78, e227_80, e227_81, e227_83, e227_84, e227_85, e227_86, e227_89, e227_90, e227_92, e227_93, e227_95, e227_96, e227_97, e227_98, e227_101, e227_102, e227_103, e227_106, e227_112, e227_115, e227_118, e227_121, e227_122, kl_I, kl_R, kl_N, kl_L, oSm, oNn, Option.bind_some, wN, if_pos, if_neg, nS, tN, t0, w0, w1, w2, w3, w4, w5, wm1, upA_ne, upA_same, if_true, if_false, Bool.false_eq_true, hN1, xs, a1, a31, a37]
      refine End.of rfl ⟨?_, f2⟩
      rw [fal i hi (by rw [smE, decide_eq_false e, Bool.false_and])]
      rfl) 0 (Nat.zero_le _)
  simp (disch := first | assumption | omega | (simp (disch := omega) only [wN, w0, w1]; omega)) only [e227_0, e227_1, e227_3, e227_4, e227_5, e227_8, e227_9, e227_12, e227_13, e227_14, e227_17, e227_18, e227_21, e227_22, e227_25, e227_28, e227_29, e227_30, e227_31, e227_35, e227_36, e227_37, e227_40, e227_41, e227_44, e227_45, e227_46, e227_49, e227_51, e227_52, e227_55, e227_56, e227_58, e227_59, e227_62, e227_64, e227_65, e227_69, e227_70, e227_73, e227_74, e227_77, e227_78, e227_80, e227_81, e227_83, e227_84, e227_85, e227_86, e227_89, e227_90, e227_92, e227_93, e227_95, e227_96, e227_97, e227_98, e227_101, e227_102, e227_103, e227_106, e227_112, e227_115, e227_118, e227_121, e227_122, kl_I, kl_R, kl_N, kl_L, oSm, oNn, Option.bind_some, wN, if_pos, if_neg, nS, tN, t0, w0, w1, w2, w3, w4, w5, wm1, upA_ne, upA_same, if_true, if_false, Bool.false_eq_true, q227]
  exact L σ _ _ _ ⟨fun f hf => by omega, frW.rf⟩
end NH
/-! what same() answers -/
theorem lo_bts {p : Nat → Bool} {N : Nat} (h : N ≤ 31) : loI (bts p N) = opM (fst1 p (N - 0) 0) := by
  have key : ∀ k i, i + k = 31 → fst1 (fun j => (bts p N).testBit j) k i = fst1 p (N - i) i := by
    intro k
    induction k with
    | zero =>
      intro i hi
      rw [show N - i = 0 by omega, fst1, fst1]
    | succ k ih =>
      intro i hi
      rw [fst1, bts_bit]
      by_cases hN : i < N
      · rw [fst1_s hN]
        by_cases hp : p i = true
        · rw [if_pos (by simp [hN, hp]), if_pos hp]
        · rw [if_neg (by simp [hp]), if_neg hp]
          exact ih _ (by omega)
      · rw [if_neg (by simp [hN]), ih _ (by omega), show N - i = 0 by omega, show N - (i + 1) = 0 by omega, fst1, fst1]
  unfold loI
  rw [key (31 - 0) 0 (by omega)]
theorem fst1_cg {p q : Nat → Bool} : ∀ k i, (∀ x, i ≤ x → x < i + k → p x = q x) → fst1 p k i = fst1 q k i
  | 0, _, _ => rfl
  | k + 1, i, h => by
    rw [fst1, fst1, h i (by omega) (by omega), fst1_cg k (i + 1) (fun x h1 h2 => h x (by omega) (by omega))]
theorem fa_cg {p q : Nat → Bool} {k i : Nat} (h : ∀ x, i ≤ x → x < i + k → p x = q x) : fa p k i = fa q k i := by
  rw [Bool.eq_iff_iff, fa_iff, fa_iff]
  exact ⟨fun g x h1 h2 => (h x h1 h2) ▸ g x h1 h2, fun g x h1 h2 => (h x h1 h2).symm ▸ g x h1 h2⟩
theorem exT_4 {P : Nat → Nat} {s n : Nat} (hs : s < 2 ^ n) (hn : n ≤ 4) : exT P s 4 = exT P s n := by
  obtain ⟨k, hk⟩ : ∃ k, 4 = n + k := ⟨4 - n, by omega⟩
  rw [hk]
  clear hk
  induction k with
  | zero => rfl
  | succ k ih =>
    rw [← Nat.add_assoc, exT, if_neg (by rw [bit_ge hs (by omega)]; simp)]
    exact ih
theorem exT_id {P : Nat → Nat} {s n : Nat} (hs : s < 2 ^ n) (hP : ∀ x, x < n → P x = x) : exT P s n = s := by
  have key : ∀ l, l ≤ n → ∀ j, (exT P s l).testBit j = (decide (j < l) && s.testBit j) := by
    intro l
    induction l with
    | zero => intro _ j; simp [exT]
    | succ l ih =>
      intro hl j
      rw [exT, hP l (by omega)]
      by_cases e : s.testBit l = true
      · rw [if_pos e, Nat.testBit_or, ih (by omega), Nat.testBit_two_pow]
        by_cases q : l = j
        · subst q; simp [e]
        · by_cases q2 : j < l
          · simp [q2, q, show j < l + 1 by omega]
          · simp [q2, q, show ¬ j < l + 1 by omega]
      · rw [if_neg e, ih (by omega)]
        by_cases q : j = l
        · subst q; simp [e]
        · by_cases q2 : j < l
          · simp [q2, show j < l + 1 by omega]
          · simp [q2, show ¬ j < l + 1 by omega]
  apply Nat.eq_of_testBit_eq
  intro j
  rw [key n (Nat.le_refl _) j]
  by_cases q : j < n
  · simp [q]
  · rw [bit_ge hs (by omega)]; simp
theorem ord0 : ∀ n, n < 5 → (List.range n).all (fun x => decide (ordP n 0 x = x)) = true := by decide +kernel
theorem smB_tn {n k f : Nat} {ck c : List Gt} (hn : n ≤ 4) : smB n ck c k (ordP n 0) f = tnB n ck c f k := by
  have h0 : ∀ x, x < n → ordP n 0 x = x := fun x hx => by
    have h := ord0 n (by omega)
    rw [List.all_eq_true] at h
    exact of_decide_eq_true (h x (List.mem_range.mpr hx))
  unfold smB tnB
  congr 1
  refine fa_cg fun y _ hy => ?_
  rw [exT_id (by omega) h0]
theorem smB_od {n o f : Nat} {ck c : List Gt} (hn : n ≤ 4) : smB n ck c 0 (ordP n o) f = odB n ck c f (pOf n ((rwL n n).getD o 0)) := by
  unfold smB odB ordP
  congr 1
  refine fa_cg fun y _ hy => ?_
  rw [exT_4 (by omega) hn]
  rfl
theorem fst1_at {p : Nat → Bool} : ∀ {k i x : Nat}, i ≤ x → x < i + k → (∀ y, i ≤ y → y < x → p y = false) → p x = true → fst1 p k i = some x
  | 0, i, x, h1, h2, _, _ => by omega
  | k + 1, i, x, h1, h2, h3, h4 => by
    rw [fst1]
    by_cases e : x = i
    · rw [if_pos (by rw [← e]; exact h4), e]
    · rw [if_neg (by rw [h3 i (by omega) (by omega)]; simp)]
      exact fst1_at (by omega) (by omega) (fun y g1 g2 => h3 y (by omega) g2) h4
theorem fst1_no {p : Nat → Bool} : ∀ {k i : Nat}, (∀ y, i ≤ y → y < i + k → p y = false) → fst1 p k i = none
  | 0, i, _ => rfl
  | k + 1, i, h => by
    rw [fst1, if_neg (by rw [h i (by omega) (by omega)]; simp)]
    exact fst1_no (fun y g1 g2 => h y (by omega) (by omega))
section NI
variable {sh : Shp} {d : Nat} {σ : Mem} {w : Int} {a : AX}
theorem M231 (hM : MS sh) (h : InvM sh σ a) (hw' : i32 w) : End (run sh (d + 5) 231 [mR 124, mI w] σ) (fun r σ' => r = some (mI (aSame a w)) ∧ InvM sh σ' a) := by
  have hI := h
  have mo := hM.1
  have m160 := hM.2.1
  obtain ⟨⟨n, c, m, E, P, x⟩, K, B, s, T⟩ := a
  obtain ⟨⟨hG, hN, hMp, hEl, hx0, hE, hP, hoS⟩, hik, hKp, hTp, h140, hTm⟩ := id h
  replace hG : HGm σ 0 c := hG
  replace hN : σ.1 124 8 = (n : Int) := hN
  replace hMp : σ.1 124 9 = (m : Int) := hMp
  replace hEl : σ.1 124 10 = (E.length : Int) := hEl
  replace hx0 : σ.1 124 11 = (x : Int) := hx0
  replace hE : HEm σ 127 128 E := hE
  replace hP : ∀ y, y < n → σ.1 129 y = (P y : Int) := hP
  replace hoS : okZ n c m E P x := hoS
  replace hTp : HPm σ B s := hTp
  replace h140 : s ≤ 140 := h140
  replace hTm : HT sh σ 157 T := hTm
  replace hik : σ.1 124 16 = bi K.isSome := hik
  obtain ⟨n1, n4', c30, hv, m2, m5, E10, hvE, hPk, x16⟩ := id hoS
  have ww := hw'.w
  have ei := E164 (sh := sh) (d := d + 4) (σ := σ) (z := w) (w := 0) (v := 2) hw' ⟨by omega, by omega⟩ ⟨by omega, by omega⟩
  have fb := faC_le n (by omega)
  unfold aSame
  simp only
  by_cases h1 : w < 0 ∨ 2 < w
  · rw [if_pos h1]
    rw [if_neg (by omega)] at ei
    simp (disch := first | assumption | omega | (simp (disch := omega) only [wN, w0, w1]; omega)) only [e231_0, e231_1, e231_2, e231_3, e231_6, e231_9, e231_10, e231_11, e231_12, e231_15, e231_18, e231_19, e231_22, e231_23, e231_26, e231_29, e231_31, e231_32, e231_33, e231_36, e231_37, e231_38, e231_39, e231_42, e231_45, e231_46, e231_49, e231_50, e231_51, e231_52, e231_53, e231_56, e231_58, e231_61, e231_62, e231_65, e231_66, e231_67, e231_68, e231_69, e231_70, e231_73, e231_74, e231_75, e231_78, e231_79, e231_80, e231_81, e231_84, e231_87, e231_90, e231_91, e231_92, e231_93, e231_96, e231_99, e231_100, e231_101, e231_104, e231_107, e231_109, kl_I, kl_R, kl_N, kl_L, oSm, oNn, Option.bind_some, wN, if_pos, if_neg, nS, tN, t0, w0, w1, w2, w3, w4, w5, wm1, upA_ne, upA_same, if_true, if_false, Bool.false_eq_true, q231, ei]
    exact End.of rfl ⟨rfl, hI⟩
  · rw [if_neg h1]
    rw [if_pos (by omega)] at ei
    cases K with
    | none =>
      replace hik : σ.1 124 16 = 0 := hik
      simp (disch := first | assumption | omega | (simp (disch := omega) only [wN, w0, w1]; omega)) only [e231_0, e231_1, e231_2, e231_3, e231_6, e231_9, e231_10, e231_11, e231_12, e231_15, e231_18, e231_19, e231_22, e231_23, e231_26, e231_29, e231_31, e231_32, e231_33, e231_36, e231_37, e231_38, e231_39, e231_42, e231_45, e231_46, e231_49, e231_50, e231_51, e231_52, e231_53, e231_56, e231_58, e231_61, e231_62, e231_65, e231_66, e231_67, e231_68, e231_69, e231_70, e231_73, e231_74, e231_75, e231_78, e231_79, e231_80, e231_81, e231_84, e231_87, e231_90, e231_91, e231_92, e231_93, e231_96, e231_99, e231_100, e231_101, e231_104, e231_107, e231_109, kl_I, kl_R, kl_N, kl_L, oSm, oNn, Option.bind_some, wN, if_pos, if_neg, nS, tN, t0, w0, w1, w2, w3, w4, w5, wm1, upA_ne, upA_same, if_true, if_false, Bool.false_eq_true, q231, ei, hik]
      exact End.of rfl ⟨rfl, hI⟩
    | some S =>
      replace hik : σ.1 124 16 = 1 := hik
      obtain ⟨k1, k2, _, _, _, _, _, k8⟩ := hKp S rfl
      replace k2 : σ.1 124 12 = (S.1 : Int) := k2
      obtain ⟨_, s4, s30, sv, _⟩ := id k8
      simp only
      by_cases h2 : S.1 = n
      · rw [if_neg (by simp [h2])]
        rw [h2] at k2 sv
        have Bq : ∀ (k o : Nat) (σ1 : Mem), k < 8 → o < faC n → frW 137 144 31 37 σ σ1 → End (run sh (d + 4) 227 [mR 124, mI (k : Int), mI (o : Int)] σ1) (fun r σ' => r = some (mI (bi (fa (smB n S.2.1 c k (ordP n o)) (2 ^ n - 0) 0))) ∧ frW 137 144 31 37 σ σ') := fun k o σ1 hk ho hp => by
          have k26 : σ1.1 126 = σ.1 126 := (hp.1 126 (by omega) (by omega)).1
          have k25 : σ1.1 125 = σ.1 125 := (hp.1 125 (by omega) (by omega)).1
          exact (M227 (d := d) hM (hG.k (by rw [k26]) (fun _ _ _ => by rw [k25])) c30 hv (k1.k (by rw [k26]) (fun _ _ _ => by rw [k25])) s30 sv (by rw [hp.2 8 (by omega)]; exact hN) n1 n4' ho hk).imp (fun r σ' q => ⟨q.1, hp.tr q.2⟩)
        have fin : ∀ σ', frW 137 144 31 37 σ σ' → InvM sh σ' ((n, c, m, E, P, x), some S, B, s, T) := fun σ' hp => hI.W hp (by omega) (by omega) (by omega)
        rcases (show w = 0 ∨ w = 1 ∨ w = 2 by omega) with rfl | rfl | rfl
        · obtain ⟨r, σ2, b1, rfl, b2⟩ := Bq 0 0 σ (by omega) (by omega) frW.rf
          rw [if_neg (by omega), if_pos rfl]
          have e : fa (smB n S.2.1 c 0 (ordP n 0)) (2 ^ n - 0) 0 = fa (fun f => tnB n S.2.1 c f 0) (2 ^ n) 0 := by
            rw [Nat.sub_zero]
            exact fa_cg fun f _ _ => smB_tn n4'
          have t0 : (tnS n S.2.1 c (2 ^ n)).testBit 0 = fa (fun f => tnB n S.2.1 c f 0) (2 ^ n) 0 := by
            unfold tnS
            rw [bts_bit]
            simp
          rw [e, ← t0, Nat.testBit_zero] at b1
          by_cases q : tnS n S.2.1 c (2 ^ n) % 2 = 1
          · rw [decide_eq_true q] at b1
            replace b1 : run sh (d + 4) 227 [mR 124, mI 0, mI 0] σ = some (some (mI 1), σ2) := b1
            rw [q]
            simp (disch := first | assumption | omega | (simp (disch := omega) only [wN, w0, w1]; omega)) only [e231_0, e231_1, e231_2, e231_3, e231_6, e231_9, e231_10, e231_11, e231_12, e231_15, e231_18, e231_19, e231_22, e231_23, e231_26, e231_29, e231_31, e231_32, e231_33, e231_36, e231_37, e231_38, e231_39, e231_42, e231_45, e231_46, e231_49, e231_50, e231_51, e231_52, e231_53, e231_56, e231_58, e231_61, e231_62, e231_65, e231_66, e231_67, e231_69, e231_70, e231_73, e231_74, e231_75, e231_78, e231_79, e231_80, e231_81, e231_84, e231_87, e231_90, e231_91, e231_92, e231_93, e231_96, e231_99, e231_100, e231_101, e231_104, e231_107, e231_109, kl_I, kl_R, kl_N, kl_L, oSm, oNn, Option.bind_some, wN, if_pos, if_neg, nS, tN, t0, w0, w1, w2, w3, w4, w5, wm1, upA_ne, upA_same, if_true, if_false, Bool.false_eq_true, q231, ei, hik, k2, hN, b1]
            exact End.of rfl ⟨rfl, fin _ b2⟩
          · rw [decide_eq_false q] at b1
            replace b1 : run sh (d + 4) 227 [mR 124, mI 0, mI 0] σ = some (some (mI 0), σ2) := b1
            rw [show tnS n S.2.1 c (2 ^ n) % 2 = 0 by omega]
            simp (disch := first | assumption | omega | (simp (disch := omega) only [wN, w0, w1]; omega)) only [e231_0, e231_1, e231_2, e231_3, e231_6, e231_9, e231_10, e231_11, e231_12, e231_15, e231_18, e231_19, e231_22, e231_23, e231_26, e231_29, e231_31, e231_32, e231_33, e231_36, e231_37, e231_38, e231_39, e231_42, e231_45, e231_46, e231_49, e231_50, e231_51, e231_52, e231_53, e231_56, e231_58, e231_61, e231_62, e231_65, e231_66, e231_67, e231_69, e231_70, e231_73, e231_74, e231_75, e231_78, e231_79, e231_80, e231_81, e231_84, e231_87, e231_90, e231_91, e231_92, e231_93, e231_96, e231_99, e231_100, e231_101, e231_104, e231_107, e231_109, kl_I, kl_R, kl_N, kl_L, oSm, oNn, Option.bind_some, wN, if_pos, if_neg, nS, tN, t0, w0, w1, w2, w3, w4, w5, wm1, upA_ne, upA_same, if_true, if_false, Bool.false_eq_true, q231, ei, hik, k2, hN, b1]
            exact End.of rfl ⟨rfl, fin _ b2⟩
        · rw [if_neg (by omega), if_neg (by omega)]
          have e : loI (tnS n S.2.1 c (2 ^ n)) = opM (fst1 (fun t => fa (smB n S.2.1 c t (ordP n 0)) (2 ^ n - 0) 0) (8 - 0) 0) := by
            unfold tnS
            rw [lo_bts (by omega), Nat.sub_zero, Nat.sub_zero]
            refine congrArg opM (fst1_cg _ _ fun t _ _ => (fa_cg fun f _ _ => (smB_tn n4').symm))
          rw [e]
          generalize hp0 : (fun t => fa (smB n S.2.1 c t (ordP n 0)) (2 ^ n - 0) 0) = pt at *
          have hpt : ∀ t, fa (smB n S.2.1 c t (ordP n 0)) (2 ^ n - 0) 0 = pt t := fun t => by rw [← hp0]
          have L := for_P (8) (fun i => ∀ (σ1 : Mem), ((∀ x, x < i → pt x = false) ∧ frW 137 144 31 37 σ σ1) → End (ev sh (d + 5) 231 68 [some (mR (124)), some (mI (1)), some (mI (8)), some (mI ((i : Nat) : Int))] [] σ1) (fun r σ' => r = some (mI (opM (fst1 pt (8 - 0) 0))) ∧ frW 137 144 31 37 σ σ')) (by
            intro σ1  hp
            replace hp : (∀ x, x < (8) → pt x = false) ∧ frW 137 144 31 37 σ σ1 := hp
            show End (ev sh (d + 5) 231 68 [some (mR (124)), some (mI (1)), some (mI (8)), some (mI (((8) : Nat) : Int))] [] σ1) (fun r σ' => r = some (mI (opM (fst1 pt (8 - 0) 0))) ∧ frW 137 144 31 37 σ σ')
            have w8 : wi 8 = 8 := rfl
            rw [fst1_no fun y _ g => hp.1 y (by omega), e231_68]
            simp (disch := first | assumption | omega | (simp (disch := omega) only [wN, w0, w1]; omega)) only [e231_0, e231_1, e231_2, e231_3, e231_6, e231_9, e231_10, e231_11, e231_12, e231_15, e231_18, e231_19, e231_22, e231_23, e231_26, e231_29, e231_31, e231_32, e231_33, e231_36, e231_37, e231_38, e231_39, e231_42, e231_45, e231_46, e231_49, e231_50, e231_51, e231_52, e231_53, e231_56, e231_58, e231_61, e231_62, e231_65, e231_66, e231_67, e231_69, e231_70, e231_73, e231_74, e231_75, e231_78, e231_79, e231_80, e231_81, e231_84, e231_87, e231_90, e231_91, e231_92, e231_93, e231_96, e231_99, e231_100, e231_101, e231_104, e231_107, e231_109, kl_I, kl_R, kl_N, kl_L, oSm, oNn, Option.bind_some, wN, if_pos, if_neg, nS, tN, t0, w0, w1, w2, w3, w4, w5, wm1, upA_ne, upA_same, if_true, if_false, Bool.false_eq_true, w8]
            exact End.of rfl ⟨rfl, hp.2⟩) (fun i hi ih => by
            replace ih : ∀ (σ1 : Mem), ((∀ x, x < (i + 1) → pt x = false) ∧ frW 137 144 31 37 σ σ1) → End (ev sh (d + 5) 231 68 [some (mR (124)), some (mI (1)), some (mI (8)), some (mI (((i + 1) : Nat) : Int))] [] σ1) (fun r σ' => r = some (mI (opM (fst1 pt (8 - 0) 0))) ∧ frW 137 144 31 37 σ σ') := ih
            intro σ1  hp
            replace hp : (∀ x, x < i → pt x = false) ∧ frW 137 144 31 37 σ σ1 := hp
            show End (ev sh (d + 5) 231 68 [some (mR (124)), some (mI (1)), some (mI (8)), some (mI ((i : Nat) : Int))] [] σ1) (fun r σ' => r = some (mI (opM (fst1 pt (8 - 0) 0))) ∧ frW 137 144 31 37 σ σ')
            have w8 : wi 8 = 8 := rfl
            obtain ⟨r, σ2, b1, rfl, b2⟩ := Bq i 0 σ1 (by omega) (by omega) hp.2
            rw [hpt] at b1
            replace b1 : run sh (d + 4) 227 [mR 124, mI (i : Int), mI 0] σ1 = some (some (mI (bi (pt i))), σ2) := b1
            rw [e231_68]
            by_cases q : pt i = true
            · rw [q] at b1
              replace b1 : run sh (d + 4) 227 [mR 124, mI (i : Int), mI 0] σ1 = some (some (mI 1), σ2) := b1
              rw [fst1_at (x := i) (by omega) (by omega) (fun y _ g => hp.1 y g) q]
              simp (disch := first | assumption | omega | (simp (disch := omega) only [wN, w0, w1]; omega)) only [e231_0, e231_1, e231_2, e231_3, e231_6, e231_9, e231_10, e231_11, e231_12, e231_15, e231_18, e231_19, e231_22, e231_23, e231_26, e231_29, e231_31, e231_32, e231_33, e231_36, e231_37, e231_38, e231_39, e231_42, e231_45, e231_46, e231_49, e231_50, e231_51, e231_52, e231_53, e231_56, e231_58, e231_61, e231_62, e231_65, e231_66, e231_67, e231_69, e231_70, e231_73, e231_74, e231_75, e231_78, e231_79, e231_80, e231_81, e231_84, e231_87, e231_90, e231_91, e231_92, e231_93, e231_96, e231_99, e231_100, e231_101, e231_104, e231_107, e231_109, kl_I, kl_R, kl_N, kl_L, oSm, oNn, Option.bind_some, wN, if_pos, if_neg, nS, tN, t0, w0, w1, w2, w3, w4, w5, wm1, upA_ne, upA_same, if_true, if_false, Bool.false_eq_true, w8, b1]
              exact End.of rfl ⟨rfl, b2⟩
            · have q' : pt i = false := by simpa using q
              rw [q'] at b1
              replace b1 : run sh (d + 4) 227 [mR 124, mI (i : Int), mI 0] σ1 = some (some (mI 0), σ2) := b1
              simp (disch := first | assumption | omega | (simp (disch := omega) only [wN, w0, w1]; omega)) only [e231_0, e231_1, e231_2, e231_3, e231_6, e231_9, e231_10, e231_11, e231_12, e231_15, e231_18, e231_19, e231_22, e231_23, e231_26, e231_29, e231_31, e231_32, e231_33, e231_36, e231_37, e231_38, e231_39, e231_42, e231_45, e231_46, e231_49, e231_50, e231_51, e231_52, e231_53, e231_56, e231_58, e231_61, e231_62, e231_65, e231_66, e231_67, e231_69, e231_70, e231_73, e231_74, e231_75, e231_78, e231_79, e231_80, e231_81, e231_84, e231_87, e231_90, e231_91, e231_92, e231_93, e231_96, e231_99, e231_100, e231_101, e231_104, e231_107, e231_109, kl_I, kl_R, kl_N, kl_L, oSm, oNn, Option.bind_some, wN, if_pos, if_neg, nS, tN, t0, w0, w1, w2, w3, w4, w5, wm1, upA_ne, upA_same, if_true, if_false, Bool.false_eq_true, w8, b1]
              refine ih _ ⟨fun x hx => ?_, b2⟩
              by_cases g : x = i
              · rw [g]; exact q'
              · exact hp.1 x (by omega)) 0 (Nat.zero_le _)
          simp (disch := first | assumption | omega | (simp (disch := omega) only [wN, w0, w1]; omega)) only [e231_0, e231_1, e231_2, e231_3, e231_6, e231_9, e231_10, e231_11, e231_12, e231_15, e231_18, e231_19, e231_22, e231_23, e231_26, e231_29, e231_31, e231_32, e231_33, e231_36, e231_37, e231_38, e231_39, e231_42, e231_45, e231_46, e231_49, e231_50, e231_51, e231_52, e231_53, e231_56, e231_58, e231_61, e231_62, e231_65, e231_66, e231_67, e231_69, e231_70, e231_73, e231_74, e231_75, e231_78, e231_79, e231_80, e231_81, e231_84, e231_87, e231_90, e231_91, e231_92, e231_93, e231_96, e231_99, e231_100, e231_101, e231_104, e231_107, e231_109, kl_I, kl_R, kl_N, kl_L, oSm, oNn, Option.bind_some, wN, if_pos, if_neg, nS, tN, t0, w0, w1, w2, w3, w4, w5, wm1, upA_ne, upA_same, if_true, if_false, Bool.false_eq_true, q231, ei, hik, k2, hN]
          refine (L σ ⟨fun x hx => by omega, frW.rf⟩).imp fun r σ' q => ⟨q.1, fin _ q.2⟩
        · rw [if_pos rfl]
          have e : loI (odS n S.2.1 c (2 ^ n)) = opM (fst1 (fun t => fa (smB n S.2.1 c 0 (ordP n t)) (2 ^ n - 0) 0) (faC n - 0) 0) := by
            unfold odS
            rw [lo_bts (by omega), ← fb.2.2, Nat.sub_zero, Nat.sub_zero]
            refine congrArg opM (fst1_cg _ _ fun t _ _ => (fa_cg fun f _ _ => (smB_od n4').symm))
          rw [e]
          generalize hp0 : (fun t => fa (smB n S.2.1 c 0 (ordP n t)) (2 ^ n - 0) 0) = pt at *
          have hpt : ∀ t, fa (smB n S.2.1 c 0 (ordP n t)) (2 ^ n - 0) 0 = pt t := fun t => by rw [← hp0]
          have L := for_P (faC n) (fun i => ∀ (σ1 : Mem), ((∀ x, x < i → pt x = false) ∧ frW 137 144 31 37 σ σ1) → End (ev sh (d + 5) 231 68 [some (mR (124)), some (mI (2)), some (mI ((faC n : Nat) : Int)), some (mI ((i : Nat) : Int))] [] σ1) (fun r σ' => r = some (mI (opM (fst1 pt (faC n - 0) 0))) ∧ frW 137 144 31 37 σ σ')) (by
            intro σ1  hp
            replace hp : (∀ x, x < (faC n) → pt x = false) ∧ frW 137 144 31 37 σ σ1 := hp
            show End (ev sh (d + 5) 231 68 [some (mR (124)), some (mI (2)), some (mI ((faC n : Nat) : Int)), some (mI (((faC n) : Nat) : Int))] [] σ1) (fun r σ' => r = some (mI (opM (fst1 pt (faC n - 0) 0))) ∧ frW 137 144 31 37 σ σ')
            rw [fst1_no fun y _ g => hp.1 y (by omega), e231_68]
            simp (disch := first | assumption | omega | (simp (disch := omega) only [wN, w0, w1]; omega)) only [e231_0, e231_1, e231_2, e231_3, e231_6, e231_9, e231_10, e231_11, e231_12, e231_15, e231_18, e231_19, e231_22, e231_23, e231_26, e231_29, e231_31, e231_32, e231_33, e231_36, e231_37, e231_38, e231_39, e231_42, e231_45, e231_46, e231_49, e231_50, e231_51, e231_52, e231_53, e231_56, e231_58, e231_61, e231_62, e231_65, e231_66, e231_67, e231_69, e231_70, e231_73, e231_74, e231_75, e231_78, e231_79, e231_80, e231_81, e231_84, e231_87, e231_90, e231_91, e231_92, e231_93, e231_96, e231_99, e231_100, e231_101, e231_104, e231_107, e231_109, kl_I, kl_R, kl_N, kl_L, oSm, oNn, Option.bind_some, wN, if_pos, if_neg, nS, tN, t0, w0, w1, w2, w3, w4, w5, wm1, upA_ne, upA_same, if_true, if_false, Bool.false_eq_true]
            exact End.of rfl ⟨rfl, hp.2⟩) (fun i hi ih => by
            replace ih : ∀ (σ1 : Mem), ((∀ x, x < (i + 1) → pt x = false) ∧ frW 137 144 31 37 σ σ1) → End (ev sh (d + 5) 231 68 [some (mR (124)), some (mI (2)), some (mI ((faC n : Nat) : Int)), some (mI (((i + 1) : Nat) : Int))] [] σ1) (fun r σ' => r = some (mI (opM (fst1 pt (faC n - 0) 0))) ∧ frW 137 144 31 37 σ σ') := ih
            intro σ1  hp
            replace hp : (∀ x, x < i → pt x = false) ∧ frW 137 144 31 37 σ σ1 := hp
            show End (ev sh (d + 5) 231 68 [some (mR (124)), some (mI (2)), some (mI ((faC n : Nat) : Int)), some (mI ((i : Nat) : Int))] [] σ1) (fun r σ' => r = some (mI (opM (fst1 pt (faC n - 0) 0))) ∧ frW 137 144 31 37 σ σ')
            obtain ⟨r, σ2, b1, rfl, b2⟩ := Bq 0 i σ1 (by omega) hi hp.2
            rw [hpt] at b1
            replace b1 : run sh (d + 4) 227 [mR 124, mI 0, mI (i : Int)] σ1 = some (some (mI (bi (pt i))), σ2) := b1
            rw [e231_68]
            by_cases q : pt i = true
            · rw [q] at b1
              replace b1 : run sh (d + 4) 227 [mR 124, mI 0, mI (i : Int)] σ1 = some (some (mI 1), σ2) := b1
              rw [fst1_at (x := i) (by omega) (by omega) (fun y _ g => hp.1 y g) q]
              simp (disch := first | assumption | omega | (simp (disch := omega) only [wN, w0, w1]; omega)) only [e231_0, e231_1, e231_2, e231_3, e231_6, e231_9, e231_10, e231_11, e231_12, e231_15, e231_18, e231_19, e231_22, e231_23, e231_26, e231_29, e231_31, e231_32, e231_33, e231_36, e231_37, e231_38, e231_39, e231_42, e231_45, e231_46, e231_49, e231_50, e231_51, e231_52, e231_53, e231_56, e231_58, e231_61, e231_62, e231_65, e231_66, e231_67, e231_69, e231_70, e231_73, e231_74, e231_75, e231_78, e231_79, e231_80, e231_81, e231_84, e231_87, e231_90, e231_91, e231_92, e231_93, e231_96, e231_99, e231_100, e231_101, e231_104, e231_107, e231_109, kl_I, kl_R, kl_N, kl_L, oSm, oNn, Option.bind_some, wN, if_pos, if_neg, nS, tN, t0, w0, w1, w2, w3, w4, w5, wm1, upA_ne, upA_same, if_true, if_false, Bool.false_eq_true, b1]
              exact End.of rfl ⟨rfl, b2⟩
            · have q' : pt i = false := by simpa using q
              rw [q'] at b1
              replace b1 : run sh (d + 4) 227 [mR 124, mI 0, mI (i : Int)] σ1 = some (some (mI 0), σ2) := b1
              simp (disch := first | assumption | omega | (simp (disch := omega) only [wN, w0, w1]; omega)) only [e231_0, e231_1, e231_2, e231_3, e231_6, e231_9, e231_10, e231_11, e231_12, e231_15, e231_18, e231_19, e231_22, e231_23, e231_26, e231_29, e231_31, e231_32, e231_33, e231_36, e231_37, e231_38, e231_39, e231_42, e231_45, e231_46, e231_49, e231_50, e231_51, e231_52, e231_53, e231_56, e231_58, e231_61, e231_62, e231_65, e231_66, e231_67, e231_69, e231_70, e231_73, e231_74, e231_75, e231_78, e231_79, e231_80, e231_81, e231_84, e231_87, e231_90, e231_91, e231_92, e231_93, e231_96, e231_99, e231_100, e231_101, e231_104, e231_107, e231_109, kl_I, kl_R, kl_N, kl_L, oSm, oNn, Option.bind_some, wN, if_pos, if_neg, nS, tN, t0, w0, w1, w2, w3, w4, w5, wm1, upA_ne, upA_same, if_true, if_false, Bool.false_eq_true, b1]
              refine ih _ ⟨fun x hx => ?_, b2⟩
              by_cases g : x = i
              · rw [g]; exact q'
              · exact hp.1 x (by omega)) 0 (Nat.zero_le _)
          have eo := M229 (d := d + 4) (σ := σ) hM hN n1 n4'
          simp (disch := first | assumption | omega | (simp (disch := omega) only [wN, w0, w1]; omega)) only [e231_0, e231_1, e231_2, e231_3, e231_6, e231_9, e231_10, e231_11, e231_12, e231_15, e231_18, e231_19, e231_22, e231_23, e231_26, e231_29, e231_31, e231_32, e231_33, e231_36, e231_37, e231_38, e231_39, e231_42, e231_45, e231_46, e231_49, e231_50, e231_51, e231_52, e231_53, e231_56, e231_58, e231_61, e231_62, e231_65, e231_66, e231_67, e231_69, e231_70, e231_73, e231_74, e231_75, e231_78, e231_79, e231_80, e231_81, e231_84, e231_87, e231_90, e231_91, e231_92, e231_93, e231_96, e231_99, e231_100, e231_101, e231_104, e231_107, e231_109, kl_I, kl_R, kl_N, kl_L, oSm, oNn, Option.bind_some, wN, if_pos, if_neg, nS, tN, t0, w0, w1, w2, w3, w4, w5, wm1, upA_ne, upA_same, if_true, if_false, Bool.false_eq_true, q231, ei, hik, k2, hN, eo]
          refine (L σ ⟨fun x hx => by omega, frW.rf⟩).imp fun r σ' q => ⟨q.1, fin _ q.2⟩
      · rw [if_pos (by simp [h2])]
        have s4' : S.1 ≤ 4 := s4
        simp (disch := first | assumption | omega | (simp (disch := omega) only [wN, w0, w1]; omega)) only [e231_0, e231_1, e231_2, e231_3, e231_6, e231_9, e231_10, e231_11, e231_12, e231_15, e231_18, e231_19, e231_22, e231_23, e231_26, e231_29, e231_31, e231_32, e231_33, e231_36, e231_37, e231_38, e231_39, e231_42, e231_45, e231_46, e231_49, e231_50, e231_51, e231_52, e231_53, e231_56, e231_58, e231_61, e231_62, e231_65, e231_66, e231_67, e231_68, e231_69, e231_70, e231_73, e231_74, e231_75, e231_78, e231_79, e231_80, e231_81, e231_84, e231_87, e231_90, e231_91, e231_92, e231_93, e231_96, e231_99, e231_100, e231_101, e231_104, e231_107, e231_109, kl_I, kl_R, kl_N, kl_L, oSm, oNn, Option.bind_some, wN, if_pos, if_neg, nS, tN, t0, w0, w1, w2, w3, w4, w5, wm1, upA_ne, upA_same, if_true, if_false, Bool.false_eq_true, q231, ei, hik, k2, hN]
        exact End.of rfl ⟨rfl, hI⟩
end NI

