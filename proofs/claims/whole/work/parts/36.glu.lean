/-! ===== urgentOnes ===== -/
def tlF (lo : Bool) (T : Nat → Nat) (c : List Gt) : Nat → Nat → Nat
  | 0, _ => 0
  | f + 1, i => mxx (fun h => if wtB lo (gA c (i + 1 + h)) (gA c i) = true then tlF lo T c f (i + 1 + h) + T (gA c (i + 1 + h)).1 else 0) (c.length - 1 - i)
theorem tlF_eq {lo : Bool} {T : Nat → Nat} {c : List Gt} : ∀ f f' i, c.length - 1 - i < f → c.length - 1 - i < f' → tlF lo T c f i = tlF lo T c f' i
  | 0, _, i, h, _ => by omega
  | _ + 1, 0, i, _, h => by omega
  | f + 1, f' + 1, i, h, h' => by
    rw [tlF, tlF]
    refine mxx_congr _ fun x hx => ?_
    rw [tlF_eq f f' (i + 1 + x) (by omega) (by omega)]
/-- what still must run when gate i has ended -/
def tlS (lo : Bool) (T : Nat → Nat) (c : List Gt) (i : Nat) : Nat := tlF lo T c (c.length + 1) i
def tlG (lo : Bool) (T : Nat → Nat) (c : List Gt) (i h : Nat) : Nat := if wtB lo (gA c (i + 1 + h)) (gA c i) = true then tlS lo T c (i + 1 + h) + T (gA c (i + 1 + h)).1 else 0
theorem tlS_eq {lo : Bool} {T : Nat → Nat} {c : List Gt} {i : Nat} (hi : i < c.length) : tlS lo T c i = mxx (tlG lo T c i) (c.length - 1 - i) := by
  unfold tlS
  rw [tlF]
  refine mxx_congr _ fun x hx => ?_
  unfold tlG tlS
  rw [tlF_eq c.length (c.length + 1) (i + 1 + x) (by omega) (by omega)]
theorem tlF_le {lo : Bool} {T : Nat → Nat} {c : List Gt} (hT : ∀ k, k ≤ 5 → T k ≤ 20) {n : Nat} (hv : okC n c) : ∀ f i, i < c.length → tlF lo T c f i ≤ 20 * (c.length - 1 - i)
  | 0, i, _ => Nat.zero_le _
  | f + 1, i, hi => by
    rw [tlF]
    refine mxx_le _ fun h hh => ?_
    have h1 := tlF_le (lo := lo) hT hv f (i + 1 + h) (by omega)
    have h2 := hT _ (hv.at (show i + 1 + h < c.length by omega)).1
    split <;> omega
theorem tlS_le {lo : Bool} {T : Nat → Nat} {c : List Gt} (hT : ∀ k, k ≤ 5 → T k ≤ 20) {n : Nat} (hv : okC n c) {i : Nat} (hi : i < c.length) : tlS lo T c i ≤ 20 * (c.length - 1 - i) := tlF_le hT hv _ i hi
def ugB (lo : Bool) (T : Nat → Nat) (c : List Gt) (i : Nat) : Bool := decide (enS lo T c i + tlS lo T c i = mxx (enS lo T c) c.length)
theorem mmn_sub {M a b : Nat} (h1 : M < 100000) (h2 : a < 100000) (h3 : b < 100000) : mmn ((M : Int) - (a : Int)) ((M : Int) - (b : Int)) = (M : Int) - ((max a b : Nat) : Int) := by
  unfold mmn
  rw [wi_id (by omega) (by omega), wi_id (by omega) (by omega)]
  rcases Nat.le_total a b with h | h
  · rw [Nat.max_eq_right h]; split <;> omega
  · rw [Nat.max_eq_left h]; split <;> omega
theorem bts_dn {p : Nat → Bool} {N q i : Nat} (h : N = q + 1 + i) : bts (fun j => decide (N - (i + 1) ≤ j) && p j) N = if p q = true then bts (fun j => decide (N - i ≤ j) && p j) N ||| 2 ^ q else bts (fun j => decide (N - i ≤ j) && p j) N := by
  apply Nat.eq_of_testBit_eq
  intro j
  have hd : q ≠ j → decide (N - (i + 1) ≤ j) = decide (N - i ≤ j) := fun e => by
    rw [decide_eq_decide]; omega
  by_cases hp : p q = true
  · rw [if_pos hp, Nat.testBit_or, bts_bit, bts_bit, Nat.testBit_two_pow]
    by_cases e : q = j
    · subst e
      rw [hp, decide_eq_true (show q < N by omega), decide_eq_true (show N - (i + 1) ≤ q by omega)]; simp
    · rw [hd e]; simp [e]
  · rw [if_neg hp, bts_bit, bts_bit]
    by_cases e : q = j
    · subst e; simp [hp]
    · rw [hd e]
section GLU
variable {sh : Shp} {d g cap n t : Nat} {σ : Mem} {c : List Gt} {x : Nat} {lo : Bool} {T : Nat → Nat}
theorem L66 (hg : glS sh g cap) (hG : HG σ g c) (hc : c.length ≤ cap) (hb : cap ≤ 100) (hv : okC n c) (hn5 : n ≤ 5) (h31 : c.length ≤ 31) (hT : HT sh σ t T) (ht : t < g ∨ g + 6 < t) : End (run sh (d + 5) 66 [mR g, mR t, mI (bi lo)] σ) (fun r σ' => r = some (mI (bts (ugB lo T c) c.length : Int)) ∧ frI (g + 5) (g + 6) σ σ') := by
  obtain ⟨ho, r0, r1, r2, r3, r4, r5, k1, k2, k3, k4, k5, k6, l1, l2, l3, l4, l5, l6, w6⟩ := id hg
  have hn := hG.1
  have h5k : cap ≤ 5000 := by omega
  have w6' : g + 6 < sh.1 := w6
  have hT5 : ∀ k, k ≤ 5 → T k ≤ 20 := fun k hk => (hT.2.2 k hk).2
  have bM : mxx (enS lo T c) c.length ≤ 20 * 100 := mxx_le _ (fun h hh => by have := enS_le (lo := lo) hT5 hv hh; omega)
  have O := for_P (c.length) (fun i => ∀ (σ1 : Mem) (v6 v7 : Option MV), (HG σ1 g c ∧ HT sh σ1 t T ∧ frI (g + 5) (g + 6) σ σ1 ∧ (∀ x, x < c.length → σ1.1 (g + 5) x = (bgS lo T c x : Int)) ∧ ∀ x, c.length - i ≤ x → x < c.length → σ1.1 (g + 6) x = (mxx (enS lo T c) c.length : Int) - (tlS lo T c x : Int)) → End (ev sh (d + 5) 66 18 [some (mR (g)), some (mR (t)), some (mI (bi lo)), some (mI ((mxx (enS lo T c) c.length : Nat) : Int)), some (mI ((bts (fun j => decide (c.length - i ≤ j) && ugB lo T c j) c.length : Nat) : Int)), some (mI ((c.length : Int) - 1 - (i : Int))), v6, v7] [] σ1) (fun r σ' => r = some (mI (bts (ugB lo T c) c.length : Int)) ∧ frI (g + 5) (g + 6) σ σ')) (by
    intro σ1 v6 v7 hp
    replace hp : HG σ1 g c ∧ HT sh σ1 t T ∧ frI (g + 5) (g + 6) σ σ1 ∧ (∀ x, x < c.length → σ1.1 (g + 5) x = (bgS lo T c x : Int)) ∧ ∀ x, c.length - (c.length) ≤ x → x < c.length → σ1.1 (g + 6) x = (mxx (enS lo T c) c.length : Int) - (tlS lo T c x : Int) := hp
    show End (ev sh (d + 5) 66 18 [some (mR (g)), some (mR (t)), some (mI (bi lo)), some (mI ((mxx (enS lo T c) c.length : Nat) : Int)), some (mI ((bts (fun j => decide (c.length - (c.length) ≤ j) && ugB lo T c j) c.length : Nat) : Int)), some (mI ((c.length : Int) - 1 - ((c.length) : Int))), v6, v7] [] σ1) (fun r σ' => r = some (mI (bts (ugB lo T c) c.length : Int)) ∧ frI (g + 5) (g + 6) σ σ')
    rw [e66_18, show (c.length : Int) - 1 - (c.length : Int) = -1 by omega]
    simp (disch := first | assumption | omega | (simp (disch := omega) only [wN, w0, w1]; omega)) only [e66_0, e66_1, e66_2, e66_3, e66_6, e66_7, e66_8, e66_10, e66_11, e66_14, e66_15, e66_16, e66_20, e66_23, e66_24, e66_26, e66_28, e66_29, e66_30, e66_34, e66_35, e66_38, e66_41, e66_42, e66_44, e66_46, e66_47, e66_50, e66_53, e66_55, e66_56, e66_59, e66_61, e66_64, e66_65, e66_67, e66_68, e66_71, e66_72, e66_75, e66_77, e66_80, e66_83, e66_84, e66_87, e66_89, e66_91, e66_94, e66_95, e66_98, e66_100, e66_103, e66_104, e66_106, e66_107, e66_110, e66_111, e66_113, e66_116, e66_118, e66_119, e66_121, e66_122, e66_123, e66_125, e66_128, e66_131, e66_133, kl_I, kl_R, kl_N, kl_L, oSm, oNn, Option.bind_some, wN, if_pos, if_neg, nS, tN, t0, w0, w1, w2, w3, w4, w5, wm1, upA_ne, upA_same, if_true, if_false, Bool.false_eq_true]
    refine End.of rfl ⟨?_, hp.2.2.1⟩
    simp) (fun i hi ih => by
    replace ih : ∀ (σ1 : Mem) (v6 v7 : Option MV), (HG σ1 g c ∧ HT sh σ1 t T ∧ frI (g + 5) (g + 6) σ σ1 ∧ (∀ x, x < c.length → σ1.1 (g + 5) x = (bgS lo T c x : Int)) ∧ ∀ x, c.length - (i + 1) ≤ x → x < c.length → σ1.1 (g + 6) x = (mxx (enS lo T c) c.length : Int) - (tlS lo T c x : Int)) → End (ev sh (d + 5) 66 18 [some (mR (g)), some (mR (t)), some (mI (bi lo)), some (mI ((mxx (enS lo T c) c.length : Nat) : Int)), some (mI ((bts (fun j => decide (c.length - (i + 1) ≤ j) && ugB lo T c j) c.length : Nat) : Int)), some (mI ((c.length : Int) - 1 - ((i + 1) : Int))), v6, v7] [] σ1) (fun r σ' => r = some (mI (bts (ugB lo T c) c.length : Int)) ∧ frI (g + 5) (g + 6) σ σ') := ih
    intro σ1 v6 v7 hp
    replace hp : HG σ1 g c ∧ HT sh σ1 t T ∧ frI (g + 5) (g + 6) σ σ1 ∧ (∀ x, x < c.length → σ1.1 (g + 5) x = (bgS lo T c x : Int)) ∧ ∀ x, c.length - i ≤ x → x < c.length → σ1.1 (g + 6) x = (mxx (enS lo T c) c.length : Int) - (tlS lo T c x : Int) := hp
    show End (ev sh (d + 5) 66 18 [some (mR (g)), some (mR (t)), some (mI (bi lo)), some (mI ((mxx (enS lo T c) c.length : Nat) : Int)), some (mI ((bts (fun j => decide (c.length - i ≤ j) && ugB lo T c j) c.length : Nat) : Int)), some (mI ((c.length : Int) - 1 - (i : Int))), v6, v7] [] σ1) (fun r σ' => r = some (mI (bts (ugB lo T c) c.length : Int)) ∧ frI (g + 5) (g + 6) σ σ')
    obtain ⟨q, hq⟩ : ∃ q : Nat, c.length = q + 1 + i := ⟨c.length - 1 - i, by omega⟩
    have e1 : (c.length : Int) - 1 - (i : Int) = (q : Int) := by omega
    have e2 : (c.length : Int) - 1 - ((i : Int) + 1) = (q : Int) + (-1) := by omega
    rw [e2] at ih
    rw [e1, e66_18]
    obtain ⟨hG1, hT1, hf, hbg, hla⟩ := hp
    have hn1 := hG1.1
    have I := for_P (c.length - 1 - q) (fun k => ∀ (σ2 : Mem), (σ2 = σ1) → End (ev sh (d + 5) 66 32 [some (mR (g)), some (mR (t)), some (mI (bi lo)), some (mI ((mxx (enS lo T c) c.length : Nat) : Int)), some (mI ((bts (fun j => decide (c.length - i ≤ j) && ugB lo T c j) c.length : Nat) : Int)), some (mI ((q : Nat) : Int)), some (mI ((mxx (enS lo T c) c.length : Int) - (mxx (tlG lo T c q) k : Int))), some (mI ((q + 1 + k : Nat) : Int))] [] σ2) (fun r σ' => r = some (mI (bts (ugB lo T c) c.length : Int)) ∧ frI (g + 5) (g + 6) σ σ')) (by
      intro σ2  hp
      replace hp : σ2 = σ1 := hp
      show End (ev sh (d + 5) 66 32 [some (mR (g)), some (mR (t)), some (mI (bi lo)), some (mI ((mxx (enS lo T c) c.length : Nat) : Int)), some (mI ((bts (fun j => decide (c.length - i ≤ j) && ugB lo T c j) c.length : Nat) : Int)), some (mI ((q : Nat) : Int)), some (mI ((mxx (enS lo T c) c.length : Int) - (mxx (tlG lo T c q) (c.length - 1 - q) : Int))), some (mI ((q + 1 + (c.length - 1 - q) : Nat) : Int))] [] σ2) (fun r σ' => r = some (mI (bts (ugB lo T c) c.length : Int)) ∧ frI (g + 5) (g + 6) σ σ')
      subst hp
      have e7 : q + 1 + (c.length - 1 - q) = c.length := by omega
      have hX := fun X => hG1.up (X := X) (τ := σ2.2) (a := g + 6) (by omega)
      have hY := fun X => hT1.up (X := X) (τ := σ2.2) (a := g + 6) (by omega)
      have bq := hbg q (by omega)
      have b1 := enS_le (lo := lo) hT5 hv (show q < c.length by omega)
      have b2 := tlS_le (lo := lo) hT5 hv (show q < c.length by omega)
      have e9 : (bgS lo T c q : Int) + (T (gA c q).1 : Int) = (enS lo T c q : Int) := rfl
      have w8 : wi ((mxx (enS lo T c) c.length : Int) - (tlS lo T c q : Int)) = (mxx (enS lo T c) c.length : Int) - (tlS lo T c q : Int) := wi_id (by omega) (by omega)
      have hlt := bts_lt (fun j => decide (c.length - i ≤ j) && ugB lo T c j) c.length
      have h2l : 2 ^ c.length ≤ 2 ^ 31 := Nat.pow_le_pow_right (by omega) h31
      have h2q : 2 ^ q < 2 ^ 31 := Nat.pow_lt_pow_right (by omega) (by omega)
      have fin : HG (upA σ2.1 (g + 6) (up1 (σ2.1 (g + 6)) q ((mxx (enS lo T c) c.length : Int) - (tlS lo T c q : Int))), σ2.2) g c ∧ HT sh (upA σ2.1 (g + 6) (up1 (σ2.1 (g + 6)) q ((mxx (enS lo T c) c.length : Int) - (tlS lo T c q : Int))), σ2.2) t T ∧ frI (g + 5) (g + 6) σ (upA σ2.1 (g + 6) (up1 (σ2.1 (g + 6)) q ((mxx (enS lo T c) c.length : Int) - (tlS lo T c q : Int))), σ2.2) ∧ (∀ x, x < c.length → upA σ2.1 (g + 6) (up1 (σ2.1 (g + 6)) q ((mxx (enS lo T c) c.length : Int) - (tlS lo T c q : Int))) (g + 5) x = (bgS lo T c x : Int)) ∧ ∀ x, c.length - (i + 1) ≤ x → x < c.length → upA σ2.1 (g + 6) (up1 (σ2.1 (g + 6)) q ((mxx (enS lo T c) c.length : Int) - (tlS lo T c q : Int))) (g + 6) x = (mxx (enS lo T c) c.length : Int) - (tlS lo T c x : Int) := by
        refine ⟨hX _, hY _, hf.tr (frI.up (by omega)), fun x hx => ?_, fun x hx hx2 => ?_⟩
        · rw [upA_ne (by omega)]; exact hbg x hx
        · rw [upA_same]
          by_cases e : x = q
          · subst e; rw [up1_same]
          · rw [up1_ne e]; exact hla x (by omega) hx2
      rw [e66_32]
      have e8 : (q : Int) + 1 + ((c.length - 1 - q : Nat) : Int) = (c.length : Int) := by omega
      have L0 := fun X => L63 (d := d + 2) hg (hX X) hc hb hv (show q < c.length by omega) (hY X)
      have ev5 := bts_dn (p := ugB lo T c) hq
      by_cases hu : ugB lo T c q = true
      · have hu2 : enS lo T c q + tlS lo T c q = mxx (enS lo T c) c.length := by simpa [ugB] using hu
        rw [if_pos hu] at ev5
        rw [ev5] at ih
        simp (disch := first | assumption | omega | (simp (disch := omega) only [wN, w0, w1]; omega)) only [e66_0, e66_1, e66_2, e66_3, e66_6, e66_7, e66_8, e66_10, e66_11, e66_14, e66_15, e66_16, e66_20, e66_23, e66_24, e66_26, e66_28, e66_29, e66_30, e66_34, e66_35, e66_38, e66_41, e66_42, e66_44, e66_46, e66_47, e66_50, e66_53, e66_55, e66_56, e66_59, e66_61, e66_64, e66_65, e66_67, e66_68, e66_71, e66_72, e66_75, e66_77, e66_80, e66_83, e66_84, e66_87, e66_89, e66_91, e66_94, e66_95, e66_98, e66_100, e66_103, e66_104, e66_106, e66_107, e66_110, e66_111, e66_113, e66_116, e66_118, e66_119, e66_121, e66_122, e66_123, e66_125, e66_128, e66_131, e66_133, kl_I, kl_R, kl_N, kl_L, oSm, oNn, Option.bind_some, wN, if_pos, if_neg, nS, tN, t0, w0, w1, w2, w3, w4, w5, wm1, upA_ne, upA_same, if_true, if_false, Bool.false_eq_true, e7, e8, hn1, r4, r5, K289n k6 l6 h5k w6' (show q < cap by omega), K93n k5 l5 h5k (show q < cap by omega), bq, L0, e9, w8, ← tlS_eq, xshl_1, xor_nn]
        exact ih _ _ _ fin
      · have hu2 : ¬ enS lo T c q + tlS lo T c q = mxx (enS lo T c) c.length := by simpa [ugB] using hu
        rw [if_neg hu] at ev5
        rw [ev5] at ih
        simp (disch := first | assumption | omega | (simp (disch := omega) only [wN, w0, w1]; omega)) only [e66_0, e66_1, e66_2, e66_3, e66_6, e66_7, e66_8, e66_10, e66_11, e66_14, e66_15, e66_16, e66_20, e66_23, e66_24, e66_26, e66_28, e66_29, e66_30, e66_34, e66_35, e66_38, e66_41, e66_42, e66_44, e66_46, e66_47, e66_50, e66_53, e66_55, e66_56, e66_59, e66_61, e66_64, e66_65, e66_67, e66_68, e66_71, e66_72, e66_75, e66_77, e66_80, e66_83, e66_84, e66_87, e66_89, e66_91, e66_94, e66_95, e66_98, e66_100, e66_103, e66_104, e66_106, e66_107, e66_110, e66_111, e66_113, e66_116, e66_118, e66_119, e66_121, e66_122, e66_123, e66_125, e66_128, e66_131, e66_133, kl_I, kl_R, kl_N, kl_L, oSm, oNn, Option.bind_some, wN, if_pos, if_neg, nS, tN, t0, w0, w1, w2, w3, w4, w5, wm1, upA_ne, upA_same, if_true, if_false, Bool.false_eq_true, e7, e8, hn1, r4, r5, K289n k6 l6 h5k w6' (show q < cap by omega), K93n k5 l5 h5k (show q < cap by omega), bq, L0, e9, w8, ← tlS_eq]
        exact ih _ _ _ fin) (fun k hi ih => by
      replace ih : ∀ (σ2 : Mem), (σ2 = σ1) → End (ev sh (d + 5) 66 32 [some (mR (g)), some (mR (t)), some (mI (bi lo)), some (mI ((mxx (enS lo T c) c.length : Nat) : Int)), some (mI ((bts (fun j => decide (c.length - i ≤ j) && ugB lo T c j) c.length : Nat) : Int)), some (mI ((q : Nat) : Int)), some (mI ((mxx (enS lo T c) c.length : Int) - (mxx (tlG lo T c q) (k + 1) : Int))), some (mI ((q + 1 + (k + 1) : Nat) : Int))] [] σ2) (fun r σ' => r = some (mI (bts (ugB lo T c) c.length : Int)) ∧ frI (g + 5) (g + 6) σ σ') := ih
      intro σ2  hp
      replace hp : σ2 = σ1 := hp
      show End (ev sh (d + 5) 66 32 [some (mR (g)), some (mR (t)), some (mI (bi lo)), some (mI ((mxx (enS lo T c) c.length : Nat) : Int)), some (mI ((bts (fun j => decide (c.length - i ≤ j) && ugB lo T c j) c.length : Nat) : Int)), some (mI ((q : Nat) : Int)), some (mI ((mxx (enS lo T c) c.length : Int) - (mxx (tlG lo T c q) k : Int))), some (mI ((q + 1 + k : Nat) : Int))] [] σ2) (fun r σ' => r = some (mI (bts (ugB lo T c) c.length : Int)) ∧ frI (g + 5) (g + 6) σ σ')
      subst hp
      have hj : q + 1 + k < c.length := by omega
      have b1 := enS_le (lo := lo) hT5 hv hj
      have b2 := tlS_le (lo := lo) hT5 hv hj
      have b3 := hT5 _ (hv.at hj).1
      have b4 : mxx (tlG lo T c q) k ≤ 20 * 100 := mxx_le _ (fun h hh => by
        have h1 := tlS_le (lo := lo) hT5 hv (show q + 1 + h < c.length by omega)
        have h2 := hT5 _ (hv.at (show q + 1 + h < c.length by omega)).1
        unfold tlG
        split <;> omega)
      have lj := hla (q + 1 + k) (by omega) hj
      have e9 : (mxx (enS lo T c) c.length : Int) - (tlS lo T c (q + 1 + k) : Int) - (T (gA c (q + 1 + k)).1 : Int) = (mxx (enS lo T c) c.length : Int) - ((tlS lo T c (q + 1 + k) + T (gA c (q + 1 + k)).1 : Nat) : Int) := by omega
      have e10 := mmn_sub (M := mxx (enS lo T c) c.length) (a := mxx (tlG lo T c q) k) (b := tlS lo T c (q + 1 + k) + T (gA c (q + 1 + k)).1) (by omega) (by omega) (by omega)
      rw [e66_32]
      by_cases h : wtB lo (gA c (q + 1 + k)) (gA c q) = true
      · have e11 : mxx (tlG lo T c q) (k + 1) = max (mxx (tlG lo T c q) k) (tlS lo T c (q + 1 + k) + T (gA c (q + 1 + k)).1) := by
          rw [mxx]
          simp only [tlG, h, if_true]
        rw [e11] at ih
        simp (disch := first | assumption | omega | (simp (disch := omega) only [wN, w0, w1]; omega)) only [e66_0, e66_1, e66_2, e66_3, e66_6, e66_7, e66_8, e66_10, e66_11, e66_14, e66_15, e66_16, e66_20, e66_23, e66_24, e66_26, e66_28, e66_29, e66_30, e66_34, e66_35, e66_38, e66_41, e66_42, e66_44, e66_46, e66_47, e66_50, e66_53, e66_55, e66_56, e66_59, e66_61, e66_64, e66_65, e66_67, e66_68, e66_71, e66_72, e66_75, e66_77, e66_80, e66_83, e66_84, e66_87, e66_89, e66_91, e66_94, e66_95, e66_98, e66_100, e66_103, e66_104, e66_106, e66_107, e66_110, e66_111, e66_113, e66_116, e66_118, e66_119, e66_121, e66_122, e66_123, e66_125, e66_128, e66_131, e66_133, kl_I, kl_R, kl_N, kl_L, oSm, oNn, Option.bind_some, wN, if_pos, if_neg, nS, tN, t0, w0, w1, w2, w3, w4, w5, wm1, upA_ne, upA_same, if_true, if_false, Bool.false_eq_true, hn1, r5, K93n k6 l6 h5k (show q + 1 + k < cap by omega), L61 hg hG1 hc hb hv hn5 hj (show q < c.length by omega), h, L63 hg hG1 hc hb hv hj hT1, lj, wi_01, if10, e9, e10, not_true_eq_false]
        exact ih _ rfl
      · have e11 : mxx (tlG lo T c q) (k + 1) = mxx (tlG lo T c q) k := by
          rw [mxx]
          simp only [tlG, h]
          simp
        rw [e11] at ih
        simp (disch := first | assumption | omega | (simp (disch := omega) only [wN, w0, w1]; omega)) only [e66_0, e66_1, e66_2, e66_3, e66_6, e66_7, e66_8, e66_10, e66_11, e66_14, e66_15, e66_16, e66_20, e66_23, e66_24, e66_26, e66_28, e66_29, e66_30, e66_34, e66_35, e66_38, e66_41, e66_42, e66_44, e66_46, e66_47, e66_50, e66_53, e66_55, e66_56, e66_59, e66_61, e66_64, e66_65, e66_67, e66_68, e66_71, e66_72, e66_75, e66_77, e66_80, e66_83, e66_84, e66_87, e66_89, e66_91, e66_94, e66_95, e66_98, e66_100, e66_103, e66_104, e66_106, e66_107, e66_110, e66_111, e66_113, e66_116, e66_118, e66_119, e66_121, e66_122, e66_123, e66_125, e66_128, e66_131, e66_133, kl_I, kl_R, kl_N, kl_L, oSm, oNn, Option.bind_some, wN, if_pos, if_neg, nS, tN, t0, w0, w1, w2, w3, w4, w5, wm1, upA_ne, upA_same, if_true, if_false, Bool.false_eq_true, hn1, r5, K93n k6 l6 h5k (show q + 1 + k < cap by omega), L61 hg hG1 hc hb hv hn5 hj (show q < c.length by omega), h, wi_01, if10, not_false_eq_true]
        exact ih _ rfl) 0 (Nat.zero_le _)
    simp (disch := first | assumption | omega | (simp (disch := omega) only [wN, w0, w1]; omega)) only [e66_0, e66_1, e66_2, e66_3, e66_6, e66_7, e66_8, e66_10, e66_11, e66_14, e66_15, e66_16, e66_20, e66_23, e66_24, e66_26, e66_28, e66_29, e66_30, e66_34, e66_35, e66_38, e66_41, e66_42, e66_44, e66_46, e66_47, e66_50, e66_53, e66_55, e66_56, e66_59, e66_61, e66_64, e66_65, e66_67, e66_68, e66_71, e66_72, e66_75, e66_77, e66_80, e66_83, e66_84, e66_87, e66_89, e66_91, e66_94, e66_95, e66_98, e66_100, e66_103, e66_104, e66_106, e66_107, e66_110, e66_111, e66_113, e66_116, e66_118, e66_119, e66_121, e66_122, e66_123, e66_125, e66_128, e66_131, e66_133, kl_I, kl_R, kl_N, kl_L, oSm, oNn, Option.bind_some, wN, if_pos, if_neg, nS, tN, t0, w0, w1, w2, w3, w4, w5, wm1, upA_ne, upA_same, if_true, if_false, Bool.false_eq_true]
    have I0 := I σ1 rfl
    rw [show (mxx (enS lo T c) c.length : Int) - ((mxx (tlG lo T c q) 0 : Nat) : Int) = (mxx (enS lo T c) c.length : Int) by simp [mxx], Nat.add_zero] at I0
    exact I0) 0 (Nat.zero_le _)
  have hL := L64 (d := d) (lo := lo) hg hG hc hb hv hn5 hT (by omega)
  have O0 := fun v6 v7 => O (upA σ.1 (g + 5) (fiM (bgS lo T c) (σ.1 (g + 5)) c.length), σ.2) v6 v7 ⟨hG.up (by omega), hT.up (by omega), frI.up (by omega), fun x hx => by
    show upA _ _ _ _ _ = _
    rw [upA_same, fiM_lt hx], fun x h1 h2 => by omega⟩
  have z0 : bts (fun j => decide (c.length - 0 ≤ j) && ugB lo T c j) c.length = 0 := by
    apply Nat.eq_of_testBit_eq
    intro j
    rw [bts_bit, Nat.zero_testBit, Nat.sub_zero]
    by_cases h : j < c.length
    · rw [decide_eq_false (show ¬ c.length ≤ j by omega)]; simp
    · rw [decide_eq_false h]; simp
  rw [z0, show (c.length : Int) - 1 - ((0 : Nat) : Int) = (c.length : Int) - 1 by omega] at O0
  simp (disch := first | assumption | omega | (simp (disch := omega) only [wN, w0, w1]; omega)) only [e66_0, e66_1, e66_2, e66_3, e66_6, e66_7, e66_8, e66_10, e66_11, e66_14, e66_15, e66_16, e66_20, e66_23, e66_24, e66_26, e66_28, e66_29, e66_30, e66_34, e66_35, e66_38, e66_41, e66_42, e66_44, e66_46, e66_47, e66_50, e66_53, e66_55, e66_56, e66_59, e66_61, e66_64, e66_65, e66_67, e66_68, e66_71, e66_72, e66_75, e66_77, e66_80, e66_83, e66_84, e66_87, e66_89, e66_91, e66_94, e66_95, e66_98, e66_100, e66_103, e66_104, e66_106, e66_107, e66_110, e66_111, e66_113, e66_116, e66_118, e66_119, e66_121, e66_122, e66_123, e66_125, e66_128, e66_131, e66_133, kl_I, kl_R, kl_N, kl_L, oSm, oNn, Option.bind_some, wN, if_pos, if_neg, nS, tN, t0, w0, w1, w2, w3, w4, w5, wm1, upA_ne, upA_same, if_true, if_false, Bool.false_eq_true, q66, hL, hn]
  exact O0 _ _
end GLU

