/-! ===== the law: a gate is written down ===== -/
/-- k of the places from o on are g's -/
def cpR (f g : Nat → Int) (o k : Nat) : Nat → Int := fun i => if o ≤ i ∧ i < o + k then g (i - o) else f i
theorem cpR_0 (f g : Nat → Int) (o : Nat) : cpR f g o 0 = f := by
  funext i; unfold cpR; rw [if_neg (by omega)]
theorem cpR_s (f g : Nat → Int) (o k : Nat) : up1 (cpR f g o k) (o + k) (g k) = cpR f g o (k + 1) := by
  funext i
  unfold cpR up1
  by_cases e : i = o + k
  · subst e; rw [if_pos rfl, if_pos (by omega), Nat.add_sub_cancel_left]
  · rw [if_neg e]
    dsimp only
    by_cases h : o ≤ i ∧ i < o + k
    · rw [if_pos h, if_pos (by omega)]
    · rw [if_neg h, if_neg (by omega)]
/-- the row of gates so far -/
def gRp (f : Nat → Int) (c : List Gt) : Prop := ∀ j, j < c.length → f (4 * j) = ((gA c j).1 : Int) ∧ f (4 * j + 1) = ((gA c j).2.1 : Int) ∧ f (4 * j + 2) = (if 3 ≤ (gA c j).1 then (gA c j).2.2 else -1) ∧ f (4 * j + 3) = (if (gA c j).1 = 0 then (gA c j).2.2 else 0)
theorem gA_ap {c : List Gt} {q : Gt} {j : Nat} (h : j < c.length) : gA (c ++ [q]) j = gA c j := by
  unfold gA
  rw [List.getD_eq_getElem?_getD, List.getD_eq_getElem?_getD, List.getElem?_append_left h]
theorem cpR_lo {f g : Nat → Int} {o k i : Nat} (h : i < o) : cpR f g o k i = f i := if_neg (by omega)
theorem cpR_in {f g : Nat → Int} {o k x : Nat} (h : x < k) : cpR f g o k (o + x) = g x := by
  unfold cpR
  rw [if_pos (by omega), Nat.add_sub_cancel_left]
theorem gA_en {c : List Gt} {q : Gt} : gA (c ++ [q]) c.length = q := by
  unfold gA
  rw [List.getD_eq_getElem?_getD, List.getElem?_append_right (Nat.le_refl _), Nat.sub_self]; rfl
theorem gRp.app {f g : Nat → Int} {c : List Gt} {q : Gt} (h : gRp f c) (hg : dRw g q) : gRp (cpR f g (4 * c.length) 4) (c ++ [q]) := by
  intro j hj
  rw [List.length_append, List.length_singleton] at hj
  by_cases e : j < c.length
  · rw [gA_ap e]
    obtain ⟨h1, h2, h3, h4⟩ := h j e
    rw [cpR_lo (by omega), cpR_lo (by omega), cpR_lo (by omega), cpR_lo (by omega)]
    exact ⟨h1, h2, h3, h4⟩
  · have : j = c.length := by omega
    subst this
    rw [gA_en]
    obtain ⟨h1, h2, h3, h4⟩ := hg
    rw [cpR_in (x := 1) (by omega), cpR_in (x := 2) (by omega), cpR_in (x := 3) (by omega), show cpR f g (4 * c.length) 4 (4 * c.length) = g 0 from cpR_in (x := 0) (by omega)]
    exact ⟨h1, h2, h3, h4⟩
section PG4
variable {sh : Shp} {d kk ρ n my A T Lr D p o : Nat} {σ : Mem} {v10 v11 : Option MV}
theorem C166s (kT : skd sh T = 0) (lT : sln sh T = 160) (wT : T < sh.1) (hp : p < 112) (ho : o < 30) : pv (d + 10) 166 1502 [some (mR (0)), some (mR (ρ)), some (mI ((n : Nat) : Int)), some (mI ((my : Nat) : Int)), some (mI (6)), some (mR (A)), some (mR (T)), some (mR (Lr)), some (mI ((p : Nat) : Int)), some (mI ((o : Nat) : Int)), v10, v11] [] (sh, σ, kk) = pv (d + 10) 166 1517 [some (mR (0)), some (mR (ρ)), some (mI ((n : Nat) : Int)), some (mI ((my : Nat) : Int)), some (mI (6)), some (mR (A)), some (mR (T)), some (mR (Lr)), some (mI ((p + (if o = 0 then [] else [59] : List Nat).length : Nat) : Int)), some (mI ((o : Nat) : Int)), v10, v11] [] (sh, (upA σ.1 T (wr (σ.1 T) p (if o = 0 then [] else [59])), σ.2), kk) := by
  by_cases h : o = 0
  · subst h
    rw [if_pos rfl]
    have e : ((upA σ.1 T (wr (σ.1 T) p []), σ.2) : Mem) = σ := by
      show (upA σ.1 T (σ.1 T), σ.2) = σ
      rw [upA_id]
    rw [e, e166_1502]
    simp (disch := first | assumption | omega | (simp (disch := omega) only [wN, w0, w1]; omega)) only [e166_1502, e166_1504, e166_1507, e166_1509, e166_1511, e166_1513, e166_1514, kl_I, kl_R, kl_N, kl_L, oSm, oNn, Option.bind_some, wN, if_pos, if_neg, nS, tN, t0, w0, w1, w2, w3, w4, w5, wm1, upA_ne, upA_same, if_true, if_false, Bool.false_eq_true]
    all_goals rfl
  · rw [if_neg h, e166_1502]
    simp (disch := first | assumption | omega | (simp (disch := omega) only [wN, w0, w1]; omega)) only [e166_1502, e166_1504, e166_1507, e166_1509, e166_1511, e166_1513, e166_1514, kl_I, kl_R, kl_N, kl_L, oSm, oNn, Option.bind_some, wN, if_pos, if_neg, nS, tN, t0, w0, w1, w2, w3, w4, w5, wm1, upA_ne, upA_same, if_true, if_false, Bool.false_eq_true, lT]
    all_goals rfl
theorem C166g {q : Gt} (n4 : n ≤ 4) (hq : vG n q) (hd : dRw (σ.1 D) q) (hl : ∀ k, k < 6 → σ.1 Lr k = (ltr k : Int)) (kT : skd sh T = 0) (lT : sln sh T = 160) (wT : T < sh.1) (kL : skd sh Lr = 0) (lL : sln sh Lr = 6) (kD : skd sh D = 0) (lD : sln sh D = 4) (LT : Lr ≠ T) (DT : D ≠ T) (hp : p < 120) : pv (d + 10) 166 1517 [some (mR (0)), some (mR (ρ)), some (mI ((n : Nat) : Int)), some (mI ((my : Nat) : Int)), some (mI (6)), some (mR (A)), some (mR (T)), some (mR (Lr)), some (mI ((p : Nat) : Int)), some (mI ((o : Nat) : Int)), some (mR (D)), v11] [] (sh, σ, kk) = pv (d + 10) 166 1610 [some (mR (0)), some (mR (ρ)), some (mI ((n : Nat) : Int)), some (mI ((my : Nat) : Int)), some (mI (6)), some (mR (A)), some (mR (T)), some (mR (Lr)), some (mI ((p + (gt1 q).length : Nat) : Int)), some (mI ((o : Nat) : Int)), some (mR (D)), v11] [] (sh, (upA σ.1 T (wr (σ.1 T) p (gt1 q)), σ.2), kk) := by
  obtain ⟨h1, h2, h3, h4, h5⟩ := hq
  obtain ⟨d0, d1, d2, d3⟩ := hd
  obtain ⟨k, a, b⟩ := q
  simp only at h1 h2 h3 h4 h5 d0 d1 d2 d3
  have tt1 : (1 : Int).toNat = 1 := rfl
  have tt2 : (2 : Int).toNat = 2 := rfl
  have tt3 : (3 : Int).toNat = 3 := rfl
  have tt4 : (4 : Int).toNat = 4 := rfl
  have tt5 : (5 : Int).toNat = 5 := rfl
  have hl0 : σ.1 Lr 0 = 114 := hl 0 (by omega)
  have hl1 : σ.1 Lr 1 = 104 := hl 1 (by omega)
  have hl2 : σ.1 Lr 2 = 120 := hl 2 (by omega)
  have hl3 : σ.1 Lr 3 = 99 := hl 3 (by omega)
  have hl4 : σ.1 Lr 4 = 100 := hl 4 (by omega)
  have hl5 : σ.1 Lr 5 = 119 := hl 5 (by omega)
  rw [e166_1517]
  rcases (show k = 0 ∨ k = 1 ∨ k = 2 ∨ k = 3 ∨ k = 4 ∨ k = 5 by omega) with e | e | e | e | e | e
  · subst e
    have hbb := h3 rfl
    obtain ⟨b', rfl⟩ : ∃ b' : Nat, b = (b' : Int) := ⟨b.toNat, by omega⟩
    replace d0 : σ.1 D 0 = 0 := d0
    rw [if_pos rfl] at d3
    simp (disch := first | assumption | omega | (simp (disch := omega) only [wN, w0, w1]; omega)) only [e166_1517, e166_1519, e166_1521, e166_1523, e166_1525, e166_1526, e166_1527, e166_1528, e166_1529, e166_1532, e166_1534, e166_1535, e166_1536, e166_1539, e166_1541, e166_1543, e166_1545, e166_1547, e166_1548, e166_1549, e166_1550, e166_1551, e166_1553, e166_1555, e166_1556, e166_1557, e166_1559, e166_1560, e166_1563, e166_1565, e166_1567, e166_1569, e166_1571, e166_1572, e166_1573, e166_1574, e166_1575, e166_1578, e166_1580, e166_1581, e166_1582, e166_1583, e166_1586, e166_1588, e166_1590, e166_1592, e166_1593, e166_1595, e166_1597, e166_1598, e166_1599, e166_1601, e166_1603, e166_1604, e166_1605, e166_1606, e166_1607, kl_I, kl_R, kl_N, kl_L, oSm, oNn, Option.bind_some, wN, if_pos, if_neg, nS, tN, t0, w0, w1, w2, w3, w4, w5, wm1, upA_ne, upA_same, if_true, if_false, Bool.false_eq_true, lT, lL, lD, d0, d1, d3, hl0, tt1, tt2, tt3, nS2, upA_upA]
    all_goals rfl
  · subst e
    replace d0 : σ.1 D 0 = 1 := d0
    simp (disch := first | assumption | omega | (simp (disch := omega) only [wN, w0, w1]; omega)) only [e166_1517, e166_1519, e166_1521, e166_1523, e166_1525, e166_1526, e166_1527, e166_1528, e166_1529, e166_1532, e166_1534, e166_1535, e166_1536, e166_1539, e166_1541, e166_1543, e166_1545, e166_1547, e166_1548, e166_1549, e166_1550, e166_1551, e166_1553, e166_1555, e166_1556, e166_1557, e166_1559, e166_1560, e166_1563, e166_1565, e166_1567, e166_1569, e166_1571, e166_1572, e166_1573, e166_1574, e166_1575, e166_1578, e166_1580, e166_1581, e166_1582, e166_1583, e166_1586, e166_1588, e166_1590, e166_1592, e166_1593, e166_1595, e166_1597, e166_1598, e166_1599, e166_1601, e166_1603, e166_1604, e166_1605, e166_1606, e166_1607, kl_I, kl_R, kl_N, kl_L, oSm, oNn, Option.bind_some, wN, if_pos, if_neg, nS, tN, t0, w0, w1, w2, w3, w4, w5, wm1, upA_ne, upA_same, if_true, if_false, Bool.false_eq_true, lT, lL, lD, d0, d1, hl1, tt1, tt2, tt3, nS2, upA_upA]
    all_goals rfl
  · subst e
    replace d0 : σ.1 D 0 = 2 := d0
    simp (disch := first | assumption | omega | (simp (disch := omega) only [wN, w0, w1]; omega)) only [e166_1517, e166_1519, e166_1521, e166_1523, e166_1525, e166_1526, e166_1527, e166_1528, e166_1529, e166_1532, e166_1534, e166_1535, e166_1536, e166_1539, e166_1541, e166_1543, e166_1545, e166_1547, e166_1548, e166_1549, e166_1550, e166_1551, e166_1553, e166_1555, e166_1556, e166_1557, e166_1559, e166_1560, e166_1563, e166_1565, e166_1567, e166_1569, e166_1571, e166_1572, e166_1573, e166_1574, e166_1575, e166_1578, e166_1580, e166_1581, e166_1582, e166_1583, e166_1586, e166_1588, e166_1590, e166_1592, e166_1593, e166_1595, e166_1597, e166_1598, e166_1599, e166_1601, e166_1603, e166_1604, e166_1605, e166_1606, e166_1607, kl_I, kl_R, kl_N, kl_L, oSm, oNn, Option.bind_some, wN, if_pos, if_neg, nS, tN, t0, w0, w1, w2, w3, w4, w5, wm1, upA_ne, upA_same, if_true, if_false, Bool.false_eq_true, lT, lL, lD, d0, d1, hl2, tt1, tt2, tt3, nS2, upA_upA]
    all_goals rfl
  · subst e
    have hbb := h5 (by omega)
    obtain ⟨b', rfl⟩ : ∃ b' : Nat, b = (b' : Int) := ⟨b.toNat, by omega⟩
    replace d0 : σ.1 D 0 = 3 := d0
    rw [if_pos (by omega)] at d2
    simp (disch := first | assumption | omega | (simp (disch := omega) only [wN, w0, w1]; omega)) only [e166_1517, e166_1519, e166_1521, e166_1523, e166_1525, e166_1526, e166_1527, e166_1528, e166_1529, e166_1532, e166_1534, e166_1535, e166_1536, e166_1539, e166_1541, e166_1543, e166_1545, e166_1547, e166_1548, e166_1549, e166_1550, e166_1551, e166_1553, e166_1555, e166_1556, e166_1557, e166_1559, e166_1560, e166_1563, e166_1565, e166_1567, e166_1569, e166_1571, e166_1572, e166_1573, e166_1574, e166_1575, e166_1578, e166_1580, e166_1581, e166_1582, e166_1583, e166_1586, e166_1588, e166_1590, e166_1592, e166_1593, e166_1595, e166_1597, e166_1598, e166_1599, e166_1601, e166_1603, e166_1604, e166_1605, e166_1606, e166_1607, kl_I, kl_R, kl_N, kl_L, oSm, oNn, Option.bind_some, wN, if_pos, if_neg, nS, tN, t0, w0, w1, w2, w3, w4, w5, wm1, upA_ne, upA_same, if_true, if_false, Bool.false_eq_true, lT, lL, lD, d0, d1, d2, hl3, tt1, tt2, tt3, nS2, upA_upA]
    all_goals rfl
  · subst e
    have hbb := h5 (by omega)
    obtain ⟨b', rfl⟩ : ∃ b' : Nat, b = (b' : Int) := ⟨b.toNat, by omega⟩
    replace d0 : σ.1 D 0 = 4 := d0
    rw [if_pos (by omega)] at d2
    simp (disch := first | assumption | omega | (simp (disch := omega) only [wN, w0, w1]; omega)) only [e166_1517, e166_1519, e166_1521, e166_1523, e166_1525, e166_1526, e166_1527, e166_1528, e166_1529, e166_1532, e166_1534, e166_1535, e166_1536, e166_1539, e166_1541, e166_1543, e166_1545, e166_1547, e166_1548, e166_1549, e166_1550, e166_1551, e166_1553, e166_1555, e166_1556, e166_1557, e166_1559, e166_1560, e166_1563, e166_1565, e166_1567, e166_1569, e166_1571, e166_1572, e166_1573, e166_1574, e166_1575, e166_1578, e166_1580, e166_1581, e166_1582, e166_1583, e166_1586, e166_1588, e166_1590, e166_1592, e166_1593, e166_1595, e166_1597, e166_1598, e166_1599, e166_1601, e166_1603, e166_1604, e166_1605, e166_1606, e166_1607, kl_I, kl_R, kl_N, kl_L, oSm, oNn, Option.bind_some, wN, if_pos, if_neg, nS, tN, t0, w0, w1, w2, w3, w4, w5, wm1, upA_ne, upA_same, if_true, if_false, Bool.false_eq_true, lT, lL, lD, d0, d1, d2, hl4, tt1, tt2, tt3, tt4, nS2, upA_upA]
    all_goals rfl
  · subst e
    have hbb := h5 (by omega)
    obtain ⟨b', rfl⟩ : ∃ b' : Nat, b = (b' : Int) := ⟨b.toNat, by omega⟩
    replace d0 : σ.1 D 0 = 5 := d0
    rw [if_pos (by omega)] at d2
    simp (disch := first | assumption | omega | (simp (disch := omega) only [wN, w0, w1]; omega)) only [e166_1517, e166_1519, e166_1521, e166_1523, e166_1525, e166_1526, e166_1527, e166_1528, e166_1529, e166_1532, e166_1534, e166_1535, e166_1536, e166_1539, e166_1541, e166_1543, e166_1545, e166_1547, e166_1548, e166_1549, e166_1550, e166_1551, e166_1553, e166_1555, e166_1556, e166_1557, e166_1559, e166_1560, e166_1563, e166_1565, e166_1567, e166_1569, e166_1571, e166_1572, e166_1573, e166_1574, e166_1575, e166_1578, e166_1580, e166_1581, e166_1582, e166_1583, e166_1586, e166_1588, e166_1590, e166_1592, e166_1593, e166_1595, e166_1597, e166_1598, e166_1599, e166_1601, e166_1603, e166_1604, e166_1605, e166_1606, e166_1607, kl_I, kl_R, kl_N, kl_L, oSm, oNn, Option.bind_some, wN, if_pos, if_neg, nS, tN, t0, w0, w1, w2, w3, w4, w5, wm1, upA_ne, upA_same, if_true, if_false, Bool.false_eq_true, lT, lL, lD, d0, d1, d2, hl5, tt1, tt2, tt3, tt5, nS2, upA_upA]
    all_goals rfl
theorem C166r (kA : skd sh A = 0) (lA : sln sh A = 121) (wA : A < sh.1) (kD : skd sh D = 0) (lD : sln sh D = 4) (DA : D ≠ A) (ho : o < 29) : pv (d + 10) 166 1610 [some (mR (0)), some (mR (ρ)), some (mI ((n : Nat) : Int)), some (mI ((my : Nat) : Int)), some (mI (6)), some (mR (A)), some (mR (T)), some (mR (Lr)), some (mI ((p : Nat) : Int)), some (mI ((o : Nat) : Int)), some (mR (D)), v11] [] (sh, σ, kk) = pv (d + 10) 166 1480 [some (mR (0)), some (mR (ρ)), some (mI ((n : Nat) : Int)), some (mI ((my : Nat) : Int)), some (mI (6)), some (mR (A)), some (mR (T)), some (mR (Lr)), some (mI ((p : Nat) : Int)), some (mI ((o + 1 : Nat) : Int)), some (mR (D)), some (mI ((4 : Nat) : Int))] [] (sh, (upA σ.1 A (cpR (σ.1 A) (σ.1 D) (4 * o) 4), σ.2), kk) := by
  have F := for_up (fun k => pv (d + 10) 166 1613 [some (mR (0)), some (mR (ρ)), some (mI ((n : Nat) : Int)), some (mI ((my : Nat) : Int)), some (mI (6)), some (mR (A)), some (mR (T)), some (mR (Lr)), some (mI ((p : Nat) : Int)), some (mI ((o : Nat) : Int)), some (mR (D)), some (mI ((k : Nat) : Int))] [] (sh, (upA σ.1 A (cpR (σ.1 A) (σ.1 D) (4 * o) k), σ.2), kk)) 4 (fun k hk => by
    show pv (d + 10) 166 1613 [some (mR (0)), some (mR (ρ)), some (mI ((n : Nat) : Int)), some (mI ((my : Nat) : Int)), some (mI (6)), some (mR (A)), some (mR (T)), some (mR (Lr)), some (mI ((p : Nat) : Int)), some (mI ((o : Nat) : Int)), some (mR (D)), some (mI ((k : Nat) : Int))] [] (sh, (upA σ.1 A (cpR (σ.1 A) (σ.1 D) (4 * o) k), σ.2), kk) = pv (d + 10) 166 1613 [some (mR (0)), some (mR (ρ)), some (mI ((n : Nat) : Int)), some (mI ((my : Nat) : Int)), some (mI (6)), some (mR (A)), some (mR (T)), some (mR (Lr)), some (mI ((p : Nat) : Int)), some (mI ((o : Nat) : Int)), some (mR (D)), some (mI ((k + 1 : Nat) : Int))] [] (sh, (upA σ.1 A (cpR (σ.1 A) (σ.1 D) (4 * o) (k + 1)), σ.2), kk)
    have e4 : (4 : Int) * (o : Int) + (k : Int) = ((4 * o + k : Nat) : Int) := by omega
    have vs := cpR_s (σ.1 A) (σ.1 D) (4 * o) k
    rw [e166_1613]
    simp (disch := first | assumption | omega | (simp (disch := omega) only [wN, w0, w1]; omega)) only [e166_1615, e166_1616, e166_1619, e166_1621, e166_1622, e166_1624, e166_1625, e166_1627, e166_1628, e166_1630, e166_1632, e166_1633, e166_1634, e166_1637, kl_I, kl_R, kl_N, kl_L, oSm, oNn, Option.bind_some, wN, if_pos, if_neg, nS, tN, t0, w0, w1, w2, w3, w4, w5, wm1, upA_ne, upA_same, if_true, if_false, Bool.false_eq_true, e4, lA, lD, upA_upA, vs]
    ) 0 (Nat.zero_le _)
  rw [e166_1610]
  simp (disch := first | assumption | omega | (simp (disch := omega) only [wN, w0, w1]; omega)) only [e166_1611, kl_I, kl_R, kl_N, kl_L, oSm, oNn, Option.bind_some, wN, if_pos, if_neg, nS, tN, t0, w0, w1, w2, w3, w4, w5, wm1, upA_ne, upA_same, if_true, if_false, Bool.false_eq_true]
  refine (Eq.trans ?_ F).trans ?_
  · have e : ((upA σ.1 A (cpR (σ.1 A) (σ.1 D) (4 * o) 0), σ.2) : Mem) = σ := by
      rw [cpR_0, upA_id]
    show _ = pv (d + 10) 166 1613 [some (mR (0)), some (mR (ρ)), some (mI ((n : Nat) : Int)), some (mI ((my : Nat) : Int)), some (mI (6)), some (mR (A)), some (mR (T)), some (mR (Lr)), some (mI ((p : Nat) : Int)), some (mI ((o : Nat) : Int)), some (mR (D)), some (mI ((0 : Nat) : Int))] [] (sh, (upA σ.1 A (cpR (σ.1 A) (σ.1 D) (4 * o) 0), σ.2), kk)
    rw [e]; rfl
  · show pv (d + 10) 166 1613 [some (mR (0)), some (mR (ρ)), some (mI ((n : Nat) : Int)), some (mI ((my : Nat) : Int)), some (mI (6)), some (mR (A)), some (mR (T)), some (mR (Lr)), some (mI ((p : Nat) : Int)), some (mI ((o : Nat) : Int)), some (mR (D)), some (mI ((4 : Nat) : Int))] [] (sh, (upA σ.1 A (cpR (σ.1 A) (σ.1 D) (4 * o) 4), σ.2), kk) = _
    rw [e166_1613]
    simp (disch := first | assumption | omega | (simp (disch := omega) only [wN, w0, w1]; omega)) only [e166_1615, e166_1616, e166_1619, e166_1621, e166_1622, e166_1624, e166_1625, e166_1627, e166_1628, e166_1630, e166_1632, e166_1633, e166_1634, e166_1637, e166_1640, e166_1643, e166_1646, e166_1648, e166_1650, e166_1652, e166_1653, e166_1654, e166_1656, e166_1658, e166_1661, e166_1662, e166_1664, e166_1667, e166_1669, e166_1672, e166_1673, e166_1674, e166_1677, e166_1679, e166_1682, e166_1683, e166_1686, e166_1687, e166_1689, e166_1692, e166_1694, e166_1696, e166_1699, e166_1701, e166_1704, e166_1690, e166_1706, kl_I, kl_R, kl_N, kl_L, oSm, oNn, Option.bind_some, wN, if_pos, if_neg, nS, tN, t0, w0, w1, w2, w3, w4, w5, wm1, upA_ne, upA_same, if_true, if_false, Bool.false_eq_true]
    all_goals rfl
end PG4

