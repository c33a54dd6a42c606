/-! ===== the reference: where all lies ===== -/
def mtL : List (Nat × Nat × Nat × Nat) := [(0, 125, 0, 360), (1, 126, 0, 3), (2, 127, 0, 10), (3, 128, 0, 10), (4, 129, 0, 4), (5, 130, 0, 10), (6, 131, 0, 10), (7, 132, 0, 4), (17, 133, 1, 140), (18, 134, 0, 120), (19, 135, 0, 10), (20, 136, 0, 10), (29, 137, 3, 64), (30, 138, 3, 64), (32, 139, 0, 30), (33, 140, 0, 30), (34, 141, 0, 30), (35, 142, 0, 30), (36, 143, 3, 64), (38, 144, 0, 4), (39, 145, 0, 36), (40, 146, 0, 4), (41, 147, 0, 4), (42, 148, 0, 4), (43, 149, 0, 5), (44, 150, 0, 320), (45, 151, 0, 30), (51, 152, 0, 5), (52, 153, 0, 7), (53, 154, 0, 7), (54, 155, 0, 7), (55, 156, 0, 28), (56, 157, 0, 6), (57, 158, 0, 30), (58, 159, 0, 5)]
def MS (sh : Shp) : Prop := ob sh 11 59 124 ∧ 160 ≤ sh.1 ∧ sh.2.1 = 2 ∧ ∀ e, e ∈ mtL → srf sh 124 e.1 = e.2.1 ∧ skd sh e.2.1 = e.2.2.1 ∧ sln sh e.2.1 = e.2.2.2
theorem ms0 {sh : Shp} (h : MS sh) : srf sh 124 0 = 125 ∧ skd sh 125 = 0 ∧ sln sh 125 = 360 := h.2.2.2 (0, 125, 0, 360) (by decide)
theorem ms1 {sh : Shp} (h : MS sh) : srf sh 124 1 = 126 ∧ skd sh 126 = 0 ∧ sln sh 126 = 3 := h.2.2.2 (1, 126, 0, 3) (by decide)
theorem ms2 {sh : Shp} (h : MS sh) : srf sh 124 2 = 127 ∧ skd sh 127 = 0 ∧ sln sh 127 = 10 := h.2.2.2 (2, 127, 0, 10) (by decide)
theorem ms3 {sh : Shp} (h : MS sh) : srf sh 124 3 = 128 ∧ skd sh 128 = 0 ∧ sln sh 128 = 10 := h.2.2.2 (3, 128, 0, 10) (by decide)
theorem ms4 {sh : Shp} (h : MS sh) : srf sh 124 4 = 129 ∧ skd sh 129 = 0 ∧ sln sh 129 = 4 := h.2.2.2 (4, 129, 0, 4) (by decide)
theorem ms5 {sh : Shp} (h : MS sh) : srf sh 124 5 = 130 ∧ skd sh 130 = 0 ∧ sln sh 130 = 10 := h.2.2.2 (5, 130, 0, 10) (by decide)
theorem ms6 {sh : Shp} (h : MS sh) : srf sh 124 6 = 131 ∧ skd sh 131 = 0 ∧ sln sh 131 = 10 := h.2.2.2 (6, 131, 0, 10) (by decide)
theorem ms7 {sh : Shp} (h : MS sh) : srf sh 124 7 = 132 ∧ skd sh 132 = 0 ∧ sln sh 132 = 4 := h.2.2.2 (7, 132, 0, 4) (by decide)
theorem ms17 {sh : Shp} (h : MS sh) : srf sh 124 17 = 133 ∧ skd sh 133 = 1 ∧ sln sh 133 = 140 := h.2.2.2 (17, 133, 1, 140) (by decide)
theorem ms18 {sh : Shp} (h : MS sh) : srf sh 124 18 = 134 ∧ skd sh 134 = 0 ∧ sln sh 134 = 120 := h.2.2.2 (18, 134, 0, 120) (by decide)
theorem ms19 {sh : Shp} (h : MS sh) : srf sh 124 19 = 135 ∧ skd sh 135 = 0 ∧ sln sh 135 = 10 := h.2.2.2 (19, 135, 0, 10) (by decide)
theorem ms20 {sh : Shp} (h : MS sh) : srf sh 124 20 = 136 ∧ skd sh 136 = 0 ∧ sln sh 136 = 10 := h.2.2.2 (20, 136, 0, 10) (by decide)
theorem ms29 {sh : Shp} (h : MS sh) : srf sh 124 29 = 137 ∧ skd sh 137 = 3 ∧ sln sh 137 = 64 := h.2.2.2 (29, 137, 3, 64) (by decide)
theorem ms30 {sh : Shp} (h : MS sh) : srf sh 124 30 = 138 ∧ skd sh 138 = 3 ∧ sln sh 138 = 64 := h.2.2.2 (30, 138, 3, 64) (by decide)
theorem ms32 {sh : Shp} (h : MS sh) : srf sh 124 32 = 139 ∧ skd sh 139 = 0 ∧ sln sh 139 = 30 := h.2.2.2 (32, 139, 0, 30) (by decide)
theorem ms33 {sh : Shp} (h : MS sh) : srf sh 124 33 = 140 ∧ skd sh 140 = 0 ∧ sln sh 140 = 30 := h.2.2.2 (33, 140, 0, 30) (by decide)
theorem ms34 {sh : Shp} (h : MS sh) : srf sh 124 34 = 141 ∧ skd sh 141 = 0 ∧ sln sh 141 = 30 := h.2.2.2 (34, 141, 0, 30) (by decide)
theorem ms35 {sh : Shp} (h : MS sh) : srf sh 124 35 = 142 ∧ skd sh 142 = 0 ∧ sln sh 142 = 30 := h.2.2.2 (35, 142, 0, 30) (by decide)
theorem ms36 {sh : Shp} (h : MS sh) : srf sh 124 36 = 143 ∧ skd sh 143 = 3 ∧ sln sh 143 = 64 := h.2.2.2 (36, 143, 3, 64) (by decide)
theorem ms38 {sh : Shp} (h : MS sh) : srf sh 124 38 = 144 ∧ skd sh 144 = 0 ∧ sln sh 144 = 4 := h.2.2.2 (38, 144, 0, 4) (by decide)
theorem ms39 {sh : Shp} (h : MS sh) : srf sh 124 39 = 145 ∧ skd sh 145 = 0 ∧ sln sh 145 = 36 := h.2.2.2 (39, 145, 0, 36) (by decide)
theorem ms40 {sh : Shp} (h : MS sh) : srf sh 124 40 = 146 ∧ skd sh 146 = 0 ∧ sln sh 146 = 4 := h.2.2.2 (40, 146, 0, 4) (by decide)
theorem ms41 {sh : Shp} (h : MS sh) : srf sh 124 41 = 147 ∧ skd sh 147 = 0 ∧ sln sh 147 = 4 := h.2.2.2 (41, 147, 0, 4) (by decide)
theorem ms42 {sh : Shp} (h : MS sh) : srf sh 124 42 = 148 ∧ skd sh 148 = 0 ∧ sln sh 148 = 4 := h.2.2.2 (42, 148, 0, 4) (by decide)
theorem ms43 {sh : Shp} (h : MS sh) : srf sh 124 43 = 149 ∧ skd sh 149 = 0 ∧ sln sh 149 = 5 := h.2.2.2 (43, 149, 0, 5) (by decide)
theorem ms44 {sh : Shp} (h : MS sh) : srf sh 124 44 = 150 ∧ skd sh 150 = 0 ∧ sln sh 150 = 320 := h.2.2.2 (44, 150, 0, 320) (by decide)
theorem ms45 {sh : Shp} (h : MS sh) : srf sh 124 45 = 151 ∧ skd sh 151 = 0 ∧ sln sh 151 = 30 := h.2.2.2 (45, 151, 0, 30) (by decide)
theorem ms51 {sh : Shp} (h : MS sh) : srf sh 124 51 = 152 ∧ skd sh 152 = 0 ∧ sln sh 152 = 5 := h.2.2.2 (51, 152, 0, 5) (by decide)
theorem ms52 {sh : Shp} (h : MS sh) : srf sh 124 52 = 153 ∧ skd sh 153 = 0 ∧ sln sh 153 = 7 := h.2.2.2 (52, 153, 0, 7) (by decide)
theorem ms53 {sh : Shp} (h : MS sh) : srf sh 124 53 = 154 ∧ skd sh 154 = 0 ∧ sln sh 154 = 7 := h.2.2.2 (53, 154, 0, 7) (by decide)
theorem ms54 {sh : Shp} (h : MS sh) : srf sh 124 54 = 155 ∧ skd sh 155 = 0 ∧ sln sh 155 = 7 := h.2.2.2 (54, 155, 0, 7) (by decide)
theorem ms55 {sh : Shp} (h : MS sh) : srf sh 124 55 = 156 ∧ skd sh 156 = 0 ∧ sln sh 156 = 28 := h.2.2.2 (55, 156, 0, 28) (by decide)
theorem ms56 {sh : Shp} (h : MS sh) : srf sh 124 56 = 157 ∧ skd sh 157 = 0 ∧ sln sh 157 = 6 := h.2.2.2 (56, 157, 0, 6) (by decide)
theorem ms57 {sh : Shp} (h : MS sh) : srf sh 124 57 = 158 ∧ skd sh 158 = 0 ∧ sln sh 158 = 30 := h.2.2.2 (57, 158, 0, 30) (by decide)
theorem ms58 {sh : Shp} (h : MS sh) : srf sh 124 58 = 159 ∧ skd sh 159 = 0 ∧ sln sh 159 = 5 := h.2.2.2 (58, 159, 0, 5) (by decide)
/-- nothing but arrays from x to y and fields from u to v of the reference has changed -/
def frW (x y u v : Nat) (σ σ' : Mem) : Prop := (∀ a, (a < x ∨ y < a) → a ≠ 124 → σ'.1 a = σ.1 a ∧ σ'.2 a = σ.2 a) ∧ ∀ i, (i < u ∨ v < i) → σ'.1 124 i = σ.1 124 i
theorem frW.rf {x y u v : Nat} {σ : Mem} : frW x y u v σ σ := ⟨fun _ _ _ => ⟨rfl, rfl⟩, fun _ _ => rfl⟩
theorem frW.tr {x y u v : Nat} {σ σ1 σ2 : Mem} (h : frW x y u v σ σ1) (h2 : frW x y u v σ1 σ2) : frW x y u v σ σ2 := ⟨fun a ha hb => ⟨(h2.1 a ha hb).1.trans (h.1 a ha hb).1, (h2.1 a ha hb).2.trans (h.1 a ha hb).2⟩, fun i hi => (h2.2 i hi).trans (h.2 i hi)⟩
theorem frW.w {x y u v x' y' u' v' : Nat} {σ σ' : Mem} (h : frW x y u v σ σ') (hx : x' ≤ x ∨ y < x) (hy : y ≤ y' ∨ y < x) (hu : u' ≤ u ∨ v < u) (hv : v ≤ v' ∨ v < u) : frW x' y' u' v' σ σ' := ⟨fun a ha hb => h.1 a (by omega) hb, fun i hi => h.2 i (by omega)⟩
theorem frW.a {x y u v a : Nat} {σ : Mem} {g : Nat → Int} (h : x ≤ a ∧ a ≤ y) (h4 : a ≠ 124) : frW x y u v σ (upA σ.1 a g, σ.2) := ⟨fun b hb _ => ⟨upA_ne (by omega), rfl⟩, fun i _ => by
  show upA _ _ _ _ _ = _
  rw [upA_ne (Ne.symm h4)]⟩
theorem frW.l {x y u v a : Nat} {σ : Mem} {g : Nat → Int} (h : x ≤ a ∧ a ≤ y) : frW x y u v σ (σ.1, upA σ.2 a g) := ⟨fun b hb _ => ⟨rfl, upA_ne (by omega)⟩, fun i _ => rfl⟩
theorem frW.f {x y u v i : Nat} {σ : Mem} {z : Int} (h : u ≤ i ∧ i ≤ v) : frW x y u v σ (upA σ.1 124 (up1 (σ.1 124) i z), σ.2) := ⟨fun b _ hb => ⟨upA_ne hb, rfl⟩, fun j hj => by
  simp (disch := omega) only [upA_same, up1_ne]⟩
theorem frL.W {p x y u v : Nat} {σ σ' : Mem} (h : frL p σ σ') (hp : x ≤ p ∧ p ≤ y) : frW x y u v σ σ' := ⟨fun a ha _ => ⟨by rw [h.1], h.2 a (by omega)⟩, fun i _ => by rw [h.1]⟩
def rb (q : Gt) : Int := if q.1 < 3 then -1 else q.2.2
def rk (q : Gt) : Int := if q.1 = 0 then q.2.2 else 0
/-- the reference's gates in slot t -/
def HGm (σ : Mem) (t : Nat) (c : List Gt) : Prop := σ.1 126 t = (c.length : Int) ∧ ∀ g, g < c.length → σ.1 125 (120 * t + 4 * g) = ((gA c g).1 : Int) ∧ σ.1 125 (120 * t + 4 * g + 1) = ((gA c g).2.1 : Int) ∧ σ.1 125 (120 * t + 4 * g + 2) = rb (gA c g) ∧ σ.1 125 (120 * t + 4 * g + 3) = rk (gA c g)
def HEm (σ : Mem) (l h : Nat) (E : List Ed) : Prop := ∀ j, j < E.length → σ.1 l j = ((eA E j).1 : Int) ∧ σ.1 h j = ((eA E j).2 : Int)
/-- a state: gates in slot t, numbers at fields f to f + 3, edges at l and l + 1, lines at p -/
def HMo (σ : Mem) (t f l p : Nat) (S : SB) : Prop := HGm σ t S.2.1 ∧ σ.1 124 f = (S.1 : Int) ∧ σ.1 124 (f + 1) = (S.2.2.1 : Int) ∧ σ.1 124 (f + 2) = (S.2.2.2.1.length : Int) ∧ σ.1 124 (f + 3) = (S.2.2.2.2.2 : Int) ∧ HEm σ l (l + 1) S.2.2.2.1 ∧ (∀ y, y < S.1 → σ.1 p y = (S.2.2.2.2.1 y : Int)) ∧ okB S
def HPm (σ : Mem) (B : Nat → Nat) (s : Nat) : Prop := σ.1 124 21 = (s : Int) ∧ ∀ j, j < 140 → xand (σ.1 133 j) 255 = (B j : Int) ∧ B j < 256
def InvM (sh : Shp) (σ : Mem) (a : AX) : Prop := HMo σ 0 8 127 129 a.1 ∧ σ.1 124 16 = bi a.2.1.isSome ∧ (∀ S, a.2.1 = some S → HMo σ 1 12 130 132 S) ∧ HPm σ a.2.2.1 a.2.2.2.1 ∧ a.2.2.2.1 ≤ 140 ∧ HT sh σ 157 a.2.2.2.2
/-- what the reference's invariant looks at is as it was -/
def KM (σ σ' : Mem) : Prop := (∀ i, i < 22 → σ'.1 124 i = σ.1 124 i) ∧ (∀ i, i < 240 → σ'.1 125 i = σ.1 125 i) ∧ (∀ i, i < 2 → σ'.1 126 i = σ.1 126 i) ∧ (∀ a, 127 ≤ a → a ≤ 133 → σ'.1 a = σ.1 a) ∧ σ'.1 157 = σ.1 157
theorem KM.rf {σ : Mem} : KM σ σ := ⟨fun _ _ => rfl, fun _ _ => rfl, fun _ _ => rfl, fun _ _ _ => rfl, rfl⟩
theorem KM.tr {σ σ1 σ2 : Mem} (h : KM σ σ1) (h2 : KM σ1 σ2) : KM σ σ2 := ⟨fun i hi => (h2.1 i hi).trans (h.1 i hi), fun i hi => (h2.2.1 i hi).trans (h.2.1 i hi), fun i hi => (h2.2.2.1 i hi).trans (h.2.2.1 i hi), fun a ha hb => (h2.2.2.2.1 a ha hb).trans (h.2.2.2.1 a ha hb), h2.2.2.2.2.trans h.2.2.2.2⟩
theorem frW.K {x y u v : Nat} {σ σ' : Mem} (h : frW x y u v σ σ') (hx : 134 ≤ x ∨ y < x) (hy : y < 157 ∨ 157 < x ∨ y < x) (hu : 22 ≤ u ∨ v < u) : KM σ σ' :=
  ⟨fun i hi => h.2 i (by omega), fun i _ => by rw [(h.1 125 (by omega) (by omega)).1], fun i _ => by rw [(h.1 126 (by omega) (by omega)).1], fun a ha hb => (h.1 a (by omega) (by omega)).1, (h.1 157 (by omega) (by omega)).1⟩
theorem HGm.k {σ σ' : Mem} {t : Nat} {c : List Gt} (h : HGm σ t c) (hk : σ'.1 126 t = σ.1 126 t) (h2 : ∀ i, 120 * t ≤ i → i < 120 * t + 4 * c.length → σ'.1 125 i = σ.1 125 i) : HGm σ' t c := by
  refine ⟨by rw [hk]; exact h.1, fun g hg => ?_⟩
  rw [h2 _ (by omega) (by omega), h2 _ (by omega) (by omega), h2 _ (by omega) (by omega), h2 _ (by omega) (by omega)]
  exact h.2 g hg
theorem HMo.k {σ σ' : Mem} {t f l p : Nat} {S : SB} (h : HMo σ t f l p S) (hk : KM σ σ') (ht : t < 2) (hf : f + 3 < 22) (hl : 127 ≤ l ∧ l + 1 ≤ 133) (hp : 127 ≤ p ∧ p ≤ 133) : HMo σ' t f l p S := by
  obtain ⟨h1, h2, h3, h4, h5, h6, h7, h8⟩ := h
  obtain ⟨k1, k2, k3, k4, k5⟩ := hk
  have c30 : S.2.1.length ≤ 30 := h8.2.2.1
  refine ⟨h1.k (k3 t ht) (fun i hi hj => k2 i (by omega)), by rw [k1 _ (by omega)]; exact h2, by rw [k1 _ (by omega)]; exact h3, by rw [k1 _ (by omega)]; exact h4, by rw [k1 _ (by omega)]; exact h5, fun j hj => ?_, fun y hy => ?_, h8⟩
  · rw [k4 l (by omega) (by omega), k4 (l + 1) (by omega) (by omega)]; exact h6 j hj
  · rw [k4 p (by omega) (by omega)]; exact h7 y hy
theorem InvM.k {sh : Shp} {σ σ' : Mem} {a : AX} (h : InvM sh σ a) (hk : KM σ σ') : InvM sh σ' a := by
  obtain ⟨h1, h2, h3, h4, h5, h6⟩ := h
  exact ⟨h1.k hk (by omega) (by omega) (by omega) (by omega), by rw [hk.1 16 (by omega)]; exact h2, fun S hS => (h3 S hS).k hk (by omega) (by omega) (by omega) (by omega), ⟨by rw [hk.1 21 (by omega)]; exact h4.1, fun j hj => by rw [hk.2.2.2.1 133 (by omega) (by omega)]; exact h4.2 j hj⟩, h5, h6.k hk.2.2.2.2⟩
theorem InvM.W {sh : Shp} {σ σ' : Mem} {a : AX} {x y u v : Nat} (h : InvM sh σ a) (hf : frW x y u v σ σ') (hx : 134 ≤ x ∨ y < x) (hy : y < 157 ∨ 157 < x ∨ y < x) (hu : 22 ≤ u ∨ v < u) : InvM sh σ' a := h.k (hf.K hx hy hu)

