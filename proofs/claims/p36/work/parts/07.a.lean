/-! ===== M against the machine: values, locals, worlds ===== -/
def eV (φ : Nat → Nat) : MV → Value
  | .inl z => .int (Int32.ofInt z)
  | .inr (.inl z) => .long (Int64.ofInt z)
  | .inr (.inr a) => .ref (φ a)
def lvF (φ : Nat → Nat) : Nat → List (Option MV) → List (Nat × Value)
  | _, [] => []
  | i, none :: l => lvF φ (i + 1) l
  | i, some v :: l => (i, eV φ v) :: lvF φ (i + 1) l
theorem lvF_mem {φ : Nat → Nat} : ∀ (l : List (Option MV)) (i : Nat) (q : Nat × Value), q ∈ lvF φ i l ↔ ∃ j v, l[j]? = some (some v) ∧ q = (i + j, eV φ v)
  | [], i, q => by simp [lvF]
  | none :: l, i, q => by
    rw [lvF, lvF_mem l (i + 1) q]
    constructor
    · rintro ⟨j, v, h1, h2⟩
      exact ⟨j + 1, v, by simpa using h1, by rw [h2]; congr 1; omega⟩
    · rintro ⟨j, v, h1, h2⟩
      cases j with
      | zero => simp at h1
      | succ j => exact ⟨j, v, by simpa using h1, by rw [h2]; congr 1; omega⟩
  | some w :: l, i, q => by
    rw [lvF, List.mem_cons, lvF_mem l (i + 1) q]
    constructor
    · rintro (h | ⟨j, v, h1, h2⟩)
      · exact ⟨0, w, by simp, by rw [h]; rfl⟩
      · exact ⟨j + 1, v, by simpa using h1, by rw [h2]; congr 1; omega⟩
    · rintro ⟨j, v, h1, h2⟩
      cases j with
      | zero =>
        have : w = v := by simpa using h1
        subst this
        exact Or.inl (by rw [h2]; rfl)
      | succ j => exact Or.inr ⟨j, v, by simpa using h1, by rw [h2]; congr 1; omega⟩
def isLg : MV → Bool
  | .inr (.inl _) => true
  | _ => false
theorem eV_cat (φ : Nat → Nat) (v : MV) : (eV φ v).category = if isLg v then 2 else 1 := by
  rcases v with z | z | a <;> rfl
theorem kl_some {a : Option MV} {w : MV} (h : kl a = some w) : a = some w ∧ isLg w = false := by
  rcases a with _ | z | z | q
  · cases h
  · cases h; exact ⟨rfl, rfl⟩
  · cases h
  · cases h; exact ⟨rfl, rfl⟩
theorem lpt_get : ∀ (l : List (Option MV)) (i : Nat) (v : MV) (j : Nat) (w : MV), (lpt l i v)[j]? = some (some w) → (j = i ∧ w = v) ∨ (j ≠ i ∧ l[j]? = some (some w) ∧ (j + 1 = i → isLg w = false))
  | [], i, v, j, w, h => by simp [lpt] at h
  | a :: l, 0, v, j, w, h => by
    cases j with
    | zero => left; exact ⟨rfl, by simpa [lpt] using h.symm⟩
    | succ j => right; exact ⟨by omega, by simpa [lpt] using h, by omega⟩
  | a :: l, 1, v, j, w, h => by
    cases j with
    | zero =>
      have h1 : kl a = some w := by simpa [lpt] using h
      obtain ⟨h2, h3⟩ := kl_some h1
      right; exact ⟨by omega, by simp [h2], fun _ => h3⟩
    | succ j =>
      rcases lpt_get l 0 v j w (by simpa [lpt] using h) with ⟨h1, h2⟩ | ⟨h1, h2, h3⟩
      · left; exact ⟨by omega, h2⟩
      · right; exact ⟨by omega, by simpa using h2, by omega⟩
  | a :: l, n + 2, v, j, w, h => by
    cases j with
    | zero => right; exact ⟨by omega, by simpa [lpt] using h, by omega⟩
    | succ j =>
      rcases lpt_get l (n + 1) v j w (by simpa [lpt] using h) with ⟨h1, h2⟩ | ⟨h1, h2, h3⟩
      · left; exact ⟨by omega, h2⟩
      · right; exact ⟨by omega, by simpa using h2, fun z => h3 (by omega)⟩
theorem lpt_len : ∀ (l : List (Option MV)) (i : Nat) (v : MV), (lpt l i v).length = l.length
  | [], _, _ => rfl
  | a :: l, 0, v => rfl
  | a :: l, 1, v => by simp [lpt, lpt_len l 0 v]
  | a :: l, n + 2, v => by simp [lpt, lpt_len l (n + 1) v]
theorem lno_get : ∀ (l : List (Option MV)) (k j : Nat) (w : MV), (lno l k)[j]? = some (some w) → j ≠ k ∧ l[j]? = some (some w)
  | [], k, j, w, h => by simp [lno] at h
  | a :: l, 0, j, w, h => by
    cases j with
    | zero => simp [lno] at h
    | succ j => exact ⟨by omega, by simpa [lno] using h⟩
  | a :: l, k + 1, j, w, h => by
    cases j with
    | zero => exact ⟨by omega, by simpa [lno] using h⟩
    | succ j =>
      obtain ⟨h1, h2⟩ := lno_get l k j w (by simpa [lno] using h)
      exact ⟨by omega, by simpa using h2⟩
theorem lno_len : ∀ (l : List (Option MV)) (k : Nat), (lno l k).length = l.length
  | [], _ => rfl
  | a :: l, 0 => rfl
  | a :: l, k + 1 => by simp [lno, lno_len l k]
/-- the locals of the machine as M has them -/
def LH (φ : Nat → Nat) (arr : Array Slot) (nL : Nat) (ls : List (Option MV)) : Prop := lv_has arr nL (lvF φ 0 ls) ∧ ls.length = nL
theorem lv_mono {arr : Array Slot} {n : Nat} {l l' : List (Nat × Value)} (h : lv_has arr n l) (hs : ∀ q ∈ l', q ∈ l) : lv_has arr n l' := ⟨h.1, h.2.1, fun q hq => h.2.2 q (hs q hq)⟩
theorem LH.at {φ : Nat → Nat} {arr : Array Slot} {nL : Nat} {ls : List (Option MV)} (h : LH φ arr nL ls) {i : Nat} {v : MV} (hv : ls[i]? = some (some v)) : arr[i]? = some (.val (eV φ v)) :=
  h.1.2.2 (i, eV φ v) ((lvF_mem ls 0 _).mpr ⟨i, v, hv, by simp⟩)
theorem LH.place {φ : Nat → Nat} {arr : Array Slot} {nL : Nat} {ls : List (Option MV)} (_ : LH φ arr nL ls) {i : Nat} {v : MV} (hv : ls[i]? = some (some v)) : ∃ k : Nat, (lvF φ 0 ls)[k]? = some (i, eV φ v) :=
  List.getElem?_of_mem ((lvF_mem ls 0 _).mpr ⟨i, v, hv, by simp⟩)
theorem LH.put {φ : Nat → Nat} {arr : Array Slot} {nL i : Nat} {ls : List (Option MV)} {v : MV} (hlen : ls.length = nL) (h : lv_has arr nL ((i, eV φ v) :: (lvF φ 0 ls).filter (fun q => !(q.1 == i) && !(q.1 + 1 == i && q.2.category == 2)))) : LH φ arr nL (lpt ls i v) := by
  refine ⟨lv_mono h fun q hq => ?_, by rw [lpt_len, hlen]⟩
  obtain ⟨j, w, h1, h2⟩ := (lvF_mem _ _ _).mp hq
  subst h2
  rcases lpt_get _ _ _ _ _ h1 with ⟨rfl, rfl⟩ | ⟨h3, h4, h5⟩
  · simp
  · refine List.mem_cons_of_mem _ (List.mem_filter.mpr ⟨(lvF_mem _ _ _).mpr ⟨j, w, h4, rfl⟩, ?_⟩)
    simp only [Nat.zero_add, eV_cat]
    by_cases hj : j + 1 = i
    · simp [h3, h5 hj]
    · simp [h3, hj]
theorem LH.putL {φ : Nat → Nat} {arr : Array Slot} {nL i : Nat} {ls : List (Option MV)} {z : Int} (hlen : ls.length = nL) (h : lv_has arr nL ((i, Value.long (Int64.ofInt z)) :: (lvF φ 0 ls).filter (fun q => !(q.1 == i) && (!(q.1 == i + 1) && !(q.1 + 1 == i && q.2.category == 2))))) : LH φ arr nL (lno (lpt ls i (mL z)) (i + 1)) := by
  refine ⟨lv_mono h fun q hq => ?_, by rw [lno_len, lpt_len, hlen]⟩
  obtain ⟨j, w, h1, h2⟩ := (lvF_mem _ _ _).mp hq
  subst h2
  obtain ⟨h0, h1⟩ := lno_get _ _ _ _ h1
  rcases lpt_get _ _ _ _ _ h1 with ⟨rfl, rfl⟩ | ⟨h3, h4, h5⟩
  · simp [eV]
  · refine List.mem_cons_of_mem _ (List.mem_filter.mpr ⟨(lvF_mem _ _ _).mpr ⟨j, w, h4, rfl⟩, ?_⟩)
    simp only [Nat.zero_add, eV_cat]
    by_cases hj : j + 1 = i
    · simp [h3, h0, h5 hj]
    · simp [h3, h0, hj]
theorem LH.entry {φ : Nat → Nat} {m : Nat} {args : List MV} (h : (ments args).length ≤ mML m) : LH φ ((lg_sl (args.map (eV φ)) ++ List.replicate (mML m - (lg_sl (args.map (eV φ))).length) Slot.unset).toArray) (mML m) (ment m args) := by
  have e1 : ∀ as : List MV, (lg_sl (as.map (eV φ))).length = (ments as).length := by
    intro as
    induction as with
    | nil => rfl
    | cons a as ih =>
      rcases a with z | z | q <;> simp_all [lg_sl, ments, eV, Value.category]
  have e2 : ∀ (as : List MV) (i : Nat), lvF φ i (ments as) = lv_args i (as.map (eV φ)) := by
    intro as
    induction as with
    | nil => intro i; rfl
    | cons a as ih =>
      intro i
      rcases a with z | z | q
      · show (i, eV φ (.inl z)) :: lvF φ (i + 1) (ments as) = _
        rw [ih]; rfl
      · show (i, eV φ (.inr (.inl z))) :: lvF φ (i + 1 + 1) (ments as) = _
        rw [ih]; rfl
      · show (i, eV φ (.inr (.inr q))) :: lvF φ (i + 1) (ments as) = _
        rw [ih]; rfl
  refine ⟨lv_mono (lv_entry (args.map (eV φ)) (by rw [e1]; exact h)) fun q hq => ?_, ?_⟩
  · obtain ⟨j, v, h1, h2⟩ := (lvF_mem _ _ _).mp hq
    rw [← e2]
    unfold ment at h1
    by_cases hj : j < (ments args).length
    · rw [List.getElem?_append_left hj] at h1
      exact (lvF_mem _ _ _).mpr ⟨j, v, h1, h2⟩
    · rw [List.getElem?_append_right (by omega), List.getElem?_replicate] at h1
      split at h1 <;> simp at h1
  · unfold ment
    rw [List.length_append, List.length_replicate]
    omega
/-! numbers -/
theorem oI_add (x y : Int) : Int32.ofInt (x + y) = Int32.ofInt x + Int32.ofInt y := Int32.ofInt_add x y
theorem oI_sub (x y : Int) : Int32.ofInt (x - y) = Int32.ofInt x - Int32.ofInt y := Int32.ofInt_sub x y
theorem oI_mul (x y : Int) : Int32.ofInt (x * y) = Int32.ofInt x * Int32.ofInt y := Int32.ofInt_mul x y
theorem oL_add (x y : Int) : Int64.ofInt (x + y) = Int64.ofInt x + Int64.ofInt y := Int64.ofInt_add x y
theorem oL_sub (x y : Int) : Int64.ofInt (x - y) = Int64.ofInt x - Int64.ofInt y := Int64.ofInt_sub x y
theorem oL_mul (x y : Int) : Int64.ofInt (x * y) = Int64.ofInt x * Int64.ofInt y := Int64.ofInt_mul x y
theorem oL_neg (x : Int) : Int64.ofInt (-x) = -Int64.ofInt x := Int64.ofInt_neg x
theorem oI_lt (x y : Int) : Int32.ofInt x < Int32.ofInt y ↔ wi x < wi y := Int32.lt_iff_toInt_lt
theorem oI_eq (x y : Int) : Int32.ofInt x = Int32.ofInt y ↔ wi x = wi y := by unfold wi; rw [Int32.toInt_inj]
theorem oI_lt0 (x : Int) : Int32.ofInt x < 0 ↔ wi x < 0 := Int32.lt_iff_toInt_lt
theorem oI_gt0 (x : Int) : 0 < Int32.ofInt x ↔ 0 < wi x := Int32.lt_iff_toInt_lt
theorem oI_eq0 (x : Int) : Int32.ofInt x = 0 ↔ wi x = 0 := by
  unfold wi
  constructor
  · intro h; rw [h]; rfl
  · intro h; exact Int32.toInt_inj.mp h
theorem oL_eq0 (x : Int) : Int64.ofInt x = 0 ↔ wl x = 0 := by
  unfold wl
  constructor
  · intro h; rw [h]; rfl
  · intro h; exact Int64.toInt_inj.mp h
theorem oI_in (z : Int) (n : Nat) : vp_in (Int32.ofInt z) n ↔ 0 ≤ wi z ∧ wi z < n := vp_in_iff
theorem oI_cl (z : Int) : (Int32.ofInt z).toNatClampNeg = (wi z).toNat := rfl
theorem oI_wi (z : Int) : Int32.ofInt (wi z) = Int32.ofInt z := Int32.ofInt_toInt _
theorem oI_nat (n : Nat) : Int32.ofInt (n : Int) = Int32.ofNat n := by
  apply Int32.toBitVec_inj.mp
  simp [Int32.toBitVec_ofInt]
theorem oL_cmp (x y : Int) : Int32.ofInt (lcmp' x y) = lg_cmp (Int64.ofInt x) (Int64.ofInt y) := by
  unfold lcmp' lg_cmp wl
  have h1 : (Int64.ofInt x > Int64.ofInt y) ↔ (Int64.ofInt y).toInt < (Int64.ofInt x).toInt := Int64.lt_iff_toInt_lt
  have h2 : (Int64.ofInt x = Int64.ofInt y) ↔ (Int64.ofInt x).toInt = (Int64.ofInt y).toInt := Int64.toInt_inj.symm
  by_cases a : (Int64.ofInt x).toInt < (Int64.ofInt y).toInt
  · rw [if_pos a, if_neg (fun z => by have := h1.mp z; omega), if_neg (fun z => by have := h2.mp z; omega)]
    rfl
  · rw [if_neg a]
    by_cases b : (Int64.ofInt x).toInt = (Int64.ofInt y).toInt
    · rw [if_pos b, if_neg (fun z => by have := h1.mp z; omega), if_pos (h2.mpr b)]
      rfl
    · rw [if_neg b, if_pos (h1.mpr (by omega))]
      rfl
/-! the world -/
def cE (cT : Nat → ClassId) (φ : Nat → Nat) (sh : Shp) (σ : Mem) (a : Nat) : va_E :=
  if skd sh a ≤ 2 then .inl (cT (skd sh a), sln sh a, .inl (fun j => Int32.ofInt (σ.1 a j)))
  else if skd sh a = 3 then .inl (cT 3, sln sh a, .inr (.inl (fun j => Int64.ofInt (σ.2 a j))))
  else if skd sh a = 4 then .inl (cT 4, sln sh a, .inr (.inr (.inr (.inr (fun j => some (φ (srf sh a j)))))))
  else .inr (skd sh a - 5, (List.range (sln sh a)).map (fun k => bif frf (skd sh a - 5) k then .ref (φ (srf sh a k)) else .int (Int32.ofInt (σ.1 a k))))
def wE (cT : Nat → ClassId) (φ : Nat → Nat) (sh : Shp) (σ : Mem) : va_W := (List.range sh.1).map (fun a => (φ a, cE cT φ sh σ a))
theorem wE_get {cT : Nat → ClassId} {φ : Nat → Nat} {sh : Shp} {σ : Mem} {a : Nat} (h : a < sh.1) : (wE cT φ sh σ)[a]? = some (φ a, cE cT φ sh σ a) := by
  simp [wE, h]
theorem wE_len {cT : Nat → ClassId} {φ : Nat → Nat} {sh : Shp} {σ : Mem} : (wE cT φ sh σ).length = sh.1 := by simp [wE]
theorem cE_congr {cT : Nat → ClassId} {φ : Nat → Nat} {sh : Shp} {σ σ' : Mem} {a : Nat} (h1 : σ'.1 a = σ.1 a) (h2 : σ'.2 a = σ.2 a) : cE cT φ sh σ' a = cE cT φ sh σ a := by
  simp only [cE, h1, h2]
theorem wE_set {cT : Nat → ClassId} {φ : Nat → Nat} {sh : Shp} {σ σ' : Mem} {a : Nat} (h1 : ∀ b, b ≠ a → σ'.1 b = σ.1 b) (h2 : ∀ b, b ≠ a → σ'.2 b = σ.2 b) : (wE cT φ sh σ).set a (φ a, cE cT φ sh σ' a) = wE cT φ sh σ' := by
  refine List.ext_getElem? fun k => ?_
  by_cases hk : k < sh.1
  · rw [wE_get hk]
    by_cases e : k = a
    · subst e
      rw [List.getElem?_set_self (by rw [wE_len]; exact hk)]
    · rw [List.getElem?_set_ne (Ne.symm e), wE_get hk, cE_congr (h1 k e) (h2 k e)]
  · rw [List.getElem?_eq_none (by rw [List.length_set, wE_len]; omega), List.getElem?_eq_none (by rw [wE_len]; omega)]
theorem upA_ne {f : Nat → Nat → Int} {a b : Nat} {g : Nat → Int} (h : b ≠ a) : upA f a g b = f b := if_neg h
theorem upA_eq {f : Nat → Nat → Int} {a : Nat} {g : Nat → Int} : upA f a g a = g := if_pos rfl
def tyL (cT : Nat → ClassId) : List (ClassId × FieldType) := [(cT 0, .int), (cT 1, .byte), (cT 2, .boolean), (cT 3, .long), (cT 4, .array .int)]
/-- a row of ints that is read alone -/
def roX (b L : Nat) (xs : Nat → Int32) (U : State) (H : Heap) : Prop := ∃ cell : Cell, H[b]? = some cell ∧ U.isArrayOf cell .int ∧ cell.vm ≠ .unknown ∧ L ≤ cell.slots.size ∧ cell.slots.size.toInt32 = Int32.ofNat L ∧ ∀ j : Nat, j < L → cell.slots[j]? = some (.int (xs j))
theorem roX.kept {b L : Nat} {xs : Nat → Int32} {U : State} {H H1 : Heap} (h : roX b L xs U H) (hq : H1[b]? = H[b]?) : roX b L xs U H1 := by
  obtain ⟨cell, h1, h2⟩ := h
  exact ⟨cell, by rw [hq]; exact h1, h2⟩
theorem roX.moved {b L : Nat} {xs : Nat → Int32} {u U : State} {H : Heap} (hvm : u.vm.Alike U.vm) (h : roX b L xs u H) : roX b L xs U H := by
  obtain ⟨cell, h1, h2, h3⟩ := h
  exact ⟨cell, h1, State.isArrayOf_alike hvm h2, h3⟩
/-- the text that the reading of gates looks letters up in -/
def strE (a : Nat) (A : Nat → Prop) (U : State) (H : Heap) : Prop := vk_R RX9 47 "rhxcdw" a U ∧ ∃ v : Nat, vk_S 1 [6] [[114, 104, 120, 99, 100, 119]] (fun _ => a) (fun _ => v) A U H ∧ va_Z "java/lang/String" "COMPACT_STRINGS" "Z" (.int 1) A U H
/-- what else a method may rely on: rows and texts that are read alone, links between nest mates -/
def envA (φ : Nat → Nat) (sh : Shp) (σ : Mem) (A : Nat → Prop) (U : State) (H : Heap) : Prop :=
  (∀ i, i < sh.2.1 → roX (φ (1000000 + i)) (sln sh (1000000 + i)) (fun j => Int32.ofInt (σ.1 (1000000 + i) j)) U H ∧ ¬ A (φ (1000000 + i)) ∧ φ (1000000 + i) < H.size) ∧
  (∀ q, q ∈ NL → va_Nw (.methodLinkNest (cnm q.1) q.2.1 (mY q.2.2) RX10) U) ∧ va_Nw (.fieldLinkNest RX4 90 RX10 "ONE_EACH" "[I" RX10) U ∧
  (sh.2.1 = 2 → va_Z RX10 "ONE_EACH" "[I" (.ref (φ 1000000)) A U H) ∧ (sh.2.1 = 2 → strE (φ (1000000 + sh.2.1)) A U H) ∧ sh.1 ≤ 1000000
theorem envA.sto {φ : Nat → Nat} {sh : Shp} {σ σ' : Mem} {A : Nat → Prop} {U : State} {H : Heap} (h : envA φ sh σ A U H) (hσ : ∀ b, sh.1 ≤ b → σ'.1 b = σ.1 b) : envA φ sh σ' A U H := by
  obtain ⟨h1, h2⟩ := h
  refine ⟨fun i hi => ?_, h2⟩
  rw [hσ _ (Nat.le_trans h2.2.2.2.2 (Nat.le_add_right _ _))]
  exact h1 i hi
theorem envA.call {φ : Nat → Nat} {sh : Shp} {σ : Mem} {A B : Nat → Prop} {s U : State} {H : Heap} {locs : List Loc} (h : envA φ sh σ A s s.heap) (hS : va_S A s.heap H locs) (hAB : ∀ q, B q → A q) (hW : s.WarmedH U.vm) : envA φ sh σ B U H := by
  obtain ⟨h1, h2, h3, h4, h5, h6⟩ := h
  refine ⟨fun i hi => ?_, fun q hq => va_Nw.warmM hW (h2 q hq), va_Nw.warmF hW h3, fun hi => ?_, fun hi => ?_, h6⟩
  · obtain ⟨g1, g2, g3⟩ := h1 i hi
    exact ⟨(g1.kept (hS.2.1 _ g3 g2)).moved hW.alike, fun z => g2 (hAB _ z), Nat.lt_of_lt_of_le g3 hS.1⟩
  · exact ((h4 hi).kept hS.2.1).narrow hAB |>.moved hW.alike
  · obtain ⟨g1, v, g2, g3⟩ := h5 hi
    exact ⟨g1.warm hW, v, ((g2.kept hS.2.1).narrow hAB).moved hW.alike, ((g3.kept hS.2.1).narrow hAB).moved hW.alike⟩
theorem envA.blind {φ : Nat → Nat} {sh : Shp} {σ : Mem} {A : Nat → Prop} {U U' : State} {H : Heap} (hv : U.vm = U'.vm) (h : envA φ sh σ A U H) : envA φ sh σ A U' H := by
  obtain ⟨h1, h2, h3, h4, h5, h6⟩ := h
  have hm : U.vm.Alike U'.vm := by rw [hv]; exact Vm.Alike.refl _
  refine ⟨fun i hi => ⟨(h1 i hi).1.moved hm, (h1 i hi).2⟩, fun q hq => va_Nw.same rfl hv (h2 q hq), va_Nw.same rfl hv h3, fun hi => (h4 hi).moved hm, fun hi => ?_, h6⟩
  obtain ⟨g1, v, g2, g3⟩ := h5 hi
  exact ⟨vk_R.same hv.symm g1, v, g2.moved hm, g3.moved hm⟩
