/-! ===== vectors: a gate, all states; the root ===== -/
theorem vG.d {n : Nat} {q : Gt} (h : vG n q) : 3 ≤ q.1 → q.2.2.toNat ≠ q.2.1 := by
  intro h3 e
  have h5 := h.2.2.2.2 h3
  omega
/-- it depends on what is dealt with at one state -/
theorem clW_loc {q : Gt} (hq : q.1 ≤ 5) (hd : 3 ≤ q.1 → q.2.2.toNat ≠ q.2.1) {W W' : Vc} {r : Nat} (h : ∀ x, piW q x = piW q r → W x = W' x) : clW q W r = clW q W' r := by
  have h0 := h r rfl
  obtain ⟨k, a, b⟩ := q
  simp only at hq hd
  simp only [clW]
  simp only [piW] at h
  generalize b.toNat = bb at hd h ⊢
  have hx : k = 1 ∨ k = 2 → W (r ^^^ 2 ^ a) = W' (r ^^^ 2 ^ a) := by
    intro hk
    apply h
    rcases hk with rfl | rfl
    · simp only [show (1 : Nat) ≠ 0 by decide, if_false, if_true, tb_xs, x_x]
      cases hr : r.testBit a <;> simp
    · simp only [show (2 : Nat) ≠ 0 by decide, show (2 : Nat) ≠ 1 by decide, if_false, if_true, tb_xs, x_x]
      cases hr : r.testBit a <;> simp
  have hy : k = 3 → r.testBit a = true → W (r ^^^ 2 ^ bb) = W' (r ^^^ 2 ^ bb) := by
    intro hk ha
    apply h
    subst hk
    have hd := hd (by decide)
    simp only [show (3 : Nat) ≠ 0 by decide, show (3 : Nat) ≠ 1 by decide, show (3 : Nat) ≠ 2 by decide, if_false, if_true, tb_xs, tb_xn hd, x_x, ha, true_and]
    cases hr : r.testBit bb <;> simp
  have hz : k = 5 → r.testBit a ≠ r.testBit bb → W ((r ^^^ 2 ^ a) ^^^ 2 ^ bb) = W' ((r ^^^ 2 ^ a) ^^^ 2 ^ bb) := by
    intro hk hne
    apply h
    subst hk
    have hd := hd (by decide)
    simp only [show (5 : Nat) ≠ 0 by decide, show (5 : Nat) ≠ 1 by decide, show (5 : Nat) ≠ 2 by decide, show (5 : Nat) ≠ 3 by decide, show (5 : Nat) ≠ 4 by decide, if_false, tb_xs, tb_xn hd, tb_xn (Ne.symm hd)]
    have e : (((r ^^^ 2 ^ a) ^^^ 2 ^ bb) ^^^ 2 ^ a) ^^^ 2 ^ bb = r := by rw [x_c (b := a), x_x, x_x]
    rw [e]
    cases ha : r.testBit a <;> cases hb : r.testBit bb <;> rw [ha, hb] at hne <;> simp at hne ⊢
  rcases (show k = 0 ∨ k = 1 ∨ k = 2 ∨ k = 3 ∨ k = 4 ∨ k = 5 by omega) with rfl | rfl | rfl | rfl | rfl | rfl
  · simp only [if_true, h0]
  · simp only [show (1 : Nat) ≠ 0 by decide, if_false, if_true, h0, hx (Or.inl rfl)]
  · simp only [show (2 : Nat) ≠ 0 by decide, show (2 : Nat) ≠ 1 by decide, if_false, if_true, hx (Or.inr rfl)]
  · simp only [show (3 : Nat) ≠ 0 by decide, show (3 : Nat) ≠ 1 by decide, show (3 : Nat) ≠ 2 by decide, if_false, if_true]
    by_cases ha : r.testBit a = true
    · rw [if_pos ha, if_pos ha, hy rfl ha]
    · rw [if_neg ha, if_neg ha, h0]
  · simp only [show (4 : Nat) ≠ 0 by decide, show (4 : Nat) ≠ 1 by decide, show (4 : Nat) ≠ 2 by decide, show (4 : Nat) ≠ 3 by decide, if_false, if_true, h0]
  · simp only [show (5 : Nat) ≠ 0 by decide, show (5 : Nat) ≠ 1 by decide, show (5 : Nat) ≠ 2 by decide, show (5 : Nat) ≠ 3 by decide, show (5 : Nat) ≠ 4 by decide, if_false]
    by_cases ha : r.testBit a = r.testBit bb
    · rw [if_pos ha, if_pos ha, h0]
    · rw [if_neg ha, if_neg ha, hz rfl ha]
theorem doW_if {q : Gt} (hq : q.1 ≤ 5) (hd : 3 ≤ q.1 → q.2.2.toNat ≠ q.2.1) (W : Vc) : ∀ k r, doW q k W r = if piW q r < k then clW q W r else W r
  | 0, r => by rw [if_neg (Nat.not_lt_zero _)]; rfl
  | k + 1, r => by
    rw [doW, stW_eq hq hd]
    by_cases e : piW q r = k
    · rw [if_pos e, if_pos (by omega)]
      refine clW_loc hq hd (fun x hx => ?_)
      rw [doW_if hq hd W k x, if_neg (by omega)]
    · rw [if_neg e, doW_if hq hd W k r]
      by_cases e2 : piW q r < k
      · rw [if_pos e2, if_pos (by omega)]
      · rw [if_neg e2, if_neg (by omega)]
theorem x_lt {r a n : Nat} (hr : r < 2 ^ n) (ha : a < n) : r ^^^ 2 ^ a < 2 ^ n := Nat.xor_lt_two_pow hr (Nat.pow_lt_pow_right (by omega) ha)
theorem piW_lt {q : Gt} {n r : Nat} (h : vG n q) (hr : r < 2 ^ n) : piW q r < 2 ^ n := by
  have h2 := h.2.1
  have h5 := h.2.2.2.2
  unfold piW
  by_cases h3 : 3 ≤ q.1
  · have h6 := h5 h3
    have e : q.2.2.toNat < n := by omega
    repeat' split
    all_goals first | exact hr | exact x_lt hr h2 | exact x_lt hr e | exact x_lt (x_lt hr h2) e
  · repeat' split
    all_goals first | exact hr | exact x_lt hr h2 | omega
theorem doW_cl {q : Gt} {n r : Nat} (h : vG n q) (hr : r < 2 ^ n) (W : Vc) : doW q (2 ^ n) W r = clW q W r := by
  rw [doW_if h.1 h.d, if_pos (piW_lt h hr)]
/-- nothing stands at states from 2^n on -/
def spW (n : Nat) (W : Vc) : Prop := ∀ r, 2 ^ n ≤ r → W r = qz
theorem bit_ge {r n j : Nat} (hr : r < 2 ^ n) (hj : n ≤ j) : r.testBit j = false := Nat.testBit_lt_two_pow (Nat.lt_of_lt_of_le hr (Nat.pow_le_pow_right (by omega) hj))
theorem x_ge {r a n : Nat} (hr : 2 ^ n ≤ r) (ha : a < n) : 2 ^ n ≤ r ^^^ 2 ^ a := by
  rcases Nat.lt_or_ge (r ^^^ 2 ^ a) (2 ^ n) with h | h
  · have := x_lt h ha
    rw [x_x] at this
    omega
  · exact h
theorem tu_z : ∀ k, tuQ k qz = qz
  | 0 => rfl
  | k + 1 => by rw [tuQ, tu_z k]; rfl
theorem clW_sp {q : Gt} {n : Nat} (h : vG n q) {W : Vc} (hW : spW n W) : spW n (clW q W) := by
  intro r hr
  have h2 := h.2.1
  have h5 := h.2.2.2.2
  have e1 := hW r hr
  have e2 := hW _ (x_ge hr h2)
  unfold clW
  by_cases h3 : 3 ≤ q.1
  · have h6 := h5 h3
    have e : q.2.2.toNat < n := by omega
    have e3 := hW _ (x_ge hr e)
    have e4 := hW _ (x_ge (x_ge hr h2) e)
    repeat' split
    all_goals first | exact e1 | exact e2 | exact e3 | exact e4 | (rw [e1]; exact tu_z _) | omega
  · repeat' split
    all_goals first | exact e1 | exact e2 | (rw [e1]; exact tu_z _) | (rw [e1, e2]; rfl) | omega
theorem doW_eq {q : Gt} {n : Nat} (h : vG n q) {W : Vc} (hW : spW n W) : doW q (2 ^ n) W = clW q W := by
  funext r
  rcases Nat.lt_or_ge r (2 ^ n) with hr | hr
  · exact doW_cl h hr W
  · rw [clW_sp h hW r hr, doW_if h.1 h.d]
    split
    · exact clW_sp h hW r hr
    · exact hW r hr
/-! the root -/
def rtW (W : Vc) : Vc := fun r => rtQ (W r)
def leW (W : Vc) : Vc := fun r => leQ (W r)
def evW (W : Vc) : Bool := fa (fun s => evQ (W s)) 16 0
theorem q4_ext {p q : Q4} (h1 : p.1 = q.1) (h2 : p.2.1 = q.2.1) (h3 : p.2.2.1 = q.2.2.1) (h4 : p.2.2.2 = q.2.2.2) : p = q := Prod.ext h1 (Prod.ext h2 (Prod.ext h3 h4))
theorem le_rt (q : Q4) : leQ (rtQ q) = q := by
  refine q4_ext ?_ ?_ ?_ ?_ <;> simp only [leQ, rtQ] <;> omega
theorem rt_le {q : Q4} (h : evQ q = true) : rtQ (leQ q) = q := by
  simp only [evQ, Bool.and_eq_true, decide_eq_true_eq] at h
  refine q4_ext ?_ ?_ ?_ ?_ <;> simp only [leQ, rtQ] <;> omega
theorem ev_rt (q : Q4) : evQ (rtQ q) = true := by
  have h1 : (q.2.1 - q.2.2.2 - (q.2.1 + q.2.2.2)) % 2 = 0 := by omega
  have h2 : (q.1 + q.2.2.1 - (q.2.2.1 - q.1)) % 2 = 0 := by omega
  simp only [evQ, rtQ, h1, h2]
  rfl
theorem leW_rt (W : Vc) : leW (rtW W) = W := funext fun r => le_rt (W r)
theorem evW_rt (W : Vc) : evW (rtW W) = true := (fa_iff 16 0).mpr fun j _ _ => ev_rt (W j)
theorem tu_rt : ∀ k q, tuQ k (rtQ q) = rtQ (tuQ k q)
  | 0, q => rfl
  | k + 1, q => by
    rw [tuQ, tuQ, tu_rt k q]
    refine q4_ext ?_ ?_ ?_ ?_ <;> simp only [tu1, rtQ] <;> omega
theorem ad_rt (p q : Q4) : adQ (rtQ p) (rtQ q) = rtQ (adQ p q) := by
  refine q4_ext ?_ ?_ ?_ ?_ <;> simp only [adQ, rtQ] <;> omega
theorem sb_rt (p q : Q4) : sbQ (rtQ p) (rtQ q) = rtQ (sbQ p q) := by
  refine q4_ext ?_ ?_ ?_ ?_ <;> simp only [sbQ, rtQ] <;> omega
theorem cl_rt (q : Gt) (W : Vc) : clW q (rtW W) = rtW (clW q W) := by
  funext r
  simp only [clW, rtW]
  repeat' split
  all_goals first | rfl | exact tu_rt _ _ | exact ad_rt _ _ | exact sb_rt _ _
theorem rt_le_W {n : Nat} (hn : n ≤ 4) {W : Vc} (hW : spW n W) (h : evW W = true) : rtW (leW W) = W := by
  funext r
  have h16 : 2 ^ n ≤ 2 ^ 4 := Nat.pow_le_pow_right (by omega) hn
  rcases Nat.lt_or_ge r 16 with hr | hr
  · exact rt_le ((fa_iff 16 0).mp h r (by omega) (by omega))
  · simp only [rtW, leW, hW r (by omega)]; rfl
theorem leW_sp {n : Nat} {W : Vc} (hW : spW n W) : spW n (leW W) := fun r hr => by
  simp only [leW, hW r hr]; rfl
theorem rtW_sp {n : Nat} {W : Vc} (hW : spW n W) : spW n (rtW W) := fun r hr => by
  simp only [rtW, hW r hr]; rfl
/-- by the root as long as it can be, p times at most -/
def noV : Nat → Vc → Vc × Nat
  | 0, W => (W, 0)
  | p + 1, W => if evW W = true then noV p (leW W) else (W, p + 1)
def rtN : Nat → Vc → Vc
  | 0, W => W
  | j + 1, W => rtW (rtN j W)
theorem noV_rt : ∀ (j p : Nat) (W : Vc), noV (p + j) (rtN j W) = noV p W
  | 0, p, W => rfl
  | j + 1, p, W => by
    rw [← Nat.add_assoc, noV, rtN, if_pos (evW_rt _), leW_rt, noV_rt j p W]
theorem noV_sp {n : Nat} : ∀ p {W : Vc}, spW n W → spW n (noV p W).1
  | 0, W, h => h
  | p + 1, W, h => by
    rw [noV]
    split
    · exact noV_sp p (leW_sp h)
    · exact h
theorem noV_w {n : Nat} (hn : n ≤ 4) : ∀ p {W : Vc}, spW n W → ∃ j, rtN j (noV p W).1 = W ∧ (noV p W).2 + j = p
  | 0, W, h => ⟨0, rfl, rfl⟩
  | p + 1, W, h => by
    rw [noV]
    by_cases e : evW W = true
    · rw [if_pos e]
      obtain ⟨j, h1, h2⟩ := noV_w hn p (leW_sp h)
      exact ⟨j + 1, by rw [rtN, h1, rt_le_W hn h e], by omega⟩
    · rw [if_neg e]
      exact ⟨0, rfl, rfl⟩
theorem noV_id : ∀ p (W : Vc), noV (noV p W).2 (noV p W).1 = noV p W
  | 0, W => rfl
  | p + 1, W => by
    by_cases e : evW W = true
    · have : noV (p + 1) W = noV p (leW W) := by rw [noV, if_pos e]
      rw [this]; exact noV_id p (leW W)
    · have : noV (p + 1) W = (W, p + 1) := by rw [noV, if_neg e]
      rw [this]; exact this
theorem cl_rtN (q : Gt) : ∀ j (W : Vc), clW q (rtN j W) = rtN j (clW q W)
  | 0, W => rfl
  | j + 1, W => by rw [rtN, cl_rt, cl_rtN q j W]; rfl
theorem rtN_add : ∀ i j (W : Vc), rtN i (rtN j W) = rtN (i + j) W
  | 0, j, W => by rw [Nat.zero_add]; rfl
  | i + 1, j, W => by rw [Nat.add_right_comm, rtN, rtN, rtN_add i j W]
def ktH (q : Gt) : Nat := if q.1 = 1 then 1 else 0
/-- all gates, then by the root: as the class does -/
def fdW (c : List Gt) : Nat → Vc → Vc
  | 0, W => W
  | i + 1, W => clW (gA c i) (fdW c i W)
def fdP (c : List Gt) : Nat → Nat
  | 0 => 0
  | i + 1 => fdP c i + ktH (gA c i)
/-- by the root behind each gate -/
def fdR (c : List Gt) : Nat → Vc → Vc × Nat
  | 0, W => (W, 0)
  | i + 1, W => noV ((fdR c i W).2 + ktH (gA c i)) (clW (gA c i) (fdR c i W).1)
theorem fdW_sp {n : Nat} {c : List Gt} (hv : okC n c) {W : Vc} (hW : spW n W) : ∀ i, i ≤ c.length → spW n (fdW c i W)
  | 0, _ => hW
  | i + 1, h => clW_sp (hv.at (by omega)) (fdW_sp hv hW i (by omega))
theorem fdR_sp {n : Nat} {c : List Gt} (hv : okC n c) {W : Vc} (hW : spW n W) : ∀ i, i ≤ c.length → spW n (fdR c i W).1
  | 0, _ => hW
  | i + 1, h => noV_sp _ (clW_sp (hv.at (by omega)) (fdR_sp hv hW i (by omega)))
theorem fd_eq {n : Nat} (hn : n ≤ 4) {c : List Gt} (hv : okC n c) {W : Vc} (hW : spW n W) : ∀ i, i ≤ c.length → ∃ j, fdW c i W = rtN j (fdR c i W).1 ∧ fdP c i = (fdR c i W).2 + j
  | 0, _ => ⟨0, rfl, rfl⟩
  | i + 1, h => by
    obtain ⟨j, h1, h2⟩ := fd_eq hn hv hW i (by omega)
    have hs := clW_sp (hv.at (show i < c.length by omega)) (fdR_sp hv hW i (by omega))
    obtain ⟨l, h3, h4⟩ := noV_w hn ((fdR c i W).2 + ktH (gA c i)) hs
    refine ⟨j + l, ?_, ?_⟩
    · rw [fdW, h1, cl_rtN, fdR, ← rtN_add, h3]
    · rw [fdP, h2, fdR]; omega
/-- both ways come to the same -/
theorem no_eq {n : Nat} (hn : n ≤ 4) {c : List Gt} (hv : okC n c) {W : Vc} (hW : spW n W) : noV (fdP c c.length) (fdW c c.length W) = fdR c c.length W := by
  obtain ⟨j, h1, h2⟩ := fd_eq hn hv hW c.length (Nat.le_refl _)
  rw [h1, h2, noV_rt]
  cases hl : c.length with
  | zero => rfl
  | succ i => rw [fdR]; exact noV_id _ _
/-! bounds -/
def bdQ (B : Int) (q : Q4) : Prop := (-B ≤ q.1 ∧ q.1 ≤ B) ∧ (-B ≤ q.2.1 ∧ q.2.1 ≤ B) ∧ (-B ≤ q.2.2.1 ∧ q.2.2.1 ≤ B) ∧ (-B ≤ q.2.2.2 ∧ q.2.2.2 ≤ B)
def bdW (B : Int) (W : Vc) : Prop := ∀ r, bdQ B (W r)
theorem bd_tu {B : Int} : ∀ k {q : Q4}, bdQ B q → bdQ B (tuQ k q)
  | 0, q, h => h
  | k + 1, q, h => by
    have := bd_tu k h
    unfold bdQ at this
    simp only [tuQ, tu1, bdQ]
    omega
theorem bd_cl {B : Int} (h0 : 0 ≤ B) {W : Vc} (h : bdW B W) (q : Gt) : bdW (2 * B) (clW q W) := by
  intro r
  have up : ∀ {x : Q4}, bdQ B x → bdQ (2 * B) x := by
    intro x hx
    simp only [bdQ] at hx ⊢
    omega
  have h1 := h r
  have h2 := h (r ^^^ 2 ^ q.2.1)
  unfold clW
  repeat' split
  all_goals first | exact up (h _) | exact up (bd_tu _ (h _)) | (simp only [bdQ, adQ, sbQ] at h1 h2 ⊢; omega)
theorem bd_le {B : Int} {W : Vc} (h : bdW B W) : bdW B (leW W) := by
  intro r
  have h1 := h r
  simp only [bdQ, leW, leQ] at h1 ⊢
  omega
theorem bd_no {B : Int} : ∀ p {W : Vc}, bdW B W → bdW B (noV p W).1
  | 0, W, h => h
  | p + 1, W, h => by
    rw [noV]
    split
    · exact bd_no p (bd_le h)
    · exact h
theorem bd_fdW {c : List Gt} {W : Vc} (h : bdW 1 W) : ∀ i, bdW (2 ^ i) (fdW c i W)
  | 0 => h
  | i + 1 => by
    have := bd_cl (by exact Int.le_of_lt (Int.pow_pos (by decide))) (bd_fdW (c := c) h i) (gA c i)
    rw [show (2 : Int) ^ (i + 1) = 2 * 2 ^ i by rw [Int.pow_succ, Int.mul_comm]]
    exact this
theorem bd_fdR {c : List Gt} {W : Vc} (h : bdW 1 W) : ∀ i, bdW (2 ^ i) (fdR c i W).1
  | 0 => h
  | i + 1 => by
    have := bd_cl (by exact Int.le_of_lt (Int.pow_pos (by decide))) (bd_fdR (c := c) h i) (gA c i)
    rw [show (2 : Int) ^ (i + 1) = 2 * 2 ^ i by rw [Int.pow_succ, Int.mul_comm], fdR]
    exact bd_no _ this
theorem bd_mono {B B' : Int} (h : B ≤ B') {W : Vc} (hW : bdW B W) : bdW B' W := by
  intro r
  have := hW r
  simp only [bdQ] at this ⊢
  omega
/-- one state alone -/
def e1W (s : Nat) : Vc := fun r => if r = s then qo else qz
theorem e1_bd (s : Nat) : bdW 1 (e1W s) := by
  intro r
  unfold e1W
  split <;> simp [bdQ, qo, qz]
theorem e1_sp {n s : Nat} (h : s < 2 ^ n) : spW n (e1W s) := by
  intro r hr
  unfold e1W
  rw [if_neg (by omega)]
/-- the amplitudes from a state, and their power -/
def amV (c : List Gt) (s : Nat) : Vc × Nat := fdR c c.length (e1W s)
theorem amV_sp {n s : Nat} {c : List Gt} (hv : okC n c) (h : s < 2 ^ n) : spW n (amV c s).1 := fdR_sp hv (e1_sp h) _ (Nat.le_refl _)
theorem p30 {i : Nat} (h : i ≤ 30) : (2 : Int) ^ i ≤ 1073741824 := by
  have : 2 ^ i ≤ 2 ^ 30 := Nat.pow_le_pow_right (by omega) h
  have e : ((2 ^ i : Nat) : Int) ≤ ((2 ^ 30 : Nat) : Int) := Int.ofNat_le.mpr this
  rw [Int.natCast_pow] at e
  exact e
theorem amV_bd {s : Nat} {c : List Gt} (h30 : c.length ≤ 30) : bdW 1073741824 (amV c s).1 := bd_mono (p30 h30) (bd_fdR (e1_bd s) _)
