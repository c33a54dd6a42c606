/-! ===== what one instruction does to ev, an opcode a row ===== -/
theorem ev_stuck {sh : Shp} {d m pc : Nat} {ls : List (Option MV)} {st : List MV} {σ : Mem} (h : mstep sh d m pc ls st σ = none) : ev sh d m pc ls st σ = none := by
  refine ev_ext fun r => ?_
  constructor
  · rintro ⟨n, hn⟩
    cases n with
    | zero => simp [evF] at hn
    | succ n => rw [evF, h] at hn; cases hn
  · intro h; cases h
theorem E_iload_n {sh : Shp} {d m pc x1 x2 : Nat} {ls : List (Option MV)} {st : List MV} {σ : Mem} {k : Fin 4} {x : Int} (h : mcode m pc = some (.iload_n k, 1, x1, x2)) (hl : ls[k.val]? = some (some (.inl x))) : ev sh d m pc ls (st) σ = ev sh d m (pc + 1) ls (.inl x :: st) σ := ev_next (by rw [mstep, h]; simp only [mex, mldI, hl]; rfl)
theorem E_iload {sh : Shp} {d m pc x1 x2 : Nat} {ls : List (Option MV)} {st : List MV} {σ : Mem} {k : Nat} {x : Int} (h : mcode m pc = some (.iload k, 2, x1, x2)) (hl : ls[k]? = some (some (.inl x))) : ev sh d m pc ls (st) σ = ev sh d m (pc + 2) ls (.inl x :: st) σ := ev_next (by rw [mstep, h]; simp only [mex, mldI, hl]; rfl)
theorem E_lload_n {sh : Shp} {d m pc x1 x2 : Nat} {ls : List (Option MV)} {st : List MV} {σ : Mem} {k : Fin 4} {x : Int} (h : mcode m pc = some (.lload_n k, 1, x1, x2)) (hl : ls[k.val]? = some (some (.inr (.inl x)))) : ev sh d m pc ls (st) σ = ev sh d m (pc + 1) ls (.inr (.inl x) :: st) σ := ev_next (by rw [mstep, h]; simp only [mex, mldL, hl]; rfl)
theorem E_lload {sh : Shp} {d m pc x1 x2 : Nat} {ls : List (Option MV)} {st : List MV} {σ : Mem} {k : Nat} {x : Int} (h : mcode m pc = some (.lload k, 2, x1, x2)) (hl : ls[k]? = some (some (.inr (.inl x)))) : ev sh d m pc ls (st) σ = ev sh d m (pc + 2) ls (.inr (.inl x) :: st) σ := ev_next (by rw [mstep, h]; simp only [mex, mldL, hl]; rfl)
theorem E_aload_n {sh : Shp} {d m pc x1 x2 : Nat} {ls : List (Option MV)} {st : List MV} {σ : Mem} {k : Fin 4} {x : Nat} (h : mcode m pc = some (.aload_n k, 1, x1, x2)) (hl : ls[k.val]? = some (some (.inr (.inr x)))) : ev sh d m pc ls (st) σ = ev sh d m (pc + 1) ls (.inr (.inr x) :: st) σ := ev_next (by rw [mstep, h]; simp only [mex, mldR, hl]; rfl)
theorem E_aload {sh : Shp} {d m pc x1 x2 : Nat} {ls : List (Option MV)} {st : List MV} {σ : Mem} {k : Nat} {x : Nat} (h : mcode m pc = some (.aload k, 2, x1, x2)) (hl : ls[k]? = some (some (.inr (.inr x)))) : ev sh d m pc ls (st) σ = ev sh d m (pc + 2) ls (.inr (.inr x) :: st) σ := ev_next (by rw [mstep, h]; simp only [mex, mldR, hl]; rfl)
theorem E_istore_n {sh : Shp} {d m pc x1 x2 : Nat} {ls : List (Option MV)} {st : List MV} {σ : Mem} {k : Fin 4} {x : Int} (h : mcode m pc = some (.istore_n k, 1, x1, x2)) (hl : k.val < ls.length) : ev sh d m pc ls (.inl x :: st) σ = ev sh d m (pc + 1) (lpt ls k.val (.inl x)) st σ := ev_next (by rw [mstep, h]; simp [mex, mstI, hl])
theorem E_istore {sh : Shp} {d m pc x1 x2 : Nat} {ls : List (Option MV)} {st : List MV} {σ : Mem} {k : Nat} {x : Int} (h : mcode m pc = some (.istore k, 2, x1, x2)) (hl : k < ls.length) : ev sh d m pc ls (.inl x :: st) σ = ev sh d m (pc + 2) (lpt ls k (.inl x)) st σ := ev_next (by rw [mstep, h]; simp [mex, mstI, hl])
theorem E_astore_n {sh : Shp} {d m pc x1 x2 : Nat} {ls : List (Option MV)} {st : List MV} {σ : Mem} {k : Fin 4} {x : Nat} (h : mcode m pc = some (.astore_n k, 1, x1, x2)) (hl : k.val < ls.length) : ev sh d m pc ls (.inr (.inr x) :: st) σ = ev sh d m (pc + 1) (lpt ls k.val (.inr (.inr x))) st σ := ev_next (by rw [mstep, h]; simp [mex, mstR, hl])
theorem E_astore {sh : Shp} {d m pc x1 x2 : Nat} {ls : List (Option MV)} {st : List MV} {σ : Mem} {k : Nat} {x : Nat} (h : mcode m pc = some (.astore k, 2, x1, x2)) (hl : k < ls.length) : ev sh d m pc ls (.inr (.inr x) :: st) σ = ev sh d m (pc + 2) (lpt ls k (.inr (.inr x))) st σ := ev_next (by rw [mstep, h]; simp [mex, mstR, hl])
theorem E_lstore_n {sh : Shp} {d m pc x1 x2 : Nat} {ls : List (Option MV)} {st : List MV} {σ : Mem} {k : Fin 4} {x : Int} (h : mcode m pc = some (.lstore_n k, 1, x1, x2)) (hl : k.val + 1 < ls.length) : ev sh d m pc ls (.inr (.inl x) :: st) σ = ev sh d m (pc + 1) (lno (lpt ls k.val (.inr (.inl x))) (k.val + 1)) st σ := ev_next (by rw [mstep, h]; simp [mex, mstL, hl])
theorem E_lstore {sh : Shp} {d m pc x1 x2 : Nat} {ls : List (Option MV)} {st : List MV} {σ : Mem} {k : Nat} {x : Int} (h : mcode m pc = some (.lstore k, 2, x1, x2)) (hl : k + 1 < ls.length) : ev sh d m pc ls (.inr (.inl x) :: st) σ = ev sh d m (pc + 2) (lno (lpt ls k (.inr (.inl x))) (k + 1)) st σ := ev_next (by rw [mstep, h]; simp [mex, mstL, hl])
theorem E_iconst {sh : Shp} {d m pc x1 x2 : Nat} {ls : List (Option MV)} {st : List MV} {σ : Mem} {z : Int} (h : mcode m pc = some (.iconst z, 1, x1, x2)) : ev sh d m pc ls (st) σ = ev sh d m (pc + 1) ls (.inl z :: st) σ := ev_next (by rw [mstep, h]; rfl)
theorem E_bipush {sh : Shp} {d m pc x1 x2 : Nat} {ls : List (Option MV)} {st : List MV} {σ : Mem} {z : Int} (h : mcode m pc = some (.bipush z, 2, x1, x2)) (hz : (Int8.ofInt z).toInt = z) : ev sh d m pc ls (st) σ = ev sh d m (pc + 2) ls (.inl z :: st) σ := ev_next (by rw [mstep, h]; exact if_pos ⟨rfl, hz⟩)
theorem E_sipush {sh : Shp} {d m pc x1 x2 : Nat} {ls : List (Option MV)} {st : List MV} {σ : Mem} {z : Int} (h : mcode m pc = some (.sipush z, 3, x1, x2)) (hz : (Int16.ofInt z).toInt = z) : ev sh d m pc ls (st) σ = ev sh d m (pc + 3) ls (.inl z :: st) σ := ev_next (by rw [mstep, h]; exact if_pos ⟨rfl, hz⟩)
theorem E_lconst {sh : Shp} {d m pc x1 x2 : Nat} {ls : List (Option MV)} {st : List MV} {σ : Mem} {z : Fin 2} {v : Int} (h : mcode m pc = some (.lconst z, 1, x1, x2)) (hz : (z.val : Int) = v) : ev sh d m pc ls (st) σ = ev sh d m (pc + 1) ls (.inr (.inl v) :: st) σ := ev_next (by rw [mstep, h, ← hz]; rfl)
theorem E_ldc {sh : Shp} {d m pc x1 : Nat} {ls : List (Option MV)} {st : List MV} {σ : Mem} {z : Int} {q : Nat} (h : mcode m pc = some (.ldc q, 2, x1, 0)) (hz : kcs.getD x1 0 = z) : ev sh d m pc ls (st) σ = ev sh d m (pc + 2) ls (.inl z :: st) σ := ev_next (by rw [mstep, h, ← hz]; rfl)
theorem E_ldcs {sh : Shp} {d m pc x1 : Nat} {ls : List (Option MV)} {st : List MV} {σ : Mem} {q : Nat} (h : mcode m pc = some (.ldc q, 2, x1, 1)) (hR : sh.2.1 = 2) : ev sh d m pc ls (st) σ = ev sh d m (pc + 2) ls (.inr (.inr (1000000 + sh.2.1)) :: st) σ := ev_next (by rw [mstep, h]; simp [mex, mnx, hR])
theorem E_ldc_w {sh : Shp} {d m pc x1 : Nat} {ls : List (Option MV)} {st : List MV} {σ : Mem} {z : Int} {q : Nat} (h : mcode m pc = some (.ldc_w q, 3, x1, 0)) (hz : kcs.getD x1 0 = z) : ev sh d m pc ls (st) σ = ev sh d m (pc + 3) ls (.inl z :: st) σ := ev_next (by rw [mstep, h, ← hz]; rfl)
theorem E_ldc2_w {sh : Shp} {d m pc x1 x2 : Nat} {ls : List (Option MV)} {st : List MV} {σ : Mem} {z : Int} {q : Nat} (h : mcode m pc = some (.ldc2_w q, 3, x1, x2)) (hz : lcs.getD x1 0 = z) : ev sh d m pc ls (st) σ = ev sh d m (pc + 3) ls (.inr (.inl z) :: st) σ := ev_next (by rw [mstep, h, ← hz]; rfl)
theorem E_iadd {sh : Shp} {d m pc x1 x2 : Nat} {ls : List (Option MV)} {st : List MV} {σ : Mem} {x y : Int} (h : mcode m pc = some (.iadd, 1, x1, x2)) : ev sh d m pc ls (.inl y :: .inl x :: st) σ = ev sh d m (pc + 1) ls (.inl (x + y) :: st) σ := ev_next (by rw [mstep, h]; rfl)
theorem E_isub {sh : Shp} {d m pc x1 x2 : Nat} {ls : List (Option MV)} {st : List MV} {σ : Mem} {x y : Int} (h : mcode m pc = some (.isub, 1, x1, x2)) : ev sh d m pc ls (.inl y :: .inl x :: st) σ = ev sh d m (pc + 1) ls (.inl (x - y) :: st) σ := ev_next (by rw [mstep, h]; rfl)
theorem E_imul {sh : Shp} {d m pc x1 x2 : Nat} {ls : List (Option MV)} {st : List MV} {σ : Mem} {x y : Int} (h : mcode m pc = some (.imul, 1, x1, x2)) : ev sh d m pc ls (.inl y :: .inl x :: st) σ = ev sh d m (pc + 1) ls (.inl (x * y) :: st) σ := ev_next (by rw [mstep, h]; rfl)
theorem E_iand {sh : Shp} {d m pc x1 x2 : Nat} {ls : List (Option MV)} {st : List MV} {σ : Mem} {x y : Int} (h : mcode m pc = some (.iand, 1, x1, x2)) : ev sh d m pc ls (.inl y :: .inl x :: st) σ = ev sh d m (pc + 1) ls (.inl (xand x y) :: st) σ := ev_next (by rw [mstep, h]; rfl)
theorem E_ior {sh : Shp} {d m pc x1 x2 : Nat} {ls : List (Option MV)} {st : List MV} {σ : Mem} {x y : Int} (h : mcode m pc = some (.ior, 1, x1, x2)) : ev sh d m pc ls (.inl y :: .inl x :: st) σ = ev sh d m (pc + 1) ls (.inl (xor' x y) :: st) σ := ev_next (by rw [mstep, h]; rfl)
theorem E_ixor {sh : Shp} {d m pc x1 x2 : Nat} {ls : List (Option MV)} {st : List MV} {σ : Mem} {x y : Int} (h : mcode m pc = some (.ixor, 1, x1, x2)) : ev sh d m pc ls (.inl y :: .inl x :: st) σ = ev sh d m (pc + 1) ls (.inl (xxor x y) :: st) σ := ev_next (by rw [mstep, h]; rfl)
theorem E_ishl {sh : Shp} {d m pc x1 x2 : Nat} {ls : List (Option MV)} {st : List MV} {σ : Mem} {x y : Int} (h : mcode m pc = some (.ishl, 1, x1, x2)) : ev sh d m pc ls (.inl y :: .inl x :: st) σ = ev sh d m (pc + 1) ls (.inl (xshl x y) :: st) σ := ev_next (by rw [mstep, h]; rfl)
theorem E_ishr {sh : Shp} {d m pc x1 x2 : Nat} {ls : List (Option MV)} {st : List MV} {σ : Mem} {x y : Int} (h : mcode m pc = some (.ishr, 1, x1, x2)) : ev sh d m pc ls (.inl y :: .inl x :: st) σ = ev sh d m (pc + 1) ls (.inl (xshr x y) :: st) σ := ev_next (by rw [mstep, h]; rfl)
theorem E_iushr {sh : Shp} {d m pc x1 x2 : Nat} {ls : List (Option MV)} {st : List MV} {σ : Mem} {x y : Int} (h : mcode m pc = some (.iushr, 1, x1, x2)) : ev sh d m pc ls (.inl y :: .inl x :: st) σ = ev sh d m (pc + 1) ls (.inl (xushr x y) :: st) σ := ev_next (by rw [mstep, h]; rfl)
theorem E_idiv {sh : Shp} {d m pc x1 x2 : Nat} {ls : List (Option MV)} {st : List MV} {σ : Mem} {x y : Int} (h : mcode m pc = some (.idiv, 1, x1, x2)) (hy : ¬ wi y = 0) : ev sh d m pc ls (.inl y :: .inl x :: st) σ = ev sh d m (pc + 1) ls (.inl (xdiv x y) :: st) σ := ev_next (by rw [mstep, h]; exact if_pos ⟨rfl, hy⟩)
theorem E_irem {sh : Shp} {d m pc x1 x2 : Nat} {ls : List (Option MV)} {st : List MV} {σ : Mem} {x y : Int} (h : mcode m pc = some (.irem, 1, x1, x2)) (hy : ¬ wi y = 0) : ev sh d m pc ls (.inl y :: .inl x :: st) σ = ev sh d m (pc + 1) ls (.inl (xrem x y) :: st) σ := ev_next (by rw [mstep, h]; exact if_pos ⟨rfl, hy⟩)
theorem E_ladd {sh : Shp} {d m pc x1 x2 : Nat} {ls : List (Option MV)} {st : List MV} {σ : Mem} {x y : Int} (h : mcode m pc = some (.ladd, 1, x1, x2)) : ev sh d m pc ls (.inr (.inl y) :: .inr (.inl x) :: st) σ = ev sh d m (pc + 1) ls (.inr (.inl (x + y)) :: st) σ := ev_next (by rw [mstep, h]; rfl)
theorem E_lsub {sh : Shp} {d m pc x1 x2 : Nat} {ls : List (Option MV)} {st : List MV} {σ : Mem} {x y : Int} (h : mcode m pc = some (.lsub, 1, x1, x2)) : ev sh d m pc ls (.inr (.inl y) :: .inr (.inl x) :: st) σ = ev sh d m (pc + 1) ls (.inr (.inl (x - y)) :: st) σ := ev_next (by rw [mstep, h]; rfl)
theorem E_lmul {sh : Shp} {d m pc x1 x2 : Nat} {ls : List (Option MV)} {st : List MV} {σ : Mem} {x y : Int} (h : mcode m pc = some (.lmul, 1, x1, x2)) : ev sh d m pc ls (.inr (.inl y) :: .inr (.inl x) :: st) σ = ev sh d m (pc + 1) ls (.inr (.inl (x * y)) :: st) σ := ev_next (by rw [mstep, h]; rfl)
theorem E_land {sh : Shp} {d m pc x1 x2 : Nat} {ls : List (Option MV)} {st : List MV} {σ : Mem} {x y : Int} (h : mcode m pc = some (.land, 1, x1, x2)) : ev sh d m pc ls (.inr (.inl y) :: .inr (.inl x) :: st) σ = ev sh d m (pc + 1) ls (.inr (.inl (land' x y)) :: st) σ := ev_next (by rw [mstep, h]; rfl)
theorem E_lor {sh : Shp} {d m pc x1 x2 : Nat} {ls : List (Option MV)} {st : List MV} {σ : Mem} {x y : Int} (h : mcode m pc = some (.lor, 1, x1, x2)) : ev sh d m pc ls (.inr (.inl y) :: .inr (.inl x) :: st) σ = ev sh d m (pc + 1) ls (.inr (.inl (lor' x y)) :: st) σ := ev_next (by rw [mstep, h]; rfl)
theorem E_ldiv {sh : Shp} {d m pc x1 x2 : Nat} {ls : List (Option MV)} {st : List MV} {σ : Mem} {x y : Int} (h : mcode m pc = some (.ldiv, 1, x1, x2)) (hy : ¬ wl y = 0) : ev sh d m pc ls (.inr (.inl y) :: .inr (.inl x) :: st) σ = ev sh d m (pc + 1) ls (.inr (.inl (ldiv' x y)) :: st) σ := ev_next (by rw [mstep, h]; exact if_pos ⟨rfl, hy⟩)
theorem E_lshl {sh : Shp} {d m pc x1 x2 : Nat} {ls : List (Option MV)} {st : List MV} {σ : Mem} {x y : Int} (h : mcode m pc = some (.lshl, 1, x1, x2)) : ev sh d m pc ls (.inl y :: .inr (.inl x) :: st) σ = ev sh d m (pc + 1) ls (.inr (.inl (lshl' x y)) :: st) σ := ev_next (by rw [mstep, h]; rfl)
theorem E_lushr {sh : Shp} {d m pc x1 x2 : Nat} {ls : List (Option MV)} {st : List MV} {σ : Mem} {x y : Int} (h : mcode m pc = some (.lushr, 1, x1, x2)) : ev sh d m pc ls (.inl y :: .inr (.inl x) :: st) σ = ev sh d m (pc + 1) ls (.inr (.inl (lushr' x y)) :: st) σ := ev_next (by rw [mstep, h]; rfl)
theorem E_lcmp {sh : Shp} {d m pc x1 x2 : Nat} {ls : List (Option MV)} {st : List MV} {σ : Mem} {x y : Int} (h : mcode m pc = some (.lcmp, 1, x1, x2)) : ev sh d m pc ls (.inr (.inl y) :: .inr (.inl x) :: st) σ = ev sh d m (pc + 1) ls (.inl (lcmp' x y) :: st) σ := ev_next (by rw [mstep, h]; rfl)
theorem E_lneg {sh : Shp} {d m pc x1 x2 : Nat} {ls : List (Option MV)} {st : List MV} {σ : Mem} {x : Int} (h : mcode m pc = some (.lneg, 1, x1, x2)) : ev sh d m pc ls (.inr (.inl x) :: st) σ = ev sh d m (pc + 1) ls (.inr (.inl (-x)) :: st) σ := ev_next (by rw [mstep, h]; rfl)
theorem E_l2i {sh : Shp} {d m pc x1 x2 : Nat} {ls : List (Option MV)} {st : List MV} {σ : Mem} {x : Int} (h : mcode m pc = some (.l2i, 1, x1, x2)) : ev sh d m pc ls (.inr (.inl x) :: st) σ = ev sh d m (pc + 1) ls (.inl x :: st) σ := ev_next (by rw [mstep, h]; rfl)
theorem E_i2l {sh : Shp} {d m pc x1 x2 : Nat} {ls : List (Option MV)} {st : List MV} {σ : Mem} {x : Int} (h : mcode m pc = some (.i2l, 1, x1, x2)) : ev sh d m pc ls (.inl x :: st) σ = ev sh d m (pc + 1) ls (.inr (.inl (wi x)) :: st) σ := ev_next (by rw [mstep, h]; rfl)
theorem E_i2b {sh : Shp} {d m pc x1 x2 : Nat} {ls : List (Option MV)} {st : List MV} {σ : Mem} {x : Int} (h : mcode m pc = some (.i2b, 1, x1, x2)) : ev sh d m pc ls (.inl x :: st) σ = ev sh d m (pc + 1) ls (.inl (xi2b x) :: st) σ := ev_next (by rw [mstep, h]; rfl)
theorem E_i2c {sh : Shp} {d m pc x1 x2 : Nat} {ls : List (Option MV)} {st : List MV} {σ : Mem} {x : Int} (h : mcode m pc = some (.i2c, 1, x1, x2)) : ev sh d m pc ls (.inl x :: st) σ = ev sh d m (pc + 1) ls (.inl (xi2c x) :: st) σ := ev_next (by rw [mstep, h]; rfl)
theorem E_iinc {sh : Shp} {d m pc x1 x2 : Nat} {ls : List (Option MV)} {st : List MV} {σ : Mem} {k : Nat} {z x : Int} (h : mcode m pc = some (.iinc k z, 3, x1, x2)) (hl : ls[k]? = some (some (.inl x))) : ev sh d m pc ls (st) σ = ev sh d m (pc + 3) (lpt ls k (.inl (x + z))) st σ := ev_next (by rw [mstep, h]; simp only [mex, hl]; rfl)
theorem E_dupI {sh : Shp} {d m pc x1 x2 : Nat} {ls : List (Option MV)} {st : List MV} {σ : Mem} {x : Int} (h : mcode m pc = some (.dup, 1, x1, x2)) : ev sh d m pc ls (.inl x :: st) σ = ev sh d m (pc + 1) ls (.inl x :: .inl x :: st) σ := ev_next (by rw [mstep, h]; rfl)
theorem E_dupR {sh : Shp} {d m pc x1 x2 : Nat} {ls : List (Option MV)} {st : List MV} {σ : Mem} {x : Nat} (h : mcode m pc = some (.dup, 1, x1, x2)) : ev sh d m pc ls (.inr (.inr x) :: st) σ = ev sh d m (pc + 1) ls (.inr (.inr x) :: .inr (.inr x) :: st) σ := ev_next (by rw [mstep, h]; rfl)
theorem E_dup2 {sh : Shp} {d m pc x1 x2 : Nat} {ls : List (Option MV)} {st : List MV} {σ : Mem} {x : Int} {y : Nat} (h : mcode m pc = some (.dup2, 1, x1, x2)) : ev sh d m pc ls (.inl x :: .inr (.inr y) :: st) σ = ev sh d m (pc + 1) ls (.inl x :: .inr (.inr y) :: .inl x :: .inr (.inr y) :: st) σ := ev_next (by rw [mstep, h]; rfl)
theorem E_pop {sh : Shp} {d m pc x1 x2 : Nat} {ls : List (Option MV)} {st : List MV} {σ : Mem} {x : Int} (h : mcode m pc = some (.pop, 1, x1, x2)) : ev sh d m pc ls (.inl x :: st) σ = ev sh d m (pc + 1) ls st σ := ev_next (by rw [mstep, h]; rfl)
theorem E_goto {sh : Shp} {d m pc x1 x2 : Nat} {ls : List (Option MV)} {st : List MV} {σ : Mem} {off : Int} (h : mcode m pc = some (.goto off, 3, x1, x2)) (ht : (pc : Int) + off = (x1 : Int)) : ev sh d m pc ls (st) σ = ev sh d m x1 ls st σ := ev_next (by rw [mstep, h]; exact if_pos ⟨rfl, ht⟩)
theorem E_if_eq {sh : Shp} {d m pc x1 x2 : Nat} {ls : List (Option MV)} {st : List MV} {σ : Mem} {x : Int} {off : Int} (h : mcode m pc = some (.ifCond .eq off, 3, x1, x2)) (ht : (pc : Int) + off = (x1 : Int)) : ev sh d m pc ls (.inl x :: st) σ = if wi x = 0 then ev sh d m x1 ls st σ else ev sh d m (pc + 3) ls st σ := by
  by_cases hc : wi x = 0
  · rw [if_pos hc]
    exact ev_next (by rw [mstep, h]; simp [mex, mif, mnx, cnd, ht, hc])
  · rw [if_neg hc]
    exact ev_next (by rw [mstep, h]; simp [mex, mif, mnx, cnd, ht, hc])
theorem E_ic_eq {sh : Shp} {d m pc x1 x2 : Nat} {ls : List (Option MV)} {st : List MV} {σ : Mem} {x y : Int} {off : Int} (h : mcode m pc = some (.if_icmp .eq off, 3, x1, x2)) (ht : (pc : Int) + off = (x1 : Int)) : ev sh d m pc ls (.inl y :: .inl x :: st) σ = if wi x = wi y then ev sh d m x1 ls st σ else ev sh d m (pc + 3) ls st σ := by
  by_cases hc : wi x = wi y
  · rw [if_pos hc]
    exact ev_next (by rw [mstep, h]; simp [mex, mif, mnx, cnd, ht, hc])
  · rw [if_neg hc]
    exact ev_next (by rw [mstep, h]; simp [mex, mif, mnx, cnd, ht, hc])
theorem E_if_ne {sh : Shp} {d m pc x1 x2 : Nat} {ls : List (Option MV)} {st : List MV} {σ : Mem} {x : Int} {off : Int} (h : mcode m pc = some (.ifCond .ne off, 3, x1, x2)) (ht : (pc : Int) + off = (x1 : Int)) : ev sh d m pc ls (.inl x :: st) σ = if wi x = 0 then ev sh d m (pc + 3) ls st σ else ev sh d m x1 ls st σ := by
  by_cases hc : wi x = 0
  · rw [if_pos hc]
    exact ev_next (by rw [mstep, h]; simp [mex, mif, mnx, cnd, ht, hc])
  · rw [if_neg hc]
    exact ev_next (by rw [mstep, h]; simp [mex, mif, mnx, cnd, ht, hc])
theorem E_ic_ne {sh : Shp} {d m pc x1 x2 : Nat} {ls : List (Option MV)} {st : List MV} {σ : Mem} {x y : Int} {off : Int} (h : mcode m pc = some (.if_icmp .ne off, 3, x1, x2)) (ht : (pc : Int) + off = (x1 : Int)) : ev sh d m pc ls (.inl y :: .inl x :: st) σ = if wi x = wi y then ev sh d m (pc + 3) ls st σ else ev sh d m x1 ls st σ := by
  by_cases hc : wi x = wi y
  · rw [if_pos hc]
    exact ev_next (by rw [mstep, h]; simp [mex, mif, mnx, cnd, ht, hc])
  · rw [if_neg hc]
    exact ev_next (by rw [mstep, h]; simp [mex, mif, mnx, cnd, ht, hc])
theorem E_if_lt {sh : Shp} {d m pc x1 x2 : Nat} {ls : List (Option MV)} {st : List MV} {σ : Mem} {x : Int} {off : Int} (h : mcode m pc = some (.ifCond .lt off, 3, x1, x2)) (ht : (pc : Int) + off = (x1 : Int)) : ev sh d m pc ls (.inl x :: st) σ = if wi x < 0 then ev sh d m x1 ls st σ else ev sh d m (pc + 3) ls st σ := by
  by_cases hc : wi x < 0
  · rw [if_pos hc]
    exact ev_next (by rw [mstep, h]; simp [mex, mif, mnx, cnd, ht, hc])
  · rw [if_neg hc]
    exact ev_next (by rw [mstep, h]; simp [mex, mif, mnx, cnd, ht, hc])
theorem E_ic_lt {sh : Shp} {d m pc x1 x2 : Nat} {ls : List (Option MV)} {st : List MV} {σ : Mem} {x y : Int} {off : Int} (h : mcode m pc = some (.if_icmp .lt off, 3, x1, x2)) (ht : (pc : Int) + off = (x1 : Int)) : ev sh d m pc ls (.inl y :: .inl x :: st) σ = if wi x < wi y then ev sh d m x1 ls st σ else ev sh d m (pc + 3) ls st σ := by
  by_cases hc : wi x < wi y
  · rw [if_pos hc]
    exact ev_next (by rw [mstep, h]; simp [mex, mif, mnx, cnd, ht, hc])
  · rw [if_neg hc]
    exact ev_next (by rw [mstep, h]; simp [mex, mif, mnx, cnd, ht, hc])
theorem E_if_ge {sh : Shp} {d m pc x1 x2 : Nat} {ls : List (Option MV)} {st : List MV} {σ : Mem} {x : Int} {off : Int} (h : mcode m pc = some (.ifCond .ge off, 3, x1, x2)) (ht : (pc : Int) + off = (x1 : Int)) : ev sh d m pc ls (.inl x :: st) σ = if wi x < 0 then ev sh d m (pc + 3) ls st σ else ev sh d m x1 ls st σ := by
  by_cases hc : wi x < 0
  · rw [if_pos hc]
    exact ev_next (by rw [mstep, h]; simp [mex, mif, mnx, cnd, ht, hc])
  · rw [if_neg hc]
    exact ev_next (by rw [mstep, h]; simp [mex, mif, mnx, cnd, ht, hc])
theorem E_ic_ge {sh : Shp} {d m pc x1 x2 : Nat} {ls : List (Option MV)} {st : List MV} {σ : Mem} {x y : Int} {off : Int} (h : mcode m pc = some (.if_icmp .ge off, 3, x1, x2)) (ht : (pc : Int) + off = (x1 : Int)) : ev sh d m pc ls (.inl y :: .inl x :: st) σ = if wi x < wi y then ev sh d m (pc + 3) ls st σ else ev sh d m x1 ls st σ := by
  by_cases hc : wi x < wi y
  · rw [if_pos hc]
    exact ev_next (by rw [mstep, h]; simp [mex, mif, mnx, cnd, ht, hc])
  · rw [if_neg hc]
    exact ev_next (by rw [mstep, h]; simp [mex, mif, mnx, cnd, ht, hc])
theorem E_if_gt {sh : Shp} {d m pc x1 x2 : Nat} {ls : List (Option MV)} {st : List MV} {σ : Mem} {x : Int} {off : Int} (h : mcode m pc = some (.ifCond .gt off, 3, x1, x2)) (ht : (pc : Int) + off = (x1 : Int)) : ev sh d m pc ls (.inl x :: st) σ = if 0 < wi x then ev sh d m x1 ls st σ else ev sh d m (pc + 3) ls st σ := by
  by_cases hc : 0 < wi x
  · rw [if_pos hc]
    exact ev_next (by rw [mstep, h]; simp [mex, mif, mnx, cnd, ht, hc])
  · rw [if_neg hc]
    exact ev_next (by rw [mstep, h]; simp [mex, mif, mnx, cnd, ht, hc])
theorem E_ic_gt {sh : Shp} {d m pc x1 x2 : Nat} {ls : List (Option MV)} {st : List MV} {σ : Mem} {x y : Int} {off : Int} (h : mcode m pc = some (.if_icmp .gt off, 3, x1, x2)) (ht : (pc : Int) + off = (x1 : Int)) : ev sh d m pc ls (.inl y :: .inl x :: st) σ = if wi y < wi x then ev sh d m x1 ls st σ else ev sh d m (pc + 3) ls st σ := by
  by_cases hc : wi y < wi x
  · rw [if_pos hc]
    exact ev_next (by rw [mstep, h]; simp [mex, mif, mnx, cnd, ht, hc])
  · rw [if_neg hc]
    exact ev_next (by rw [mstep, h]; simp [mex, mif, mnx, cnd, ht, hc])
theorem E_if_le {sh : Shp} {d m pc x1 x2 : Nat} {ls : List (Option MV)} {st : List MV} {σ : Mem} {x : Int} {off : Int} (h : mcode m pc = some (.ifCond .le off, 3, x1, x2)) (ht : (pc : Int) + off = (x1 : Int)) : ev sh d m pc ls (.inl x :: st) σ = if 0 < wi x then ev sh d m (pc + 3) ls st σ else ev sh d m x1 ls st σ := by
  by_cases hc : 0 < wi x
  · rw [if_pos hc]
    exact ev_next (by rw [mstep, h]; simp [mex, mif, mnx, cnd, ht, hc])
  · rw [if_neg hc]
    exact ev_next (by rw [mstep, h]; simp [mex, mif, mnx, cnd, ht, hc])
theorem E_ic_le {sh : Shp} {d m pc x1 x2 : Nat} {ls : List (Option MV)} {st : List MV} {σ : Mem} {x y : Int} {off : Int} (h : mcode m pc = some (.if_icmp .le off, 3, x1, x2)) (ht : (pc : Int) + off = (x1 : Int)) : ev sh d m pc ls (.inl y :: .inl x :: st) σ = if wi y < wi x then ev sh d m (pc + 3) ls st σ else ev sh d m x1 ls st σ := by
  by_cases hc : wi y < wi x
  · rw [if_pos hc]
    exact ev_next (by rw [mstep, h]; simp [mex, mif, mnx, cnd, ht, hc])
  · rw [if_neg hc]
    exact ev_next (by rw [mstep, h]; simp [mex, mif, mnx, cnd, ht, hc])
theorem E_iaload {sh : Shp} {d m pc x1 x2 : Nat} {ls : List (Option MV)} {st : List MV} {σ : Mem} {i : Int} {a : Nat} (h : mcode m pc = some (.iaload, 1, x1, x2)) (hk : skd sh a = 0) : ev sh d m pc ls (.inl i :: .inr (.inr a) :: st) σ = if 0 ≤ wi i ∧ wi i < sln sh a then ev sh d m (pc + 1) ls (.inl (σ.1 a (wi i).toNat) :: st) σ else none := by
  by_cases hc : 0 ≤ wi i ∧ wi i < sln sh a
  · rw [if_pos hc]
    exact ev_next (by rw [mstep, h]; exact if_pos ⟨hk, hc⟩)
  · rw [if_neg hc]
    exact ev_stuck (by rw [mstep, h]; exact if_neg (fun z => hc z.2))
theorem E_laload {sh : Shp} {d m pc x1 x2 : Nat} {ls : List (Option MV)} {st : List MV} {σ : Mem} {i : Int} {a : Nat} (h : mcode m pc = some (.laload, 1, x1, x2)) (hk : skd sh a = 3) : ev sh d m pc ls (.inl i :: .inr (.inr a) :: st) σ = if 0 ≤ wi i ∧ wi i < sln sh a then ev sh d m (pc + 1) ls (.inr (.inl (σ.2 a (wi i).toNat)) :: st) σ else none := by
  by_cases hc : 0 ≤ wi i ∧ wi i < sln sh a
  · rw [if_pos hc]
    exact ev_next (by rw [mstep, h]; exact if_pos ⟨hk, hc⟩)
  · rw [if_neg hc]
    exact ev_stuck (by rw [mstep, h]; exact if_neg (fun z => hc z.2))
theorem E_aaload {sh : Shp} {d m pc x1 x2 : Nat} {ls : List (Option MV)} {st : List MV} {σ : Mem} {i : Int} {a : Nat} (h : mcode m pc = some (.aaload, 1, x1, x2)) (hk : skd sh a = 4) : ev sh d m pc ls (.inl i :: .inr (.inr a) :: st) σ = if 0 ≤ wi i ∧ wi i < sln sh a then ev sh d m (pc + 1) ls (.inr (.inr (srf sh a (wi i).toNat)) :: st) σ else none := by
  by_cases hc : 0 ≤ wi i ∧ wi i < sln sh a
  · rw [if_pos hc]
    exact ev_next (by rw [mstep, h]; exact if_pos ⟨hk, hc⟩)
  · rw [if_neg hc]
    exact ev_stuck (by rw [mstep, h]; exact if_neg (fun z => hc z.2))
theorem E_zaload {sh : Shp} {d m pc x1 x2 : Nat} {ls : List (Option MV)} {st : List MV} {σ : Mem} {i : Int} {a : Nat} (h : mcode m pc = some (.baload, 1, x1, x2)) (hk : skd sh a = 2) : ev sh d m pc ls (.inl i :: .inr (.inr a) :: st) σ = if 0 ≤ wi i ∧ wi i < sln sh a then ev sh d m (pc + 1) ls (.inl (σ.1 a (wi i).toNat) :: st) σ else none := by
  by_cases hc : 0 ≤ wi i ∧ wi i < sln sh a
  · rw [if_pos hc]
    exact ev_next (by rw [mstep, h]; simp [mex, mald, mnx, hk, hc])
  · rw [if_neg hc]
    exact ev_stuck (by rw [mstep, h]; simp only [mex, mald, hk]; simp; omega)
theorem E_baload {sh : Shp} {d m pc x1 x2 : Nat} {ls : List (Option MV)} {st : List MV} {σ : Mem} {i : Int} {a : Nat} (h : mcode m pc = some (.baload, 1, x1, x2)) (hk : skd sh a = 1) : ev sh d m pc ls (.inl i :: .inr (.inr a) :: st) σ = if 0 ≤ wi i ∧ wi i < sln sh a then ev sh d m (pc + 1) ls (.inl (σ.1 a (wi i).toNat) :: st) σ else none := by
  by_cases hc : 0 ≤ wi i ∧ wi i < sln sh a
  · rw [if_pos hc]
    exact ev_next (by rw [mstep, h]; simp [mex, mald, mnx, hk, hc])
  · rw [if_neg hc]
    exact ev_stuck (by rw [mstep, h]; simp only [mex, mald, hk]; simp; omega)
theorem E_iastore {sh : Shp} {d m pc x1 x2 : Nat} {ls : List (Option MV)} {st : List MV} {σ : Mem} {i v : Int} {a : Nat} (h : mcode m pc = some (.iastore, 1, x1, x2)) (hk : skd sh a = 0) (hw : a < sh.1) : ev sh d m pc ls (.inl v :: .inl i :: .inr (.inr a) :: st) σ = if 0 ≤ wi i ∧ wi i < sln sh a then ev sh d m (pc + 1) ls st (upA σ.1 a (up1 (σ.1 a) (wi i).toNat v), σ.2) else none := by
  by_cases hc : 0 ≤ wi i ∧ wi i < sln sh a
  · rw [if_pos hc]
    exact ev_next (by rw [mstep, h]; exact if_pos ⟨hk, hw, hc⟩)
  · rw [if_neg hc]
    exact ev_stuck (by rw [mstep, h]; exact if_neg (fun z => hc z.2.2))
theorem E_lastore {sh : Shp} {d m pc x1 x2 : Nat} {ls : List (Option MV)} {st : List MV} {σ : Mem} {i v : Int} {a : Nat} (h : mcode m pc = some (.lastore, 1, x1, x2)) (hk : skd sh a = 3) (hw : a < sh.1) : ev sh d m pc ls (.inr (.inl v) :: .inl i :: .inr (.inr a) :: st) σ = if 0 ≤ wi i ∧ wi i < sln sh a then ev sh d m (pc + 1) ls st (σ.1, upA σ.2 a (up1 (σ.2 a) (wi i).toNat v)) else none := by
  by_cases hc : 0 ≤ wi i ∧ wi i < sln sh a
  · rw [if_pos hc]
    exact ev_next (by rw [mstep, h]; exact if_pos ⟨rfl, hk, hw, hc⟩)
  · rw [if_neg hc]
    exact ev_stuck (by rw [mstep, h]; exact if_neg (fun z => hc z.2.2.2))
theorem E_zastore {sh : Shp} {d m pc x1 x2 : Nat} {ls : List (Option MV)} {st : List MV} {σ : Mem} {i v : Int} {a : Nat} (h : mcode m pc = some (.bastore, 1, x1, x2)) (hk : skd sh a = 2) (hw : a < sh.1) (hv : v = 0 ∨ v = 1) : ev sh d m pc ls (.inl v :: .inl i :: .inr (.inr a) :: st) σ = if 0 ≤ wi i ∧ wi i < sln sh a then ev sh d m (pc + 1) ls st (upA σ.1 a (up1 (σ.1 a) (wi i).toNat v), σ.2) else none := by
  by_cases hc : 0 ≤ wi i ∧ wi i < sln sh a
  · rw [if_pos hc]
    exact ev_next (by rw [mstep, h]; simp [mex, mast, mnx, hk, hw, hc, hv])
  · rw [if_neg hc]
    exact ev_stuck (by rw [mstep, h]; simp only [mex, mast, hk]; simp; omega)
theorem E_bastore {sh : Shp} {d m pc x1 x2 : Nat} {ls : List (Option MV)} {st : List MV} {σ : Mem} {i v : Int} {a : Nat} (h : mcode m pc = some (.bastore, 1, x1, x2)) (hk : skd sh a = 1) (hw : a < sh.1) : ev sh d m pc ls (.inl v :: .inl i :: .inr (.inr a) :: st) σ = if 0 ≤ wi i ∧ wi i < sln sh a then ev sh d m (pc + 1) ls st (upA σ.1 a (up1 (σ.1 a) (wi i).toNat (xi2b v)), σ.2) else none := by
  by_cases hc : 0 ≤ wi i ∧ wi i < sln sh a
  · rw [if_pos hc]
    exact ev_next (by rw [mstep, h]; simp [mex, mast, mnx, hk, hw, hc])
  · rw [if_neg hc]
    exact ev_stuck (by rw [mstep, h]; simp only [mex, mast, hk]; simp; omega)
theorem E_arraylength {sh : Shp} {d m pc x1 x2 : Nat} {ls : List (Option MV)} {st : List MV} {σ : Mem} {a : Nat} (h : mcode m pc = some (.arraylength, 1, x1, x2)) (hk : skd sh a < 5) : ev sh d m pc ls (.inr (.inr a) :: st) σ = ev sh d m (pc + 1) ls (.inl (sln sh a : Int) :: st) σ := ev_next (by rw [mstep, h]; exact if_pos ⟨rfl, hk⟩)
/-- an id that may be written: an object of class c with n fields -/
def ob (sh : Shp) (c n a : Nat) : Prop := skd sh a = 5 + c ∧ sln sh a = n ∧ a < sh.1
theorem E_getI {sh : Shp} {d m pc x1 x2 : Nat} {ls : List (Option MV)} {st : List MV} {σ : Mem} {a q : Nat} {n : Nat} (h : mcode m pc = some (.getfield q, 3, x1, x2)) (hr : (frf x1 x2 = false ∧ x2 < n)) (ho : ob sh x1 n a) : ev sh d m pc ls (.inr (.inr a) :: st) σ = ev sh d m (pc + 3) ls (.inl (σ.1 a x2) :: st) σ := ev_next (by obtain ⟨h1, h2, h3⟩ := ho; rw [mstep, h]; simp [mex, mnx, hr.1, hr.2, h1, h2, h3])
theorem E_getR {sh : Shp} {d m pc x1 x2 : Nat} {ls : List (Option MV)} {st : List MV} {σ : Mem} {a q : Nat} {n : Nat} (h : mcode m pc = some (.getfield q, 3, x1, x2)) (hr : (frf x1 x2 = true ∧ x2 < n)) (ho : ob sh x1 n a) : ev sh d m pc ls (.inr (.inr a) :: st) σ = ev sh d m (pc + 3) ls (.inr (.inr (srf sh a x2)) :: st) σ := ev_next (by obtain ⟨h1, h2, h3⟩ := ho; rw [mstep, h]; simp [mex, mnx, hr.1, hr.2, h1, h2, h3])
theorem E_put {sh : Shp} {d m pc x1 x2 : Nat} {ls : List (Option MV)} {st : List MV} {σ : Mem} {a q : Nat} {n : Nat} {v : Int} (h : mcode m pc = some (.putfield q, 3, x1, x2)) (hr : (frf x1 x2 = false ∧ fbl x1 x2 = false ∧ x2 < n)) (ho : ob sh x1 n a) : ev sh d m pc ls (.inl v :: .inr (.inr a) :: st) σ = ev sh d m (pc + 3) ls st (upA σ.1 a (up1 (σ.1 a) x2 v), σ.2) := ev_next (by obtain ⟨h1, h2, h3⟩ := ho; rw [mstep, h]; simp [mex, mnx, hr.1, hr.2.1, hr.2.2, h1, h2, h3])
theorem E_putZ {sh : Shp} {d m pc x1 x2 : Nat} {ls : List (Option MV)} {st : List MV} {σ : Mem} {a q : Nat} {n : Nat} {v : Int} (h : mcode m pc = some (.putfield q, 3, x1, x2)) (hr : (frf x1 x2 = false ∧ fbl x1 x2 = true ∧ x2 < n)) (ho : ob sh x1 n a) (hv : v = 0 ∨ v = 1) : ev sh d m pc ls (.inl v :: .inr (.inr a) :: st) σ = ev sh d m (pc + 3) ls st (upA σ.1 a (up1 (σ.1 a) x2 v), σ.2) := ev_next (by obtain ⟨h1, h2, h3⟩ := ho; rw [mstep, h]; simp [mex, mnx, hr.1, hr.2.1, hr.2.2, h1, h2, h3, hv])
theorem E_getstatic {sh : Shp} {d m pc x2 : Nat} {ls : List (Option MV)} {st : List MV} {σ : Mem} {q : Nat} (h : mcode m pc = some (.getstatic q, 3, 1, x2)) (hR : sh.2.1 = 2) : ev sh d m pc ls (st) σ = ev sh d m (pc + 3) ls (.inr (.inr 1000000) :: st) σ := ev_next (by rw [mstep, h]; exact if_pos ⟨rfl, rfl, hR⟩)
theorem E_callV {sh : Shp} {d m pc x1 : Nat} {ls : List (Option MV)} {st : List MV} {σ : Mem} {q a : Nat} {as : List MV} (h : mcode m pc = some (.invokevirtual q, 3, x1, 0)) (hs : mST x1 = 0) (hn : mNA x1 = as.length + 1) (hm : (ments (.inr (.inr a) :: as)).length ≤ mML x1) (hst : mcs st ≤ 8) (hk : skd sh a = 5 + mCI x1) (hw : a < sh.1) : ev sh (d + 1) m pc ls (as.reverse ++ .inr (.inr a) :: st) σ = (run sh d x1 (.inr (.inr a) :: as) σ).bind (fun q => ev sh (d + 1) m (pc + 3) ls (q.1.toList ++ st) q.2) := by
  have e1 : ((as.reverse ++ Sum.inr (Sum.inr a) :: st).take (mNA x1)).reverse = .inr (.inr a) :: as := by
    rw [hn, show as.reverse ++ (Sum.inr (Sum.inr a) : MV) :: st = (as.reverse ++ [Sum.inr (Sum.inr a)]) ++ st by simp, List.take_left' (by simp)]
    simp
  have e2 : (as.reverse ++ (Sum.inr (Sum.inr a) : MV) :: st).drop (mNA x1) = st := by
    rw [hn, show as.reverse ++ (Sum.inr (Sum.inr a) : MV) :: st = (as.reverse ++ [Sum.inr (Sum.inr a)]) ++ st by simp, List.drop_left' (by simp)]
  refine ev_call ?_
  rw [mstep, h]
  simp only [mex, mrcv, mcall, e1, e2]
  simp [hs, hk, hw, hn, hm, hst]
theorem E_callS {sh : Shp} {d m pc x1 x2 : Nat} {ls : List (Option MV)} {st : List MV} {σ : Mem} {q : Nat} {as : List MV} (h : mcode m pc = some (.invokestatic q, 3, x1, x2)) (hx : x2 = 0 ∨ x2 = 3) (hs : mST x1 = 1) (hn : mNA x1 = as.length) (hm : (ments as).length ≤ mML x1) (hst : mcs st ≤ 8) : ev sh (d + 1) m pc ls (as.reverse ++ st) σ = (run sh d x1 as σ).bind (fun q => ev sh (d + 1) m (pc + 3) ls (q.1.toList ++ st) q.2) := by
  have e1 : ((as.reverse ++ st).take (mNA x1)).reverse = as := by
    rw [hn, List.take_left' (by simp)]
    simp
  have e2 : (as.reverse ++ st).drop (mNA x1) = st := by
    rw [hn, List.drop_left' (by simp)]
  refine ev_call ?_
  rw [mstep, h]
  simp only [mex, mcall, e1, e2]
  simp [hs, hx, hn, hm, hst]
theorem E_ireturn {sh : Shp} {d m pc x1 x2 : Nat} {ls : List (Option MV)} {σ : Mem} {v : Int} (h : mcode m pc = some (.ireturn, 1, x1, x2)) (hr : mRT m = 1) : ev sh d m pc ls ([.inl v]) σ = some (some (.inl v), σ) := ev_done (by rw [mstep, h]; exact if_pos ⟨rfl, Or.inl hr⟩)
theorem E_zreturn {sh : Shp} {d m pc x1 x2 : Nat} {ls : List (Option MV)} {σ : Mem} {v : Int} (h : mcode m pc = some (.ireturn, 1, x1, x2)) (hr : mRT m = 2) (hv : v = 0 ∨ v = 1) : ev sh d m pc ls ([.inl v]) σ = some (some (.inl v), σ) := ev_done (by rw [mstep, h]; exact if_pos ⟨rfl, Or.inr ⟨hr, hv⟩⟩)
theorem E_lreturn {sh : Shp} {d m pc x1 x2 : Nat} {ls : List (Option MV)} {σ : Mem} {v : Int} (h : mcode m pc = some (.lreturn, 1, x1, x2)) (hr : mRT m = 3) : ev sh d m pc ls ([.inr (.inl v)]) σ = some (some (.inr (.inl v)), σ) := ev_done (by rw [mstep, h]; exact if_pos ⟨rfl, hr⟩)
theorem E_return {sh : Shp} {d m pc x1 x2 : Nat} {ls : List (Option MV)} {σ : Mem}  (h : mcode m pc = some (.return_, 1, x1, x2)) (hr : mRT m = 0) : ev sh d m pc ls ([]) σ = some (none, σ) := ev_done (by rw [mstep, h]; exact if_pos ⟨rfl, hr⟩)
theorem E_tsOut {sh : Shp} {d m pc x1 x2 : Nat} {ls : List (Option MV)} {st : List MV} {σ : Mem} {x df lo hi : Int} {offs : Array Int} {len t : Nat} (h : mcode m pc = some (.tableswitch df lo hi offs, len, x1, x2)) (ht : (pc : Int) + df = (t : Int)) (hx : wi x < lo ∨ hi < wi x) : ev sh d m pc ls (.inl x :: st) σ = ev sh d m t ls st σ := ev_next (by rw [mstep, h]; simp only [mex]; rw [if_pos hx, ht, if_pos (Int.natCast_nonneg t)]; rfl)
theorem E_tsIn {sh : Shp} {d m pc x1 x2 : Nat} {ls : List (Option MV)} {st : List MV} {σ : Mem} {x df lo hi off : Int} {offs : Array Int} {len t k : Nat} (h : mcode m pc = some (.tableswitch df lo hi offs, len, x1, x2)) (ho : offs[k]? = some off) (ht : (pc : Int) + off = (t : Int)) (hh : lo + k ≤ hi) (hx : wi x = lo + k) : ev sh d m pc ls (.inl x :: st) σ = ev sh d m t ls st σ := ev_next (by rw [mstep, h]; simp only [mex]; rw [if_neg (by omega), show (wi x - lo).toNat = k by omega, ho]; simp only; rw [ht, if_pos (Int.natCast_nonneg t)]; rfl)
theorem E_arraycopy {sh : Shp} {d m pc x1 : Nat} {ls : List (Option MV)} {st : List MV} {σ : Mem} {q a b : Nat} {n dp sp : Int} (h : mcode m pc = some (.invokestatic q, 3, x1, 1)) (hd : 1 ≤ d) (hst : mcs st ≤ 8) (ha : skd sh a = 0) (hb : skd sh b = 0) (hwa : a < sh.1) (hwb : b < sh.1) (h1 : 0 ≤ wi sp) (h2 : 0 ≤ wi dp) (h3 : 0 ≤ wi n) (h4 : wi sp + wi n ≤ sln sh a) (h5 : wi dp + wi n ≤ sln sh b) : ev sh d m pc ls (.inl n :: .inl dp :: .inr (.inr b) :: .inl sp :: .inr (.inr a) :: st) σ = ev sh d m (pc + 3) ls st (upA σ.1 b (fun j => if (wi dp).toNat ≤ j ∧ j < (wi dp).toNat + (wi n).toNat then σ.1 a ((wi sp).toNat + (j - (wi dp).toNat)) else σ.1 b j), σ.2) := ev_next (by rw [mstep, h]; simp only [mex]; rw [if_neg (by simp), if_pos ⟨trivial, trivial, hd⟩, if_pos ⟨hst, ha, hb, hwa, hwb, h1, h2, h3, h4, h5⟩])
theorem E_max {sh : Shp} {d m pc x1 : Nat} {ls : List (Option MV)} {st : List MV} {σ : Mem} {q : Nat} {x y : Int} (h : mcode m pc = some (.invokestatic q, 3, x1, 4)) (hd : 1 ≤ d) (hst : mcs st ≤ 8) : ev sh d m pc ls (.inl y :: .inl x :: st) σ = ev sh d m (pc + 3) ls (.inl (mmx x y) :: st) σ := ev_next (by rw [mstep, h]; simp [mex, mnx, hd, hst])
theorem E_min {sh : Shp} {d m pc x1 : Nat} {ls : List (Option MV)} {st : List MV} {σ : Mem} {q : Nat} {x y : Int} (h : mcode m pc = some (.invokestatic q, 3, x1, 5)) (hd : 1 ≤ d) (hst : mcs st ≤ 8) : ev sh d m pc ls (.inl y :: .inl x :: st) σ = ev sh d m (pc + 3) ls (.inl (mmn x y) :: st) σ := ev_next (by rw [mstep, h]; simp [mex, mnx, hd, hst])
theorem E_indexOf {sh : Shp} {d m pc x1 : Nat} {ls : List (Option MV)} {st : List MV} {σ : Mem} {q : Nat} {z : Int} (h : mcode m pc = some (.invokevirtual q, 3, x1, 2)) (hd : 6 ≤ d) (hR : sh.2.1 = 2) (hst : mcs st ≤ 8) : ev sh d m pc ls (.inl z :: .inr (.inr (1000000 + sh.2.1)) :: st) σ = ev sh d m (pc + 3) ls (.inl (if wi z = 114 then 0 else if wi z = 104 then 1 else if wi z = 120 then 2 else if wi z = 99 then 3 else if wi z = 100 then 4 else if wi z = 119 then 5 else -1) :: st) σ := ev_next (by rw [mstep, h]; simp only [mex]; rw [if_neg (by simp), if_pos ⟨trivial, trivial, hd, hR⟩, if_pos ⟨trivial, hst⟩])
