/-! ===== what one instruction does to pv, an opcode a row (printed by genp.py) ===== -/
theorem P_iload_n {sh : Shp} {d m pc x1 x2 : Nat} {ls : List (Option MV)} {st : List MV} {σ : Mem} {kk : Nat} {k : Fin 4} {x : Int} (h : mcode m pc = some (.iload_n k, 1, x1, x2)) (hl : ls[k.val]? = some (some (.inl x))) : pv d m pc ls (st) (sh, σ, kk) = pv d m (pc + 1) ls (.inl x :: st) (sh, σ, kk) := pv_next h rfl (by rw [mstep, h]; simp only [mex, mldI, hl]; rfl)
theorem P_iload {sh : Shp} {d m pc x1 x2 : Nat} {ls : List (Option MV)} {st : List MV} {σ : Mem} {kk : Nat} {k : Nat} {x : Int} (h : mcode m pc = some (.iload k, 2, x1, x2)) (hl : ls[k]? = some (some (.inl x))) : pv d m pc ls (st) (sh, σ, kk) = pv d m (pc + 2) ls (.inl x :: st) (sh, σ, kk) := pv_next h rfl (by rw [mstep, h]; simp only [mex, mldI, hl]; rfl)
theorem P_lload_n {sh : Shp} {d m pc x1 x2 : Nat} {ls : List (Option MV)} {st : List MV} {σ : Mem} {kk : Nat} {k : Fin 4} {x : Int} (h : mcode m pc = some (.lload_n k, 1, x1, x2)) (hl : ls[k.val]? = some (some (.inr (.inl x)))) : pv d m pc ls (st) (sh, σ, kk) = pv d m (pc + 1) ls (.inr (.inl x) :: st) (sh, σ, kk) := pv_next h rfl (by rw [mstep, h]; simp only [mex, mldL, hl]; rfl)
theorem P_lload {sh : Shp} {d m pc x1 x2 : Nat} {ls : List (Option MV)} {st : List MV} {σ : Mem} {kk : Nat} {k : Nat} {x : Int} (h : mcode m pc = some (.lload k, 2, x1, x2)) (hl : ls[k]? = some (some (.inr (.inl x)))) : pv d m pc ls (st) (sh, σ, kk) = pv d m (pc + 2) ls (.inr (.inl x) :: st) (sh, σ, kk) := pv_next h rfl (by rw [mstep, h]; simp only [mex, mldL, hl]; rfl)
theorem P_aload_n {sh : Shp} {d m pc x1 x2 : Nat} {ls : List (Option MV)} {st : List MV} {σ : Mem} {kk : Nat} {k : Fin 4} {x : Nat} (h : mcode m pc = some (.aload_n k, 1, x1, x2)) (hl : ls[k.val]? = some (some (.inr (.inr x)))) : pv d m pc ls (st) (sh, σ, kk) = pv d m (pc + 1) ls (.inr (.inr x) :: st) (sh, σ, kk) := pv_next h rfl (by rw [mstep, h]; simp only [mex, mldR, hl]; rfl)
theorem P_aload {sh : Shp} {d m pc x1 x2 : Nat} {ls : List (Option MV)} {st : List MV} {σ : Mem} {kk : Nat} {k : Nat} {x : Nat} (h : mcode m pc = some (.aload k, 2, x1, x2)) (hl : ls[k]? = some (some (.inr (.inr x)))) : pv d m pc ls (st) (sh, σ, kk) = pv d m (pc + 2) ls (.inr (.inr x) :: st) (sh, σ, kk) := pv_next h rfl (by rw [mstep, h]; simp only [mex, mldR, hl]; rfl)
theorem P_istore_n {sh : Shp} {d m pc x1 x2 : Nat} {ls : List (Option MV)} {st : List MV} {σ : Mem} {kk : Nat} {k : Fin 4} {x : Int} (h : mcode m pc = some (.istore_n k, 1, x1, x2)) (hl : k.val < ls.length) : pv d m pc ls (.inl x :: st) (sh, σ, kk) = pv d m (pc + 1) (lpt ls k.val (.inl x)) st (sh, σ, kk) := pv_next h rfl (by rw [mstep, h]; simp [mex, mstI, hl])
theorem P_istore {sh : Shp} {d m pc x1 x2 : Nat} {ls : List (Option MV)} {st : List MV} {σ : Mem} {kk : Nat} {k : Nat} {x : Int} (h : mcode m pc = some (.istore k, 2, x1, x2)) (hl : k < ls.length) : pv d m pc ls (.inl x :: st) (sh, σ, kk) = pv d m (pc + 2) (lpt ls k (.inl x)) st (sh, σ, kk) := pv_next h rfl (by rw [mstep, h]; simp [mex, mstI, hl])
theorem P_astore_n {sh : Shp} {d m pc x1 x2 : Nat} {ls : List (Option MV)} {st : List MV} {σ : Mem} {kk : Nat} {k : Fin 4} {x : Nat} (h : mcode m pc = some (.astore_n k, 1, x1, x2)) (hl : k.val < ls.length) : pv d m pc ls (.inr (.inr x) :: st) (sh, σ, kk) = pv d m (pc + 1) (lpt ls k.val (.inr (.inr x))) st (sh, σ, kk) := pv_next h rfl (by rw [mstep, h]; simp [mex, mstR, hl])
theorem P_astore {sh : Shp} {d m pc x1 x2 : Nat} {ls : List (Option MV)} {st : List MV} {σ : Mem} {kk : Nat} {k : Nat} {x : Nat} (h : mcode m pc = some (.astore k, 2, x1, x2)) (hl : k < ls.length) : pv d m pc ls (.inr (.inr x) :: st) (sh, σ, kk) = pv d m (pc + 2) (lpt ls k (.inr (.inr x))) st (sh, σ, kk) := pv_next h rfl (by rw [mstep, h]; simp [mex, mstR, hl])
theorem P_lstore_n {sh : Shp} {d m pc x1 x2 : Nat} {ls : List (Option MV)} {st : List MV} {σ : Mem} {kk : Nat} {k : Fin 4} {x : Int} (h : mcode m pc = some (.lstore_n k, 1, x1, x2)) (hl : k.val + 1 < ls.length) : pv d m pc ls (.inr (.inl x) :: st) (sh, σ, kk) = pv d m (pc + 1) (lno (lpt ls k.val (.inr (.inl x))) (k.val + 1)) st (sh, σ, kk) := pv_next h rfl (by rw [mstep, h]; simp [mex, mstL, hl])
theorem P_lstore {sh : Shp} {d m pc x1 x2 : Nat} {ls : List (Option MV)} {st : List MV} {σ : Mem} {kk : Nat} {k : Nat} {x : Int} (h : mcode m pc = some (.lstore k, 2, x1, x2)) (hl : k + 1 < ls.length) : pv d m pc ls (.inr (.inl x) :: st) (sh, σ, kk) = pv d m (pc + 2) (lno (lpt ls k (.inr (.inl x))) (k + 1)) st (sh, σ, kk) := pv_next h rfl (by rw [mstep, h]; simp [mex, mstL, hl])
theorem P_iconst {sh : Shp} {d m pc x1 x2 : Nat} {ls : List (Option MV)} {st : List MV} {σ : Mem} {kk : Nat} {z : Int} (h : mcode m pc = some (.iconst z, 1, x1, x2)) : pv d m pc ls (st) (sh, σ, kk) = pv d m (pc + 1) ls (.inl z :: st) (sh, σ, kk) := pv_next h rfl (by rw [mstep, h]; rfl)
theorem P_bipush {sh : Shp} {d m pc x1 x2 : Nat} {ls : List (Option MV)} {st : List MV} {σ : Mem} {kk : Nat} {z : Int} (h : mcode m pc = some (.bipush z, 2, x1, x2)) (hz : (Int8.ofInt z).toInt = z) : pv d m pc ls (st) (sh, σ, kk) = pv d m (pc + 2) ls (.inl z :: st) (sh, σ, kk) := pv_next h rfl (by rw [mstep, h]; exact if_pos ⟨rfl, hz⟩)
theorem P_sipush {sh : Shp} {d m pc x1 x2 : Nat} {ls : List (Option MV)} {st : List MV} {σ : Mem} {kk : Nat} {z : Int} (h : mcode m pc = some (.sipush z, 3, x1, x2)) (hz : (Int16.ofInt z).toInt = z) : pv d m pc ls (st) (sh, σ, kk) = pv d m (pc + 3) ls (.inl z :: st) (sh, σ, kk) := pv_next h rfl (by rw [mstep, h]; exact if_pos ⟨rfl, hz⟩)
theorem P_lconst {sh : Shp} {d m pc x1 x2 : Nat} {ls : List (Option MV)} {st : List MV} {σ : Mem} {kk : Nat} {z : Fin 2} {v : Int} (h : mcode m pc = some (.lconst z, 1, x1, x2)) (hz : (z.val : Int) = v) : pv d m pc ls (st) (sh, σ, kk) = pv d m (pc + 1) ls (.inr (.inl v) :: st) (sh, σ, kk) := pv_next h rfl (by rw [mstep, h, ← hz]; rfl)
theorem P_ldc {sh : Shp} {d m pc x1 : Nat} {ls : List (Option MV)} {st : List MV} {σ : Mem} {kk : Nat} {z : Int} {q : Nat} (h : mcode m pc = some (.ldc q, 2, x1, 0)) (hz : kcs.getD x1 0 = z) : pv d m pc ls (st) (sh, σ, kk) = pv d m (pc + 2) ls (.inl z :: st) (sh, σ, kk) := pv_next h rfl (by rw [mstep, h, ← hz]; rfl)
theorem P_ldcs {sh : Shp} {d m pc x1 : Nat} {ls : List (Option MV)} {st : List MV} {σ : Mem} {kk : Nat} {q : Nat} (h : mcode m pc = some (.ldc q, 2, x1, 1)) (hR : sh.2.1 = 2) : pv d m pc ls (st) (sh, σ, kk) = pv d m (pc + 2) ls (.inr (.inr (1000000 + sh.2.1)) :: st) (sh, σ, kk) := pv_next h rfl (by rw [mstep, h]; simp [mex, mnx, hR])
theorem P_ldc_w {sh : Shp} {d m pc x1 : Nat} {ls : List (Option MV)} {st : List MV} {σ : Mem} {kk : Nat} {z : Int} {q : Nat} (h : mcode m pc = some (.ldc_w q, 3, x1, 0)) (hz : kcs.getD x1 0 = z) : pv d m pc ls (st) (sh, σ, kk) = pv d m (pc + 3) ls (.inl z :: st) (sh, σ, kk) := pv_next h rfl (by rw [mstep, h, ← hz]; rfl)
theorem P_ldc2_w {sh : Shp} {d m pc x1 x2 : Nat} {ls : List (Option MV)} {st : List MV} {σ : Mem} {kk : Nat} {z : Int} {q : Nat} (h : mcode m pc = some (.ldc2_w q, 3, x1, x2)) (hz : lcs.getD x1 0 = z) : pv d m pc ls (st) (sh, σ, kk) = pv d m (pc + 3) ls (.inr (.inl z) :: st) (sh, σ, kk) := pv_next h rfl (by rw [mstep, h, ← hz]; rfl)
theorem P_iadd {sh : Shp} {d m pc x1 x2 : Nat} {ls : List (Option MV)} {st : List MV} {σ : Mem} {kk : Nat} {x y : Int} (h : mcode m pc = some (.iadd, 1, x1, x2)) : pv d m pc ls (.inl y :: .inl x :: st) (sh, σ, kk) = pv d m (pc + 1) ls (.inl (x + y) :: st) (sh, σ, kk) := pv_next h rfl (by rw [mstep, h]; rfl)
theorem P_isub {sh : Shp} {d m pc x1 x2 : Nat} {ls : List (Option MV)} {st : List MV} {σ : Mem} {kk : Nat} {x y : Int} (h : mcode m pc = some (.isub, 1, x1, x2)) : pv d m pc ls (.inl y :: .inl x :: st) (sh, σ, kk) = pv d m (pc + 1) ls (.inl (x - y) :: st) (sh, σ, kk) := pv_next h rfl (by rw [mstep, h]; rfl)
theorem P_imul {sh : Shp} {d m pc x1 x2 : Nat} {ls : List (Option MV)} {st : List MV} {σ : Mem} {kk : Nat} {x y : Int} (h : mcode m pc = some (.imul, 1, x1, x2)) : pv d m pc ls (.inl y :: .inl x :: st) (sh, σ, kk) = pv d m (pc + 1) ls (.inl (x * y) :: st) (sh, σ, kk) := pv_next h rfl (by rw [mstep, h]; rfl)
theorem P_iand {sh : Shp} {d m pc x1 x2 : Nat} {ls : List (Option MV)} {st : List MV} {σ : Mem} {kk : Nat} {x y : Int} (h : mcode m pc = some (.iand, 1, x1, x2)) : pv d m pc ls (.inl y :: .inl x :: st) (sh, σ, kk) = pv d m (pc + 1) ls (.inl (xand x y) :: st) (sh, σ, kk) := pv_next h rfl (by rw [mstep, h]; rfl)
theorem P_ior {sh : Shp} {d m pc x1 x2 : Nat} {ls : List (Option MV)} {st : List MV} {σ : Mem} {kk : Nat} {x y : Int} (h : mcode m pc = some (.ior, 1, x1, x2)) : pv d m pc ls (.inl y :: .inl x :: st) (sh, σ, kk) = pv d m (pc + 1) ls (.inl (xor' x y) :: st) (sh, σ, kk) := pv_next h rfl (by rw [mstep, h]; rfl)
theorem P_ixor {sh : Shp} {d m pc x1 x2 : Nat} {ls : List (Option MV)} {st : List MV} {σ : Mem} {kk : Nat} {x y : Int} (h : mcode m pc = some (.ixor, 1, x1, x2)) : pv d m pc ls (.inl y :: .inl x :: st) (sh, σ, kk) = pv d m (pc + 1) ls (.inl (xxor x y) :: st) (sh, σ, kk) := pv_next h rfl (by rw [mstep, h]; rfl)
theorem P_ishl {sh : Shp} {d m pc x1 x2 : Nat} {ls : List (Option MV)} {st : List MV} {σ : Mem} {kk : Nat} {x y : Int} (h : mcode m pc = some (.ishl, 1, x1, x2)) : pv d m pc ls (.inl y :: .inl x :: st) (sh, σ, kk) = pv d m (pc + 1) ls (.inl (xshl x y) :: st) (sh, σ, kk) := pv_next h rfl (by rw [mstep, h]; rfl)
theorem P_ishr {sh : Shp} {d m pc x1 x2 : Nat} {ls : List (Option MV)} {st : List MV} {σ : Mem} {kk : Nat} {x y : Int} (h : mcode m pc = some (.ishr, 1, x1, x2)) : pv d m pc ls (.inl y :: .inl x :: st) (sh, σ, kk) = pv d m (pc + 1) ls (.inl (xshr x y) :: st) (sh, σ, kk) := pv_next h rfl (by rw [mstep, h]; rfl)
theorem P_iushr {sh : Shp} {d m pc x1 x2 : Nat} {ls : List (Option MV)} {st : List MV} {σ : Mem} {kk : Nat} {x y : Int} (h : mcode m pc = some (.iushr, 1, x1, x2)) : pv d m pc ls (.inl y :: .inl x :: st) (sh, σ, kk) = pv d m (pc + 1) ls (.inl (xushr x y) :: st) (sh, σ, kk) := pv_next h rfl (by rw [mstep, h]; rfl)
theorem P_idiv {sh : Shp} {d m pc x1 x2 : Nat} {ls : List (Option MV)} {st : List MV} {σ : Mem} {kk : Nat} {x y : Int} (h : mcode m pc = some (.idiv, 1, x1, x2)) (hy : ¬ wi y = 0) : pv d m pc ls (.inl y :: .inl x :: st) (sh, σ, kk) = pv d m (pc + 1) ls (.inl (xdiv x y) :: st) (sh, σ, kk) := pv_next h rfl (by rw [mstep, h]; exact if_pos ⟨rfl, hy⟩)
theorem P_irem {sh : Shp} {d m pc x1 x2 : Nat} {ls : List (Option MV)} {st : List MV} {σ : Mem} {kk : Nat} {x y : Int} (h : mcode m pc = some (.irem, 1, x1, x2)) (hy : ¬ wi y = 0) : pv d m pc ls (.inl y :: .inl x :: st) (sh, σ, kk) = pv d m (pc + 1) ls (.inl (xrem x y) :: st) (sh, σ, kk) := pv_next h rfl (by rw [mstep, h]; exact if_pos ⟨rfl, hy⟩)
theorem P_ladd {sh : Shp} {d m pc x1 x2 : Nat} {ls : List (Option MV)} {st : List MV} {σ : Mem} {kk : Nat} {x y : Int} (h : mcode m pc = some (.ladd, 1, x1, x2)) : pv d m pc ls (.inr (.inl y) :: .inr (.inl x) :: st) (sh, σ, kk) = pv d m (pc + 1) ls (.inr (.inl (x + y)) :: st) (sh, σ, kk) := pv_next h rfl (by rw [mstep, h]; rfl)
theorem P_lsub {sh : Shp} {d m pc x1 x2 : Nat} {ls : List (Option MV)} {st : List MV} {σ : Mem} {kk : Nat} {x y : Int} (h : mcode m pc = some (.lsub, 1, x1, x2)) : pv d m pc ls (.inr (.inl y) :: .inr (.inl x) :: st) (sh, σ, kk) = pv d m (pc + 1) ls (.inr (.inl (x - y)) :: st) (sh, σ, kk) := pv_next h rfl (by rw [mstep, h]; rfl)
theorem P_lmul {sh : Shp} {d m pc x1 x2 : Nat} {ls : List (Option MV)} {st : List MV} {σ : Mem} {kk : Nat} {x y : Int} (h : mcode m pc = some (.lmul, 1, x1, x2)) : pv d m pc ls (.inr (.inl y) :: .inr (.inl x) :: st) (sh, σ, kk) = pv d m (pc + 1) ls (.inr (.inl (x * y)) :: st) (sh, σ, kk) := pv_next h rfl (by rw [mstep, h]; rfl)
theorem P_land {sh : Shp} {d m pc x1 x2 : Nat} {ls : List (Option MV)} {st : List MV} {σ : Mem} {kk : Nat} {x y : Int} (h : mcode m pc = some (.land, 1, x1, x2)) : pv d m pc ls (.inr (.inl y) :: .inr (.inl x) :: st) (sh, σ, kk) = pv d m (pc + 1) ls (.inr (.inl (land' x y)) :: st) (sh, σ, kk) := pv_next h rfl (by rw [mstep, h]; rfl)
theorem P_lor {sh : Shp} {d m pc x1 x2 : Nat} {ls : List (Option MV)} {st : List MV} {σ : Mem} {kk : Nat} {x y : Int} (h : mcode m pc = some (.lor, 1, x1, x2)) : pv d m pc ls (.inr (.inl y) :: .inr (.inl x) :: st) (sh, σ, kk) = pv d m (pc + 1) ls (.inr (.inl (lor' x y)) :: st) (sh, σ, kk) := pv_next h rfl (by rw [mstep, h]; rfl)
theorem P_ldiv {sh : Shp} {d m pc x1 x2 : Nat} {ls : List (Option MV)} {st : List MV} {σ : Mem} {kk : Nat} {x y : Int} (h : mcode m pc = some (.ldiv, 1, x1, x2)) (hy : ¬ wl y = 0) : pv d m pc ls (.inr (.inl y) :: .inr (.inl x) :: st) (sh, σ, kk) = pv d m (pc + 1) ls (.inr (.inl (ldiv' x y)) :: st) (sh, σ, kk) := pv_next h rfl (by rw [mstep, h]; exact if_pos ⟨rfl, hy⟩)
theorem P_lshl {sh : Shp} {d m pc x1 x2 : Nat} {ls : List (Option MV)} {st : List MV} {σ : Mem} {kk : Nat} {x y : Int} (h : mcode m pc = some (.lshl, 1, x1, x2)) : pv d m pc ls (.inl y :: .inr (.inl x) :: st) (sh, σ, kk) = pv d m (pc + 1) ls (.inr (.inl (lshl' x y)) :: st) (sh, σ, kk) := pv_next h rfl (by rw [mstep, h]; rfl)
theorem P_lushr {sh : Shp} {d m pc x1 x2 : Nat} {ls : List (Option MV)} {st : List MV} {σ : Mem} {kk : Nat} {x y : Int} (h : mcode m pc = some (.lushr, 1, x1, x2)) : pv d m pc ls (.inl y :: .inr (.inl x) :: st) (sh, σ, kk) = pv d m (pc + 1) ls (.inr (.inl (lushr' x y)) :: st) (sh, σ, kk) := pv_next h rfl (by rw [mstep, h]; rfl)
theorem P_lcmp {sh : Shp} {d m pc x1 x2 : Nat} {ls : List (Option MV)} {st : List MV} {σ : Mem} {kk : Nat} {x y : Int} (h : mcode m pc = some (.lcmp, 1, x1, x2)) : pv d m pc ls (.inr (.inl y) :: .inr (.inl x) :: st) (sh, σ, kk) = pv d m (pc + 1) ls (.inl (lcmp' x y) :: st) (sh, σ, kk) := pv_next h rfl (by rw [mstep, h]; rfl)
theorem P_lneg {sh : Shp} {d m pc x1 x2 : Nat} {ls : List (Option MV)} {st : List MV} {σ : Mem} {kk : Nat} {x : Int} (h : mcode m pc = some (.lneg, 1, x1, x2)) : pv d m pc ls (.inr (.inl x) :: st) (sh, σ, kk) = pv d m (pc + 1) ls (.inr (.inl (-x)) :: st) (sh, σ, kk) := pv_next h rfl (by rw [mstep, h]; rfl)
theorem P_l2i {sh : Shp} {d m pc x1 x2 : Nat} {ls : List (Option MV)} {st : List MV} {σ : Mem} {kk : Nat} {x : Int} (h : mcode m pc = some (.l2i, 1, x1, x2)) : pv d m pc ls (.inr (.inl x) :: st) (sh, σ, kk) = pv d m (pc + 1) ls (.inl x :: st) (sh, σ, kk) := pv_next h rfl (by rw [mstep, h]; rfl)
theorem P_i2l {sh : Shp} {d m pc x1 x2 : Nat} {ls : List (Option MV)} {st : List MV} {σ : Mem} {kk : Nat} {x : Int} (h : mcode m pc = some (.i2l, 1, x1, x2)) : pv d m pc ls (.inl x :: st) (sh, σ, kk) = pv d m (pc + 1) ls (.inr (.inl (wi x)) :: st) (sh, σ, kk) := pv_next h rfl (by rw [mstep, h]; rfl)
theorem P_i2b {sh : Shp} {d m pc x1 x2 : Nat} {ls : List (Option MV)} {st : List MV} {σ : Mem} {kk : Nat} {x : Int} (h : mcode m pc = some (.i2b, 1, x1, x2)) : pv d m pc ls (.inl x :: st) (sh, σ, kk) = pv d m (pc + 1) ls (.inl (xi2b x) :: st) (sh, σ, kk) := pv_next h rfl (by rw [mstep, h]; rfl)
theorem P_i2c {sh : Shp} {d m pc x1 x2 : Nat} {ls : List (Option MV)} {st : List MV} {σ : Mem} {kk : Nat} {x : Int} (h : mcode m pc = some (.i2c, 1, x1, x2)) : pv d m pc ls (.inl x :: st) (sh, σ, kk) = pv d m (pc + 1) ls (.inl (xi2c x) :: st) (sh, σ, kk) := pv_next h rfl (by rw [mstep, h]; rfl)
theorem P_iinc {sh : Shp} {d m pc x1 x2 : Nat} {ls : List (Option MV)} {st : List MV} {σ : Mem} {kk : Nat} {k : Nat} {z x : Int} (h : mcode m pc = some (.iinc k z, 3, x1, x2)) (hl : ls[k]? = some (some (.inl x))) : pv d m pc ls (st) (sh, σ, kk) = pv d m (pc + 3) (lpt ls k (.inl (x + z))) st (sh, σ, kk) := pv_next h rfl (by rw [mstep, h]; simp only [mex, hl]; rfl)
theorem P_dupI {sh : Shp} {d m pc x1 x2 : Nat} {ls : List (Option MV)} {st : List MV} {σ : Mem} {kk : Nat} {x : Int} (h : mcode m pc = some (.dup, 1, x1, x2)) : pv d m pc ls (.inl x :: st) (sh, σ, kk) = pv d m (pc + 1) ls (.inl x :: .inl x :: st) (sh, σ, kk) := pv_next h rfl (by rw [mstep, h]; rfl)
theorem P_dupR {sh : Shp} {d m pc x1 x2 : Nat} {ls : List (Option MV)} {st : List MV} {σ : Mem} {kk : Nat} {x : Nat} (h : mcode m pc = some (.dup, 1, x1, x2)) : pv d m pc ls (.inr (.inr x) :: st) (sh, σ, kk) = pv d m (pc + 1) ls (.inr (.inr x) :: .inr (.inr x) :: st) (sh, σ, kk) := pv_next h rfl (by rw [mstep, h]; rfl)
theorem P_dup2 {sh : Shp} {d m pc x1 x2 : Nat} {ls : List (Option MV)} {st : List MV} {σ : Mem} {kk : Nat} {x : Int} {y : Nat} (h : mcode m pc = some (.dup2, 1, x1, x2)) : pv d m pc ls (.inl x :: .inr (.inr y) :: st) (sh, σ, kk) = pv d m (pc + 1) ls (.inl x :: .inr (.inr y) :: .inl x :: .inr (.inr y) :: st) (sh, σ, kk) := pv_next h rfl (by rw [mstep, h]; rfl)
theorem P_pop {sh : Shp} {d m pc x1 x2 : Nat} {ls : List (Option MV)} {st : List MV} {σ : Mem} {kk : Nat} {x : Int} (h : mcode m pc = some (.pop, 1, x1, x2)) : pv d m pc ls (.inl x :: st) (sh, σ, kk) = pv d m (pc + 1) ls st (sh, σ, kk) := pv_next h rfl (by rw [mstep, h]; rfl)
theorem P_goto {sh : Shp} {d m pc x1 x2 : Nat} {ls : List (Option MV)} {st : List MV} {σ : Mem} {kk : Nat} {off : Int} (h : mcode m pc = some (.goto off, 3, x1, x2)) (ht : (pc : Int) + off = (x1 : Int)) : pv d m pc ls (st) (sh, σ, kk) = pv d m x1 ls st (sh, σ, kk) := pv_next h rfl (by rw [mstep, h]; exact if_pos ⟨rfl, ht⟩)
theorem P_if_eq {sh : Shp} {d m pc x1 x2 : Nat} {ls : List (Option MV)} {st : List MV} {σ : Mem} {kk : Nat} {x : Int} {off : Int} (h : mcode m pc = some (.ifCond .eq off, 3, x1, x2)) (ht : (pc : Int) + off = (x1 : Int)) : pv d m pc ls (.inl x :: st) (sh, σ, kk) = if wi x = 0 then pv d m x1 ls st (sh, σ, kk) else pv d m (pc + 3) ls st (sh, σ, kk) := by
  by_cases hc : wi x = 0
  · rw [if_pos hc]
    exact pv_next h rfl (by rw [mstep, h]; simp [mex, mif, mnx, cnd, ht, hc])
  · rw [if_neg hc]
    exact pv_next h rfl (by rw [mstep, h]; simp [mex, mif, mnx, cnd, ht, hc])
theorem P_ic_eq {sh : Shp} {d m pc x1 x2 : Nat} {ls : List (Option MV)} {st : List MV} {σ : Mem} {kk : Nat} {x y : Int} {off : Int} (h : mcode m pc = some (.if_icmp .eq off, 3, x1, x2)) (ht : (pc : Int) + off = (x1 : Int)) : pv d m pc ls (.inl y :: .inl x :: st) (sh, σ, kk) = if wi x = wi y then pv d m x1 ls st (sh, σ, kk) else pv d m (pc + 3) ls st (sh, σ, kk) := by
  by_cases hc : wi x = wi y
  · rw [if_pos hc]
    exact pv_next h rfl (by rw [mstep, h]; simp [mex, mif, mnx, cnd, ht, hc])
  · rw [if_neg hc]
    exact pv_next h rfl (by rw [mstep, h]; simp [mex, mif, mnx, cnd, ht, hc])
theorem P_if_ne {sh : Shp} {d m pc x1 x2 : Nat} {ls : List (Option MV)} {st : List MV} {σ : Mem} {kk : Nat} {x : Int} {off : Int} (h : mcode m pc = some (.ifCond .ne off, 3, x1, x2)) (ht : (pc : Int) + off = (x1 : Int)) : pv d m pc ls (.inl x :: st) (sh, σ, kk) = if wi x = 0 then pv d m (pc + 3) ls st (sh, σ, kk) else pv d m x1 ls st (sh, σ, kk) := by
  by_cases hc : wi x = 0
  · rw [if_pos hc]
    exact pv_next h rfl (by rw [mstep, h]; simp [mex, mif, mnx, cnd, ht, hc])
  · rw [if_neg hc]
    exact pv_next h rfl (by rw [mstep, h]; simp [mex, mif, mnx, cnd, ht, hc])
theorem P_ic_ne {sh : Shp} {d m pc x1 x2 : Nat} {ls : List (Option MV)} {st : List MV} {σ : Mem} {kk : Nat} {x y : Int} {off : Int} (h : mcode m pc = some (.if_icmp .ne off, 3, x1, x2)) (ht : (pc : Int) + off = (x1 : Int)) : pv d m pc ls (.inl y :: .inl x :: st) (sh, σ, kk) = if wi x = wi y then pv d m (pc + 3) ls st (sh, σ, kk) else pv d m x1 ls st (sh, σ, kk) := by
  by_cases hc : wi x = wi y
  · rw [if_pos hc]
    exact pv_next h rfl (by rw [mstep, h]; simp [mex, mif, mnx, cnd, ht, hc])
  · rw [if_neg hc]
    exact pv_next h rfl (by rw [mstep, h]; simp [mex, mif, mnx, cnd, ht, hc])
theorem P_if_lt {sh : Shp} {d m pc x1 x2 : Nat} {ls : List (Option MV)} {st : List MV} {σ : Mem} {kk : Nat} {x : Int} {off : Int} (h : mcode m pc = some (.ifCond .lt off, 3, x1, x2)) (ht : (pc : Int) + off = (x1 : Int)) : pv d m pc ls (.inl x :: st) (sh, σ, kk) = if wi x < 0 then pv d m x1 ls st (sh, σ, kk) else pv d m (pc + 3) ls st (sh, σ, kk) := by
  by_cases hc : wi x < 0
  · rw [if_pos hc]
    exact pv_next h rfl (by rw [mstep, h]; simp [mex, mif, mnx, cnd, ht, hc])
  · rw [if_neg hc]
    exact pv_next h rfl (by rw [mstep, h]; simp [mex, mif, mnx, cnd, ht, hc])
theorem P_ic_lt {sh : Shp} {d m pc x1 x2 : Nat} {ls : List (Option MV)} {st : List MV} {σ : Mem} {kk : Nat} {x y : Int} {off : Int} (h : mcode m pc = some (.if_icmp .lt off, 3, x1, x2)) (ht : (pc : Int) + off = (x1 : Int)) : pv d m pc ls (.inl y :: .inl x :: st) (sh, σ, kk) = if wi x < wi y then pv d m x1 ls st (sh, σ, kk) else pv d m (pc + 3) ls st (sh, σ, kk) := by
  by_cases hc : wi x < wi y
  · rw [if_pos hc]
    exact pv_next h rfl (by rw [mstep, h]; simp [mex, mif, mnx, cnd, ht, hc])
  · rw [if_neg hc]
    exact pv_next h rfl (by rw [mstep, h]; simp [mex, mif, mnx, cnd, ht, hc])
theorem P_if_ge {sh : Shp} {d m pc x1 x2 : Nat} {ls : List (Option MV)} {st : List MV} {σ : Mem} {kk : Nat} {x : Int} {off : Int} (h : mcode m pc = some (.ifCond .ge off, 3, x1, x2)) (ht : (pc : Int) + off = (x1 : Int)) : pv d m pc ls (.inl x :: st) (sh, σ, kk) = if wi x < 0 then pv d m (pc + 3) ls st (sh, σ, kk) else pv d m x1 ls st (sh, σ, kk) := by
  by_cases hc : wi x < 0
  · rw [if_pos hc]
    exact pv_next h rfl (by rw [mstep, h]; simp [mex, mif, mnx, cnd, ht, hc])
  · rw [if_neg hc]
    exact pv_next h rfl (by rw [mstep, h]; simp [mex, mif, mnx, cnd, ht, hc])
theorem P_ic_ge {sh : Shp} {d m pc x1 x2 : Nat} {ls : List (Option MV)} {st : List MV} {σ : Mem} {kk : Nat} {x y : Int} {off : Int} (h : mcode m pc = some (.if_icmp .ge off, 3, x1, x2)) (ht : (pc : Int) + off = (x1 : Int)) : pv d m pc ls (.inl y :: .inl x :: st) (sh, σ, kk) = if wi x < wi y then pv d m (pc + 3) ls st (sh, σ, kk) else pv d m x1 ls st (sh, σ, kk) := by
  by_cases hc : wi x < wi y
  · rw [if_pos hc]
    exact pv_next h rfl (by rw [mstep, h]; simp [mex, mif, mnx, cnd, ht, hc])
  · rw [if_neg hc]
    exact pv_next h rfl (by rw [mstep, h]; simp [mex, mif, mnx, cnd, ht, hc])
theorem P_if_gt {sh : Shp} {d m pc x1 x2 : Nat} {ls : List (Option MV)} {st : List MV} {σ : Mem} {kk : Nat} {x : Int} {off : Int} (h : mcode m pc = some (.ifCond .gt off, 3, x1, x2)) (ht : (pc : Int) + off = (x1 : Int)) : pv d m pc ls (.inl x :: st) (sh, σ, kk) = if 0 < wi x then pv d m x1 ls st (sh, σ, kk) else pv d m (pc + 3) ls st (sh, σ, kk) := by
  by_cases hc : 0 < wi x
  · rw [if_pos hc]
    exact pv_next h rfl (by rw [mstep, h]; simp [mex, mif, mnx, cnd, ht, hc])
  · rw [if_neg hc]
    exact pv_next h rfl (by rw [mstep, h]; simp [mex, mif, mnx, cnd, ht, hc])
theorem P_ic_gt {sh : Shp} {d m pc x1 x2 : Nat} {ls : List (Option MV)} {st : List MV} {σ : Mem} {kk : Nat} {x y : Int} {off : Int} (h : mcode m pc = some (.if_icmp .gt off, 3, x1, x2)) (ht : (pc : Int) + off = (x1 : Int)) : pv d m pc ls (.inl y :: .inl x :: st) (sh, σ, kk) = if wi y < wi x then pv d m x1 ls st (sh, σ, kk) else pv d m (pc + 3) ls st (sh, σ, kk) := by
  by_cases hc : wi y < wi x
  · rw [if_pos hc]
    exact pv_next h rfl (by rw [mstep, h]; simp [mex, mif, mnx, cnd, ht, hc])
  · rw [if_neg hc]
    exact pv_next h rfl (by rw [mstep, h]; simp [mex, mif, mnx, cnd, ht, hc])
theorem P_if_le {sh : Shp} {d m pc x1 x2 : Nat} {ls : List (Option MV)} {st : List MV} {σ : Mem} {kk : Nat} {x : Int} {off : Int} (h : mcode m pc = some (.ifCond .le off, 3, x1, x2)) (ht : (pc : Int) + off = (x1 : Int)) : pv d m pc ls (.inl x :: st) (sh, σ, kk) = if 0 < wi x then pv d m (pc + 3) ls st (sh, σ, kk) else pv d m x1 ls st (sh, σ, kk) := by
  by_cases hc : 0 < wi x
  · rw [if_pos hc]
    exact pv_next h rfl (by rw [mstep, h]; simp [mex, mif, mnx, cnd, ht, hc])
  · rw [if_neg hc]
    exact pv_next h rfl (by rw [mstep, h]; simp [mex, mif, mnx, cnd, ht, hc])
theorem P_ic_le {sh : Shp} {d m pc x1 x2 : Nat} {ls : List (Option MV)} {st : List MV} {σ : Mem} {kk : Nat} {x y : Int} {off : Int} (h : mcode m pc = some (.if_icmp .le off, 3, x1, x2)) (ht : (pc : Int) + off = (x1 : Int)) : pv d m pc ls (.inl y :: .inl x :: st) (sh, σ, kk) = if wi y < wi x then pv d m (pc + 3) ls st (sh, σ, kk) else pv d m x1 ls st (sh, σ, kk) := by
  by_cases hc : wi y < wi x
  · rw [if_pos hc]
    exact pv_next h rfl (by rw [mstep, h]; simp [mex, mif, mnx, cnd, ht, hc])
  · rw [if_neg hc]
    exact pv_next h rfl (by rw [mstep, h]; simp [mex, mif, mnx, cnd, ht, hc])
theorem P_iaload {sh : Shp} {d m pc x1 x2 : Nat} {ls : List (Option MV)} {st : List MV} {σ : Mem} {kk : Nat} {i : Int} {a : Nat} (h : mcode m pc = some (.iaload, 1, x1, x2)) (hk : skd sh a = 0) : pv d m pc ls (.inl i :: .inr (.inr a) :: st) (sh, σ, kk) = if 0 ≤ wi i ∧ wi i < sln sh a then pv d m (pc + 1) ls (.inl (σ.1 a (wi i).toNat) :: st) (sh, σ, kk) else none := by
  by_cases hc : 0 ≤ wi i ∧ wi i < sln sh a
  · rw [if_pos hc]
    exact pv_next h rfl (by rw [mstep, h]; exact if_pos ⟨hk, hc⟩)
  · rw [if_neg hc]
    exact pv_stuck h rfl (by rw [mstep, h]; exact if_neg (fun z => hc z.2))
theorem P_laload {sh : Shp} {d m pc x1 x2 : Nat} {ls : List (Option MV)} {st : List MV} {σ : Mem} {kk : Nat} {i : Int} {a : Nat} (h : mcode m pc = some (.laload, 1, x1, x2)) (hk : skd sh a = 3) : pv d m pc ls (.inl i :: .inr (.inr a) :: st) (sh, σ, kk) = if 0 ≤ wi i ∧ wi i < sln sh a then pv d m (pc + 1) ls (.inr (.inl (σ.2 a (wi i).toNat)) :: st) (sh, σ, kk) else none := by
  by_cases hc : 0 ≤ wi i ∧ wi i < sln sh a
  · rw [if_pos hc]
    exact pv_next h rfl (by rw [mstep, h]; exact if_pos ⟨hk, hc⟩)
  · rw [if_neg hc]
    exact pv_stuck h rfl (by rw [mstep, h]; exact if_neg (fun z => hc z.2))
theorem P_aaload {sh : Shp} {d m pc x1 x2 : Nat} {ls : List (Option MV)} {st : List MV} {σ : Mem} {kk : Nat} {i : Int} {a : Nat} (h : mcode m pc = some (.aaload, 1, x1, x2)) (hk : skd sh a = 4) : pv d m pc ls (.inl i :: .inr (.inr a) :: st) (sh, σ, kk) = if 0 ≤ wi i ∧ wi i < sln sh a then pv d m (pc + 1) ls (.inr (.inr (srf sh a (wi i).toNat)) :: st) (sh, σ, kk) else none := by
  by_cases hc : 0 ≤ wi i ∧ wi i < sln sh a
  · rw [if_pos hc]
    exact pv_next h rfl (by rw [mstep, h]; exact if_pos ⟨hk, hc⟩)
  · rw [if_neg hc]
    exact pv_stuck h rfl (by rw [mstep, h]; exact if_neg (fun z => hc z.2))
theorem P_zaload {sh : Shp} {d m pc x1 x2 : Nat} {ls : List (Option MV)} {st : List MV} {σ : Mem} {kk : Nat} {i : Int} {a : Nat} (h : mcode m pc = some (.baload, 1, x1, x2)) (hk : skd sh a = 2) : pv d m pc ls (.inl i :: .inr (.inr a) :: st) (sh, σ, kk) = if 0 ≤ wi i ∧ wi i < sln sh a then pv d m (pc + 1) ls (.inl (σ.1 a (wi i).toNat) :: st) (sh, σ, kk) else none := by
  by_cases hc : 0 ≤ wi i ∧ wi i < sln sh a
  · rw [if_pos hc]
    exact pv_next h rfl (by rw [mstep, h]; simp [mex, mald, mnx, hk, hc])
  · rw [if_neg hc]
    exact pv_stuck h rfl (by rw [mstep, h]; simp only [mex, mald, hk]; simp; omega)
theorem P_baload {sh : Shp} {d m pc x1 x2 : Nat} {ls : List (Option MV)} {st : List MV} {σ : Mem} {kk : Nat} {i : Int} {a : Nat} (h : mcode m pc = some (.baload, 1, x1, x2)) (hk : skd sh a = 1) : pv d m pc ls (.inl i :: .inr (.inr a) :: st) (sh, σ, kk) = if 0 ≤ wi i ∧ wi i < sln sh a then pv d m (pc + 1) ls (.inl (σ.1 a (wi i).toNat) :: st) (sh, σ, kk) else none := by
  by_cases hc : 0 ≤ wi i ∧ wi i < sln sh a
  · rw [if_pos hc]
    exact pv_next h rfl (by rw [mstep, h]; simp [mex, mald, mnx, hk, hc])
  · rw [if_neg hc]
    exact pv_stuck h rfl (by rw [mstep, h]; simp only [mex, mald, hk]; simp; omega)
theorem P_iastore {sh : Shp} {d m pc x1 x2 : Nat} {ls : List (Option MV)} {st : List MV} {σ : Mem} {kk : Nat} {i v : Int} {a : Nat} (h : mcode m pc = some (.iastore, 1, x1, x2)) (hk : skd sh a = 0) (hw : a < sh.1) : pv d m pc ls (.inl v :: .inl i :: .inr (.inr a) :: st) (sh, σ, kk) = if 0 ≤ wi i ∧ wi i < sln sh a then pv d m (pc + 1) ls st (sh, (upA σ.1 a (up1 (σ.1 a) (wi i).toNat v), σ.2), kk) else none := by
  by_cases hc : 0 ≤ wi i ∧ wi i < sln sh a
  · rw [if_pos hc]
    exact pv_next h rfl (by rw [mstep, h]; exact if_pos ⟨hk, hw, hc⟩)
  · rw [if_neg hc]
    exact pv_stuck h rfl (by rw [mstep, h]; exact if_neg (fun z => hc z.2.2))
theorem P_lastore {sh : Shp} {d m pc x1 x2 : Nat} {ls : List (Option MV)} {st : List MV} {σ : Mem} {kk : Nat} {i v : Int} {a : Nat} (h : mcode m pc = some (.lastore, 1, x1, x2)) (hk : skd sh a = 3) (hw : a < sh.1) : pv d m pc ls (.inr (.inl v) :: .inl i :: .inr (.inr a) :: st) (sh, σ, kk) = if 0 ≤ wi i ∧ wi i < sln sh a then pv d m (pc + 1) ls st (sh, (σ.1, upA σ.2 a (up1 (σ.2 a) (wi i).toNat v)), kk) else none := by
  by_cases hc : 0 ≤ wi i ∧ wi i < sln sh a
  · rw [if_pos hc]
    exact pv_next h rfl (by rw [mstep, h]; exact if_pos ⟨rfl, hk, hw, hc⟩)
  · rw [if_neg hc]
    exact pv_stuck h rfl (by rw [mstep, h]; exact if_neg (fun z => hc z.2.2.2))
theorem P_zastore {sh : Shp} {d m pc x1 x2 : Nat} {ls : List (Option MV)} {st : List MV} {σ : Mem} {kk : Nat} {i v : Int} {a : Nat} (h : mcode m pc = some (.bastore, 1, x1, x2)) (hk : skd sh a = 2) (hw : a < sh.1) (hv : v = 0 ∨ v = 1) : pv d m pc ls (.inl v :: .inl i :: .inr (.inr a) :: st) (sh, σ, kk) = if 0 ≤ wi i ∧ wi i < sln sh a then pv d m (pc + 1) ls st (sh, (upA σ.1 a (up1 (σ.1 a) (wi i).toNat v), σ.2), kk) else none := by
  by_cases hc : 0 ≤ wi i ∧ wi i < sln sh a
  · rw [if_pos hc]
    exact pv_next h rfl (by rw [mstep, h]; simp [mex, mast, mnx, hk, hw, hc, hv])
  · rw [if_neg hc]
    exact pv_stuck h rfl (by rw [mstep, h]; simp only [mex, mast, hk]; simp; omega)
theorem P_bastore {sh : Shp} {d m pc x1 x2 : Nat} {ls : List (Option MV)} {st : List MV} {σ : Mem} {kk : Nat} {i v : Int} {a : Nat} (h : mcode m pc = some (.bastore, 1, x1, x2)) (hk : skd sh a = 1) (hw : a < sh.1) : pv d m pc ls (.inl v :: .inl i :: .inr (.inr a) :: st) (sh, σ, kk) = if 0 ≤ wi i ∧ wi i < sln sh a then pv d m (pc + 1) ls st (sh, (upA σ.1 a (up1 (σ.1 a) (wi i).toNat (xi2b v)), σ.2), kk) else none := by
  by_cases hc : 0 ≤ wi i ∧ wi i < sln sh a
  · rw [if_pos hc]
    exact pv_next h rfl (by rw [mstep, h]; simp [mex, mast, mnx, hk, hw, hc])
  · rw [if_neg hc]
    exact pv_stuck h rfl (by rw [mstep, h]; simp only [mex, mast, hk]; simp; omega)
theorem P_arraylength {sh : Shp} {d m pc x1 x2 : Nat} {ls : List (Option MV)} {st : List MV} {σ : Mem} {kk : Nat} {a : Nat} (h : mcode m pc = some (.arraylength, 1, x1, x2)) (hk : skd sh a < 5) : pv d m pc ls (.inr (.inr a) :: st) (sh, σ, kk) = pv d m (pc + 1) ls (.inl (sln sh a : Int) :: st) (sh, σ, kk) := pv_next h rfl (by rw [mstep, h]; exact if_pos ⟨rfl, hk⟩)
theorem P_getI {sh : Shp} {d m pc x1 x2 : Nat} {ls : List (Option MV)} {st : List MV} {σ : Mem} {kk : Nat} {a q : Nat} {n : Nat} (h : mcode m pc = some (.getfield q, 3, x1, x2)) (hr : (frf x1 x2 = false ∧ x2 < n)) (ho : ob sh x1 n a) : pv d m pc ls (.inr (.inr a) :: st) (sh, σ, kk) = pv d m (pc + 3) ls (.inl (σ.1 a x2) :: st) (sh, σ, kk) := pv_next h rfl (by obtain ⟨h1, h2, h3⟩ := ho; rw [mstep, h]; simp [mex, mnx, hr.1, hr.2, h1, h2, h3])
theorem P_getR {sh : Shp} {d m pc x1 x2 : Nat} {ls : List (Option MV)} {st : List MV} {σ : Mem} {kk : Nat} {a q : Nat} {n : Nat} (h : mcode m pc = some (.getfield q, 3, x1, x2)) (hr : (frf x1 x2 = true ∧ x2 < n)) (ho : ob sh x1 n a) : pv d m pc ls (.inr (.inr a) :: st) (sh, σ, kk) = pv d m (pc + 3) ls (.inr (.inr (srf sh a x2)) :: st) (sh, σ, kk) := pv_next h rfl (by obtain ⟨h1, h2, h3⟩ := ho; rw [mstep, h]; simp [mex, mnx, hr.1, hr.2, h1, h2, h3])
theorem P_put {sh : Shp} {d m pc x1 x2 : Nat} {ls : List (Option MV)} {st : List MV} {σ : Mem} {kk : Nat} {a q : Nat} {n : Nat} {v : Int} (h : mcode m pc = some (.putfield q, 3, x1, x2)) (hr : (frf x1 x2 = false ∧ fbl x1 x2 = false ∧ x2 < n)) (ho : ob sh x1 n a) : pv d m pc ls (.inl v :: .inr (.inr a) :: st) (sh, σ, kk) = pv d m (pc + 3) ls st (sh, (upA σ.1 a (up1 (σ.1 a) x2 v), σ.2), kk) := pv_next h rfl (by obtain ⟨h1, h2, h3⟩ := ho; rw [mstep, h]; simp [mex, mnx, hr.1, hr.2.1, hr.2.2, h1, h2, h3])
theorem P_putZ {sh : Shp} {d m pc x1 x2 : Nat} {ls : List (Option MV)} {st : List MV} {σ : Mem} {kk : Nat} {a q : Nat} {n : Nat} {v : Int} (h : mcode m pc = some (.putfield q, 3, x1, x2)) (hr : (frf x1 x2 = false ∧ fbl x1 x2 = true ∧ x2 < n)) (ho : ob sh x1 n a) (hv : v = 0 ∨ v = 1) : pv d m pc ls (.inl v :: .inr (.inr a) :: st) (sh, σ, kk) = pv d m (pc + 3) ls st (sh, (upA σ.1 a (up1 (σ.1 a) x2 v), σ.2), kk) := pv_next h rfl (by obtain ⟨h1, h2, h3⟩ := ho; rw [mstep, h]; simp [mex, mnx, hr.1, hr.2.1, hr.2.2, h1, h2, h3, hv])
theorem P_getstatic {sh : Shp} {d m pc x2 : Nat} {ls : List (Option MV)} {st : List MV} {σ : Mem} {kk : Nat} {q : Nat} (h : mcode m pc = some (.getstatic q, 3, 1, x2)) (hR : sh.2.1 = 2) : pv d m pc ls (st) (sh, σ, kk) = pv d m (pc + 3) ls (.inr (.inr 1000000) :: st) (sh, σ, kk) := pv_next h rfl (by rw [mstep, h]; exact if_pos ⟨rfl, rfl, hR⟩)
theorem P_ireturn {sh : Shp} {d m pc x1 x2 : Nat} {ls : List (Option MV)} {σ : Mem} {kk : Nat} {v : Int} (h : mcode m pc = some (.ireturn, 1, x1, x2)) (hr : mRT m = 1) : pv d m pc ls ([.inl v]) (sh, σ, kk) = some (some (.inl v), (sh, σ, kk)) := pv_done h rfl (by rw [mstep, h]; exact if_pos ⟨rfl, Or.inl hr⟩)
theorem P_zreturn {sh : Shp} {d m pc x1 x2 : Nat} {ls : List (Option MV)} {σ : Mem} {kk : Nat} {v : Int} (h : mcode m pc = some (.ireturn, 1, x1, x2)) (hr : mRT m = 2) (hv : v = 0 ∨ v = 1) : pv d m pc ls ([.inl v]) (sh, σ, kk) = some (some (.inl v), (sh, σ, kk)) := pv_done h rfl (by rw [mstep, h]; exact if_pos ⟨rfl, Or.inr ⟨hr, hv⟩⟩)
theorem P_lreturn {sh : Shp} {d m pc x1 x2 : Nat} {ls : List (Option MV)} {σ : Mem} {kk : Nat} {v : Int} (h : mcode m pc = some (.lreturn, 1, x1, x2)) (hr : mRT m = 3) : pv d m pc ls ([.inr (.inl v)]) (sh, σ, kk) = some (some (.inr (.inl v)), (sh, σ, kk)) := pv_done h rfl (by rw [mstep, h]; exact if_pos ⟨rfl, hr⟩)
theorem P_return {sh : Shp} {d m pc x1 x2 : Nat} {ls : List (Option MV)} {σ : Mem} {kk : Nat}  (h : mcode m pc = some (.return_, 1, x1, x2)) (hr : mRT m = 0) : pv d m pc ls ([]) (sh, σ, kk) = some (none, (sh, σ, kk)) := pv_done h rfl (by rw [mstep, h]; exact if_pos ⟨rfl, hr⟩)
theorem P_tsOut {sh : Shp} {d m pc x1 x2 : Nat} {ls : List (Option MV)} {st : List MV} {σ : Mem} {kk : Nat} {x df lo hi : Int} {offs : Array Int} {len t : Nat} (h : mcode m pc = some (.tableswitch df lo hi offs, len, x1, x2)) (ht : (pc : Int) + df = (t : Int)) (hx : wi x < lo ∨ hi < wi x) : pv d m pc ls (.inl x :: st) (sh, σ, kk) = pv d m t ls st (sh, σ, kk) := pv_next h rfl (by rw [mstep, h]; simp only [mex]; rw [if_pos hx, ht, if_pos (Int.natCast_nonneg t)]; rfl)
theorem P_tsIn {sh : Shp} {d m pc x1 x2 : Nat} {ls : List (Option MV)} {st : List MV} {σ : Mem} {kk : Nat} {x df lo hi off : Int} {offs : Array Int} {len t k : Nat} (h : mcode m pc = some (.tableswitch df lo hi offs, len, x1, x2)) (ho : offs[k]? = some off) (ht : (pc : Int) + off = (t : Int)) (hh : lo + k ≤ hi) (hx : wi x = lo + k) : pv d m pc ls (.inl x :: st) (sh, σ, kk) = pv d m t ls st (sh, σ, kk) := pv_next h rfl (by rw [mstep, h]; simp only [mex]; rw [if_neg (by omega), show (wi x - lo).toNat = k by omega, ho]; simp only; rw [ht, if_pos (Int.natCast_nonneg t)]; rfl)
theorem P_max {sh : Shp} {d m pc x1 : Nat} {ls : List (Option MV)} {st : List MV} {σ : Mem} {kk : Nat} {q : Nat} {x y : Int} (h : mcode m pc = some (.invokestatic q, 3, x1, 4)) (hd : 1 ≤ d) (hst : mcs st ≤ 8) : pv d m pc ls (.inl y :: .inl x :: st) (sh, σ, kk) = pv d m (pc + 3) ls (.inl (mmx x y) :: st) (sh, σ, kk) := pv_next h rfl (by rw [mstep, h]; simp [mex, mnx, hd, hst])
theorem P_min {sh : Shp} {d m pc x1 : Nat} {ls : List (Option MV)} {st : List MV} {σ : Mem} {kk : Nat} {q : Nat} {x y : Int} (h : mcode m pc = some (.invokestatic q, 3, x1, 5)) (hd : 1 ≤ d) (hst : mcs st ≤ 8) : pv d m pc ls (.inl y :: .inl x :: st) (sh, σ, kk) = pv d m (pc + 3) ls (.inl (mmn x y) :: st) (sh, σ, kk) := pv_next h rfl (by rw [mstep, h]; simp [mex, mnx, hd, hst])
theorem P_callV {sh : Shp} {d m pc x1 : Nat} {ls : List (Option MV)} {st : List MV} {σ : Mem} {kk : Nat} {q a : Nat} {as : List MV} (h : mcode m pc = some (.invokevirtual q, 3, x1, 0)) (hs : mST x1 = 0) (hn : mNA x1 = as.length + 1) (hm : (ments (.inr (.inr a) :: as)).length ≤ mML x1) (hst : mcs st ≤ 8) (hk : skd sh a = 5 + mCI x1) (hw : a < sh.1) (hL : isL x1 = false) : pv (d + 1) m pc ls (as.reverse ++ .inr (.inr a) :: st) (sh, σ, kk) = (run sh d x1 (.inr (.inr a) :: as) σ).bind (fun q => pv (d + 1) m (pc + 3) ls (q.1.toList ++ st) (sh, q.2, kk)) := by
  have e1 : ((as.reverse ++ Sum.inr (Sum.inr a) :: st).take (mNA x1)).reverse = .inr (.inr a) :: as := by
    rw [hn, show as.reverse ++ (Sum.inr (Sum.inr a) : MV) :: st = (as.reverse ++ [Sum.inr (Sum.inr a)]) ++ st by simp, List.take_left' (by simp)]
    simp
  have e2 : (as.reverse ++ (Sum.inr (Sum.inr a) : MV) :: st).drop (mNA x1) = st := by
    rw [hn, show as.reverse ++ (Sum.inr (Sum.inr a) : MV) :: st = (as.reverse ++ [Sum.inr (Sum.inr a)]) ++ st by simp, List.drop_left' (by simp)]
  refine pv_callM ?_ hL
  rw [pst_pl h rfl]
  show pof (sh, σ, kk) (mstep sh (d + 1) m pc ls _ σ) = _
  have e3 : mstep sh (d + 1) m pc ls (as.reverse ++ .inr (.inr a) :: st) σ = some (.inr (.inl (x1, .inr (.inr a) :: as, st))) := by
    rw [mstep, h]
    simp only [mex, mrcv, mcall, e1, e2]
    simp [hs, hk, hw, hn, hm, hst]
  rw [e3]
  rfl
theorem P_callS {sh : Shp} {d m pc x1 : Nat} {ls : List (Option MV)} {st : List MV} {σ : Mem} {kk : Nat} {q : Nat} {as : List MV} (h : mcode m pc = some (.invokestatic q, 3, x1, 0)) (hs : mST x1 = 1) (hn : mNA x1 = as.length) (hm : (ments as).length ≤ mML x1) (hst : mcs st ≤ 8) (hL : isL x1 = true) (hw : pwk sh.1 ls (as ++ st) = true) : pv (d + 1) m pc ls (as.reverse ++ st) (sh, σ, kk) = (prun d x1 as (sh, σ, kk)).bind (fun q => pv (d + 1) m (pc + 3) ls (q.1.toList ++ st) q.2) := by
  have e1 : ((as.reverse ++ st).take (mNA x1)).reverse = as := by
    rw [hn, List.take_left' (by simp)]
    simp
  have e2 : (as.reverse ++ st).drop (mNA x1) = st := by
    rw [hn, List.drop_left' (by simp)]
  refine pv_callL ?_ hL hw
  rw [pst_pl h rfl]
  show pof (sh, σ, kk) (mstep sh (d + 1) m pc ls _ σ) = _
  have e3 : mstep sh (d + 1) m pc ls (as.reverse ++ st) σ = some (.inr (.inl (x1, as, st))) := by
    rw [mstep, h]
    simp only [mex, mcall, e1, e2]
    simp [hs, hn, hm, hst]
  rw [e3]
  rfl
theorem P_newarray_int {sh : Shp} {d m pc x1 x2 : Nat} {ls : List (Option MV)} {st : List MV} {σ : Mem} {kk : Nat} {z : Int} (h : mcode m pc = some (.newarray .int, 2, x1, x2)) (h0 : 0 ≤ wi z) (h1 : wi z ≤ 4096) (hN : sh.1 < 1000000) (hw : pwk sh.1 ls st = true) : pv d m pc ls (.inl z :: st) (sh, σ, kk) = pv d m (pc + 2) ls (.inr (.inr sh.1) :: st) (pgS sh 0 (wi z).toNat, pgI sh σ, kk + (wi z).toNat) := pv_on (by rw [pst, h]; exact if_pos ⟨rfl, h0, h1, hN, hw⟩)
theorem P_newarray_long {sh : Shp} {d m pc x1 x2 : Nat} {ls : List (Option MV)} {st : List MV} {σ : Mem} {kk : Nat} {z : Int} (h : mcode m pc = some (.newarray .long, 2, x1, x2)) (h0 : 0 ≤ wi z) (h1 : wi z ≤ 4096) (hN : sh.1 < 1000000) (hw : pwk sh.1 ls st = true) : pv d m pc ls (.inl z :: st) (sh, σ, kk) = pv d m (pc + 2) ls (.inr (.inr sh.1) :: st) (pgS sh 3 (wi z).toNat, pgL sh σ, kk + (wi z).toNat) := pv_on (by rw [pst, h]; exact if_pos ⟨rfl, h0, h1, hN, hw⟩)
theorem P_lrem {sh : Shp} {d m pc x1 x2 : Nat} {ls : List (Option MV)} {st : List MV} {σ : Mem} {kk : Nat} {x y : Int} (h : mcode m pc = some (.lrem, 1, x1, x2)) (hy : ¬ wl y = 0) : pv d m pc ls (.inr (.inl y) :: .inr (.inl x) :: st) (sh, σ, kk) = pv d m (pc + 1) ls (.inr (.inl (lrem' x y)) :: st) (sh, σ, kk) := pv_on (by rw [pst, h]; exact if_pos ⟨rfl, hy⟩)
theorem P_areturn {sh : Shp} {d m pc x1 x2 : Nat} {ls : List (Option MV)} {σ : Mem} {kk : Nat} {a : Nat} (h : mcode m pc = some (.areturn, 1, x1, x2)) (hr : mRT m = 4 ∨ mRT m = 5) (ha : a < sh.1) : pv d m pc ls [.inr (.inr a)] (sh, σ, kk) = some (some (.inr (.inr a)), (sh, σ, kk)) := pv_end (by rw [pst, h]; exact if_pos ⟨rfl, by simp [pok, ha], hr⟩)
