/-! ===== the law: a circuit's rows are made ===== -/
/-- where the place k of a row that begins at s is set to 0; how it is pushed -/
def zpc (s k : Nat) : Nat := if k ≤ 6 then s + 4 * k else if k ≤ 128 then s + 24 + 5 * (k - 6) else s + 634 + 6 * (k - 128)
def zpN (k : Nat) : Nat := if k ≤ 5 then 1 else if k ≤ 127 then 2 else 3
def zpI (k : Nat) : Instr := if k ≤ 5 then .iconst (k : Int) else if k ≤ 127 then .bipush (k : Int) else .sipush (k : Int)
theorem zpc_s (s k : Nat) : zpc s (k + 1) = zpc s k + 3 + zpN k := by
  unfold zpc zpN
  repeat' split
  all_goals omega
section PG3
variable {sh : Shp} {d m : Nat} {σ : Mem} {kk : Nat}
theorem P_push {pc k : Nat} {ls : List (Option MV)} {st : List MV} (hk : k < 1000) (h : mcode m pc = some (zpI k, zpN k, 0, 0)) (hz : k ≤ 127 → (Int8.ofInt (k : Int)).toInt = (k : Int)) (hz2 : (Int16.ofInt (k : Int)).toInt = (k : Int)) : pv d m pc ls st (sh, σ, kk) = pv d m (pc + zpN k) ls (.inl (k : Int) :: st) (sh, σ, kk) := by
  by_cases h5 : k ≤ 5
  · have e1 : zpI k = .iconst (k : Int) := if_pos h5
    have e2 : zpN k = 1 := if_pos h5
    rw [e1, e2] at h
    rw [e2]; exact P_iconst h
  · by_cases h127 : k ≤ 127
    · have e1 : zpI k = .bipush (k : Int) := by unfold zpI; rw [if_neg h5, if_pos h127]
      have e2 : zpN k = 2 := by unfold zpN; rw [if_neg h5, if_pos h127]
      rw [e1, e2] at h
      rw [e2]; exact P_bipush h (hz h127)
    · have e1 : zpI k = .sipush (k : Int) := by unfold zpI; rw [if_neg h5, if_neg h127]
      have e2 : zpN k = 3 := by unfold zpN; rw [if_neg h5, if_neg h127]
      rw [e1, e2] at h
      rw [e2]; exact P_sipush h hz2
theorem i8_k : ∀ k : Nat, k < 128 → (Int8.ofInt (k : Int)).toInt = (k : Int) := by decide +kernel
theorem i16_k : ∀ k : Nat, k < 200 → (Int16.ofInt (k : Int)).toInt = (k : Int) := by decide +kernel
theorem zst {s k a : Nat} {ls : List (Option MV)} (hk : k < 200) (h1 : mcode m (zpc s k) = some (.dup, 1, 0, 0)) (h2 : mcode m (zpc s k + 1) = some (zpI k, zpN k, 0, 0)) (h3 : mcode m (zpc s k + 1 + zpN k) = some (.iconst 0, 1, 0, 0)) (h4 : mcode m (zpc s k + 1 + zpN k + 1) = some (.iastore, 1, 0, 0)) (ha : skd sh a = 0) (hl : k < sln sh a) (hw : a < sh.1) (hz : σ.1 a = fun _ => 0) :
    pv d m (zpc s k) ls [.inr (.inr a)] (sh, σ, kk) = pv d m (zpc s (k + 1)) ls [.inr (.inr a)] (sh, σ, kk) := by
  have wk : wi (k : Int) = (k : Int) := wN (by omega)
  have e : ((upA σ.1 a (up1 (σ.1 a) k 0), σ.2) : Mem) = σ := by
    rw [hz, up1_z, ← hz, upA_id]
  rw [P_dupR h1, P_push (by omega) h2 (fun h => i8_k k (by omega)) (i16_k k hk), P_iconst h3, P_iastore h4 ha hw, if_pos (by rw [wk]; omega), wk, Int.toNat_natCast, e, zpc_s, show zpc s k + 1 + zpN k + 1 + 1 = zpc s k + 3 + zpN k by omega]
end PG3
theorem z4_1 : ∀ k, k < 121 → mcode 166 (zpc 4 k) = some (.dup, 1, 0, 0) := by decide +kernel
theorem z4_2 : ∀ k, k < 121 → mcode 166 (zpc 4 k + 1) = some (zpI k, zpN k, 0, 0) := by decide +kernel
theorem z4_3 : ∀ k, k < 121 → mcode 166 (zpc 4 k + 1 + zpN k) = some (.iconst 0, 1, 0, 0) := by decide +kernel
theorem z4_4 : ∀ k, k < 121 → mcode 166 (zpc 4 k + 1 + zpN k + 1) = some (.iastore, 1, 0, 0) := by decide +kernel
theorem z6_1 : ∀ k, k < 160 → mcode 166 (zpc 610 k) = some (.dup, 1, 0, 0) := by decide +kernel
theorem z6_2 : ∀ k, k < 160 → mcode 166 (zpc 610 k + 1) = some (zpI k, zpN k, 0, 0) := by decide +kernel
theorem z6_3 : ∀ k, k < 160 → mcode 166 (zpc 610 k + 1 + zpN k) = some (.iconst 0, 1, 0, 0) := by decide +kernel
theorem z6_4 : ∀ k, k < 160 → mcode 166 (zpc 610 k + 1 + zpN k + 1) = some (.iastore, 1, 0, 0) := by decide +kernel

