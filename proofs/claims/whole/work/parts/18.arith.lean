/-! the machine's arithmetic where nothing wraps -/
theorem er_addE {x y : Int} (h : er_rg (x + y)) : er_add x y = x + y := by
  unfold er_add
  rw [← Int32.ofInt_add, er_wI h]
theorem er_subE {x y : Int} (h : er_rg (x - y)) : er_sub x y = x - y := by
  unfold er_sub
  rw [← Int32.ofInt_sub, er_wI h]
theorem er_mulE {x y : Int} (h : er_rg (x * y)) : er_mul x y = x * y := by
  unfold er_mul
  rw [← Int32.ofInt_mul, er_wI h]
theorem er_divE {x y : Int} (h0 : 0 ≤ x) (h1 : 0 < y) (hx : x < 2147483648) (hy : y < 2147483648) : er_div x y = x / y := by
  obtain ⟨a, rfl⟩ := Int.eq_ofNat_of_zero_le h0
  obtain ⟨d, rfl⟩ := Int.eq_ofNat_of_zero_le (show 0 ≤ y by omega)
  unfold er_div
  rw [er_nIo, er_nIo, pk_div (by omega) (by omega) (by omega), nI_toInt (Nat.lt_of_le_of_lt (Nat.div_le_self a d) (by omega))]
  exact Int.natCast_ediv a d
theorem er_remE {x y : Int} (h0 : 0 ≤ x) (h1 : 0 < y) (hx : x < 2147483648) (hy : y < 2147483648) : er_rem x y = x % y := by
  obtain ⟨a, rfl⟩ := Int.eq_ofNat_of_zero_le h0
  obtain ⟨d, rfl⟩ := Int.eq_ofNat_of_zero_le (show 0 ≤ y by omega)
  unfold er_rem
  rw [er_nIo, er_nIo, pk_rem (by omega) (by omega) (by omega), nI_toInt (Nat.lt_of_le_of_lt (Nat.mod_le a d) (by omega))]
  exact Int.natCast_emod a d
theorem er_andR (x : Int) {k : Nat} {y : Int} (hm : (Int32.ofInt y).toBitVec.toNat = 2 ^ k - 1) (hk : k ≤ 30) : 0 ≤ er_and x y ∧ er_and x y < 2 ^ k := by
  unfold er_and
  obtain ⟨j, hj, e⟩ := pk_andE (Int32.ofInt x) (m := Int32.ofInt y) k hm
  have h2 : 2 ^ k ≤ 2 ^ 30 := Nat.pow_le_pow_right (by omega) hk
  rw [e, nI_toInt (by omega)]
  have : ((2 ^ k : Nat) : Int) = (2 : Int) ^ k := by simp
  omega
theorem er_and1 (x : Int) : er_and x 1 = 0 ∨ er_and x 1 = 1 := by
  have := er_andR x (k := 1) (y := 1) (by decide +kernel) (by decide)
  omega
theorem er_and7 (x : Int) : 0 ≤ er_and x 7 ∧ er_and x 7 < 8 := by
  have := er_andR x (k := 3) (y := 7) (by decide +kernel) (by decide)
  omega
theorem er_and15 (x : Int) : 0 ≤ er_and x 15 ∧ er_and x 15 < 16 := by
  have := er_andR x (k := 4) (y := 15) (by decide +kernel) (by decide)
  omega
-- bits of small numbers, by a table
def er_bi (s v : Nat) : Nat := s / 2 ^ v % 2
theorem er_bitT : ∀ s : Nat, s < 128 → ∀ v : Nat, v < 7 → er_and (er_shr (s : Int) (v : Int)) 1 = ((er_bi s v : Nat) : Int) := by decide +kernel
theorem er_shlT : ∀ v : Nat, v < 8 → er_shl 1 (v : Int) = ((2 ^ v : Nat) : Int) := by decide +kernel
theorem er_orT : ∀ s : Nat, s < 128 → ∀ v : Nat, v < 7 → er_or (s : Int) (er_shl 1 (v : Int)) = ((s + (1 - er_bi s v) * 2 ^ v : Nat) : Int) := by decide +kernel
