/-! sums of flags -/
def er_sm (f : Nat → Nat) : Nat → Nat
  | 0 => 0
  | z + 1 => er_sm f z + f z
theorem er_sm_le (f : Nat → Nat) : ∀ z, (∀ k, k < z → f k ≤ 1) → er_sm f z ≤ z
  | 0, _ => Nat.le_refl _
  | z + 1, h => by
    have h1 := er_sm_le f z (fun k hk => h k (by omega))
    have h2 := h z (by omega)
    unfold er_sm
    omega
theorem er_sm_congr {f g : Nat → Nat} : ∀ z, (∀ k, k < z → f k = g k) → er_sm f z = er_sm g z
  | 0, _ => rfl
  | z + 1, h => by
    unfold er_sm
    rw [er_sm_congr z (fun k hk => h k (by omega)), h z (by omega)]
theorem er_sm_up {f g : Nat → Nat} {k : Nat} : ∀ z, k < z → (∀ j, j < z → j ≠ k → g j = f j) → er_sm g z + f k = er_sm f z + g k
  | 0, h, _ => by omega
  | z + 1, h, hg => by
    unfold er_sm
    by_cases hk : k = z
    · subst hk
      rw [er_sm_congr k (fun j hj => hg j (by omega) (by omega))]
      omega
    · have := er_sm_up z (show k < z by omega) (fun j hj hne => hg j (by omega) hne)
      have := hg z (by omega) (by omega)
      omega
/-- the least place with a property, else z -/
def er_ft (p : Nat → Bool) : Nat → Nat → Nat
  | k, 0 => k
  | k, z + 1 => if p k = true then k else er_ft p (k + 1) z
