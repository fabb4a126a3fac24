/-! what follows from a row: some choice of n - F of its places, and the closed forms -/
def er_sel (x : Int) (a b d e : Nat) : Int := if x = 0 then (a : Int) else if x = 1 then (b : Int) else if x = 2 then (d : Int) else (e : Int)
def er_do (n F st x : Int) (a b d e : Nat) : Prop := if st = 1 then (n - F < 2 * er_sel x a b d e ∨ x = 0 ∧ 2 * (a : Int) = n - F) else if st = 2 then (if x ≤ 1 then 2 * (a : Int) ≤ n ∧ 2 * (b : Int) ≤ n else n < 2 * er_sel (x - 2) a b d e) else (F < er_sel (x + 2) a b d e ∨ (d : Int) ≤ F ∧ (e : Int) ≤ F)
def er_so (n F st x : Int) (c0 c1 c2 c3 : Nat) : Prop := ∃ a b d e : Nat, a ≤ c0 ∧ b ≤ c1 ∧ d ≤ c2 ∧ e ≤ c3 ∧ a + b + d + e = (n - F).toNat ∧ er_do n F st x a b d e
theorem er_fill (c1 c2 c3 r : Nat) (h : r ≤ c1 + c2 + c3) : ∃ b d e : Nat, b ≤ c1 ∧ d ≤ c2 ∧ e ≤ c3 ∧ b + d + e = r := ⟨min c1 r, min c2 (r - min c1 r), r - min c1 r - min c2 (r - min c1 r), by omega, by omega, by omega, by omega⟩
theorem er_minE (x y : Int) : er_min x y = min x y := by unfold er_min; split <;> omega
theorem er_so1 {n F x : Int} {c0 c1 c2 c3 : Nat} (hn : 4 ≤ n ∧ n ≤ 7) (hF : F = (n - 1) / 3) (hx : x = 0 ∨ x = 1) : er_so n F 1 x c0 c1 c2 c3 ↔ n - F ≤ (c0 + c1 + c2 + c3 : Nat) ∧ (n - F < 2 * er_min (er_sel x c0 c1 c2 c3) (n - F) ∨ x = 0 ∧ 2 * er_min (er_sel x c0 c1 c2 c3) (n - F) = n - F) := by
  rw [er_minE]
  unfold er_so er_do
  simp only [if_true]
  constructor
  · rintro ⟨a, b, d, e, h0, h1, h2, h3, hs, hP⟩
    rcases hx with rfl | rfl
    · simp only [er_sel, if_true, true_and] at hP ⊢
      omega
    · simp only [er_sel, if_true, show ¬ (1 : Int) = 0 by decide, if_false, false_and, or_false] at hP ⊢
      omega
  · rintro ⟨hz, hP⟩
    rcases hx with rfl | rfl
    · simp only [er_sel, if_true, true_and] at hP ⊢
      obtain ⟨b, d, e, k1, k2, k3, k4⟩ := er_fill c1 c2 c3 ((n - F).toNat - min c0 (n - F).toNat) (by omega)
      exact ⟨min c0 (n - F).toNat, b, d, e, by omega, k1, k2, k3, by omega, by omega⟩
    · simp only [er_sel, if_true, show ¬ (1 : Int) = 0 by decide, if_false, false_and, or_false] at hP ⊢
      obtain ⟨a, d, e, k1, k2, k3, k4⟩ := er_fill c0 c2 c3 ((n - F).toNat - min c1 (n - F).toNat) (by omega)
      exact ⟨a, min c1 (n - F).toNat, d, e, k1, by omega, k2, k3, by omega, by omega⟩
theorem er_so2f {n F x : Int} {c0 c1 c2 c3 : Nat} (hn : 4 ≤ n ∧ n ≤ 7) (hF : F = (n - 1) / 3) (hx : x = 2 ∨ x = 3) : er_so n F 2 x c0 c1 c2 c3 ↔ n - F ≤ (c0 + c1 + c2 + c3 : Nat) ∧ n < 2 * er_min (er_sel (x - 2) c0 c1 c2 c3) (n - F) := by
  rw [er_minE]
  unfold er_so er_do
  simp only [show ¬ (2 : Int) = 1 by decide, if_true, if_false]
  constructor
  · rintro ⟨a, b, d, e, h0, h1, h2, h3, hs, hP⟩
    rcases hx with rfl | rfl
    · simp only [er_sel, show ¬ (2 : Int) ≤ 1 by decide, if_false, show (2 : Int) - 2 = 0 by decide, if_true] at hP ⊢
      omega
    · simp only [er_sel, show ¬ (3 : Int) ≤ 1 by decide, if_false, show (3 : Int) - 2 = 1 by decide, show ¬ (1 : Int) = 0 by decide, if_true] at hP ⊢
      omega
  · rintro ⟨hz, hP⟩
    rcases hx with rfl | rfl
    · simp only [er_sel, show ¬ (2 : Int) ≤ 1 by decide, if_false, show (2 : Int) - 2 = 0 by decide, if_true] at hP ⊢
      obtain ⟨b, d, e, k1, k2, k3, k4⟩ := er_fill c1 c2 c3 ((n - F).toNat - min c0 (n - F).toNat) (by omega)
      exact ⟨min c0 (n - F).toNat, b, d, e, by omega, k1, k2, k3, by omega, by omega⟩
    · simp only [er_sel, show ¬ (3 : Int) ≤ 1 by decide, if_false, show (3 : Int) - 2 = 1 by decide, show ¬ (1 : Int) = 0 by decide, if_true] at hP ⊢
      obtain ⟨a, d, e, k1, k2, k3, k4⟩ := er_fill c0 c2 c3 ((n - F).toNat - min c1 (n - F).toNat) (by omega)
      exact ⟨a, min c1 (n - F).toNat, d, e, k1, by omega, k2, k3, by omega, by omega⟩
theorem er_so2p {n F x : Int} {c0 c1 c2 c3 : Nat} (hn : 4 ≤ n ∧ n ≤ 7) (hF : F = (n - 1) / 3) (hx : x = 0 ∨ x = 1) (h2 : c2 = 0) (h3 : c3 = 0) : er_so n F 2 x c0 c1 c2 c3 ↔ n - F ≤ (c0 + c1 + c2 + c3 : Nat) ∧ n - F ≤ er_min (c0 : Int) (n / 2) + er_min (c1 : Int) (n / 2) := by
  rw [er_minE, er_minE]
  have hx1 : x ≤ 1 := by omega
  unfold er_so er_do
  simp only [show ¬ (2 : Int) = 1 by decide, if_true, if_false, hx1]
  constructor
  · rintro ⟨a, b, d, e, g0, g1, g2, g3, hs, hP⟩
    omega
  · rintro ⟨hz, hP⟩
    exact ⟨min c0 (min (n / 2).toNat (n - F).toNat), (n - F).toNat - min c0 (min (n / 2).toNat (n - F).toNat), 0, 0, by omega, by omega, by omega, by omega, by omega, by omega⟩
theorem er_so0 {n F x : Int} {c0 c1 c2 c3 : Nat} (hn : 4 ≤ n ∧ n ≤ 7) (hF : F = (n - 1) / 3) (hx : x = 0 ∨ x = 1) : er_so n F 0 x c0 c1 c2 c3 ↔ n - F ≤ (c0 + c1 + c2 + c3 : Nat) ∧ (F < er_min (er_sel (x + 2) c0 c1 c2 c3) (n - F) ∨ n - F ≤ (c0 : Int) + c1 + er_min (c2 : Int) F + er_min (c3 : Int) F) := by
  rw [er_minE, er_minE, er_minE]
  unfold er_so er_do
  simp only [show ¬ (0 : Int) = 1 by decide, show ¬ (0 : Int) = 2 by decide, if_false]
  constructor
  · rintro ⟨a, b, d, e, h0, h1, h2, h3, hs, hP⟩
    rcases hx with rfl | rfl
    · simp only [er_sel, show (0 : Int) + 2 = 2 by decide, show ¬ (2 : Int) = 0 by decide, show ¬ (2 : Int) = 1 by decide, if_true, if_false] at hP ⊢
      omega
    · simp only [er_sel, show (1 : Int) + 2 = 3 by decide, show ¬ (3 : Int) = 0 by decide, show ¬ (3 : Int) = 1 by decide, show ¬ (3 : Int) = 2 by decide, if_true, if_false] at hP ⊢
      omega
  · rintro ⟨hz, hP⟩
    by_cases hq : n - F ≤ (c0 : Int) + c1 + min (c2 : Int) F + min (c3 : Int) F
    · obtain ⟨a, b, z, k1, k2, k3, k4⟩ := er_fill c0 c1 0 ((n - F).toNat - min c2 F.toNat - min c3 F.toNat) (by omega)
      exact ⟨a, b, min c2 F.toNat, min c3 F.toNat, k1, k2, by omega, by omega, by omega, Or.inr ⟨by omega, by omega⟩⟩
    · rcases hx with rfl | rfl
      · simp only [er_sel, show (0 : Int) + 2 = 2 by decide, show ¬ (2 : Int) = 0 by decide, show ¬ (2 : Int) = 1 by decide, if_true, if_false] at hP ⊢
        obtain ⟨a, b, e, k1, k2, k3, k4⟩ := er_fill c0 c1 c3 ((n - F).toNat - min c2 (n - F).toNat) (by omega)
        exact ⟨a, b, min c2 (n - F).toNat, e, k1, k2, by omega, k3, by omega, by omega⟩
      · simp only [er_sel, show (1 : Int) + 2 = 3 by decide, show ¬ (3 : Int) = 0 by decide, show ¬ (3 : Int) = 1 by decide, show ¬ (3 : Int) = 2 by decide, if_true, if_false] at hP ⊢
        obtain ⟨a, b, d, k1, k2, k3, k4⟩ := er_fill c0 c1 c2 ((n - F).toNat - min c3 (n - F).toNat) (by omega)
        exact ⟨a, b, d, min c3 (n - F).toNat, k1, k2, k3, by omega, by omega, by omega⟩
