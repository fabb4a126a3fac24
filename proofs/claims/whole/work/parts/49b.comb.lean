/-! sets of places of a row: what they can hold -/
def er_cn (f : Nat → Nat) (j : Nat) : Nat → Nat
  | 0 => 0
  | z + 1 => er_cn f j z + (if f z = j then 1 else 0)
def er_ch (f : Nat → Nat) (s j : Nat) : Nat → Nat
  | 0 => 0
  | z + 1 => er_ch f s j z + (if er_bi s z = 1 ∧ f z = j then 1 else 0)
def er_mn (s : Nat) : Nat → Nat
  | 0 => 0
  | z + 1 => er_mn s z + (if er_bi s z = 1 then 1 else 0)
theorem er_ch_le (f : Nat → Nat) (s j : Nat) : ∀ z, er_ch f s j z ≤ er_cn f j z
  | 0 => Nat.le_refl _
  | z + 1 => by
    have h := er_ch_le f s j z
    unfold er_ch er_cn
    by_cases h1 : f z = j
    · by_cases h2 : er_bi s z = 1
      · rw [if_pos ⟨h2, h1⟩, if_pos h1]; omega
      · rw [if_neg (fun q => h2 q.1), if_pos h1]; omega
    · rw [if_neg (fun q => h1 q.2), if_neg h1]; omega
theorem er_ch_sum (f : Nat → Nat) (s : Nat) : ∀ z, (∀ k, k < z → f k < 4) → er_ch f s 0 z + er_ch f s 1 z + er_ch f s 2 z + er_ch f s 3 z = er_mn s z
  | 0, _ => rfl
  | z + 1, h => by
    have h1 := er_ch_sum f s z (fun k hk => h k (by omega))
    have h2 := h z (by omega)
    have h3 : f z = 0 ∨ f z = 1 ∨ f z = 2 ∨ f z = 3 := by omega
    unfold er_ch er_mn
    by_cases hb : er_bi s z = 1
    · rcases h3 with e | e | e | e <;> simp [hb, e] <;> omega
    · simp [hb]
      omega
theorem er_cn_sum (f : Nat → Nat) : ∀ z, (∀ k, k < z → f k < 4) → er_cn f 0 z + er_cn f 1 z + er_cn f 2 z + er_cn f 3 z = z
  | 0, _ => rfl
  | z + 1, h => by
    have h1 := er_cn_sum f z (fun k hk => h k (by omega))
    have h2 := h z (by omega)
    have h3 : f z = 0 ∨ f z = 1 ∨ f z = 2 ∨ f z = 3 := by omega
    unfold er_cn
    rcases h3 with e | e | e | e <;> simp [e] <;> omega
theorem er_chC {f : Nat → Nat} {s t j : Nat} : ∀ z, (∀ k, k < z → er_bi s k = er_bi t k) → er_ch f s j z = er_ch f t j z
  | 0, _ => rfl
  | z + 1, h => by
    unfold er_ch
    rw [er_chC z (fun k hk => h k (by omega)), h z (by omega)]
theorem er_bi_hi {s z : Nat} (h : s < 2 ^ z) : er_bi s z = 0 := by
  unfold er_bi
  rw [Nat.div_eq_of_lt h]
theorem er_bi_top {s z : Nat} (h : s < 2 ^ z) : er_bi (s + 2 ^ z) z = 1 := by
  unfold er_bi
  rw [Nat.add_div_right _ (Nat.two_pow_pos z), Nat.div_eq_of_lt h]
theorem er_bi_lo {s z k : Nat} (h : k < z) : er_bi (s + 2 ^ z) k = er_bi s k := by
  unfold er_bi
  have e : 2 ^ z = 2 ^ k * (2 * 2 ^ (z - k - 1)) := by
    rw [← Nat.pow_succ', ← Nat.pow_add]
    congr 1
    omega
  rw [e, Nat.add_mul_div_left _ _ (Nat.two_pow_pos k)]
  omega
theorem er_ach (f : Nat → Nat) : ∀ (z : Nat) (c : Nat → Nat), (∀ j, c j ≤ er_cn f j z) → ∃ s, s < 2 ^ z ∧ ∀ j, er_ch f s j z = c j
  | 0, c, h => ⟨0, by decide, fun j => by have := h j; unfold er_cn at this; unfold er_ch; omega⟩
  | z + 1, c, h => by
    by_cases hc : c (f z) ≤ er_cn f (f z) z
    · obtain ⟨s, hs, e⟩ := er_ach f z c (fun j => by
        by_cases hj : f z = j
        · subst hj; exact hc
        · have := h j
          unfold er_cn at this
          rw [if_neg hj] at this
          omega)
      refine ⟨s, by rw [Nat.pow_succ]; omega, fun j => ?_⟩
      unfold er_ch
      rw [e j, er_bi_hi hs]
      simp
    · obtain ⟨s, hs, e⟩ := er_ach f z (fun j => if f z = j then c j - 1 else c j) (fun j => by
        have := h j
        unfold er_cn at this
        by_cases hj : f z = j
        · rw [if_pos hj] at this ⊢
          omega
        · rw [if_neg hj] at this ⊢
          omega)
      refine ⟨s + 2 ^ z, by rw [Nat.pow_succ]; omega, fun j => ?_⟩
      unfold er_ch
      rw [er_chC (t := s) z (fun k hk => er_bi_lo hk), e j, er_bi_top hs]
      by_cases hj : f z = j
      · subst hj
        simp
        omega
      · simp [hj]
/-- some set of c places does P  <->  some four numbers below the counts do -/
theorem er_set4 (f : Nat → Nat) (z c : Nat) (hf : ∀ k, k < z → f k < 4) (P : Nat → Nat → Nat → Nat → Prop) :
    (∃ s, s < 2 ^ z ∧ er_mn s z = c ∧ P (er_ch f s 0 z) (er_ch f s 1 z) (er_ch f s 2 z) (er_ch f s 3 z)) ↔ ∃ a b d e, a ≤ er_cn f 0 z ∧ b ≤ er_cn f 1 z ∧ d ≤ er_cn f 2 z ∧ e ≤ er_cn f 3 z ∧ a + b + d + e = c ∧ P a b d e := by
  constructor
  · rintro ⟨s, -, hm, hP⟩
    exact ⟨_, _, _, _, er_ch_le f s 0 z, er_ch_le f s 1 z, er_ch_le f s 2 z, er_ch_le f s 3 z, by rw [er_ch_sum f s z hf, hm], hP⟩
  · rintro ⟨a, b, d, e, ha, hb, hd, he, hs, hP⟩
    obtain ⟨s, h1, h2⟩ := er_ach f z (fun j => if j = 0 then a else if j = 1 then b else if j = 2 then d else if j = 3 then e else 0) (fun j => by
      by_cases h0 : j = 0
      · subst h0; simpa using ha
      · by_cases h1 : j = 1
        · subst h1; simpa using hb
        · by_cases h2 : j = 2
          · subst h2; simpa using hd
          · by_cases h3 : j = 3
            · subst h3; simpa using he
            · simp [h0, h1, h2, h3])
    have e0 := h2 0
    have e1 := h2 1
    have e2 := h2 2
    have e3 := h2 3
    simp at e0 e1 e2 e3
    refine ⟨s, h1, ?_, ?_⟩
    · rw [← er_ch_sum f s z hf, e0, e1, e2, e3, hs]
    · rw [e0, e1, e2, e3]
      exact hP
