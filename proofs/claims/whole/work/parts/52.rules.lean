/-! the rules: n nodes, F liars; r the rules' cell -/
def er_Rl (T M : er_Me) (r n F : Int) : Prop := 0 < r ∧ T r (-2) = 2 ∧ M r 0 = n ∧ M r 1 = F ∧ M r 2 = n - F ∧ M r 3 = (n + F) / 2 + 1 ∧ 4 ≤ n ∧ n ≤ 7 ∧ F = (n - 1) / 3
theorem p_isFull {T M : er_Me} {r n F a : Int} (hr : er_Rl T M r n F) (hR : er_Rw T a) : f_Rules_isFull r a T M = some (if M a 3 < n - F then 0 else 1, M) := by
  obtain ⟨-, r1, -, -, r4, -⟩ := hr
  unfold f_Rules_isFull
  rw [if_pos hR.2.1, if_pos r1, r4]
  split <;> rfl
theorem p_mostChosen {T M : er_Me} {r n F a x : Int} (hr : er_Rl T M r n F) (hR : er_Rw T a) (hx : 0 ≤ x ∧ x < 4) : f_Rules_mostChosen r a x T M = some (er_min (M (a + 3) x) (n - F), M) := by
  obtain ⟨-, r1, -, -, r4, -⟩ := hr
  obtain ⟨ha, s1, s2, s3, s4, s5, s6, s7, s8, s9, s10⟩ := hR
  unfold f_Rules_mostChosen
  rw [s4, s10, if_pos ⟨s1, by omega⟩, if_pos ⟨s9, hx⟩, if_pos r1, r4]
theorem p_isMajority {T M : er_Me} {r n F k : Int} (hr : er_Rl T M r n F) (hk : 0 ≤ k ∧ k ≤ 7) : f_Rules_isMajority r k T M = some (if n < 2 * k then 1 else 0, M) := by
  obtain ⟨-, r1, r2, -⟩ := hr
  unfold f_Rules_isMajority
  rw [if_pos r1, r2, er_mulE (by constructor <;> omega)]
  by_cases h : 2 * k ≤ n
  · rw [if_pos h, if_neg (by omega)]
  · rw [if_neg h, if_pos (by omega)]
theorem p_canStayDivided {T M : er_Me} {r n F a : Int} (hr : er_Rl T M r n F) (hR : er_Rw T a) (h0 : 0 ≤ M (a + 3) 0 ∧ M (a + 3) 0 ≤ 7) (h1 : 0 ≤ M (a + 3) 1 ∧ M (a + 3) 1 ≤ 7) : f_Rules_canStayDivided r a T M = some (if er_min (M (a + 3) 0) (n / 2) + er_min (M (a + 3) 1) (n / 2) < n - F then 0 else 1, M) := by
  obtain ⟨-, r1, r2, r3, r4, -, q1, q2, q3⟩ := hr
  obtain ⟨ha, s1, s2, s3, s4, s5, s6, s7, s8, s9, s10⟩ := hR
  have e : er_div n 2 = n / 2 := er_divE (by omega) (by omega) (by omega) (by omega)
  unfold f_Rules_canStayDivided
  dsimp only [er_le]
  rw [s4, s10, if_pos ⟨s1, by omega⟩, if_pos ⟨s9, by omega⟩, if_pos r1, if_pos (by omega), r2, r4, e, er_addE (by unfold er_min; constructor <;> (split <;> split <;> omega))]
  split <;> rfl
theorem p_canNeedToss {T M : er_Me} {r n F a : Int} (hr : er_Rl T M r n F) (hR : er_Rw T a) (h0 : 0 ≤ M (a + 3) 0 ∧ M (a + 3) 0 ≤ 7) (h1 : 0 ≤ M (a + 3) 1 ∧ M (a + 3) 1 ≤ 7) (h2 : 0 ≤ M (a + 3) 2 ∧ M (a + 3) 2 ≤ 7) (h3 : 0 ≤ M (a + 3) 3 ∧ M (a + 3) 3 ≤ 7) : f_Rules_canNeedToss r a T M = some (if M (a + 3) 0 + M (a + 3) 1 + er_min (M (a + 3) 2) F + er_min (M (a + 3) 3) F < n - F then 0 else 1, M) := by
  obtain ⟨-, r1, r2, r3, r4, -, q1, q2, q3⟩ := hr
  obtain ⟨ha, s1, s2, s3, s4, s5, s6, s7, s8, s9, s10⟩ := hR
  have b2 : 0 ≤ er_min (M (a + 3) 2) F ∧ er_min (M (a + 3) 2) F ≤ 7 := by unfold er_min; constructor <;> (split <;> omega)
  have b3 : 0 ≤ er_min (M (a + 3) 3) F ∧ er_min (M (a + 3) 3) F ≤ 7 := by unfold er_min; constructor <;> (split <;> omega)
  unfold f_Rules_canNeedToss
  dsimp only [er_le]
  rw [s4, s10, if_pos ⟨s1, by omega⟩, if_pos ⟨s9, by omega⟩, if_pos r1, if_pos (by omega), if_pos (by omega), if_pos (by omega), r3, r4]
  simp (disch := (constructor <;> omega)) only [er_addE]
  split <;> rfl
theorem p_canPrevail {T M : er_Me} {r n F a x : Int} (hr : er_Rl T M r n F) (hR : er_Rw T a) (hx : x = 0 ∨ x = 1) (h0 : 0 ≤ M (a + 3) x ∧ M (a + 3) x ≤ 7) : f_Rules_canPrevail r a x T M = some (if n - F < 2 * er_min (M (a + 3) x) (n - F) ∨ x = 0 ∧ 2 * er_min (M (a + 3) x) (n - F) = n - F then 1 else 0, M) := by
  have hm := p_mostChosen hr hR (x := x) (by omega)
  obtain ⟨-, r1, r2, r3, r4, -, q1, q2, q3⟩ := hr
  have b2 : 0 ≤ er_min (M (a + 3) x) (n - F) ∧ er_min (M (a + 3) x) (n - F) ≤ 7 := by unfold er_min; constructor <;> (split <;> omega)
  unfold f_Rules_canPrevail
  rw [if_pos r1, hm, Option.bind_some]
  dsimp only [er_le]
  simp (disch := (constructor <;> omega)) only [r4, er_mulE]
  by_cases c1 : n - F < 2 * er_min (M (a + 3) x) (n - F)
  · rw [if_pos c1, if_pos (Or.inl c1)]
  · rw [if_neg c1]
    by_cases c2 : x = 0
    · rw [if_pos c2]
      by_cases c3 : 2 * er_min (M (a + 3) x) (n - F) = n - F
      · rw [if_pos c3, if_pos (Or.inr ⟨c2, c3⟩)]
      · rw [if_neg c3, if_neg (by omega)]
    · rw [if_neg c2, if_neg (by omega)]
theorem p_prevailing {T M : er_Me} {r n F a : Int} (hr : er_Rl T M r n F) (hR : er_Rw T a) (h7 : M a 3 ≤ 7) (hf : n - F ≤ M a 3) : f_Rules_prevailing r a T M = some (if (er_ci M a 0 (n - F).toNat) < (er_ci M a 1 (n - F).toNat) then 1 else 0, M) := by
  obtain ⟨-, r1, r2, r3, r4, -, q1, q2, q3⟩ := hr
  have k1 := p_countInFirst (x := 1) hR h7 hf (n - F).toNat (by omega) er_fu 0 (Nat.zero_le _) (by unfold er_fu; omega)
  have k0 := p_countInFirst (x := 0) hR h7 hf (n - F).toNat (by omega) er_fu 0 (Nat.zero_le _) (by unfold er_fu; omega)
  have k1 : f_Row_countInFirst a (n - F) 1 T M = _ := k1
  have k0 : f_Row_countInFirst a (n - F) 0 T M = _ := k0
  unfold f_Rules_prevailing
  rw [if_pos r1, if_pos hR.2.1, r4, k1, Option.bind_some]
  dsimp only
  rw [r4, k0, Option.bind_some]
  dsimp only
  by_cases h : er_ci M a 0 (n - F).toNat < er_ci M a 1 (n - F).toNat
  · rw [if_neg (by omega), if_pos h]
  · rw [if_pos (by omega), if_neg h]
theorem p_firmOr {T M : er_Me} {r n F a o : Int} (hr : er_Rl T M r n F) (hR : er_Rw T a) (h7 : M a 3 ≤ 7) (hf : n - F ≤ M a 3) : f_Rules_firmOr r a o T M = some (if n < 2 * (er_ci M a 0 (n - F).toNat : Int) then 2 else if n < 2 * (er_ci M a 1 (n - F).toNat : Int) then 3 else o, M) := by
  have hr' := hr
  obtain ⟨-, r1, r2, r3, r4, -, q1, q2, q3⟩ := hr
  have k1 := p_countInFirst (x := 1) hR h7 hf (n - F).toNat (by omega) er_fu 0 (Nat.zero_le _) (by unfold er_fu; omega)
  have k0 := p_countInFirst (x := 0) hR h7 hf (n - F).toNat (by omega) er_fu 0 (Nat.zero_le _) (by unfold er_fu; omega)
  have k1 : f_Row_countInFirst a (n - F) 1 T M = _ := k1
  have k0 : f_Row_countInFirst a (n - F) 0 T M = _ := k0
  have l1 := er_ci_le M a 1 (n - F).toNat
  have l0 := er_ci_le M a 0 (n - F).toNat
  have a1 : er_add 0 1 = 1 := by decide +kernel
  have a2 : er_add 0 2 = 2 := by decide +kernel
  have a3 : er_add 1 2 = 3 := by decide +kernel
  have a4 : er_add 1 1 = 2 := by decide +kernel
  have s2 : ∀ k, f_Rules_firmOr_2 (k + 1) T r a o 2 M = some (o, M) := by
    intro k
    show f_Rules_firmOr_2_b (f_Rules_firmOr_2 k T) r a o 2 T M = _
    unfold f_Rules_firmOr_2_b
    rw [if_pos (by omega)]
  have s1 : ∀ k, f_Rules_firmOr_2 (k + 2) T r a o 1 M = some (if n < 2 * (er_ci M a 1 (n - F).toNat : Int) then 3 else o, M) := by
    intro k
    show f_Rules_firmOr_2_b (f_Rules_firmOr_2 (k + 1) T) r a o 1 T M = _
    unfold f_Rules_firmOr_2_b
    rw [if_neg (by omega), if_pos r1, if_pos hR.2.1, r4, k1, Option.bind_some]
    dsimp only [er_le]
    rw [p_isMajority hr' (by omega), Option.bind_some]
    dsimp only
    rw [a3, a4, s2]
    by_cases h : n < 2 * (er_ci M a 1 (n - F).toNat : Int) <;> simp [h]
  show f_Rules_firmOr_2_b (f_Rules_firmOr_2 4095 T) r a o 0 T M = _
  unfold f_Rules_firmOr_2_b
  rw [if_neg (by omega), if_pos r1, if_pos hR.2.1, r4, k0, Option.bind_some]
  dsimp only [er_le]
  rw [p_isMajority hr' (by omega), Option.bind_some]
  dsimp only
  rw [a1, a2, s1 4093]
  by_cases h : n < 2 * (er_ci M a 0 (n - F).toNat : Int) <;> simp [h]
theorem p_heldFirm {T M : er_Me} {r n F a o : Int} (hr : er_Rl T M r n F) (hR : er_Rw T a) (h7 : M a 3 ≤ 7) (hf : n - F ≤ M a 3) : f_Rules_heldFirm r a o T M = some (if o ≤ (er_ci M a 2 (n - F).toNat : Int) then 0 else if o ≤ (er_ci M a 3 (n - F).toNat : Int) then 1 else -1, M) := by
  obtain ⟨-, r1, r2, r3, r4, -, q1, q2, q3⟩ := hr
  have k1 := p_countInFirst (x := 3) hR h7 hf (n - F).toNat (by omega) er_fu 0 (Nat.zero_le _) (by unfold er_fu; omega)
  have k0 := p_countInFirst (x := 2) hR h7 hf (n - F).toNat (by omega) er_fu 0 (Nat.zero_le _) (by unfold er_fu; omega)
  have k1 : f_Row_countInFirst a (n - F) 3 T M = _ := k1
  have k0 : f_Row_countInFirst a (n - F) 2 T M = _ := k0
  have a1 : er_add 0 1 = 1 := by decide +kernel
  have a2 : er_add 0 2 = 2 := by decide +kernel
  have a3 : er_add 1 2 = 3 := by decide +kernel
  have a4 : er_add 1 1 = 2 := by decide +kernel
  have s2 : ∀ k, f_Rules_heldFirm_2 (k + 1) T r a o 2 M = some (-1, M) := by
    intro k
    show f_Rules_heldFirm_2_b (f_Rules_heldFirm_2 k T) r a o 2 T M = _
    unfold f_Rules_heldFirm_2_b
    rw [if_pos (by omega)]
  have s1 : ∀ k, f_Rules_heldFirm_2 (k + 2) T r a o 1 M = some (if o ≤ (er_ci M a 3 (n - F).toNat : Int) then 1 else -1, M) := by
    intro k
    show f_Rules_heldFirm_2_b (f_Rules_heldFirm_2 (k + 1) T) r a o 1 T M = _
    unfold f_Rules_heldFirm_2_b
    dsimp only [er_le]
    rw [a3, a4, if_neg (by omega), if_pos r1, if_pos hR.2.1, r4, k1, Option.bind_some]
    dsimp only
    rw [s2]
    by_cases h : o ≤ (er_ci M a 3 (n - F).toNat : Int)
    · rw [if_pos h, if_neg (by omega)]
    · rw [if_neg h, if_pos (by omega)]
  show f_Rules_heldFirm_2_b (f_Rules_heldFirm_2 4095 T) r a o 0 T M = _
  unfold f_Rules_heldFirm_2_b
  dsimp only [er_le]
  rw [a1, a2, if_neg (by omega), if_pos r1, if_pos hR.2.1, r4, k0, Option.bind_some]
  dsimp only
  rw [s1 4093]
  by_cases h : o ≤ (er_ci M a 2 (n - F).toNat : Int)
  · rw [if_pos h, if_neg (by omega)]
  · rw [if_neg h, if_pos (by omega)]
