/-! rows and rules -/
def er_Rw (T : er_Me) (a : Int) : Prop := 0 < a ∧ T a (-2) = 6 ∧ T a 0 = a + 1 ∧ T a 1 = a + 2 ∧ T a 2 = a + 3 ∧ T (a + 1) (-2) = 101 ∧ T (a + 1) (-1) = 7 ∧ T (a + 2) (-2) = 101 ∧ T (a + 2) (-1) = 7 ∧ T (a + 3) (-2) = 101 ∧ T (a + 3) (-1) = 4
theorem p_Row_append {T M : er_Me} {a p x : Int} (hR : er_Rw T a) (h0 : 0 ≤ M a 3) (h1 : M a 3 < 7) (hx : 0 ≤ x ∧ x < 4) (hc : er_rg (M (a + 3) x + 1)) : f_Row_append a p x T M = some (er_up (er_up (er_up (er_up M (a + 1) (M a 3) p) (a + 2) (M a 3) x) (a + 3) x (M (a + 3) x + 1)) a 3 (M a 3 + 1)) := by
  obtain ⟨ha, r1, r2, r3, r4, r5, r6, r7, r8, r9, r10⟩ := hR
  unfold f_Row_append
  dsimp only [er_le]
  rw [r2, r3, r4, r6, r8, r10, if_pos r1, if_pos (by omega), if_pos r5, if_neg (by omega), if_pos ⟨h0, h1⟩, if_pos (by omega)]
  simp (disch := omega) only [er_upA]
  rw [if_pos ⟨r7, h0, h1⟩, if_pos (by omega), if_pos ⟨r9, hx⟩, er_addE hc, er_addE (by constructor <;> omega)]
theorem p_Row_speakerAt {T M : er_Me} {a k : Int} (hR : er_Rw T a) (h1 : M a 3 ≤ 7) : f_Row_speakerAt a k T M = some (if 0 ≤ k ∧ k < M a 3 then M (a + 1) k else -1, M) := by
  obtain ⟨ha, r1, r2, r3, r4, r5, r6, r7, r8, r9, r10⟩ := hR
  unfold f_Row_speakerAt
  rw [r2, r6]
  by_cases hk : k < 0
  · rw [if_pos hk, if_neg (by omega)]
  · by_cases hk2 : M a 3 ≤ k
    · rw [if_neg hk, if_pos r1, if_pos hk2, if_neg (by omega)]
    · rw [if_neg hk, if_pos r1, if_neg hk2, if_pos (by omega), if_pos ⟨r5, by omega, by omega⟩, if_pos (by omega)]
theorem p_holds_yes {T M : er_Me} {a p : Int} (hR : er_Rw T a) (h7 : M a 3 ≤ 7) {j : Int} (hj : j < M a 3) (hp : M (a + 1) j = p) : ∀ (n : Nat) (k : Int), 0 ≤ k → k ≤ j → j - k < n → f_Row_holds_2 n T a p k M = some (1, M)
  | 0, k, _, _, h => by omega
  | n + 1, k, h0, h1, h2 => by
    have ih := p_holds_yes hR h7 hj hp n
    obtain ⟨ha, r1, r2, r3, r4, r5, r6, r7, r8, r9, r10⟩ := hR
    show f_Row_holds_2_b (f_Row_holds_2 n T) a p k T M = _
    unfold f_Row_holds_2_b
    dsimp only [er_le]
    rw [r2, r6, if_pos r1, if_neg (by omega), if_pos (by omega), if_pos ⟨r5, h0, by omega⟩]
    by_cases hk : M (a + 1) k = p
    · rw [if_pos hk]
    · have : k ≠ j := fun e => hk (by rw [e]; exact hp)
      rw [if_neg hk, er_addE (by constructor <;> omega)]
      exact ih (k + 1) (by omega) (by omega) (by omega)
theorem p_holds_no {T M : er_Me} {a p : Int} (hR : er_Rw T a) (h7 : M a 3 ≤ 7) (hp : ∀ j, 0 ≤ j → j < M a 3 → M (a + 1) j ≠ p) : ∀ (n : Nat) (k : Int), 0 ≤ k → k ≤ M a 3 → M a 3 - k < n → f_Row_holds_2 n T a p k M = some (0, M)
  | 0, k, _, _, h => by
    exfalso
    omega
  | n + 1, k, h0, h3, h2 => by
    have ih := p_holds_no hR h7 hp n
    obtain ⟨ha, r1, r2, r3, r4, r5, r6, r7, r8, r9, r10⟩ := hR
    show f_Row_holds_2_b (f_Row_holds_2 n T) a p k T M = _
    unfold f_Row_holds_2_b
    dsimp only [er_le]
    by_cases hz : M a 3 ≤ k
    · rw [if_pos r1, if_pos hz]
    · rw [r2, r6, if_pos r1, if_neg hz, if_pos (by omega), if_pos ⟨r5, h0, by omega⟩, if_neg (hp k h0 (by omega)), er_addE (by constructor <;> omega)]
      exact ih (k + 1) (by omega) (by omega) (by omega)
theorem p_holdsWith_yes {T M : er_Me} {a p x : Int} (hR : er_Rw T a) (h7 : M a 3 ≤ 7) {j : Int} (hj : j < M a 3) (hp : M (a + 1) j = p) : ∀ (n : Nat) (k : Int), 0 ≤ k → k ≤ j → j - k < n → (∀ i, k ≤ i → i < j → M (a + 1) i ≠ p) → f_Row_holdsWith_2 n T a p x k M = some (if M (a + 2) j = x then 1 else 0, M)
  | 0, k, _, _, h, _ => by omega
  | n + 1, k, h0, h1, h2, hu => by
    have ih := p_holdsWith_yes (x := x) hR h7 hj hp n
    obtain ⟨ha, r1, r2, r3, r4, r5, r6, r7, r8, r9, r10⟩ := hR
    show f_Row_holdsWith_2_b (f_Row_holdsWith_2 n T) a p x k T M = _
    unfold f_Row_holdsWith_2_b
    dsimp only [er_le]
    rw [r2, r3, r6, r8, if_pos r1, if_neg (by omega), if_pos (by omega), if_pos ⟨r5, h0, by omega⟩]
    by_cases hk : M (a + 1) k = p
    · have e : k = j := by
        rcases Int.lt_or_le k j with q | q
        · exact absurd hk (hu k (Int.le_refl _) q)
        · omega
      rw [if_pos hk, if_pos (by omega), if_pos ⟨r7, by omega⟩, e]
      by_cases hx : M (a + 2) j = x
      · rw [if_pos hx, if_pos hx]
      · rw [if_neg hx, if_neg hx]
    · have : k ≠ j := fun e => hk (by rw [e]; exact hp)
      rw [if_neg hk, er_addE (by constructor <;> omega)]
      exact ih (k + 1) (by omega) (by omega) (by omega) (fun i hi => hu i (by omega))
theorem p_holdsWith_no {T M : er_Me} {a p x : Int} (hR : er_Rw T a) (h7 : M a 3 ≤ 7) (hp : ∀ j, 0 ≤ j → j < M a 3 → M (a + 1) j ≠ p) : ∀ (n : Nat) (k : Int), 0 ≤ k → k ≤ M a 3 → M a 3 - k < n → f_Row_holdsWith_2 n T a p x k M = some (0, M)
  | 0, k, _, _, h => by
    exfalso
    omega
  | n + 1, k, h0, h3, h2 => by
    have ih := p_holdsWith_no (x := x) hR h7 hp n
    obtain ⟨ha, r1, r2, r3, r4, r5, r6, r7, r8, r9, r10⟩ := hR
    show f_Row_holdsWith_2_b (f_Row_holdsWith_2 n T) a p x k T M = _
    unfold f_Row_holdsWith_2_b
    dsimp only [er_le]
    by_cases hz : M a 3 ≤ k
    · rw [if_pos r1, if_pos hz]
    · rw [r2, r6, if_pos r1, if_neg hz, if_pos (by omega), if_pos ⟨r5, h0, by omega⟩, if_neg (hp k h0 (by omega)), er_addE (by constructor <;> omega)]
      exact ih (k + 1) (by omega) (by omega) (by omega)
/-- how many of the first m places say x -/
def er_ci (M : er_Me) (a x : Int) (m : Nat) : Nat := er_sm (fun k => if M (a + 2) (k : Int) = x then 1 else 0) m
theorem er_ci_le (M : er_Me) (a x : Int) (m : Nat) : er_ci M a x m ≤ m := er_sm_le _ m (fun k _ => by by_cases h : M (a + 2) (k : Int) = x <;> simp [h])
theorem p_countInFirst {T M : er_Me} {a c x : Int} (hR : er_Rw T a) (h7 : M a 3 ≤ 7) (hc : c ≤ M a 3) (m : Nat) (hm : c = (m : Int)) : ∀ (n k : Nat), k ≤ m → m - k < n → f_Row_countInFirst_5 n T a c x (er_ci M a x k : Int) (k : Int) M = some ((er_ci M a x m : Int), M)
  | 0, k, _, h => by omega
  | n + 1, k, h0, h2 => by
    have ih := p_countInFirst (x := x) hR h7 hc m hm n
    obtain ⟨ha, r1, r2, r3, r4, r5, r6, r7, r8, r9, r10⟩ := hR
    have hle := er_ci_le M a x k
    show f_Row_countInFirst_5_b (f_Row_countInFirst_5 n T) a c x (er_ci M a x k : Int) (k : Int) T M = _
    unfold f_Row_countInFirst_5_b
    dsimp only [er_le]
    by_cases hz : c ≤ (k : Int)
    · have e : k = m := by omega
      rw [if_pos hz, e]
    · have e1 : ((k : Int) + 1) = ((k + 1 : Nat) : Int) := by omega
      rw [r3, r8, if_neg hz, if_pos r1, if_neg (by omega), if_pos (by omega), if_pos ⟨r7, by omega, by omega⟩, er_addE (by constructor <;> omega), er_addE (by constructor <;> omega), e1]
      have hi := ih (k + 1) (by omega) (by omega)
      by_cases hx : M (a + 2) (k : Int) = x
      · have e2 : er_ci M a x (k + 1) = er_ci M a x k + 1 := by unfold er_ci; rw [er_sm, if_pos hx]
        rw [if_pos hx]
        rw [e2] at hi
        exact hi
      · have e2 : er_ci M a x (k + 1) = er_ci M a x k := by unfold er_ci; rw [er_sm, if_neg hx]; rfl
        rw [if_neg hx]
        rw [e2] at hi
        exact hi
