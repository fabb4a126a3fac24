/-! the law's loop -/
theorem l_votes {n F : Int} {T M S : er_Me} {xs : Int → Int} {xn v3 : Int} {k28 : Int → Int → Int → er_Me → er_Me → Option Unit} (h : er_W n F T M S) (h3 : 1 ≤ v3) (h4 : v3 + 6 ≤ xn) (h5 : xn ≤ 3073) {b : Int} (hb : b = if xs (v3 + 5) = 0 then 0 else 1) (hk : k28 1 (4 + 46 * n) (v3 + 6) T M = some ()) : f_Law_law_430 xs xn k28 1 (4 + 46 * n) v3 1 (xs (v3 + 1)) (xs (v3 + 2)) (xs (v3 + 3)) (xs (v3 + 4)) b T M = some () := by
  have i1 : er_add v3 1 = v3 + 1 := er_addE (by constructor <;> omega)
  have i2 : er_add v3 2 = v3 + 2 := er_addE (by constructor <;> omega)
  have i3 : er_add v3 3 = v3 + 3 := er_addE (by constructor <;> omega)
  have i4 : er_add v3 4 = v3 + 4 := er_addE (by constructor <;> omega)
  have i5 : er_add v3 5 = v3 + 5 := er_addE (by constructor <;> omega)
  have i6 : er_add v3 6 = v3 + 6 := er_addE (by constructor <;> omega)
  have b1 : 0 ≤ v3 + 1 ∧ v3 + 1 < xn := by omega
  have b2 : 0 ≤ v3 + 2 ∧ v3 + 2 < xn := by omega
  have b3 : 0 ≤ v3 + 3 ∧ v3 + 3 < xn := by omega
  have b4 : 0 ≤ v3 + 4 ∧ v3 + 4 < xn := by omega
  have b5 : 0 ≤ v3 + 5 ∧ v3 + 5 < xn := by omega
  have m0 := h.2.2.1.1.2.1
  unfold f_Law_law_430
  simp only [i1, i2, i3, i4, i5]
  rw [if_pos h.1.1, k_votes h, Option.bind_some]
  dsimp only
  rw [if_pos b1, if_pos b2, if_pos b3, if_pos b4, if_pos b5]
  unfold f_Law_law_467
  dsimp only [er_le]
  rw [i6]
  by_cases hx : xs (v3 + 5) = 0
  · rw [if_pos hx] at hb
    rw [if_pos hx, if_pos m0, hb, r_votes h.2.2.1, Option.bind_some]
    dsimp only
    rw [if_pos rfl]
    exact hk
  · rw [if_neg hx] at hb
    rw [if_neg hx, if_pos m0, hb, r_votes h.2.2.1, Option.bind_some]
    dsimp only
    rw [if_pos rfl]
    exact hk
set_option maxHeartbeats 1000000 in
theorem l_loop {n F : Int} {T : er_Me} {xs : Int → Int} {xn : Int} (h5 : xn ≤ 3073) (h6 : 0 ≤ xn) : ∀ (fuel : Nat) (v3 : Int) (M S : er_Me), er_W n F T M S → 1 ≤ v3 → 1 ≤ fuel → xn < v3 + fuel → f_Law_law_28 xs xn fuel 1 (4 + 46 * n) v3 T M = some ()
  | 0, v3, M, S, _, _, h, _ => absurd h (by omega)
  | fuel + 1, v3, M, S, h, h3, _, hf => by
    show f_Law_law_28_b xs xn (f_Law_law_28 xs xn fuel) 1 (4 + 46 * n) v3 T M = some ()
    unfold f_Law_law_28_b
    dsimp only [er_le]
    have i0 : er_sub xn 6 = xn - 6 := er_subE (by constructor <;> omega)
    rw [i0]
    by_cases he : xn - 6 < v3
    · rw [if_pos he]
    · have ih : ∀ M' S', er_W n F T M' S' → f_Law_law_28 xs xn fuel 1 (4 + 46 * n) (v3 + 6) T M' = some () := fun M' S' q => l_loop h5 h6 fuel (v3 + 6) M' S' q (by omega) (by omega) (by omega)
      have i1 : er_add v3 1 = v3 + 1 := er_addE (by constructor <;> omega)
      have i2 : er_add v3 2 = v3 + 2 := er_addE (by constructor <;> omega)
      have i3 : er_add v3 3 = v3 + 3 := er_addE (by constructor <;> omega)
      have i4 : er_add v3 4 = v3 + 4 := er_addE (by constructor <;> omega)
      have i5 : er_add v3 5 = v3 + 5 := er_addE (by constructor <;> omega)
      have i6 : er_add v3 6 = v3 + 6 := er_addE (by constructor <;> omega)
      have b0 : 0 ≤ v3 ∧ v3 < xn := by omega
      have b1 : 0 ≤ v3 + 1 ∧ v3 + 1 < xn := by omega
      have b2 : 0 ≤ v3 + 2 ∧ v3 + 2 < xn := by omega
      have b3 : 0 ≤ v3 + 3 ∧ v3 + 3 < xn := by omega
      have b4 : 0 ≤ v3 + 4 ∧ v3 + 4 < xn := by omega
      have b5 : 0 ≤ v3 + 5 ∧ v3 + 5 < xn := by omega
      have m0 := h.2.2.1.1.2.1
      have c0 := h.1.1
      have hSI : ∀ w, 0 ≤ w → w < n → er_SI n w S := fun w w0 w1 => (h.2.1.2.2.1 w w0 w1).2
      have ha := er_and15 (xs v3)
      simp only [i1, i2, i3, i4, i5, i6]
      rw [if_neg he, if_pos b0]
      generalize er_and (xs v3) 15 = k at ha ⊢
      by_cases c20 : k = 0
      · obtain ⟨a, M1, M2, S2, e1, e2, e3⟩ := m_corrupt (v := xs (v3 + 1)) h
        rw [if_pos c20, if_pos b1, if_pos c0, e1, Option.bind_some]
        dsimp only
        rw [if_pos m0, e2, Option.bind_some]
        dsimp only
        rw [if_pos rfl]
        exact ih M2 S2 e3
      rw [if_neg c20]
      by_cases c21 : k = 1
      · obtain ⟨a, M1, M2, S2, e1, e2, e3⟩ := m_tosses (v := xs (v3 + 1)) (x := xs (v3 + 2)) h
        rw [if_pos c21, if_pos b1, if_pos b2, if_pos c0, e1, Option.bind_some]
        dsimp only
        rw [if_pos m0, e2, Option.bind_some]
        dsimp only
        rw [if_pos rfl]
        exact ih M2 S2 e3
      rw [if_neg c21]
      by_cases c22 : k = 2
      · obtain ⟨a, M1, M2, S2, e1, e2, e3⟩ := m_start (v := xs (v3 + 1)) (x := xs (v3 + 2)) h
        rw [if_pos c22, if_pos b1, if_pos b2, if_pos c0, e1, Option.bind_some]
        dsimp only
        rw [if_pos m0, e2, Option.bind_some]
        dsimp only
        rw [if_pos rfl]
        exact ih M2 S2 e3
      rw [if_neg c22]
      by_cases c23 : k = 3
      · obtain ⟨a, M1, M2, S2, e1, e2, e3⟩ := m_pass (v := xs (v3 + 1)) (w := xs (v3 + 2)) (x := xs (v3 + 3)) h
        rw [if_pos c23, if_pos b1, if_pos b2, if_pos b3, if_pos c0, e1, Option.bind_some]
        dsimp only
        rw [if_pos m0, e2, Option.bind_some]
        dsimp only
        rw [if_pos rfl]
        exact ih M2 S2 e3
      rw [if_neg c23]
      by_cases c24 : k = 4
      · obtain ⟨a, M1, M2, S2, e1, e2, e3⟩ := m_forge (v := xs (v3 + 1)) (w := xs (v3 + 2)) (s := xs (v3 + 3)) (p := xs (v3 + 4)) (c := xs (v3 + 5)) h
        rw [if_pos c24, if_pos b1, if_pos b2, if_pos b3, if_pos b4, if_pos b5, if_pos c0, e1, Option.bind_some]
        dsimp only
        rw [if_pos m0, e2, Option.bind_some]
        dsimp only
        rw [if_pos rfl]
        exact ih M2 S2 e3
      rw [if_neg c24]
      by_cases c25 : k = 5
      · rw [if_pos c25, if_pos b1, if_pos c0, k_sent h, Option.bind_some]
        dsimp only
        rw [if_pos m0, r_sent h.2.2.1, Option.bind_some]
        dsimp only
        rw [if_pos rfl]
        exact ih M S h
      rw [if_neg c25]
      by_cases c26 : k = 6
      · rw [if_pos c26, if_pos b1, if_pos b2, if_pos c0, k_message h, Option.bind_some]
        dsimp only
        rw [if_pos m0, r_message h.2.2.1 hSI, Option.bind_some]
        dsimp only
        rw [if_pos rfl]
        exact ih M S h
      rw [if_neg c26]
      by_cases c27 : k = 7
      · rw [if_pos c27, if_pos b1, if_pos b2, if_pos c0, k_waiting h, Option.bind_some]
        dsimp only
        rw [if_pos m0, r_waiting h.2.2.1, Option.bind_some]
        dsimp only
        rw [if_pos rfl]
        exact ih M S h
      rw [if_neg c27]
      by_cases c28 : k = 8
      · rw [if_pos c28, if_pos b1, if_pos b2, if_pos b3, if_pos b4, if_pos b5]
        by_cases hx : xs (v3 + 5) = 0
        · rw [if_pos hx]
          exact l_votes h h3 (by omega) h5 (if_pos hx).symm (ih M S h)
        · rw [if_neg hx]
          exact l_votes h h3 (by omega) h5 (if_neg hx).symm (ih M S h)
      rw [if_neg c28]
      by_cases c29 : k = 9
      · rw [if_pos c29, if_pos b1, if_pos b2, if_pos b3, if_pos c0, k_accepted h, Option.bind_some]
        dsimp only
        rw [if_pos m0, r_accepted h.2.2.1 hSI, Option.bind_some]
        dsimp only
        rw [if_pos rfl]
        exact ih M S h
      rw [if_neg c29]
      by_cases c30 : k = 10
      · rw [if_pos c30, if_pos b1, if_pos b2, if_pos b3, if_pos c0, k_rowAt h, Option.bind_some]
        dsimp only
        rw [if_pos m0, r_rowAt h.2.2.1 hSI, Option.bind_some]
        dsimp only
        rw [if_pos rfl]
        exact ih M S h
      rw [if_neg c30]
      by_cases c31 : k = 11
      · rw [if_pos c31, if_pos b1, if_pos c0, k_slot h, Option.bind_some]
        dsimp only
        rw [if_pos m0, r_slot h.2.2.1, Option.bind_some]
        dsimp only
        rw [if_pos rfl]
        exact ih M S h
      rw [if_neg c31]
      by_cases c32 : k = 12
      · rw [if_pos c32, if_pos b1, if_pos c0, k_value h, Option.bind_some]
        dsimp only
        rw [if_pos m0, r_value h.2.2.1, Option.bind_some]
        dsimp only
        rw [if_pos rfl]
        exact ih M S h
      rw [if_neg c32]
      by_cases c33 : k = 13
      · rw [if_pos c33, if_pos b1, if_pos c0, k_decided h, Option.bind_some]
        dsimp only
        rw [if_pos m0, r_decided h.2.2.1, Option.bind_some]
        dsimp only
        rw [if_pos rfl]
        exact ih M S h
      rw [if_neg c33]
      rw [if_pos (show k < 0 ∨ 13 < k by omega)]
      exact ih M S h
