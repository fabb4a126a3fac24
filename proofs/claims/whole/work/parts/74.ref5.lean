/-! the reference's validate -/
set_option maxHeartbeats 1000000 in
theorem r_val10 {n F R w s : Int} {T S : er_Me} (hI : er_SI n w S) (hw : 0 ≤ w ∧ w < n) (hn : n ≤ 7) (hs : 0 ≤ s ∧ s < 9) (k2 : Int → Int → Int → er_Me → Option (Int × er_Me)) : ∀ (m : Nat) (p : Int) (M : er_Me), er_RV n F R T M S → 0 ≤ p → p ≤ n → n - p < m → (∃ q M', p ≤ q ∧ q < n ∧ er_val n F S w s q ∧ (∀ r, p ≤ r → r < q → ¬ er_val n F S w s r) ∧ f_Mo_validate_10 k2 m T R w s p M = some (1, M') ∧ er_RV n F R T M' (g_val S w s q) ∧ er_Fm R M M') ∨ ((∀ r, p ≤ r → r < n → ¬ er_val n F S w s r) ∧ ∃ M', f_Mo_validate_10 k2 m T R w s p M = k2 R w (s + 1) M' ∧ er_RV n F R T M' S ∧ er_Fm R M M')
  | 0, p, M, _, _, _, hm => by
    exfalso
    omega
  | m + 1, p, M, h, h0, h1, hm => by
    have ih := r_val10 (R := R) (T := T) (F := F) hI hw hn hs k2 m
    have h' := h
    obtain ⟨g1, ⟨g2, g2b, q1, q2, q3⟩, g3⟩ := h
    have ha := g1.1
    have m0 := g1.2.1
    obtain ⟨a7, b7, c7⟩ := mo7 g1
    obtain ⟨a8, b8, c8⟩ := mo8 g1
    obtain ⟨a9, b9, c9⟩ := mo9 g1
    obtain ⟨a10, b10, c10⟩ := mo10 g1
    clear g1
    have e7 := g3 7 (by omega) (by omega)
    have e8 := g3 8 (by omega) (by omega)
    have i1 : er_add (er_mul 9 w) s = 9 * w + s := by rw [er_mulE (by constructor <;> omega), er_addE (by constructor <;> omega)]
    show (∃ q M', p ≤ q ∧ q < n ∧ er_val n F S w s q ∧ (∀ r, p ≤ r → r < q → ¬ er_val n F S w s r) ∧ f_Mo_validate_10_b k2 (f_Mo_validate_10 k2 m T) R w s p T M = some (1, M') ∧ er_RV n F R T M' (g_val S w s q) ∧ er_Fm R M M') ∨ ((∀ r, p ≤ r → r < n → ¬ er_val n F S w s r) ∧ ∃ M', f_Mo_validate_10_b k2 (f_Mo_validate_10 k2 m T) R w s p T M = k2 R w (s + 1) M' ∧ er_RV n F R T M' S ∧ er_Fm R M M')
    have skip : ∀ M1, er_RV n F R T M1 S → er_Fm R M M1 → ¬ er_val n F S w s p → p < n → f_Mo_validate_10_b k2 (f_Mo_validate_10 k2 m T) R w s p T M = f_Mo_validate_10 k2 m T R w s (p + 1) M1 → ((∃ q M', p ≤ q ∧ q < n ∧ er_val n F S w s q ∧ (∀ r, p ≤ r → r < q → ¬ er_val n F S w s r) ∧ f_Mo_validate_10_b k2 (f_Mo_validate_10 k2 m T) R w s p T M = some (1, M') ∧ er_RV n F R T M' (g_val S w s q) ∧ er_Fm R M M') ∨ ((∀ r, p ≤ r → r < n → ¬ er_val n F S w s r) ∧ ∃ M', f_Mo_validate_10_b k2 (f_Mo_validate_10 k2 m T) R w s p T M = k2 R w (s + 1) M' ∧ er_RV n F R T M' S ∧ er_Fm R M M')) := by
      intro M1 r1 r2 hno hp he
      rw [he]
      rcases ih (p + 1) M1 r1 (by omega) (by omega) (by omega) with ⟨q, M', a1, a2, a3, a4, a5, a6, a7⟩ | ⟨a1, M', a2, a3, a4⟩
      · refine Or.inl ⟨q, M', by omega, a2, a3, fun r r0 r1 => ?_, a5, a6, r2.tr a7⟩
        by_cases e : r = p
        · rw [e]; exact hno
        · exact a4 r (by omega) r1
      · refine Or.inr ⟨fun r r0 r1 => ?_, M', a2, a3, r2.tr a4⟩
        by_cases e : r = p
        · rw [e]; exact hno
        · exact a1 r (by omega) r1
    by_cases hp : n ≤ p
    · refine Or.inr ⟨fun r r0 r1 => by omega, M, ?_, h', er_Fm.rf R M⟩
      unfold f_Mo_validate_10_b
      dsimp only [er_le]
      rw [if_pos m0, g2, if_pos hp, er_addE (by constructor <;> omega)]
    · have hat := r_at (T := T) (M := M) (w := w) (s := s) (p := p) (by omega) hs (by omega)
      have hac := hI.2.2.2.1 (7 * s + p) (by omega) (by omega)
      rw [← Int.add_assoc] at hac
      have h8f := (hI.2.2.1 (7 * s + p) (by omega) (by omega)).2.2
      rw [← Int.add_assoc] at h8f
      have ip : er_add p 1 = p + 1 := er_addE (by constructor <;> omega)
      by_cases c1 : S 7 (63 * w + 7 * s + p) ≤ 0
      · refine skip M h' (er_Fm.rf R M) (fun q => by have := q.1; omega) (by omega) ?_
        unfold f_Mo_validate_10_b
        dsimp only [er_le]
        rw [if_pos m0, g2, if_neg hp, a7, c7, ip, if_pos (show 0 < R + 7 by omega), hat, Option.bind_some]
        dsimp only
        simp only [e7]
        rw [if_pos ⟨b7, by omega, by omega⟩, if_pos c1]
      · by_cases c2 : S 8 (63 * w + 7 * s + p) = 0
        · obtain ⟨v, M1, v1, v2, v3, v4⟩ := r_can (p := p) h' hI (by omega) hs (by omega) (by omega)
          have hb : f_Mo_validate_10_b k2 (f_Mo_validate_10 k2 m T) R w s p T M = if v = 0 then f_Mo_validate_10 k2 m T R w s (p + 1) M1 else some (1, er_up (er_up (er_up M1 (R + 8) (63 * w + 7 * s + p) 1) (R + 9) (63 * w + 7 * s + S 10 (9 * w + s)) p) (R + 10) (9 * w + s) (S 10 (9 * w + s) + 1)) := by
            have hz7 : 0 ≤ S 10 (9 * w + s) ∧ S 10 (9 * w + s) < 7 := by
              have := (hI.2.2.2.2.2 s hs.1 hs.2).1
              have := er_room hI hs (show 0 ≤ p ∧ p < n by omega) hn c2
              omega
            have f10 := v3.2.2 10 (by omega) (by omega)
            unfold f_Mo_validate_10_b
            dsimp only [er_le]
            rw [if_pos m0, g2, if_neg hp, a7, a8, a9, a10, c7, c8, c9, c10, ip, i1, if_pos (show 0 < R + 7 by omega), hat, Option.bind_some]
            dsimp only
            simp only [e7]
            rw [if_pos ⟨b7, by omega, by omega⟩, if_neg c1, if_pos (show 0 < R + 8 by omega), hat, Option.bind_some]
            dsimp only
            simp only [e8]
            rw [if_pos ⟨b8, by omega, by omega⟩, if_pos c2, v1, Option.bind_some]
            dsimp only
            by_cases hv : v = 0
            · rw [if_pos hv, if_pos hv]
            · rw [if_neg hv, if_neg hv, r_at (by omega) hs (by omega), Option.bind_some]
              dsimp only
              rw [if_pos (by omega), if_pos (show 0 < R + 9 by omega), if_pos (show 0 < R + 10 by omega), if_pos ⟨b10, by omega, by omega⟩, er_upF (show R + 10 ≠ R + 8 by omega), f10, r_at (by omega) hs (by omega), Option.bind_some]
              dsimp only
              rw [if_pos ⟨b9, by omega, by omega⟩, er_upF (show R + 10 ≠ R + 9 by omega), er_upF (show R + 10 ≠ R + 8 by omega), f10, er_addE (by constructor <;> omega)]
          by_cases hv : v = 0
          · refine skip M1 v3 v4 (fun q => ?_) (by omega) (by rw [hb, if_pos hv])
            have := v2.2.mpr q.2.2
            omega
          · rw [hb, if_neg hv]
            refine Or.inl ⟨p, _, by omega, by omega, ⟨by omega, c2, v2.2.mp (by have := v2.1; omega)⟩, fun r r0 r1 => by omega, rfl, ((v3.up (by omega) (by omega)).up (by omega) (by omega)).up (by omega) (by omega), ((v4.up (by omega) (by omega)).up (by omega) (by omega)).up (by omega) (by omega)⟩
        · refine skip M h' (er_Fm.rf R M) (fun q => c2 q.2.1) (by omega) ?_
          unfold f_Mo_validate_10_b
          dsimp only [er_le]
          rw [if_pos m0, g2, if_neg hp, a7, a8, c7, c8, ip, if_pos (show 0 < R + 7 by omega), hat, Option.bind_some]
          dsimp only
          simp only [e7]
          rw [if_pos ⟨b7, by omega, by omega⟩, if_neg c1, if_pos (show 0 < R + 8 by omega), hat, Option.bind_some]
          dsimp only
          simp only [e8]
          rw [if_pos ⟨b8, by omega, by omega⟩, if_neg c2]
theorem r_val2 {n F R w : Int} {T S : er_Me} (hI : er_SI n w S) (hw : 0 ≤ w ∧ w < n) (hn : n ≤ 7) : ∀ (m : Nat) (s : Int) (M : er_Me), er_RV n F R T M S → 0 ≤ s → s ≤ 9 → 9 - s < m → (∀ s' p', 0 ≤ s' → s' < s → 0 ≤ p' → p' < n → ¬ er_val n F S w s' p') → (∃ s1 p1 M', er_1st n F S w s1 p1 ∧ f_Mo_validate_2 m T R w s M = some (1, M') ∧ er_RV n F R T M' (g_val S w s1 p1) ∧ er_Fm R M M') ∨ (er_0th n F S w ∧ ∃ M', f_Mo_validate_2 m T R w s M = some (0, M') ∧ er_RV n F R T M' S ∧ er_Fm R M M')
  | 0, s, M, _, _, _, hm, _ => by
    exfalso
    omega
  | m + 1, s, M, h, h0, h1, hm, hb => by
    have ih := r_val2 (R := R) (T := T) (F := F) hI hw hn m
    have e : f_Mo_validate_2 (m + 1) T R w s M = if 9 ≤ s then some (0, M) else f_Mo_validate_10 (f_Mo_validate_2 m T) er_fu T R w s 0 M := rfl
    rw [e]
    by_cases h9 : 9 ≤ s
    · rw [if_pos h9]
      exact Or.inr ⟨fun s' p' a0 a1 a2 a3 => hb s' p' a0 (by omega) a2 a3, M, rfl, h, er_Fm.rf R M⟩
    · rw [if_neg h9]
      rcases r_val10 (F := F) hI hw hn (show 0 ≤ s ∧ s < 9 by omega) (f_Mo_validate_2 m T) er_fu 0 M h (by omega) (by omega) (by unfold er_fu; omega) with ⟨q, M', a1, a2, a3, a4, a5, a6, a7⟩ | ⟨a1, M', a2, a3, a4⟩
      · refine Or.inl ⟨s, q, M', ⟨⟨h0, by omega⟩, ⟨a1, a2⟩, a3, fun s' p' b0 b1 b2 b3 => ?_⟩, a5, a6, a7⟩
        rcases b3 with b3 | ⟨b3, b4⟩
        · exact hb s' p' b0 b3 b1 b2
        · rw [b3]; exact a4 p' b1 b4
      · rw [a2]
        have := ih (s + 1) M' a3 (by omega) (by omega) (by omega) (fun s' p' b0 b1 b2 b3 => by
          by_cases e : s' = s
          · rw [e]; exact a1 p' b2 b3
          · exact hb s' p' b0 (by omega) b2 b3)
        rcases this with ⟨s1, p1, M2, c1, c2, c3, c4⟩ | ⟨c1, M2, c2, c3, c4⟩
        · exact Or.inl ⟨s1, p1, M2, c1, c2, c3, a4.tr c4⟩
        · exact Or.inr ⟨c1, M2, c2, c3, a4.tr c4⟩
theorem r_validate {n F R w : Int} {T M S : er_Me} (hI : er_SI n w S) (hw : 0 ≤ w ∧ w < n) (hn : n ≤ 7) (h : er_RV n F R T M S) : (∃ s1 p1 M', er_1st n F S w s1 p1 ∧ f_Mo_validate R w T M = some (1, M') ∧ er_RV n F R T M' (g_val S w s1 p1) ∧ er_Fm R M M') ∨ (er_0th n F S w ∧ ∃ M', f_Mo_validate R w T M = some (0, M') ∧ er_RV n F R T M' S ∧ er_Fm R M M') :=
  r_val2 hI hw hn er_fu 0 M h (by omega) (by omega) (by unfold er_fu; omega) (fun s' p' _ q => by omega)
