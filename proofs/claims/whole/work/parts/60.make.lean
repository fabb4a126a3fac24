/-! Node.makeOneValid: the first speaker, slot by slot, whose value can become valid -/
def g_val (S : er_Me) (w s p : Int) : er_Me := er_up (er_up (er_up S 8 (63 * w + 7 * s + p) 1) 9 (63 * w + 7 * s + S 10 (9 * w + s)) p) 10 (9 * w + s) (S 10 (9 * w + s) + 1)
def er_1st (n F : Int) (S : er_Me) (w s p : Int) : Prop := (0 ≤ s ∧ s < 9) ∧ (0 ≤ p ∧ p < n) ∧ er_val n F S w s p ∧ ∀ s' p', 0 ≤ s' → 0 ≤ p' → p' < n → s' < s ∨ s' = s ∧ p' < p → ¬ er_val n F S w s' p'
def er_0th (n F : Int) (S : er_Me) (w : Int) : Prop := ∀ s' p', 0 ≤ s' → s' < 9 → 0 ≤ p' → p' < n → ¬ er_val n F S w s' p'
theorem er_1st_uq {n F w s p s' p' : Int} {S : er_Me} (h : er_1st n F S w s p) (g : er_1st n F S w s' p') : s = s' ∧ p = p' := by
  obtain ⟨h1, h2, h3, h4⟩ := h
  obtain ⟨g1, g2, g3, g4⟩ := g
  have a := fun q => h4 s' p' g1.1 g2.1 g2.2 q g3
  have b := fun q => g4 s p h1.1 h2.1 h2.2 q h3
  by_cases e : s = s'
  · by_cases e2 : p = p'
    · exact ⟨e, e2⟩
    · exfalso
      rcases Int.lt_or_le p p' with q | q
      · exact b (Or.inr ⟨e, q⟩)
      · exact a (Or.inr ⟨e.symm, by omega⟩)
  · exfalso
    rcases Int.lt_or_le s s' with q | q
    · exact b (Or.inl q)
    · exact a (Or.inl (by omega))
/-- the row s of node A, one longer -/
def er_ra (M : er_Me) (A s p x : Int) : er_Me := er_up (er_up (er_up (er_up M (A + 10 + 4 * s + 1) (M (A + 10 + 4 * s) 3) p) (A + 10 + 4 * s + 2) (M (A + 10 + 4 * s) 3) x) (A + 10 + 4 * s + 3) x (M (A + 10 + 4 * s + 3) x + 1)) (A + 10 + 4 * s) 3 (M (A + 10 + 4 * s) 3 + 1)
theorem er_raF {M : er_Me} {A s p x a : Int} (h0 : a ≠ A + 10 + 4 * s) (h1 : a ≠ A + 10 + 4 * s + 1) (h2 : a ≠ A + 10 + 4 * s + 2) (h3 : a ≠ A + 10 + 4 * s + 3) : er_ra M A s p x a = M a := by
  unfold er_ra
  rw [er_upF h0, er_upF h3, er_upF h2, er_upF h1]
set_option maxHeartbeats 1000000 in
theorem nr_valid {n w A s p : Int} {M S : er_Me} (hs : 0 ≤ s ∧ s < 9) (hp : 0 ≤ p ∧ p < n) (h : er_NR n w A M S) (hI : er_SI n w S) (h7 : S 10 (9 * w + s) < 7) (hac : 0 < S 7 (63 * w + 7 * s + p)) : er_NR n w A (er_ra M A s p (S 7 (63 * w + 7 * s + p) - 1)) (g_val S w s p) := by
  have hz := (er_rowM h hI hs).2.1
  have hzz : ∀ s', 0 ≤ s' → s' < 9 → 0 ≤ S 10 (9 * w + s') ∧ S 10 (9 * w + s') ≤ 7 := fun s' g0 g1 => (er_rowM h hI ⟨g0, g1⟩).2.1
  obtain ⟨c1, c2, c3, c4, c4b, c5, c6, c7, c8, c9⟩ := h
  unfold er_NR
  rw [er_raF (a := A) (by omega) (by omega) (by omega) (by omega), er_raF (a := A + 1) (by omega) (by omega) (by omega) (by omega), er_raF (a := A + 2) (by omega) (by omega) (by omega) (by omega), er_raF (a := A + 4) (by omega) (by omega) (by omega) (by omega), er_raF (a := A + 5) (by omega) (by omega) (by omega) (by omega), er_raF (a := A + 6) (by omega) (by omega) (by omega) (by omega), er_raF (a := A + 7) (by omega) (by omega) (by omega) (by omega), er_raF (a := A + 8) (by omega) (by omega) (by omega) (by omega)]
  unfold g_val
  simp (disch := omega) only [er_upF, er_upR]
  refine ⟨c1, c2, c3, c4, c4b, c5, c6, c7, c8, ?_⟩
  intro s' g0 g1
  obtain ⟨d1, d2, d3⟩ := c9 s' g0 g1
  have hz' := hzz s' g0 g1
  by_cases e : s' = s
  · subst e
    have key : ∀ k, 0 ≤ k → k < S 10 (9 * w + s') → er_sa w s' (S 7) (er_f1 (S 9) (63 * w + 7 * s' + S 10 (9 * w + s')) p) k = er_sa w s' (S 7) (S 9) k := by
      intro k k0 k1
      unfold er_sa
      rw [er_f1N (by omega)]
    have key2 : er_sa w s' (S 7) (er_f1 (S 9) (63 * w + 7 * s' + S 10 (9 * w + s')) p) (S 10 (9 * w + s')) = S 7 (63 * w + 7 * s' + p) := by
      unfold er_sa
      rw [er_f1S]
    rw [er_f1S]
    unfold er_ra
    rw [d1]
    refine ⟨?_, fun k k0 k1 => ⟨?_, ?_⟩, fun x x0 x1 => ?_⟩
    · rw [er_upS]
    · rw [er_upA (by omega), er_upA (by omega), er_upA (by omega), er_upR]
      by_cases hk : k = S 10 (9 * w + s')
      · rw [hk, er_f1S, er_f1S]
      · rw [er_f1N hk, er_f1N (by omega)]
        exact (d2 k k0 (by omega)).1
    · rw [er_upA (by omega), er_upA (by omega), er_upR]
      by_cases hk : k = S 10 (9 * w + s')
      · rw [hk, er_f1S, key2]
      · rw [er_f1N hk, key k k0 (by omega), er_upA (by omega)]
        exact (d2 k k0 (by omega)).2
    · rw [er_upA (by omega), er_upR, show (S 10 (9 * w + s') + 1).toNat = (S 10 (9 * w + s')).toNat + 1 by omega]
      have e1 : er_rc w s' x (S 7) (er_f1 (S 9) (63 * w + 7 * s' + S 10 (9 * w + s')) p) ((S 10 (9 * w + s')).toNat + 1) = er_rc w s' x (S 7) (S 9) (S 10 (9 * w + s')).toNat + (if S 7 (63 * w + 7 * s' + p) = x + 1 then 1 else 0) := by
        unfold er_rc
        rw [er_sm]
        have e2 : (((S 10 (9 * w + s')).toNat : Nat) : Int) = S 10 (9 * w + s') := by omega
        rw [e2, key2]
        congr 1
        apply er_sm_congr
        intro j hj
        rw [key (j : Int) (by omega) (by omega)]
      rw [e1]
      by_cases hx : x = S 7 (63 * w + 7 * s' + p) - 1
      · rw [if_pos (by omega), hx, er_f1S, d3 _ (by omega) (by omega)]
        omega
      · rw [if_neg (by omega), er_f1N hx, er_upA (by omega), er_upA (by omega)]
        exact d3 x x0 x1
  · have key : ∀ k, 0 ≤ k → k < S 10 (9 * w + s') → er_f1 (S 9) (63 * w + 7 * s + S 10 (9 * w + s)) p (63 * w + 7 * s' + k) = S 9 (63 * w + 7 * s' + k) := fun k k0 k1 => er_f1N (by omega)
    have key2 : ∀ k, 0 ≤ k → k < S 10 (9 * w + s') → er_sa w s' (S 7) (er_f1 (S 9) (63 * w + 7 * s + S 10 (9 * w + s)) p) k = er_sa w s' (S 7) (S 9) k := by
      intro k k0 k1
      unfold er_sa
      rw [key k k0 k1]
    rw [er_f1N (by omega), er_raF (a := A + 10 + 4 * s') (by omega) (by omega) (by omega) (by omega), er_raF (a := A + 10 + 4 * s' + 1) (by omega) (by omega) (by omega) (by omega), er_raF (a := A + 10 + 4 * s' + 2) (by omega) (by omega) (by omega) (by omega), er_raF (a := A + 10 + 4 * s' + 3) (by omega) (by omega) (by omega) (by omega)]
    refine ⟨d1, fun k k0 k1 => ?_, fun x x0 x1 => ?_⟩
    · rw [key k k0 k1, key2 k k0 k1]
      exact d2 k k0 k1
    · rw [d3 x x0 x1]
      congr 1
      unfold er_rc
      apply er_sm_congr
      intro j hj
      rw [key2 (j : Int) (by omega) (by omega)]
/-- a free place in the row of a speaker that isn't in it -/
theorem er_room {n w s p : Int} {S : er_Me} (hI : er_SI n w S) (hs : 0 ≤ s ∧ s < 9) (hp : 0 ≤ p ∧ p < n) (hn : n ≤ 7) (h0 : S 8 (63 * w + 7 * s + p) = 0) : S 10 (9 * w + s) < 7 := by
  have h6 := (hI.2.2.2.2.2 s hs.1 hs.2).1
  have hf : ∀ q, 0 ≤ q → q < 7 → S 8 (63 * w + 7 * s + q) = 0 ∨ S 8 (63 * w + 7 * s + q) = 1 := by
    intro q q0 q1
    have := (hI.2.2.1 (7 * s + q) (by omega) (by omega)).2.2
    rw [← Int.add_assoc] at this
    exact this
  have hu := er_sm_up (f := fun q : Nat => (S 8 (63 * w + 7 * s + (q : Int))).toNat) (g := fun q : Nat => if q = p.toNat then 1 else (S 8 (63 * w + 7 * s + (q : Int))).toNat) (k := p.toNat) 7 (by omega) (fun j _ hne => if_neg hne)
  have hl := er_sm_le (fun q : Nat => if q = p.toNat then 1 else (S 8 (63 * w + 7 * s + (q : Int))).toNat) 7 (fun k hk => by
    have := hf (k : Int) (by omega) (by omega)
    by_cases q : k = p.toNat
    · simp [q]
    · simp only [q, if_false]
      omega)
  simp only [if_true, Int.toNat_of_nonneg hp.1, h0] at hu
  unfold er_f8 at h6
  have : (0 : Int).toNat = 0 := rfl
  omega
set_option maxHeartbeats 1000000 in
theorem q_make10 {T M S : er_Me} {A n F w s : Int} (hN : er_Nd T A) (hr : er_Rl T M 2 n F) (h : er_NR n w A M S) (hI : er_SI n w S) (hs : 0 ≤ s ∧ s < 9) (k2 : Int → Int → er_Me → Option (Int × er_Me)) : ∀ (m : Nat) (p : Int), 0 ≤ p → p ≤ n → n - p < m → (∃ q, p ≤ q ∧ q < n ∧ er_val n F S w s q ∧ (∀ r, p ≤ r → r < q → ¬ er_val n F S w s r) ∧ f_Node_makeOneValid_10 k2 m T A s p M = some (1, er_ra M A s q (S 7 (63 * w + 7 * s + q) - 1))) ∨ ((∀ r, p ≤ r → r < n → ¬ er_val n F S w s r) ∧ f_Node_makeOneValid_10 k2 m T A s p M = k2 A (s + 1) M)
  | 0, p, _, _, hm => by
    exfalso
    omega
  | m + 1, p, h0, h1, hm => by
    have ih := q_make10 hN hr h hI hs k2 m
    have hr' := hr
    have hN' := hN
    obtain ⟨-, r1, r2, r3, r4, r5, q1, q2, q3⟩ := hr
    obtain ⟨ha, n1, n2, n3, n4, n5, n6, n7, n8, -, -, -, -, ⟨k1, k3⟩, ⟨w1, w2⟩, hrows⟩ := hN
    show (∃ q, p ≤ q ∧ q < n ∧ er_val n F S w s q ∧ (∀ r, p ≤ r → r < q → ¬ er_val n F S w s r) ∧ f_Node_makeOneValid_10_b k2 (f_Node_makeOneValid_10 k2 m T) A s p T M = some (1, er_ra M A s q (S 7 (63 * w + 7 * s + q) - 1))) ∨ ((∀ r, p ≤ r → r < n → ¬ er_val n F S w s r) ∧ f_Node_makeOneValid_10_b k2 (f_Node_makeOneValid_10 k2 m T) A s p T M = k2 A (s + 1) M)
    have hb : f_Node_makeOneValid_10_b k2 (f_Node_makeOneValid_10 k2 m T) A s p T M = if n ≤ p then k2 A (s + 1) M else (f_Node_canBecomeValid A s p T M).bind fun q5 => if q5.1 = 0 then f_Node_makeOneValid_10 k2 m T A s (p + 1) q5.2 else (f_Row_append (A + 10 + 4 * s) p (q5.2 (A + 8) (7 * s + p)) T q5.2).bind fun q13 => some (1, q13) := by
      unfold f_Node_makeOneValid_10_b
      dsimp only [er_le]
      rw [n2, n7, n8, w2, k3, (hrows s hs.1 hs.2).1, if_pos ⟨n1, by omega⟩, if_pos r1, r2, er_addE (by constructor <;> omega)]
      by_cases hp : n ≤ p
      · rw [if_pos hp, if_pos hp]
      · rw [if_neg hp, if_neg hp, er_addE (by constructor <;> omega)]
        congr 1
        funext q5
        by_cases hq : q5.1 = 0
        · rw [if_pos hq, if_pos hq]
        · rw [if_neg hq, if_neg hq, if_pos (show 0 < A + 9 by omega), if_pos ⟨w1, hs.1, hs.2, by omega⟩, if_pos (show 0 < A + 8 by omega), p_cellOf hs (show 0 ≤ p ∧ p < 7 by omega), Option.bind_some]
          dsimp only
          rw [if_pos ⟨k1, by omega, by omega⟩, if_pos (hrows s hs.1 hs.2).2.2.1]
    rw [hb]
    by_cases hp : n ≤ p
    · rw [if_pos hp]
      exact Or.inr ⟨fun r r0 r1 => by omega, rfl⟩
    · rw [if_neg hp]
      obtain ⟨v, v1, v2, v3⟩ := q_canBecomeValid hN' hr' h hI hs (show 0 ≤ p ∧ p < n by omega)
      rw [v1, Option.bind_some]
      dsimp only
      by_cases hv : v = 0
      · rw [if_pos hv]
        have hno : ¬ er_val n F S w s p := fun q => by have := v3.mpr q; omega
        rcases ih (p + 1) (by omega) (by omega) (by omega) with ⟨q, a1, a2, a3, a4, a5⟩ | ⟨a1, a2⟩
        · refine Or.inl ⟨q, by omega, a2, a3, fun r r0 r1 => ?_, a5⟩
          by_cases e : r = p
          · rw [e]; exact hno
          · exact a4 r (by omega) r1
        · refine Or.inr ⟨fun r r0 r1 => ?_, a2⟩
          by_cases e : r = p
          · rw [e]; exact hno
          · exact a1 r (by omega) r1
      · rw [if_neg hv]
        have hy := v3.mp (by omega)
        have hrow := er_rowM h hI hs
        have hac := hI.2.2.2.1 (7 * s + p) (by omega) (by omega)
        rw [← Int.add_assoc] at hac
        have h7 := er_room hI hs (show 0 ≤ p ∧ p < n by omega) q2 hy.2.1
        have h8 := h.2.2.2.2.2.2.2.2.1 s p hs.1 hs.2 h0 (by omega)
        have hx : 0 ≤ S 7 (63 * w + 7 * s + p) - 1 ∧ S 7 (63 * w + 7 * s + p) - 1 < 4 := by have := hy.1; omega
        have hcs := er_cs_sum (hI.2.2.2.2.2 s hs.1 hs.2)
        have hsel := er_selM (m := M (A + 10 + 4 * s + 3)) hx hrow.2.2.2.1 hrow.2.2.2.2.1 hrow.2.2.2.2.2.1 hrow.2.2.2.2.2.2
        have hselb : 0 ≤ M (A + 10 + 4 * s + 3) (S 7 (63 * w + 7 * s + p) - 1) ∧ M (A + 10 + 4 * s + 3) (S 7 (63 * w + 7 * s + p) - 1) ≤ 7 := by
          rw [hsel]
          unfold er_sel
          constructor <;> (repeat (first | omega | split))
        rw [h8, p_Row_append (hrows s hs.1 hs.2).2 (by omega) (by omega) hx (by constructor <;> omega), Option.bind_some]
        exact Or.inl ⟨p, by omega, by omega, hy, fun r r0 r1 => by omega, rfl⟩
theorem er_raFr {M : er_Me} {A s p x : Int} (hs : 0 ≤ s ∧ s < 9) : er_Fr A M (er_ra M A s p x) := fun a ha => er_raF (by omega) (by omega) (by omega) (by omega)
theorem q_make2 {T M S : er_Me} {A n F w : Int} (hN : er_Nd T A) (hr : er_Rl T M 2 n F) (h : er_NR n w A M S) (hI : er_SI n w S) : ∀ (m : Nat) (s : Int), 0 ≤ s → s ≤ 9 → 9 - s < m → (∀ s' p', 0 ≤ s' → s' < s → 0 ≤ p' → p' < n → ¬ er_val n F S w s' p') → (∃ s1 p1 M', er_1st n F S w s1 p1 ∧ f_Node_makeOneValid_2 m T A s M = some (1, M') ∧ er_NR n w A M' (g_val S w s1 p1) ∧ er_Fr A M M') ∨ (er_0th n F S w ∧ f_Node_makeOneValid_2 m T A s M = some (0, M))
  | 0, s, _, _, hm, _ => by
    exfalso
    omega
  | m + 1, s, h0, h1, hm, hb => by
    have ih := q_make2 hN hr h hI m
    have hn : 4 ≤ n ∧ n ≤ 7 := ⟨hr.2.2.2.2.2.2.1, hr.2.2.2.2.2.2.2.1⟩
    have e : f_Node_makeOneValid_2 (m + 1) T A s M = if 9 ≤ s then some (0, M) else f_Node_makeOneValid_10 (f_Node_makeOneValid_2 m T) er_fu T A s 0 M := rfl
    rw [e]
    by_cases h9 : 9 ≤ s
    · rw [if_pos h9]
      exact Or.inr ⟨fun s' p' a0 a1 a2 a3 => hb s' p' a0 (by omega) a2 a3, rfl⟩
    · rw [if_neg h9]
      rcases q_make10 hN hr h hI (show 0 ≤ s ∧ s < 9 by omega) (f_Node_makeOneValid_2 m T) er_fu 0 (by omega) (by omega) (by unfold er_fu; omega) with ⟨q, a1, a2, a3, a4, a5⟩ | ⟨a1, a2⟩
      · refine Or.inl ⟨s, q, _, ⟨⟨h0, by omega⟩, ⟨a1, a2⟩, a3, fun s' p' b0 b1 b2 b3 => ?_⟩, a5, ?_, er_raFr ⟨h0, by omega⟩⟩
        · rcases b3 with b3 | ⟨b3, b4⟩
          · exact hb s' p' b0 b3 b1 b2
          · rw [b3]; exact a4 p' b1 b4
        · exact nr_valid ⟨h0, by omega⟩ ⟨a1, a2⟩ h hI (er_room hI ⟨h0, by omega⟩ ⟨a1, a2⟩ hn.2 a3.2.1) a3.1
      · rw [a2]
        refine ih (s + 1) (by omega) (by omega) (by omega) (fun s' p' b0 b1 b2 b3 => ?_)
        by_cases e : s' = s
        · rw [e]; exact a1 p' b2 b3
        · exact hb s' p' b0 (by omega) b2 b3
theorem q_make {T M S : er_Me} {A n F w : Int} (hN : er_Nd T A) (hr : er_Rl T M 2 n F) (h : er_NR n w A M S) (hI : er_SI n w S) : (∃ s1 p1 M', er_1st n F S w s1 p1 ∧ f_Node_makeOneValid A T M = some (1, M') ∧ er_NR n w A M' (g_val S w s1 p1) ∧ er_Fr A M M') ∨ (er_0th n F S w ∧ f_Node_makeOneValid A T M = some (0, M)) :=
  q_make2 hN hr h hI er_fu 0 (by omega) (by omega) (by unfold er_fu; omega) (fun s' p' _ q => by omega)
