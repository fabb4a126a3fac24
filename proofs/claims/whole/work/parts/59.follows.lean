/-! Rules.follows, Node.canBecomeValid -/
theorem er_selM {m : Int → Int} {c0 c1 c2 c3 : Nat} {x : Int} (hx : 0 ≤ x ∧ x < 4) (h0 : m 0 = c0) (h1 : m 1 = c1) (h2 : m 2 = c2) (h3 : m 3 = c3) : m x = er_sel x c0 c1 c2 c3 := by
  have : x = 0 ∨ x = 1 ∨ x = 2 ∨ x = 3 := by omega
  rcases this with rfl | rfl | rfl | rfl
  · exact h0
  · exact h1
  · exact h2
  · exact h3
/-- an answer that is 0 or 1 as a statement is false or true -/
def er_bv (v : Int) (P : Prop) : Prop := (v = 0 ∨ v = 1) ∧ (v = 1 ↔ P)
theorem er_bv.if {c P : Prop} [Decidable c] (h : c ↔ P) : er_bv (if c then 1 else 0) P := by
  by_cases hc : c
  · rw [if_pos hc]
    exact ⟨Or.inr rfl, fun _ => h.mp hc, fun _ => rfl⟩
  · rw [if_neg hc]
    exact ⟨Or.inl rfl, fun q => absurd q (by decide), fun q => absurd (h.mpr q) hc⟩
theorem er_bv.fi {c P : Prop} [Decidable c] (h : ¬ c ↔ P) : er_bv (if c then 0 else 1) P := by
  by_cases hc : c
  · rw [if_pos hc]
    exact ⟨Or.inl rfl, fun q => absurd q (by decide), fun q => absurd hc (h.mpr q)⟩
  · rw [if_neg hc]
    exact ⟨Or.inr rfl, fun _ => h.mp hc, fun _ => rfl⟩
theorem er_bv.no {P : Prop} (h : ¬ P) : er_bv 0 P := ⟨Or.inl rfl, fun q => absurd q (by decide), fun q => absurd q h⟩
theorem er_bv.ye {P : Prop} (h : P) : er_bv 1 P := ⟨Or.inr rfl, fun _ => h, fun _ => rfl⟩
set_option maxHeartbeats 1000000 in
theorem q_follows {T M S : er_Me} {A n F w s p x : Int} (hN : er_Nd T A) (hr : er_Rl T M 2 n F) (h : er_NR n w A M S) (hI : er_SI n w S) (hs : 0 < s ∧ s < 9) (hp : 0 ≤ p ∧ p < n) (hx : 0 ≤ x ∧ x < 4) : ∃ v, f_Rules_follows 2 s p x (A + 10 + 4 * (s - 1)) T M = some (v, M) ∧ er_bv v (if s % 3 = 2 then (1 < x ∨ S 8 (63 * w + 7 * (s - 1) + p) = 1 ∧ S 7 (63 * w + 7 * (s - 1) + p) = x + 1) ∧ er_so n F 2 x (er_cs w (s - 1) S 0) (er_cs w (s - 1) S 1) (er_cs w (s - 1) S 2) (er_cs w (s - 1) S 3) else x < 2 ∧ er_so n F (s % 3) x (er_cs w (s - 1) S 0) (er_cs w (s - 1) S 1) (er_cs w (s - 1) S 2) (er_cs w (s - 1) S 3)) := by
  have hs1 : 0 ≤ s - 1 ∧ s - 1 < 9 := by omega
  obtain ⟨e1, e2, e3, m0, m1, m2, m3⟩ := er_rowM h hI hs1
  have h6 := hI.2.2.2.2.2 (s - 1) hs1.1 hs1.2
  have hsum := er_cs_sum h6
  have hR := (hN.2.2.2.2.2.2.2.2.2.2.2.2.2.2.2 (s - 1) hs1.1 hs1.2).2
  have hr' := hr
  obtain ⟨-, r1, r2, r3, r4, r5, q1, q2, q3⟩ := hr
  have hn : 4 ≤ n ∧ n ≤ 7 := ⟨q1, q2⟩
  have hw := q_holdsWith (x := x) hN h hI hs1 hp q2
  have h23 := er_cs_23 h6
  generalize A + 10 + 4 * (s - 1) = B at *
  generalize hc0 : er_cs w (s - 1) S 0 = c0 at *
  generalize hc1 : er_cs w (s - 1) S 1 = c1 at *
  generalize hc2 : er_cs w (s - 1) S 2 = c2 at *
  generalize hc3 : er_cs w (s - 1) S 3 = c3 at *
  have hsel : ∀ y, 0 ≤ y → y < 4 → M (B + 3) y = er_sel y c0 c1 c2 c3 := fun y y0 y1 => er_selM ⟨y0, y1⟩ m0 m1 m2 m3
  have hselb : ∀ y, 0 ≤ y → y < 4 → 0 ≤ er_sel y c0 c1 c2 c3 ∧ er_sel y c0 c1 c2 c3 ≤ 7 := by
    intro y y0 y1
    unfold er_sel
    constructor <;> (repeat (first | omega | split))
  have e3' : er_rem s 3 = s % 3 := er_remE (by omega) (by omega) (by omega) (by omega)
  unfold f_Rules_follows
  rw [if_pos r1, p_isFull hr' hR, Option.bind_some]
  dsimp only
  rw [e1, e3']
  by_cases hz : S 10 (9 * w + (s - 1)) < n - F
  · rw [if_pos hz, if_pos rfl]
    refine ⟨0, rfl, er_bv.no ?_⟩
    have no : ∀ st y, ¬ er_so n F st y c0 c1 c2 c3 := by
      rintro st y ⟨a, b, d, e, g0, g1, g2, g3, g4, -⟩
      omega
    split
    · exact fun q => no _ _ q.2
    · exact fun q => no _ _ q.2
  · rw [if_neg hz, if_neg (by decide)]
    by_cases hs2 : s % 3 = 2
    · rw [if_pos hs2, if_pos hs2]
      by_cases hx2 : x < 2
      · rw [if_pos hx2, if_pos hR.2.1]
        obtain ⟨v, v1, v2, v3⟩ := hw
        have h23 := h23 (by omega)
        rw [v1, Option.bind_some]
        dsimp only
        rw [p_canStayDivided hr' hR (by omega) (by omega), Option.bind_some]
        dsimp only
        rw [m0, m1]
        by_cases hv : v = 0
        · rw [if_pos hv]
          refine ⟨0, rfl, er_bv.no ?_⟩
          rintro ⟨q | q, -⟩
          · omega
          · have := v3.mpr q
            omega
        · rw [if_neg hv]
          have hv1 := v3.mp (by omega)
          have hso := er_so2p (c0 := c0) (c1 := c1) hn q3 (show x = 0 ∨ x = 1 by omega) h23.1 h23.2
          by_cases hd : er_min (c0 : Int) (n / 2) + er_min (c1 : Int) (n / 2) < n - F
          · rw [if_pos hd, if_pos rfl]
            refine ⟨0, rfl, er_bv.no (fun q => ?_)⟩
            have := hso.mp q.2
            omega
          · rw [if_neg hd, if_neg (by decide)]
            exact ⟨1, rfl, er_bv.ye ⟨Or.inr hv1, hso.mpr ⟨by omega, by omega⟩⟩⟩
      · rw [if_neg hx2, er_subE (by constructor <;> omega), p_mostChosen hr' hR (by omega), Option.bind_some]
        dsimp only
        rw [hsel (x - 2) (by omega) (by omega)]
        have hb := hselb (x - 2) (by omega) (by omega)
        have hso := er_so2f (c0 := c0) (c1 := c1) (c2 := c2) (c3 := c3) hn q3 (show x = 2 ∨ x = 3 by omega)
        rw [p_isMajority hr' (by rw [er_minE]; omega), Option.bind_some]
        dsimp only
        have hbv : er_bv (if n < 2 * er_min (er_sel (x - 2) c0 c1 c2 c3) (n - F) then 1 else 0) ((1 < x ∨ S 8 (63 * w + 7 * (s - 1) + p) = 1 ∧ S 7 (63 * w + 7 * (s - 1) + p) = x + 1) ∧ er_so n F 2 x c0 c1 c2 c3) := er_bv.if ⟨fun q => ⟨Or.inl (by omega), hso.mpr ⟨by omega, q⟩⟩, fun q => (hso.mp q.2).2⟩
        rw [if_pos hbv.1]
        exact ⟨_, rfl, hbv⟩
    · rw [if_neg hs2, if_neg hs2, p_isPlain, Option.bind_some]
      dsimp only
      by_cases hx2 : x < 2
      · have hx01 : x = 0 ∨ x = 1 := by omega
        rw [if_pos hx01, if_neg (by decide)]
        by_cases hs3 : s % 3 = 1
        · rw [if_pos hs3, p_canPrevail hr' hR hx01 (by rw [hsel x (by omega) (by omega)]; exact hselb x (by omega) (by omega)), Option.bind_some]
          dsimp only
          rw [hsel x (by omega) (by omega), hs3]
          have hso := er_so1 (c0 := c0) (c1 := c1) (c2 := c2) (c3 := c3) hn q3 hx01
          have hbv : er_bv (if n - F < 2 * er_min (er_sel x c0 c1 c2 c3) (n - F) ∨ x = 0 ∧ 2 * er_min (er_sel x c0 c1 c2 c3) (n - F) = n - F then 1 else 0) (x < 2 ∧ er_so n F 1 x c0 c1 c2 c3) := er_bv.if ⟨fun q => ⟨hx2, hso.mpr ⟨by omega, q⟩⟩, fun q => (hso.mp q.2).2⟩
          rw [if_pos hbv.1]
          exact ⟨_, rfl, hbv⟩
        · have hs0 : s % 3 = 0 := by omega
          rw [if_neg hs3, er_addE (by constructor <;> omega), p_mostChosen hr' hR (by omega), Option.bind_some]
          dsimp only
          have hso := er_so0 (c0 := c0) (c1 := c1) (c2 := c2) (c3 := c3) hn q3 hx01
          simp only [hsel (x + 2) (by omega) (by omega), r3, hs0]
          by_cases hd : F < er_min (er_sel (x + 2) c0 c1 c2 c3) (n - F)
          · rw [if_pos hd]
            exact ⟨1, rfl, er_bv.ye ⟨hx2, hso.mpr ⟨by omega, Or.inl hd⟩⟩⟩
          · rw [if_neg hd, p_canNeedToss hr' hR (by omega) (by omega) (by omega) (by omega), Option.bind_some]
            dsimp only
            rw [m0, m1, m2, m3]
            by_cases ht : (c0 : Int) + c1 + er_min (c2 : Int) F + er_min (c3 : Int) F < n - F
            · rw [if_pos ht, if_pos rfl]
              refine ⟨0, rfl, er_bv.no (fun q => ?_)⟩
              have := (hso.mp q.2).2
              omega
            · rw [if_neg ht, if_neg (by decide)]
              exact ⟨1, rfl, er_bv.ye ⟨hx2, hso.mpr ⟨by omega, Or.inr (by omega)⟩⟩⟩
      · rw [if_neg (show ¬ (x = 0 ∨ x = 1) by omega), if_pos rfl]
        exact ⟨0, rfl, er_bv.no (fun q => hx2 q.1)⟩
theorem q_canBecomeValid {T M S : er_Me} {A n F w s p : Int} (hN : er_Nd T A) (hr : er_Rl T M 2 n F) (h : er_NR n w A M S) (hI : er_SI n w S) (hs : 0 ≤ s ∧ s < 9) (hp : 0 ≤ p ∧ p < n) : ∃ v, f_Node_canBecomeValid A s p T M = some (v, M) ∧ er_bv v (er_val n F S w s p) := by
  have hr' := hr
  have hN' := hN
  obtain ⟨-, r1, r2, r3, r4, r5, q1, q2, q3⟩ := hr
  obtain ⟨ha, n1, n2, n3, n4, n5, n6, n7, n8, -, -, -, -, ⟨k1, k2⟩, ⟨w1, w2⟩, hrows⟩ := hN
  have hac := hI.2.2.2.1 (7 * s + p) (by omega) (by omega)
  rw [← Int.add_assoc] at hac
  have h8 := h.2.2.2.2.2.2.2.2.1 s p hs.1 hs.2 hp.1 hp.2
  unfold f_Node_canBecomeValid
  rw [n7, n8, k2, w2, if_pos ⟨n1, by omega⟩, p_cellOf hs (by omega), Option.bind_some]
  dsimp only [er_le]
  rw [if_pos ⟨k1, by omega, by omega⟩, h8]
  by_cases h0 : S 7 (63 * w + 7 * s + p) = 0
  · rw [if_pos (by omega)]
    exact ⟨0, rfl, er_bv.no (fun q => by have := q.1; omega)⟩
  · have hrs := hrows s hs.1 hs.2
    obtain ⟨v, v1, v2, v3⟩ := q_holds hN' h hI hs hp q2
    rw [if_neg (by omega), if_pos (by omega), hrs.1, if_pos ⟨w1, hs.1, hs.2, by omega⟩, if_pos hrs.2.2.1, v1, Option.bind_some]
    dsimp only
    by_cases hv : v = 0
    · have hva := v3.mp hv
      rw [if_pos hv]
      by_cases hs0 : s = 0
      · rw [if_pos hs0, p_isPlain, Option.bind_some]
        dsimp only
        have hbv : er_bv (if S 7 (63 * w + 7 * s + p) - 1 = 0 ∨ S 7 (63 * w + 7 * s + p) - 1 = 1 then 1 else 0) (er_val n F S w s p) := er_bv.if (by
          unfold er_val er_can
          rw [if_pos hs0]
          constructor
          · intro q
            exact ⟨by omega, hva, by omega⟩
          · rintro ⟨q1, q2, q3⟩
            omega)
        rw [if_pos hbv.1]
        exact ⟨_, rfl, hbv⟩
      · obtain ⟨u, u1, u2⟩ := q_follows (s := s) (x := S 7 (63 * w + 7 * s + p) - 1) hN' hr' h hI (by omega) hp (by omega)
        have hrs1 := hrows (s - 1) (by omega) (by omega)
        rw [if_neg hs0, n2, if_pos (by omega), er_subE (by constructor <;> omega), hrs1.1, if_pos ⟨by omega, by omega, by omega⟩, if_pos r1, u1, Option.bind_some]
        dsimp only
        rw [if_pos u2.1]
        refine ⟨u, rfl, u2.1, u2.2.trans ?_⟩
        unfold er_val er_can
        rw [if_neg hs0, show S 7 (63 * w + 7 * s + p) - 1 + 1 = S 7 (63 * w + 7 * s + p) by omega]
        exact ⟨fun q => ⟨by omega, hva, q⟩, fun q => q.2.2⟩
    · rw [if_neg hv]
      exact ⟨0, rfl, er_bv.no (fun q => hv (v3.mpr q.2.1))⟩
