/-! the reference's steps keep what its arrays keep -/
theorem er_fl_up {w c : Int} {f : Int → Int} (hc : 0 ≤ c ∧ c < 63) (h0 : f (63 * w + c) = 0) : er_fl w (er_f1 f (63 * w + c) 1) = er_fl w f + 1 := by
  unfold er_fl
  have ec : ((c.toNat : Nat) : Int) = c := by omega
  have h := er_sm_up (f := fun q : Nat => (f (63 * w + (q : Int))).toNat) (g := fun q : Nat => (er_f1 f (63 * w + c) 1 (63 * w + (q : Int))).toNat) (k := c.toNat) 63 (by omega) (fun j hj hne => by
    show (er_f1 f (63 * w + c) 1 (63 * w + (j : Int))).toNat = _
    rw [er_f1N (by omega)])
  simp only [ec, er_f1S, h0] at h
  have e0 : (0 : Int).toNat = 0 := rfl
  have e1 : (1 : Int).toNat = 1 := rfl
  omega
theorem er_fl_le {w : Int} {f : Int → Int} (h : ∀ c, 0 ≤ c → c < 63 → f (63 * w + c) = 0 ∨ f (63 * w + c) = 1) : er_fl w f ≤ 63 := er_sm_le _ 63 (fun k hk => by have := h (k : Int) (by omega) (by omega); omega)
theorem er_fl_lt {w c : Int} {f : Int → Int} (h : ∀ c, 0 ≤ c → c < 63 → f (63 * w + c) = 0 ∨ f (63 * w + c) = 1) (hc : 0 ≤ c ∧ c < 63) (h0 : f (63 * w + c) = 0) : er_fl w f ≤ 62 := by
  have h1 := er_fl_up hc h0
  have h2 := er_fl_le (w := w) (f := er_f1 f (63 * w + c) 1) (fun d d0 d1 => by
    by_cases e : 63 * w + d = 63 * w + c
    · rw [e, er_f1S]; exact Or.inr rfl
    · rw [er_f1N e]; exact h d d0 d1)
  omega
theorem er_sp_le (sl : Int) : er_sp sl ≤ 9 := by unfold er_sp; omega
/-- the log has room for what is sent next -/
theorem si_room {n w s p : Int} {S : er_Me} (hI : er_SI n w S) (hs : 0 ≤ s ∧ s < 9) (hp : 0 ≤ p ∧ p < 7) : 0 ≤ S 3 w ∧ (S 5 (63 * w + 7 * s + p) = 0 ∨ S 6 (63 * w + 7 * s + p) = 0 → S 3 w < 135) ∧ S 3 w ≤ 135 ∧ (S 12 w < 8 → S 3 w < 135) := by
  obtain ⟨h1, -, h3, -⟩ := hI
  have f5 : ∀ c, 0 ≤ c → c < 63 → S 5 (63 * w + c) = 0 ∨ S 5 (63 * w + c) = 1 := fun c c0 c1 => (h3 c c0 c1).1
  have f6 : ∀ c, 0 ≤ c → c < 63 → S 6 (63 * w + c) = 0 ∨ S 6 (63 * w + c) = 1 := fun c c0 c1 => (h3 c c0 c1).2.1
  have l5 := er_fl_le f5
  have l6 := er_fl_le f6
  have l9 := er_sp_le (S 12 w)
  refine ⟨by omega, fun q => ?_, by omega, fun q => ?_⟩
  · rw [Int.add_assoc] at q
    rcases q with q | q
    · have := er_fl_lt f5 (c := 7 * s + p) (by omega) q
      omega
    · have := er_fl_lt f6 (c := 7 * s + p) (by omega) q
      omega
  · have : er_sp (S 12 w) ≤ 8 := by unfold er_sp; omega
    omega
/-- sending: a flag goes up, the log grows by one good code -/
theorem si_send5 {n w s p x : Int} {S : er_Me} (hI : er_SI n w S) (hs : 0 ≤ s ∧ s < 9) (hp : 0 ≤ p ∧ p < n) (hn : n ≤ 7) (hx : 0 ≤ x ∧ x < 4) (h0 : S 5 (63 * w + 7 * s + p) = 0) : er_SI n w (g_send (er_up S 5 (63 * w + 7 * s + p) 1) w 1 s p x) := by
  obtain ⟨h1, h2, h3, h4, h5, h6⟩ := hI
  rw [Int.add_assoc] at h0
  have hu := er_fl_up (f := S 5) (w := w) (c := 7 * s + p) (by omega) h0
  unfold g_send
  unfold er_SI
  rw [Int.add_assoc (63 * w) (7 * s) p]
  simp (disch := omega) only [er_upF, er_upR]
  rw [er_f1S]
  refine ⟨?_, fun k k0 k1 => ?_, fun c c0 c1 => ⟨?_, (h3 c c0 c1).2⟩, h4, h5, h6⟩
  · rw [hu]
    omega
  · by_cases e : k = S 3 w
    · rw [e, er_f1S]
      exact ⟨1, s, p, x, by omega, hs, hp, hx, rfl⟩
    · rw [er_f1N (by omega)]
      exact h2 k k0 (by omega)
  · by_cases e : 63 * w + c = 63 * w + (7 * s + p)
    · rw [e, er_f1S]; exact Or.inr rfl
    · rw [er_f1N e]; exact (h3 c c0 c1).1
theorem si_sendR {n w s p x : Int} {S : er_Me} (hI : er_SI n w S) (hs : 0 ≤ s ∧ s < 9) (hp : 0 ≤ p ∧ p < n) (hn : n ≤ 7) (hx : 0 ≤ x ∧ x < 4) (h0 : S 6 (63 * w + 7 * s + p) = 0) : er_SI n w (g_sendR S w s p x) := by
  obtain ⟨h1, h2, h3, h4, h5, h6⟩ := hI
  rw [Int.add_assoc] at h0
  have hu := er_fl_up (f := S 6) (w := w) (c := 7 * s + p) (by omega) h0
  unfold g_sendR g_send
  unfold er_SI
  rw [Int.add_assoc (63 * w) (7 * s) p]
  simp (disch := omega) only [er_upF, er_upR]
  rw [er_f1S]
  refine ⟨?_, fun k k0 k1 => ?_, fun c c0 c1 => ⟨(h3 c c0 c1).1, ?_, (h3 c c0 c1).2.2⟩, h4, h5, h6⟩
  · rw [hu]
    omega
  · by_cases e : k = S 3 w
    · rw [e, er_f1S]
      exact ⟨2, s, p, x, by omega, hs, hp, hx, rfl⟩
    · rw [er_f1N (by omega)]
      exact h2 k k0 (by omega)
  · by_cases e : 63 * w + c = 63 * w + (7 * s + p)
    · rw [e, er_f1S]; exact Or.inr rfl
    · rw [er_f1N e]; exact (h3 c c0 c1).2.1
theorem si_up {n w j i v : Int} {S : er_Me} (hI : er_SI n w S) (hj : j = 4 ∨ j = 11 ∨ j = 1 ∨ j = 15) : er_SI n w (er_up S j i v) := by
  unfold er_SI at hI ⊢
  have hF : ∀ a, a = 3 ∨ a = 12 ∨ a = 5 ∨ a = 6 ∨ a = 2 ∨ a = 8 ∨ a = 7 ∨ a = 13 ∨ a = 14 ∨ a = 10 ∨ a = 9 → er_up S j i v a = S a := fun a ha => er_upF (by omega)
  rw [hF 3 (by omega), hF 12 (by omega), hF 5 (by omega), hF 6 (by omega), hF 2 (by omega), hF 8 (by omega), hF 7 (by omega), hF 13 (by omega), hF 14 (by omega), hF 10 (by omega), hF 9 (by omega)]
  exact hI
theorem si_row {n w : Int} {S : er_Me} (hI : er_SI n w S) : ∀ s k, 0 ≤ s → s < 9 → 0 ≤ k → k < S 10 (9 * w + s) → er_sa w s (S 7) (S 9) k ≠ 0 := fun s k s0 s1 k0 k1 => by
  have := ((hI.2.2.2.2.2 s s0 s1).2.1 k k0 k1).2.1
  omega
theorem si_take {n w s p x : Int} {S : er_Me} (hI : er_SI n w S) (hs : 0 ≤ s ∧ s < 9) (hp : 0 ≤ p ∧ p < 7) (hx : 0 ≤ x ∧ x < 4) (h0 : S 7 (63 * w + 7 * s + p) = 0) : er_SI n w (er_up S 7 (63 * w + 7 * s + p) (x + 1)) := by
  have hrow := si_row hI
  obtain ⟨h1, h2, h3, h4, h5, h6⟩ := hI
  unfold er_SI
  simp (disch := omega) only [er_upF, er_upR]
  refine ⟨h1, h2, h3, fun c c0 c1 => ?_, h5, fun s' g0 g1 => ?_⟩
  · by_cases e : 63 * w + c = 63 * w + 7 * s + p
    · rw [e, er_f1S]; omega
    · rw [er_f1N e]; exact h4 c c0 c1
  · obtain ⟨d1, d2, d3⟩ := h6 s' g0 g1
    refine ⟨d1, fun k k0 k1 => ?_, d3⟩
    have e : er_sa w s' (er_f1 (S 7) (63 * w + 7 * s + p) (x + 1)) (S 9) k = er_sa w s' (S 7) (S 9) k := by
      have := hrow s' k g0 g1 k0 k1
      unfold er_sa at this ⊢
      rw [er_f1N (fun e => this (by rw [e]; exact h0))]
    rw [e]
    exact d2 k k0 k1
theorem si_recv {n F w v k s p x : Int} {S : er_Me} (hI : er_SI n w S) (hs : 0 ≤ s ∧ s < 9) (hp : 0 ≤ p ∧ p < n) (hn : n ≤ 7) (hx : 0 ≤ x ∧ x < 4) : er_SI n w (g_recv n F S w v k s p x).2 := by
  unfold g_recv
  by_cases hk : k = 0
  · rw [if_pos hk]
    by_cases c : v = p ∧ S 5 (63 * w + 7 * s + p) = 0
    · rw [if_pos c]
      exact si_send5 hI hs hp hn hx c.2
    · rw [if_neg c]
      exact hI
  · rw [if_neg hk]
    by_cases c : S 11 (er_h w v k s p) = 0
    · rw [if_pos c]
      dsimp only
      have hI1 : er_SI n w (er_up S 11 (er_h w v k s p) (x + 1)) := si_up hI (by omega)
      generalize er_up S 11 (er_h w v k s p) (x + 1) = S1 at hI1
      have hI2 : er_SI n w (g_rdy n F S1 w k s p x) := by
        unfold g_rdy
        split
        · next hc => exact si_sendR hI1 hs hp hn hx hc.2
        · exact hI1
      unfold g_acc
      split
      · next hc => exact si_take hI2 hs (by omega) hx hc.2.2
      · exact hI2
    · rw [if_neg c]
      exact hI
theorem er_f8_up {w s p : Int} {f : Int → Int} (hs : 0 ≤ s ∧ s < 9) (hp : 0 ≤ p ∧ p < 7) (h0 : f (63 * w + 7 * s + p) = 0) : er_f8 w s (er_f1 f (63 * w + 7 * s + p) 1) = er_f8 w s f + 1 := by
  unfold er_f8
  have ec : ((p.toNat : Nat) : Int) = p := by omega
  have h := er_sm_up (f := fun q : Nat => (f (63 * w + 7 * s + (q : Int))).toNat) (g := fun q : Nat => (er_f1 f (63 * w + 7 * s + p) 1 (63 * w + 7 * s + (q : Int))).toNat) (k := p.toNat) 7 (by omega) (fun j hj hne => by
    show (er_f1 f (63 * w + 7 * s + p) 1 (63 * w + 7 * s + (j : Int))).toNat = _
    rw [er_f1N (by omega)])
  simp only [ec, er_f1S, h0] at h
  have e0 : (0 : Int).toNat = 0 := rfl
  have e1 : (1 : Int).toNat = 1 := rfl
  omega
theorem er_f8_same {w s s' p : Int} {f : Int → Int} (hp : 0 ≤ p ∧ p < 7) (hne : s' ≠ s) : er_f8 w s' (er_f1 f (63 * w + 7 * s + p) 1) = er_f8 w s' f := by
  unfold er_f8
  apply er_sm_congr
  intro q hq
  rw [er_f1N (by omega)]
theorem si_val {n F w s p : Int} {S : er_Me} (hI : er_SI n w S) (hs : 0 ≤ s ∧ s < 9) (hp : 0 ≤ p ∧ p < n) (hn : n ≤ 7) (hv : er_val n F S w s p) : er_SI n w (g_val S w s p) := by
  have h7 := er_room hI hs hp hn hv.2.1
  have hzz : ∀ s', 0 ≤ s' → s' < 9 → 0 ≤ S 10 (9 * w + s') ∧ S 10 (9 * w + s') ≤ 7 := by
    intro s' g0 g1
    have h8 := er_f8_le (w := w) (s := s') (f := S 8) (fun p p0 p1 => by
      have := (hI.2.2.1 (7 * s' + p) (by omega) (by omega)).2.2
      rw [← Int.add_assoc] at this
      exact this)
    have := (hI.2.2.2.2.2 s' g0 g1).1
    omega
  have hzs := hzz s hs.1 hs.2
  have hac := hI.2.2.2.1 (7 * s + p) (by omega) (by omega)
  rw [← Int.add_assoc] at hac
  obtain ⟨h1, h2, h3, h4, h5, h6⟩ := hI
  unfold g_val
  unfold er_SI
  simp (disch := omega) only [er_upF, er_upR]
  refine ⟨h1, h2, fun c c0 c1 => ⟨(h3 c c0 c1).1, (h3 c c0 c1).2.1, ?_⟩, h4, h5, fun s' g0 g1 => ?_⟩
  · by_cases e : 63 * w + c = 63 * w + 7 * s + p
    · rw [e, er_f1S]; exact Or.inr rfl
    · rw [er_f1N e]; exact (h3 c c0 c1).2.2
  · obtain ⟨d1, d2, d3⟩ := h6 s' g0 g1
    have hz' := hzz s' g0 g1
    by_cases e : s' = s
    · subst e
      refine ⟨by rw [er_f1S, er_f8_up hs (by omega) hv.2.1]; omega, fun k k0 k1 => ?_, fun q q0 q1 => ?_⟩
      · rw [er_f1S] at k1
        unfold er_sa
        by_cases hk : k = S 10 (9 * w + s')
        · rw [hk, er_f1S]
          refine ⟨hp, hv.1, hac.2, fun q => ?_⟩
          have hcan := hv.2.2
          unfold er_can at hcan
          by_cases s0 : s' = 0
          · rw [if_pos s0] at hcan
            omega
          · rw [if_neg s0, if_neg q] at hcan
            omega
        · rw [er_f1N (by omega)]
          exact d2 k k0 (by omega)
      · rw [er_f1S]
        by_cases hq : q = p
        · rw [hq, er_f1S]
          exact ⟨fun _ => ⟨S 10 (9 * w + s'), hzs.1, by omega, by rw [er_f1S]⟩, fun _ => rfl⟩
        · rw [er_f1N (by omega)]
          constructor
          · intro r
            obtain ⟨k, k0, k1, k2⟩ := (d3 q q0 q1).mp r
            exact ⟨k, k0, by omega, by rw [er_f1N (by omega)]; exact k2⟩
          · rintro ⟨k, k0, k1, k2⟩
            by_cases hk : k = S 10 (9 * w + s')
            · rw [hk, er_f1S] at k2
              exact absurd k2.symm hq
            · rw [er_f1N (by omega)] at k2
              exact (d3 q q0 q1).mpr ⟨k, k0, by omega, k2⟩
    · refine ⟨by rw [er_f1N (by omega), er_f8_same (by omega) e]; exact d1, fun k k0 k1 => ?_, fun q q0 q1 => ?_⟩
      · rw [er_f1N (by omega)] at k1
        unfold er_sa
        rw [er_f1N (show 63 * w + 7 * s' + k ≠ 63 * w + 7 * s + S 10 (9 * w + s) by omega)]
        exact d2 k k0 k1
      · rw [er_f1N (by omega), er_f1N (by omega)]
        refine (d3 q q0 q1).trans ⟨?_, ?_⟩
        · rintro ⟨k, k0, k1, k2⟩
          exact ⟨k, k0, k1, by rw [er_f1N (by omega)]; exact k2⟩
        · rintro ⟨k, k0, k1, k2⟩
          exact ⟨k, k0, k1, by rw [er_f1N (by omega)] at k2; exact k2⟩
theorem si_go {n F w : Int} {S : er_Me} (hI : er_SI n w S) (hw : 0 ≤ w ∧ w < n) (hn : n ≤ 7) (hg : er_gc n F S w) : er_SI n w (g_go n F S w) := by
  have hx := g_nv_r (n := n) (F := F) (S := S) (w := w) (s := S 12 w) ⟨hI.2.2.2.2.1.2.2.1, hI.2.2.2.2.1.2.2.2.1⟩
  have hd : -1 ≤ g_nd n F S w (S 12 w) ∧ g_nd n F S w (S 12 w) ≤ 1 := by
    have := g_fv_r n F S w (S 12 w) (2 * F + 1)
    have h5 := hI.2.2.2.2.1
    unfold g_nd
    constructor <;> (repeat (first | omega | split))
  obtain ⟨h1, h2, h3, h4, h5, h6⟩ := hI
  obtain ⟨g0, g1, g2⟩ := hg
  unfold g_go
  generalize g_nv n F S w (S 12 w) = x at *
  generalize g_nd n F S w (S 12 w) = d at *
  by_cases h8 : S 12 w < 8
  · rw [if_pos h8]
    unfold g_send g_st
    unfold er_SI
    simp (disch := omega) only [er_upF, er_upR]
    simp only [er_f1S]
    refine ⟨?_, fun k k0 k1 => ?_, h3, h4, by omega, h6⟩
    · have e : er_sp (S 12 w + 1) = er_sp (S 12 w) + 1 := by unfold er_sp; omega
      rw [e]
      omega
    · by_cases e : k = S 3 w
      · rw [e, er_f1S]
        exact ⟨0, S 12 w + 1, w, x, by omega, by omega, hw, hx, by omega⟩
      · rw [er_f1N (by omega)]
        exact h2 k k0 (by omega)
  · rw [if_neg h8]
    unfold g_st
    unfold er_SI
    simp (disch := omega) only [er_upF, er_upR]
    simp only [er_f1S]
    refine ⟨?_, h2, h3, h4, by omega, h6⟩
    have e : er_sp (S 12 w + 1) = er_sp (S 12 w) := by unfold er_sp; omega
    rw [e]
    exact h1
