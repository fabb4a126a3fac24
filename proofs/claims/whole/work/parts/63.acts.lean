/-! all nodes at once; a node's acts of settling -/
def er_ow (w j i : Int) : Prop := (j = 2 ∧ 140 * w ≤ i ∧ i < 140 * w + 140) ∨ ((j = 1 ∨ j = 3 ∨ 12 ≤ j ∧ j ≤ 15) ∧ i = w) ∨ (j = 4 ∧ 7 * w ≤ i ∧ i < 7 * w + 7) ∨ (5 ≤ j ∧ j ≤ 9 ∧ 63 * w ≤ i ∧ i < 63 * w + 63) ∨ (j = 10 ∧ 9 * w ≤ i ∧ i < 9 * w + 9) ∨ (j = 11 ∧ 882 * w ≤ i ∧ i < 882 * w + 882)
def er_Sf (w : Int) (S S' : er_Me) : Prop := ∀ j i, ¬ er_ow w j i → S' j i = S j i
theorem er_Sf.rf (w : Int) (S : er_Me) : er_Sf w S S := fun _ _ _ => rfl
theorem er_Sf.tr {w : Int} {S S1 S2 : er_Me} (h : er_Sf w S S1) (g : er_Sf w S1 S2) : er_Sf w S S2 := fun j i q => (g j i q).trans (h j i q)
theorem er_Sf.up {w j i v : Int} {S S1 : er_Me} (h : er_Sf w S S1) (ho : er_ow w j i) : er_Sf w S (er_up S1 j i v) := fun j' i' q => by
  unfold er_up
  rw [if_neg (fun e => q (by rw [e.1, e.2]; exact ho))]
  exact h j' i' q
theorem sf_send {w k s p x : Int} {S S1 : er_Me} (h : er_Sf w S S1) (hz : 0 ≤ S1 3 w ∧ S1 3 w < 140) : er_Sf w S (g_send S1 w k s p x) := (h.up (Or.inl ⟨rfl, by omega, by omega⟩)).up (Or.inr (Or.inl ⟨by omega, rfl⟩))
theorem sf_sendR {w s p x : Int} {S S1 : er_Me} (h : er_Sf w S S1) (hz : 0 ≤ S1 3 w ∧ S1 3 w < 140) (hs : 0 ≤ s ∧ s < 9) (hp : 0 ≤ p ∧ p < 7) : er_Sf w S (g_sendR S1 w s p x) := (sf_send h hz).up (Or.inr (Or.inr (Or.inr (Or.inl ⟨by omega, by omega, by omega, by omega⟩))))
theorem sf_recv {n F w v k s p x : Int} {S S0 : er_Me} (h : er_Sf w S0 S) (hz : 0 ≤ S 3 w ∧ S 3 w ≤ 135) (hv : 0 ≤ v ∧ v < 7) (hk : 0 ≤ k ∧ k < 3) (hs : 0 ≤ s ∧ s < 9) (hp : 0 ≤ p ∧ p < 7) : er_Sf w S0 (g_recv n F S w v k s p x).2 := by
  unfold g_recv
  by_cases hk0 : k = 0
  · rw [if_pos hk0]
    split
    · exact sf_send (h.up (Or.inr (Or.inr (Or.inr (Or.inl ⟨by omega, by omega, by omega, by omega⟩))))) (by rw [er_upF (by decide)]; omega)
    · exact h
  · rw [if_neg hk0]
    split
    · have h1 : er_Sf w S0 (er_up S 11 (er_h w v k s p) (x + 1)) := h.up (Or.inr (Or.inr (Or.inr (Or.inr (Or.inr ⟨rfl, by unfold er_h; omega, by unfold er_h; omega⟩)))))
      have e3 : er_up S 11 (er_h w v k s p) (x + 1) 3 = S 3 := er_upF (by decide)
      dsimp only
      generalize er_up S 11 (er_h w v k s p) (x + 1) = S1 at *
      have h2 : er_Sf w S0 (g_rdy n F S1 w k s p x) := by
        unfold g_rdy
        split
        · exact sf_sendR h1 (by rw [e3]; omega) hs hp
        · exact h1
      unfold g_acc
      split
      · exact h2.up (Or.inr (Or.inr (Or.inr (Or.inl ⟨by omega, by omega, by omega, by omega⟩))))
      · exact h2
    · exact h
theorem g_send_k {w k s p x j : Int} {S : er_Me} (hj : j ≠ 2) (hj3 : j ≠ 3) : g_send S w k s p x j = S j := by
  unfold g_send
  rw [er_upF hj3, er_upF hj]
theorem g_send_3 (w k s p x : Int) (S : er_Me) : g_send S w k s p x 3 w = S 3 w + 1 := by
  unfold g_send
  rw [er_upS]
/-- what receiving leaves, and that the log doesn't shrink -/
theorem g_recv_k {n F w v k s p x : Int} {S : er_Me} : (∀ j, j = 1 ∨ j = 4 ∨ 8 ≤ j ∧ j ≤ 10 ∨ 12 ≤ j ∧ j ≤ 15 → (g_recv n F S w v k s p x).2 j = S j) ∧ S 3 w ≤ (g_recv n F S w v k s p x).2 3 w := by
  unfold g_recv
  by_cases hk0 : k = 0
  · rw [if_pos hk0]
    split
    · dsimp only
      refine ⟨fun j hj => by rw [g_send_k (by omega) (by omega), er_upF (by omega)], ?_⟩
      rw [g_send_3, er_upF (show (3 : Int) ≠ 5 by decide)]
      omega
    · exact ⟨fun _ _ => rfl, Int.le_refl _⟩
  · rw [if_neg hk0]
    split
    · dsimp only
      have e : ∀ j, j ≠ 11 → er_up S 11 (er_h w v k s p) (x + 1) j = S j := fun j hj => er_upF hj
      generalize er_up S 11 (er_h w v k s p) (x + 1) = S1 at *
      have h2 : (∀ j, j = 1 ∨ j = 4 ∨ 8 ≤ j ∧ j ≤ 10 ∨ 12 ≤ j ∧ j ≤ 15 → g_rdy n F S1 w k s p x j = S j) ∧ S 3 w ≤ g_rdy n F S1 w k s p x 3 w := by
        unfold g_rdy
        split
        · refine ⟨fun j hj => by unfold g_sendR; rw [er_upF (by omega), g_send_k (by omega) (by omega), e j (by omega)], ?_⟩
          unfold g_sendR
          rw [er_upF (show (3 : Int) ≠ 6 by decide), g_send_3, e 3 (by decide)]
          omega
        · exact ⟨fun j hj => e j (by omega), by rw [e 3 (by decide)]; exact Int.le_refl _⟩
      unfold g_acc
      split
      · exact ⟨fun j hj => by rw [er_upF (by omega), h2.1 j hj], by rw [er_upF (show (3 : Int) ≠ 7 by decide)]; exact h2.2⟩
      · exact h2
    · exact ⟨fun _ _ => rfl, Int.le_refl _⟩
theorem nr_M {n u A : Int} {M M' S : er_Me} (h : er_NR n u A M S) (hM : ∀ a, A ≤ a → a < A + 46 → M' a = M a) : er_NR n u A M' S := by
  unfold er_NR at h ⊢
  rw [hM A (by omega) (by omega), hM (A + 1) (by omega) (by omega), hM (A + 2) (by omega) (by omega), hM (A + 4) (by omega) (by omega), hM (A + 5) (by omega) (by omega), hM (A + 6) (by omega) (by omega), hM (A + 7) (by omega) (by omega), hM (A + 8) (by omega) (by omega)]
  obtain ⟨c1, c2, c3, c4, c4b, c5, c6, c7, c8, c9⟩ := h
  exact ⟨c1, c2, c3, c4, c4b, c5, c6, c7, c8, er_c9M c9 (fun a a0 a1 => hM a (by omega) a1)⟩
set_option maxHeartbeats 1000000 in
/-- a node's part of the arrays is all that its relation speaks of -/
theorem nr_S {n u A : Int} {M S S' : er_Me} (hn : n ≤ 7) (hu : 0 ≤ u) (h : er_NR n u A M S) (hI : er_SI n u S) (hS : ∀ j i, er_ow u j i → S' j i = S j i) : er_NR n u A M S' ∧ er_SI n u S' := by
  have a1 : ∀ j, j = 1 ∨ j = 3 ∨ 12 ≤ j ∧ j ≤ 15 → S' j u = S j u := fun j hj => hS j u (Or.inr (Or.inl ⟨hj, rfl⟩))
  have a2 : ∀ k, 0 ≤ k → k < 140 → S' 2 (140 * u + k) = S 2 (140 * u + k) := fun k k0 k1 => hS _ _ (Or.inl ⟨rfl, by omega, by omega⟩)
  have a4 : ∀ v, 0 ≤ v → v < 7 → S' 4 (7 * u + v) = S 4 (7 * u + v) := fun k k0 k1 => hS _ _ (Or.inr (Or.inr (Or.inl ⟨rfl, by omega, by omega⟩)))
  have a5 : ∀ j c, 5 ≤ j → j ≤ 9 → 0 ≤ c → c < 63 → S' j (63 * u + c) = S j (63 * u + c) := fun j k j0 j1 k0 k1 => hS _ _ (Or.inr (Or.inr (Or.inr (Or.inl ⟨j0, j1, by omega, by omega⟩))))
  have a5' : ∀ j s p, 5 ≤ j → j ≤ 9 → 0 ≤ s → s < 9 → 0 ≤ p → p < 7 → S' j (63 * u + 7 * s + p) = S j (63 * u + 7 * s + p) := fun j s p j0 j1 s0 s1 p0 p1 => by
    have := a5 j (7 * s + p) j0 j1 (by omega) (by omega)
    rw [← Int.add_assoc] at this
    exact this
  have a10 : ∀ s, 0 ≤ s → s < 9 → S' 10 (9 * u + s) = S 10 (9 * u + s) := fun k k0 k1 => hS _ _ (Or.inr (Or.inr (Or.inr (Or.inr (Or.inl ⟨rfl, by omega, by omega⟩)))))
  have a11 : ∀ v k s p, 0 ≤ v → v < 7 → 1 ≤ k → k < 3 → 0 ≤ s → s < 9 → 0 ≤ p → p < 7 → S' 11 (er_h u v k s p) = S 11 (er_h u v k s p) := fun v k s p v0 v1 k0 k1 s0 s1 p0 p1 => hS _ _ (Or.inr (Or.inr (Or.inr (Or.inr (Or.inr ⟨rfl, by unfold er_h; omega, by unfold er_h; omega⟩)))))
  have hz := (si_room hI (s := 0) (p := 0) (by omega) (by omega))
  have hrz : ∀ s, 0 ≤ s → s < 9 → 0 ≤ S 10 (9 * u + s) ∧ S 10 (9 * u + s) ≤ 7 := fun s s0 s1 => (er_rowM h hI ⟨s0, s1⟩).2.1
  have asa : ∀ s k, 0 ≤ s → s < 9 → 0 ≤ k → k < S 10 (9 * u + s) → S' 9 (63 * u + 7 * s + k) = S 9 (63 * u + 7 * s + k) ∧ er_sa u s (S' 7) (S' 9) k = er_sa u s (S 7) (S 9) k := by
    intro s k s0 s1 k0 k1
    have hb := hrz s s0 s1
    have e9 := a5' 9 s k (by omega) (by omega) s0 s1 k0 (by omega)
    have hr := ((hI.2.2.2.2.2 s s0 s1).2.1 k k0 k1).1
    refine ⟨e9, ?_⟩
    unfold er_sa
    rw [e9]
    exact a5' 7 s _ (by omega) (by omega) s0 s1 hr.1 (by omega)
  constructor
  · obtain ⟨c1, c2, c3, c4, c4b, c5, c6, c7, c8, c9⟩ := h
    refine ⟨?_, ?_, ?_, ?_, ?_, ?_, ?_, ?_, ?_, ?_⟩
    · unfold er_c1 at c1 ⊢
      rw [a1 1 (by omega), a1 15 (by omega), a1 12 (by omega), a1 13 (by omega), a1 14 (by omega)]
      exact c1
    · rw [a1 3 (by omega)]; exact c2
    · rw [a1 3 (by omega)]
      intro k k0 k1
      rw [a2 k k0 (by omega)]
      exact c3 k k0 k1
    · intro s p s0 s1 p0 p1
      rw [a5' 5 s p (by omega) (by omega) s0 s1 p0 (by omega)]
      exact c4 s p s0 s1 p0 p1
    · intro k s p k0 k1 s0 s1 p0 p1
      obtain ⟨b, b1, b2, b3⟩ := c4b k s p k0 k1 s0 s1 p0 p1
      refine ⟨b, b1, b2, fun v v0 v1 => ?_⟩
      rw [a11 v k s p v0 (by omega) k0 k1 s0 s1 p0 (by omega)]
      exact b3 v v0 v1
    · intro k s p x k0 k1 s0 s1 p0 p1 x0 x1
      rw [c5 k s p x k0 k1 s0 s1 p0 p1 x0 x1]
      congr 1
      unfold er_vt
      apply er_sm_congr
      intro v hv
      rw [a11 (v : Int) k s p (by omega) (by omega) k0 k1 s0 s1 p0 (by omega)]
    · intro v v0 v1
      rw [a4 v v0 (by omega)]
      exact c6 v v0 v1
    · intro s p s0 s1 p0 p1
      rw [a5' 6 s p (by omega) (by omega) s0 s1 p0 (by omega)]
      exact c7 s p s0 s1 p0 p1
    · intro s p s0 s1 p0 p1
      rw [a5' 7 s p (by omega) (by omega) s0 s1 p0 (by omega)]
      exact c8 s p s0 s1 p0 p1
    · intro s s0 s1
      obtain ⟨d1, d2, d3⟩ := c9 s s0 s1
      rw [a10 s s0 s1]
      refine ⟨d1, fun k k0 k1 => ?_, fun x x0 x1 => ?_⟩
      · rw [(asa s k s0 s1 k0 k1).1, (asa s k s0 s1 k0 k1).2]
        exact d2 k k0 k1
      · rw [d3 x x0 x1]
        congr 1
        unfold er_rc
        apply er_sm_congr
        intro k hk
        rw [(asa s (k : Int) s0 s1 (by omega) (by omega)).2]
  · obtain ⟨h1, h2, h3, h4, h5, h6⟩ := hI
    refine ⟨?_, ?_, ?_, ?_, ?_, ?_⟩
    · rw [a1 3 (by omega), a1 12 (by omega), h1]
      have e5 : er_fl u (S' 5) = er_fl u (S 5) := er_sm_congr 63 (fun c hc => by rw [a5 5 (c : Int) (by omega) (by omega) (by omega) (by omega)])
      have e6 : er_fl u (S' 6) = er_fl u (S 6) := er_sm_congr 63 (fun c hc => by rw [a5 6 (c : Int) (by omega) (by omega) (by omega) (by omega)])
      rw [e5, e6]
    · rw [a1 3 (by omega)]
      intro k k0 k1
      rw [a2 k k0 (by omega)]
      exact h2 k k0 k1
    · intro c c0 c1
      rw [a5 5 c (by omega) (by omega) c0 c1, a5 6 c (by omega) (by omega) c0 c1, a5 8 c (by omega) (by omega) c0 c1]
      exact h3 c c0 c1
    · intro c c0 c1
      rw [a5 7 c (by omega) (by omega) c0 c1]
      exact h4 c c0 c1
    · rw [a1 12 (by omega), a1 13 (by omega), a1 14 (by omega)]
      exact h5
    · intro s s0 s1
      obtain ⟨d1, d2, d3⟩ := h6 s s0 s1
      unfold er_s6
      rw [a10 s s0 s1]
      refine ⟨?_, fun k k0 k1 => ?_, fun p p0 p1 => ?_⟩
      · rw [d1]
        congr 1
        exact (er_sm_congr 7 (fun p hp => by rw [a5' 8 s (p : Int) (by omega) (by omega) s0 s1 (by omega) (by omega)])).symm
      · rw [(asa s k s0 s1 k0 k1).1, (asa s k s0 s1 k0 k1).2]
        exact d2 k k0 k1
      · rw [a5' 8 s p (by omega) (by omega) s0 s1 p0 (by omega)]
        refine (d3 p p0 p1).trans ⟨?_, ?_⟩
        · rintro ⟨k, k0, k1, k2⟩
          exact ⟨k, k0, k1, by rw [(asa s k s0 s1 k0 k1).1]; exact k2⟩
        · rintro ⟨k, k0, k1, k2⟩
          exact ⟨k, k0, k1, by rw [← (asa s k s0 s1 k0 k1).1]; exact k2⟩
