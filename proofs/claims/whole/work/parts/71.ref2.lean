/-! the reference's receive and receiveFromLog -/
theorem r_receive176 {n F R w v k s p x c h8 y : Int} {T M S : er_Me} (h : er_RV n F R T M S) (hw : 0 ≤ w ∧ w < 7) (hs : 0 ≤ s ∧ s < 9) (hp : 0 ≤ p ∧ p < 7) (hx : 0 ≤ x ∧ x < 4) (hk : k = 1 ∨ k = 2) (hc : c = (er_vt n w k s p x (S 11) : Int)) : ∃ M', f_Mo_receive_176 T R w v k s p x (63 * w + 7 * s + p) h8 c y M = some (1, M') ∧ er_RV n F R T M' (g_acc n F S w k s p x) ∧ er_Fm R M M' := by
  have h' := h
  obtain ⟨g1, ⟨g2, g2b, q1, q2, q3⟩, g3⟩ := h
  have ha := g1.1
  have m0 := g1.2.1
  obtain ⟨a7, b7, c7⟩ := mo7 g1
  clear g1
  have e7 := g3 7 (by omega) (by omega)
  unfold f_Mo_receive_176 g_acc
  dsimp only [er_le]
  rw [← hc]
  by_cases hk2 : k = 2
  · rw [if_pos hk2, if_pos m0, g2b, er_mulE (by constructor <;> omega), er_addE (by constructor <;> omega)]
    by_cases h1 : c < 2 * F + 1
    · rw [if_pos h1, if_neg (fun q => by omega)]
      exact ⟨_, rfl, h', er_Fm.rf R M⟩
    · rw [if_neg h1, a7, c7, if_pos (by omega), if_pos ⟨b7, by omega, by omega⟩, e7]
      by_cases h2 : S 7 (63 * w + 7 * s + p) = 0
      · rw [if_pos h2, if_pos ⟨hk2, by omega, h2⟩, er_addE (by constructor <;> omega)]
        exact ⟨_, rfl, h'.up (by omega) (by omega), (er_Fm.rf R M).up (by omega) (by omega)⟩
      · rw [if_neg h2, if_neg (fun q => h2 q.2.2)]
        exact ⟨_, rfl, h', er_Fm.rf R M⟩
  · rw [if_neg hk2, if_neg (fun q => hk2 q.1)]
    exact ⟨_, rfl, h', er_Fm.rf R M⟩
theorem r_receive145 {n F R w v k s p x c h8 y : Int} {T M S : er_Me} (h : er_RV n F R T M S) (hw : 0 ≤ w ∧ w < 7) (hs : 0 ≤ s ∧ s < 9) (hp : 0 ≤ p ∧ p < 7) (hx : 0 ≤ x ∧ x < 4) (hz : 0 ≤ S 3 w ∧ S 3 w < 140) (hk : k = 1 ∨ k = 2) (hc : c = (er_vt n w k s p x (S 11) : Int)) (hy : y = g_th n F k) : ∃ M', f_Mo_receive_145 T R w v k s p x (63 * w + 7 * s + p) h8 c y M = some (1, M') ∧ er_RV n F R T M' (g_acc n F (g_rdy n F S w k s p x) w k s p x) ∧ er_Fm R M M' := by
  have h' := h
  obtain ⟨g1, g2, g3⟩ := h
  have ha := g1.1
  have m0 := g1.2.1
  obtain ⟨a6, b6, c6⟩ := mo6 g1
  clear g1
  have e6 := g3 6 (by omega) (by omega)
  unfold f_Mo_receive_145 g_rdy
  rw [← hc, ← hy]
  by_cases h1 : c < y
  · rw [if_pos h1, if_neg (fun q => by omega)]
    exact r_receive176 h' hw hs hp hx hk hc
  · rw [if_neg h1, a6, c6, if_pos ⟨m0, by omega⟩, if_pos ⟨b6, by omega, by omega⟩, e6]
    by_cases h2 : S 6 (63 * w + 7 * s + p) = 0
    · obtain ⟨M1, m1, m2, m3⟩ := r_send (k := 2) (s := s) (p := p) (x := x) h' hw hz (by omega) hs hp hx
      rw [if_pos rfl] at m2
      rw [if_pos h2, if_pos ⟨by omega, h2⟩, m1, Option.bind_some]
      have e11 : g_sendR S w s p x 11 = S 11 := by
        unfold g_sendR
        rw [er_upF (by decide), g_send_k (by decide) (by decide)]
      obtain ⟨M2, k1, k2, k3⟩ := r_receive176 (v := v) (c := c) (h8 := h8) (y := y) m2 hw hs hp hx hk (by rw [e11]; exact hc)
      exact ⟨M2, k1, k2, m3.tr k3⟩
    · rw [if_neg h2, if_neg (fun q => h2 q.2)]
      exact r_receive176 h' hw hs hp hx hk hc
theorem r_receive {n F R w v k s p x : Int} {T M S : er_Me} (h : er_RV n F R T M S) (hw : 0 ≤ w ∧ w < 7) (hv : 0 ≤ v ∧ v < 7) (hk : 0 ≤ k ∧ k < 3) (hs : 0 ≤ s ∧ s < 9) (hp : 0 ≤ p ∧ p < 7) (hx : 0 ≤ x ∧ x < 4) (hz : 0 ≤ S 3 w ∧ S 3 w ≤ 135) (hf : S 5 (63 * w + 7 * s + p) = 0 ∨ S 5 (63 * w + 7 * s + p) = 1) : ∃ M', f_Mo_receive R w v k s p x T M = some ((g_recv n F S w v k s p x).1, M') ∧ er_RV n F R T M' (g_recv n F S w v k s p x).2 ∧ er_Fm R M M' := by
  have h' := h
  obtain ⟨g1, ⟨g2, g2b, q1, q2, q3⟩, g3⟩ := h
  have ha := g1.1
  have m0 := g1.2.1
  obtain ⟨a5, b5, c5⟩ := mo5 g1
  obtain ⟨a11, b11, c11⟩ := mo11 g1
  clear g1
  have e5 := g3 5 (by omega) (by omega)
  have e11 := g3 11 (by omega) (by omega)
  unfold f_Mo_receive g_recv
  rw [r_at hw hs hp, Option.bind_some]
  dsimp only [er_le]
  by_cases hk0 : k = 0
  · rw [if_pos hk0, if_pos hk0]
    by_cases hvp : v = p
    · rw [if_pos hvp, a5, c5, if_pos ⟨m0, by omega⟩, if_pos ⟨b5, by omega, by omega⟩]
      simp only [e5]
      by_cases h0 : S 5 (63 * w + 7 * s + p) = 0
      · have hr1 : er_RV n F R T (er_up M (R + 5) (63 * w + 7 * s + p) 1) (er_up S 5 (63 * w + 7 * s + p) 1) := h'.up (by omega) (by omega)
        obtain ⟨M1, m1, m2, m3⟩ := r_send (k := 1) (s := s) (p := p) (x := x) hr1 hw (by rw [er_upF (by decide)]; omega) (by omega) hs hp hx
        rw [if_neg (by decide)] at m2
        rw [if_pos h0, if_pos ⟨hvp, h0⟩, m1, Option.bind_some]
        exact ⟨M1, rfl, m2, ((er_Fm.rf R M).up (by omega) (by omega)).tr m3⟩
      · rw [if_neg h0, if_neg (fun q => h0 q.2)]
        exact ⟨_, rfl, h', er_Fm.rf R M⟩
    · rw [if_neg hvp, if_neg (fun q => hvp q.1)]
      exact ⟨_, rfl, h', er_Fm.rf R M⟩
  · obtain ⟨hE, hE1, hE2⟩ := er_hE hw hv (show 1 ≤ k ∧ k < 3 by omega) hs hp
    rw [if_neg hk0, if_neg hk0, hE, a11, c11, if_pos ⟨m0, by omega⟩, if_pos ⟨b11, hE1, hE2⟩, er_addE (x := x) (by constructor <;> omega)]
    simp only [e11]
    by_cases h0 : S 11 (er_h w v k s p) = 0
    · have hr1 : er_RV n F R T (er_up M (R + 11) (er_h w v k s p) (x + 1)) (er_up S 11 (er_h w v k s p) (x + 1)) := h'.up (by omega) (by omega)
      have hfm : er_Fm R M (er_up M (R + 11) (er_h w v k s p) (x + 1)) := (er_Fm.rf R M).up (by omega) (by omega)
      have ez : er_up S 11 (er_h w v k s p) (x + 1) 3 = S 3 := er_upF (by decide)
      rw [if_pos h0, if_pos h0]
      generalize er_up M (R + 11) (er_h w v k s p) (x + 1) = M1 at *
      generalize er_up S 11 (er_h w v k s p) (x + 1) = S1 at *
      have hn := hr1.2.1
      rw [r_count' hr1 hw (by omega) hs hp hx, Option.bind_some]
      dsimp only
      rw [hn.1, hn.2.1]
      by_cases hk1 : k = 1
      · subst hk1
        rw [if_pos rfl]
        have ey : er_add (er_div (er_add n F) 2) 1 = g_th n F 1 := by
          rw [g_th1, er_addE (x := n) (by constructor <;> omega), er_divE (by omega) (by omega) (by omega) (by omega), er_addE (by constructor <;> omega)]
        obtain ⟨M2, k1, k2, k3⟩ := r_receive145 (v := v) (h8 := er_h w v 1 s p) (c := (er_vt n w 1 s p x (S1 11) : Int)) (y := er_add (er_div (er_add n F) 2) 1) hr1 hw hs hp hx (by rw [ez]; omega) (Or.inl rfl) rfl ey
        exact ⟨M2, k1, k2, hfm.tr k3⟩
      · have hk2 : k = 2 := by omega
        subst hk2
        rw [if_neg hk1]
        have ey : er_add F 1 = g_th n F 2 := by rw [g_th2, er_addE (by constructor <;> omega)]
        obtain ⟨M2, k1, k2, k3⟩ := r_receive145 (v := v) (h8 := er_h w v 2 s p) (c := (er_vt n w 2 s p x (S1 11) : Int)) (y := er_add F 1) hr1 hw hs hp hx (by rw [ez]; omega) (Or.inr rfl) rfl ey
        exact ⟨M2, k1, k2, hfm.tr k3⟩
    · rw [if_neg h0, if_neg h0]
      exact ⟨_, rfl, h', er_Fm.rf R M⟩
theorem r_log {n F R w v : Int} {T M S : er_Me} (h : er_RV n F R T M S) (hw : 0 ≤ w ∧ w < n) (hv : 0 ≤ v ∧ v < n) (hI : er_SI n w S) (hIv : er_SI n v S) (hg : 0 ≤ S 4 (7 * w + v) ∧ S 4 (7 * w + v) < S 3 v) : ∃ M', f_Mo_receiveFromLog R w v T M = some M' ∧ er_RV n F R T M' (g_log n F S w v) ∧ er_Fm R M M' := by
  have h' := h
  obtain ⟨g1, ⟨g2, g2b, q1, q2, q3⟩, g3⟩ := h
  have ha := g1.1
  have m0 := g1.2.1
  obtain ⟨a2, b2, c2⟩ := mo2 g1
  obtain ⟨a4, b4, c4⟩ := mo4 g1
  clear g1
  have e2 := g3 2 (by omega) (by omega)
  have e4 := g3 4 (by omega) (by omega)
  have hsv := si_room hIv (s := 0) (p := 0) (by omega) (by omega)
  have hcd := hIv.2.1 (S 4 (7 * w + v)) hg.1 hg.2
  obtain ⟨d1, d2, d3, d4, d5⟩ := er_cd_d q2 hcd
  have i1 : er_add (er_mul 7 w) v = 7 * w + v := by rw [er_mulE (by constructor <;> omega), er_addE (by constructor <;> omega)]
  have i2 : er_add (er_mul 140 v) (S 4 (7 * w + v)) = 140 * v + S 4 (7 * w + v) := by rw [er_mulE (by constructor <;> omega), er_addE (by constructor <;> omega)]
  unfold f_Mo_receiveFromLog g_log
  dsimp only [er_le]
  rw [a2, a4, c2, c4, i1, if_pos ⟨m0, by omega⟩, if_pos (by omega), if_pos ⟨b4, by omega, by omega⟩, e4, i2, if_pos ⟨b2, by omega, by omega⟩, e2, er_addE (by constructor <;> omega)]
  generalize hc : S 2 (140 * v + S 4 (7 * w + v)) = c at *
  have e1 : er_div c 1000 = c / 1000 := er_divE (by omega) (by omega) (by omega) (by omega)
  have e2' : er_rem (er_div c 100) 10 = c / 100 % 10 := by rw [er_divE (by omega) (by omega) (by omega) (by omega), er_remE (by omega) (by omega) (by omega) (by omega)]
  have e3 : er_rem (er_div c 10) 10 = c / 10 % 10 := by rw [er_divE (by omega) (by omega) (by omega) (by omega), er_remE (by omega) (by omega) (by omega) (by omega)]
  have e4' : er_rem c 10 = c % 10 := er_remE (by omega) (by omega) (by omega) (by omega)
  have hr1 : er_RV n F R T (er_up M (R + 4) (7 * w + v) (S 4 (7 * w + v) + 1)) (er_up S 4 (7 * w + v) (S 4 (7 * w + v) + 1)) := h'.up (by omega) (by omega)
  have hfm : er_Fm R M (er_up M (R + 4) (7 * w + v) (S 4 (7 * w + v) + 1)) := (er_Fm.rf R M).up (by omega) (by omega)
  have hI1 : er_SI n w (er_up S 4 (7 * w + v) (S 4 (7 * w + v) + 1)) := si_up hI (by omega)
  have hf := (hI1.2.2.1 (7 * (c / 1000) + c / 100 % 10) (by omega) (by omega)).1
  rw [← Int.add_assoc] at hf
  have hz := si_room hI1 (s := 0) (p := 0) (by omega) (by omega)
  obtain ⟨M', k1, k2, k3⟩ := r_receive (v := v) hr1 (by omega) (by omega) d1 d2 (by omega) d4 ⟨hz.1, hz.2.2.1⟩ hf
  rw [e1, e2', e3, e4', k1, Option.bind_some]
  exact ⟨M', rfl, k2, hfm.tr k3⟩
