/-! the whole class beside the reference's arrays; Node.settle -/
def er_St (n F : Int) (T M S : er_Me) : Prop := er_Rl T M 2 n F ∧ (∀ u, 0 ≤ u → u < n → er_Nd T (4 + 46 * u)) ∧ (∀ u, 0 ≤ u → u < n → er_NR n u (4 + 46 * u) M S ∧ er_SI n u S) ∧ ∀ u v, 0 ≤ u → u < n → 0 ≤ v → v < n → 0 ≤ S 4 (7 * u + v) ∧ S 4 (7 * u + v) ≤ S 3 v
/-- one node's step, seen from all -/
theorem er_St.step {n F w : Int} {T M M' S S' : er_Me} (h : er_St n F T M S) (hw : 0 ≤ w ∧ w < n) (h1 : er_NR n w (4 + 46 * w) M' S') (h2 : er_SI n w S') (hF : er_Fr (4 + 46 * w) M M') (hSf : er_Sf w S S') (h3 : S 3 w ≤ S' 3 w) (h4 : ∀ v, 0 ≤ v → v < n → 0 ≤ S' 4 (7 * w + v) ∧ (S' 4 (7 * w + v) ≤ S 3 v ∨ S' 4 (7 * w + v) ≤ S' 3 v)) : er_St n F T M' S' := by
  obtain ⟨g1, g2, g3, g4⟩ := h
  have hn : n ≤ 7 := g1.2.2.2.2.2.2.2.1
  have m3 : ∀ v, 0 ≤ v → v < n → S 3 v ≤ S' 3 v := by
    intro v v0 v1
    by_cases e : v = w
    · rw [e]; exact h3
    · rw [hSf 3 v (by unfold er_ow; omega)]
      exact Int.le_refl _
  refine ⟨hF.Rl (by omega) g1, g2, fun u u0 u1 => ?_, fun u v u0 u1 v0 v1 => ?_⟩
  · by_cases e : u = w
    · rw [e]; exact ⟨h1, h2⟩
    · obtain ⟨a1, a2⟩ := g3 u u0 u1
      exact nr_S hn u0 (nr_M a1 (fun a a0 a1 => hF a (by omega))) a2 (fun j i q => hSf j i (by unfold er_ow at *; omega))
  · have := m3 v v0 v1
    by_cases e : u = w
    · have := h4 v v0 v1
      rw [e]
      omega
    · have h := g4 u v u0 u1 v0 v1
      rw [hSf 4 (7 * u + v) (by unfold er_ow; omega)]
      omega
/-- the next message of v's log, to w -/
def g_log (n F : Int) (S : er_Me) (w v : Int) : er_Me := (g_recv n F (er_up S 4 (7 * w + v) (S 4 (7 * w + v) + 1)) w v (S 2 (140 * v + S 4 (7 * w + v)) / 10 % 10) (S 2 (140 * v + S 4 (7 * w + v)) / 1000) (S 2 (140 * v + S 4 (7 * w + v)) / 100 % 10) (S 2 (140 * v + S 4 (7 * w + v)) % 10)).2
theorem er_cd_d {n c : Int} (hn : n ≤ 7) (h : er_cd n c) : (0 ≤ c / 10 % 10 ∧ c / 10 % 10 < 3) ∧ (0 ≤ c / 1000 ∧ c / 1000 < 9) ∧ (0 ≤ c / 100 % 10 ∧ c / 100 % 10 < n) ∧ (0 ≤ c % 10 ∧ c % 10 < 4) ∧ c = 1000 * (c / 1000) + 100 * (c / 100 % 10) + 10 * (c / 10 % 10) + c % 10 := by
  obtain ⟨k, s, p, x, hk, hs, hp, hx, e⟩ := h
  have e1 : c / 1000 = s := by omega
  have e2 : c / 100 % 10 = p := by omega
  have e3 : c / 10 % 10 = k := by omega
  have e4 : c % 10 = x := by omega
  rw [e1, e2, e3, e4]
  exact ⟨hk, hs, hp, hx, e⟩
set_option maxHeartbeats 1000000 in
theorem st_log {n F w v : Int} {T M S : er_Me} (h : er_St n F T M S) (hw : 0 ≤ w ∧ w < n) (hv : 0 ≤ v ∧ v < n) (hg : S 4 (7 * w + v) < S 3 v) : ∃ M', f_Node_hearNextOf (4 + 46 * w) v (4 + 46 * v + 1) T M = some (1, M') ∧ er_St n F T M' (g_log n F S w v) ∧ er_Fr (4 + 46 * w) M M' ∧ er_Sf w S (g_log n F S w v) := by
  have h' := h
  obtain ⟨g1, g2, g3, g4⟩ := h
  have hn : n ≤ 7 := g1.2.2.2.2.2.2.2.1
  obtain ⟨hNR, hI⟩ := g3 w hw.1 hw.2
  obtain ⟨hNRv, hIv⟩ := g3 v hv.1 hv.2
  have hgb := g4 w v hw.1 hw.2 hv.1 hv.2
  have hN := g2 w hw.1 hw.2
  obtain ⟨-, -, -, -, -, -, -, -, -, ⟨l1, l2, l3, l4⟩, -⟩ := g2 v hv.1 hv.2
  obtain ⟨ha, n1, n2, n3, n4, n5, n6, n7, n8, -, -, ⟨k1, k2⟩, -⟩ := g2 w hw.1 hw.2
  have hsv := si_room hIv (s := 0) (p := 0) (by omega) (by omega)
  have hsw := si_room hI (s := 0) (p := 0) (by omega) (by omega)
  have h6 := hNR.2.2.2.2.2.2.1 v hv.1 hv.2
  have hcode := hNRv.2.2.1 (S 4 (7 * w + v)) hgb.1 hg
  have hcd := hIv.2.1 (S 4 (7 * w + v)) hgb.1 hg
  obtain ⟨d1, d2, d3, d4, d5⟩ := er_cd_d hn hcd
  unfold f_Node_hearNextOf
  rw [n5, k2, if_pos ⟨n1, by omega⟩, if_pos ⟨k1, by omega, by omega⟩, if_pos l1, p_Log_codeAt l1 l2 (by omega) l3 l4 (by rw [hNRv.2.1]; omega), Option.bind_some, h6, hNRv.2.1, if_pos (show 0 ≤ S 4 (7 * w + v) ∧ S 4 (7 * w + v) < S 3 v from ⟨hgb.1, hg⟩), hcode]
  dsimp only [er_le]
  rw [if_neg (show ¬ S 2 (140 * v + S 4 (7 * w + v)) = -1 by omega), h6, er_addE (by constructor <;> omega)]
  -- the place in the log moves on
  have hnr1 : er_NR n w (4 + 46 * w) (er_up M (4 + 46 * w + 6) v (S 4 (7 * w + v) + 1)) (er_up S 4 (7 * w + v) (S 4 (7 * w + v) + 1)) := by
    obtain ⟨c1, c2, c3, c4, c4b, c5, c6, c7, c8, c9⟩ := hNR
    unfold er_NR
    simp (disch := omega) only [er_upF, er_upR]
    refine ⟨c1, c2, c3, c4, c4b, c5, ?_, c7, c8, er_c9M c9 (fun a a0 a1 => er_upF (by omega))⟩
    intro u u0 u1
    by_cases e : u = v
    · rw [e, er_f1S, er_f1S]
    · rw [er_f1N e, er_f1N (by omega)]
      exact c6 u u0 u1
  have hI1 : er_SI n w (er_up S 4 (7 * w + v) (S 4 (7 * w + v) + 1)) := si_up hI (by omega)
  have hfr1 : er_Fr (4 + 46 * w) M (er_up M (4 + 46 * w + 6) v (S 4 (7 * w + v) + 1)) := (er_Fr.rf _ M).up (by omega) (by omega)
  have hsf1 : er_Sf w S (er_up S 4 (7 * w + v) (S 4 (7 * w + v) + 1)) := (er_Sf.rf w S).up (Or.inr (Or.inr (Or.inl ⟨rfl, by omega, by omega⟩)))
  have eu : ∀ j, j ≠ 4 → er_up S 4 (7 * w + v) (S 4 (7 * w + v) + 1) j = S j := fun j hj => er_upF hj
  have e4 : er_up S 4 (7 * w + v) (S 4 (7 * w + v) + 1) 4 = er_f1 (S 4) (7 * w + v) (S 4 (7 * w + v) + 1) := er_upR _ _ _ _
  generalize hM1 : er_up M (4 + 46 * w + 6) v (S 4 (7 * w + v) + 1) = M1 at *
  unfold g_log
  generalize hS1 : er_up S 4 (7 * w + v) (S 4 (7 * w + v) + 1) = S1 at *
  have hroom := si_room hI1 d2 (show 0 ≤ S 2 (140 * v + S 4 (7 * w + v)) / 100 % 10 ∧ _ < 7 by omega)
  have hac := hI1.2.2.2.1 (7 * (S 2 (140 * v + S 4 (7 * w + v)) / 1000) + S 2 (140 * v + S 4 (7 * w + v)) / 100 % 10) (by omega) (by omega)
  rw [← Int.add_assoc] at hac
  obtain ⟨M', m1, m2, m3⟩ := h_hear (T := T) (k := S 2 (140 * v + S 4 (7 * w + v)) / 10 % 10) (s := S 2 (140 * v + S 4 (7 * w + v)) / 1000) (p := S 2 (140 * v + S 4 (7 * w + v)) / 100 % 10) (x := S 2 (140 * v + S 4 (7 * w + v)) % 10) (v := v) hN (by omega) (hfr1.Rl (by omega) g1) hnr1 hroom.1 hroom.2.1 (si_row hI1) hac.1 hv d1 d2 d3 d4
  rw [← d5] at m1
  rw [m1, Option.bind_some]
  have hk := g_recv_k (n := n) (F := F) (w := w) (v := v) (k := S 2 (140 * v + S 4 (7 * w + v)) / 10 % 10) (s := S 2 (140 * v + S 4 (7 * w + v)) / 1000) (p := S 2 (140 * v + S 4 (7 * w + v)) / 100 % 10) (x := S 2 (140 * v + S 4 (7 * w + v)) % 10) (S := S1)
  have hsf := sf_recv (n := n) (F := F) (v := v) (k := S 2 (140 * v + S 4 (7 * w + v)) / 10 % 10) (s := S 2 (140 * v + S 4 (7 * w + v)) / 1000) (p := S 2 (140 * v + S 4 (7 * w + v)) / 100 % 10) (x := S 2 (140 * v + S 4 (7 * w + v)) % 10) hsf1 (by rw [eu 3 (by decide)]; omega) (by omega) d1 d2 (by omega)
  have hsi := si_recv (F := F) (v := v) (k := S 2 (140 * v + S 4 (7 * w + v)) / 10 % 10) hI1 d2 d3 hn d4
  refine ⟨M', rfl, h'.step hw m2 hsi (hfr1.tr m3) hsf (by rw [← eu 3 (by decide)]; exact hk.2) (fun u u0 u1 => ?_), hfr1.tr m3, hsf⟩
  rw [hk.1 4 (by omega), e4]
  have hgu := g4 w u hw.1 hw.2 u0 u1
  by_cases e : u = v
  · rw [e, er_f1S]
    omega
  · rw [er_f1N (by omega)]
    omega
theorem st_nolog {n F w v : Int} {T M S : er_Me} (h : er_St n F T M S) (hw : 0 ≤ w ∧ w < n) (hv : 0 ≤ v ∧ v < n) (hg : S 3 v ≤ S 4 (7 * w + v)) : f_Node_hearNextOf (4 + 46 * w) v (4 + 46 * v + 1) T M = some (0, M) := by
  obtain ⟨g1, g2, g3, g4⟩ := h
  have hn : n ≤ 7 := g1.2.2.2.2.2.2.2.1
  obtain ⟨hNR, hI⟩ := g3 w hw.1 hw.2
  obtain ⟨hNRv, hIv⟩ := g3 v hv.1 hv.2
  obtain ⟨-, -, -, -, -, -, -, -, -, ⟨l1, l2, l3, l4⟩, -⟩ := g2 v hv.1 hv.2
  obtain ⟨ha, n1, n2, n3, n4, n5, n6, n7, n8, -, -, ⟨k1, k2⟩, -⟩ := g2 w hw.1 hw.2
  have hsv := si_room hIv (s := 0) (p := 0) (by omega) (by omega)
  have h6 := hNR.2.2.2.2.2.2.1 v hv.1 hv.2
  unfold f_Node_hearNextOf
  rw [n5, k2, if_pos ⟨n1, by omega⟩, if_pos ⟨k1, by omega, by omega⟩, if_pos l1, p_Log_codeAt l1 l2 (by omega) l3 l4 (by rw [hNRv.2.1]; omega), Option.bind_some, h6, hNRv.2.1, if_neg (show ¬ (0 ≤ S 4 (7 * w + v) ∧ S 4 (7 * w + v) < S 3 v) by omega)]
  dsimp only
  rw [if_pos rfl]
