/-! the class's calls and the reference's -/
theorem st_M {n F : Int} {T M M' S : er_Me} (h : er_St n F T M S) (hM : ∀ a, a < 4 + 46 * n → M' a = M a) : er_St n F T M' S := by
  obtain ⟨g1, g2, g3, g4⟩ := h
  have q := g1.2.2.2.2.2.2.1
  refine ⟨?_, g2, fun u u0 u1 => ⟨nr_M (g3 u u0 u1).1 (fun a a0 a1 => hM a (by omega)), (g3 u u0 u1).2⟩, g4⟩
  unfold er_Rl at g1 ⊢
  rw [hM 2 (by omega)]
  exact g1
theorem rv_M {n F R : Int} {T M M' S : er_Me} (h : er_RV n F R T M S) (hM : ∀ a, R ≤ a → M' a = M a) : er_RV n F R T M' S := by
  obtain ⟨g1, g2, g3⟩ := h
  refine ⟨g1, ?_, fun j j0 j1 => by rw [hM (R + j) (by omega)]; exact g3 j j0 j1⟩
  rw [hM R (by omega)]
  exact g2
theorem m_end {n F : Int} {T M1 M2 S : er_Me} (hC : er_Ca n T) (hS : er_St n F T M1 S) (hR : er_RV n F (4 + 46 * n) T M2 S) (hm : er_Fm (4 + 46 * n) M1 M2) (hF : ∀ w, 0 ≤ w → w < n → S 1 w = 0 ∨ S 1 w = 1) : er_W n F T M2 S :=
  ⟨hC, st_M hS (fun a ha => hm a (Or.inl (by omega))), hR, hF⟩
theorem m_RV {n F w : Int} {T M M1 S : er_Me} (h : er_RV n F (4 + 46 * n) T M S) (hw : 0 ≤ w ∧ w < n) (hf : er_Fr (4 + 46 * w) M M1) : er_RV n F (4 + 46 * n) T M1 S :=
  rv_M h (fun a ha => hf a (Or.inr (by omega)))
theorem ru_1 {n F w : Int} : ∀ (m : Nat) (S S' : er_Me), er_Ru n F w m S S' → S' 1 = S 1
  | 0, S, S', h => by rw [h.2]
  | m + 1, S, S', h => by
    obtain ⟨S1, hac, hr⟩ := h
    rw [ru_1 m S1 S' hr]
    rcases hac with ⟨-, rfl⟩ | ⟨-, hac⟩
    · unfold g_log
      rw [g_recv_k.1 1 (by omega), er_upF (by decide)]
    · rcases hac with ⟨s, p, -, rfl⟩ | ⟨-, -, rfl⟩
      · unfold g_val
        rw [er_upF (by decide), er_upF (by decide), er_upF (by decide)]
      · exact (g_go_k n F w S).1 1 (by omega)
theorem m_corrupt {n F v : Int} {T M S : er_Me} (h : er_W n F T M S) : ∃ a M1 M2 S', f_ER_corrupt 1 v T M = some (a, M1) ∧ f_Mo_corrupt (4 + 46 * n) v T M1 = some (a, M2) ∧ er_W n F T M2 S' := by
  have h' := h
  obtain ⟨hC, hS, hR, hF⟩ := h
  have hn : n ≤ 7 := hR.2.1.2.2.2.1
  by_cases hv : (0 ≤ v ∧ v < n) ∧ S 1 v = 0
  · obtain ⟨k1, k2, k3⟩ := k_nd hC hv.1
    have n1 := (hS.2.1 v hv.1.1 hv.1.2).2.1
    obtain ⟨hNR, hI⟩ := hS.2.2.1 v hv.1.1 hv.1.2
    have hfr : er_Fr (4 + 46 * v) M (er_up M (4 + 46 * v) 8 0) := (er_Fr.rf _ M).up (by omega) (by omega)
    have hR1 := m_RV hR hv.1 hfr
    have e1 : f_ER_corrupt 1 v T M = some (1, er_up M (4 + 46 * v) 8 0) := by
      unfold f_ER_corrupt
      dsimp only [er_le]
      rw [if_pos hC.1, k_well h', Option.bind_some]
      dsimp only
      rw [if_pos hv, if_neg (show ¬ (1 : Int) = 0 by decide), if_pos k3, if_pos k1, k2, if_pos n1]
    have e2 : f_Mo_corrupt (4 + 46 * n) v T (er_up M (4 + 46 * v) 8 0) = some (1, er_up (er_up M (4 + 46 * v) 8 0) (4 + 46 * n + 1) v 1) := by
      obtain ⟨a1, b1, c1⟩ := mo1 hR.1
      unfold f_Mo_corrupt
      dsimp only [er_le]
      rw [if_pos hR.1.2.1, r_well hR1, Option.bind_some]
      dsimp only
      rw [if_pos hv, if_neg (show ¬ (1 : Int) = 0 by decide), a1, c1, if_pos (show 0 < 4 + 46 * n + 1 by omega), if_pos ⟨b1, by omega, by omega⟩]
    have hst : er_St n F T (er_up M (4 + 46 * v) 8 0) (er_up S 1 v 1) := by
      refine hS.step hv.1 (nr_c1 hNR (fun a a0 a1 => er_upF (by omega)) (fun j j0 j1 => er_upF (by omega)) ?_) (si_up hI (by omega)) hfr ((er_Sf.rf v S).up (Or.inr (Or.inl ⟨Or.inl rfl, rfl⟩))) ?_ (fun u u0 u1 => ?_)
      · obtain ⟨f0, f8, f9, f10, f11, f12⟩ := hNR.1
        simp (disch := omega) only [er_upF, er_upR]
        refine ⟨?_, ?_, ?_, ?_, ?_, ?_⟩
        · rw [er_f1N (by decide)]; exact f0
        · rw [er_f1S, er_f1S]; rfl
        · rw [er_f1N (by decide)]; exact f9
        · rw [er_f1N (by decide)]; exact f10
        · rw [er_f1N (by decide)]; exact f11
        · rw [er_f1N (by decide)]; exact f12
      · rw [er_upF (by decide)]
        exact Int.le_refl _
      · rw [er_upF (by decide)]
        have := hS.2.2.2 v u hv.1.1 hv.1.2 u0 u1
        omega
    refine ⟨1, _, _, _, e1, e2, m_end hC hst (hR1.up (by omega) (by omega)) ((er_Fm.rf _ _).up (by omega) (by omega)) (fun w w0 w1 => ?_)⟩
    rw [er_upR]
    by_cases e : w = v
    · rw [e, er_f1S]
      exact Or.inr rfl
    · rw [er_f1N e]
      exact hF w w0 w1
  · have e1 : f_ER_corrupt 1 v T M = some (0, M) := by
      unfold f_ER_corrupt
      rw [if_pos hC.1, k_well h', Option.bind_some]
      dsimp only
      rw [if_neg hv, if_pos rfl]
    have e2 : f_Mo_corrupt (4 + 46 * n) v T M = some (0, M) := by
      unfold f_Mo_corrupt
      rw [if_pos hR.1.2.1, r_well hR, Option.bind_some]
      dsimp only
      rw [if_neg hv, if_pos rfl]
    exact ⟨0, M, M, S, e1, e2, h'⟩
theorem m_tosses {n F v x : Int} {T M S : er_Me} (h : er_W n F T M S) : ∃ a M1 M2 S', f_ER_tosses 1 v x T M = some (a, M1) ∧ f_Mo_tosses (4 + 46 * n) v x T M1 = some (a, M2) ∧ er_W n F T M2 S' := by
  have h' := h
  obtain ⟨hC, hS, hR, hF⟩ := h
  have hn : n ≤ 7 := hR.2.1.2.2.2.1
  by_cases hv : (0 ≤ v ∧ v < n) ∧ S 1 v = 0
  · obtain ⟨k1, k2, k3⟩ := k_nd hC hv.1
    have n1 := (hS.2.1 v hv.1.1 hv.1.2).2.1
    obtain ⟨hNR, hI⟩ := hS.2.2.1 v hv.1.1 hv.1.2
    have hfr : er_Fr (4 + 46 * v) M (er_up M (4 + 46 * v) 9 (er_and x 7)) := (er_Fr.rf _ M).up (by omega) (by omega)
    have hR1 := m_RV hR hv.1 hfr
    have e1 : f_ER_tosses 1 v x T M = some (1, er_up M (4 + 46 * v) 9 (er_and x 7)) := by
      unfold f_ER_tosses
      dsimp only [er_le]
      rw [if_pos hC.1, k_well h', Option.bind_some]
      dsimp only
      rw [if_pos hv, if_neg (show ¬ (1 : Int) = 0 by decide), if_pos k3, if_pos k1, k2, if_pos n1]
    have e2 : f_Mo_tosses (4 + 46 * n) v x T (er_up M (4 + 46 * v) 9 (er_and x 7)) = some (1, er_up (er_up M (4 + 46 * v) 9 (er_and x 7)) (4 + 46 * n + 15) v (er_and x 7)) := by
      obtain ⟨a1, b1, c1⟩ := mo15 hR.1
      unfold f_Mo_tosses
      dsimp only [er_le]
      rw [if_pos hR.1.2.1, r_well hR1, Option.bind_some]
      dsimp only
      rw [if_pos hv, if_neg (show ¬ (1 : Int) = 0 by decide), a1, c1, if_pos (show 0 < 4 + 46 * n + 15 by omega), if_pos ⟨b1, by omega, by omega⟩]
    have hst : er_St n F T (er_up M (4 + 46 * v) 9 (er_and x 7)) (er_up S 15 v (er_and x 7)) := by
      refine hS.step hv.1 (nr_c1 hNR (fun a a0 a1 => er_upF (by omega)) (fun j j0 j1 => er_upF (by omega)) ?_) (si_up hI (by omega)) hfr ((er_Sf.rf v S).up (Or.inr (Or.inl ⟨by omega, rfl⟩))) ?_ (fun u u0 u1 => ?_)
      · obtain ⟨f0, f8, f9, f10, f11, f12⟩ := hNR.1
        simp (disch := omega) only [er_upF, er_upR]
        refine ⟨?_, ?_, ?_, ?_, ?_, ?_⟩
        · rw [er_f1N (by decide)]; exact f0
        · rw [er_f1N (by decide)]; exact f8
        · rw [er_f1S, er_f1S]
        · rw [er_f1N (by decide)]; exact f10
        · rw [er_f1N (by decide)]; exact f11
        · rw [er_f1N (by decide)]; exact f12
      · rw [er_upF (by decide)]
        exact Int.le_refl _
      · rw [er_upF (by decide)]
        have := hS.2.2.2 v u hv.1.1 hv.1.2 u0 u1
        omega
    refine ⟨1, _, _, _, e1, e2, m_end hC hst (hR1.up (by omega) (by omega)) ((er_Fm.rf _ _).up (by omega) (by omega)) (fun w w0 w1 => ?_)⟩
    rw [er_upF (by decide)]
    exact hF w w0 w1
  · have e1 : f_ER_tosses 1 v x T M = some (0, M) := by
      unfold f_ER_tosses
      rw [if_pos hC.1, k_well h', Option.bind_some]
      dsimp only
      rw [if_neg hv, if_pos rfl]
    have e2 : f_Mo_tosses (4 + 46 * n) v x T M = some (0, M) := by
      unfold f_Mo_tosses
      rw [if_pos hR.1.2.1, r_well hR, Option.bind_some]
      dsimp only
      rw [if_neg hv, if_pos rfl]
    exact ⟨0, M, M, S, e1, e2, h'⟩
/-- the slot and the value at a start -/
def g_s0 (S : er_Me) (v x : Int) : er_Me := g_send (er_up (er_up S 12 v 0) 13 v x) v 0 0 v x
theorem st_enter {n F v x : Int} {T M S : er_Me} (hS : er_St n F T M S) (hv : 0 ≤ v ∧ v < n) (hs : S 12 v = -1) (hx : 0 ≤ x ∧ x < 4) : ∃ M1, f_Node_enter (4 + 46 * v) 0 x T M = some M1 ∧ er_St n F T M1 (g_s0 S v x) ∧ er_Fr (4 + 46 * v) M M1 := by
  have hn : n ≤ 7 := hS.1.2.2.2.2.2.2.2.1
  obtain ⟨hNR, hI⟩ := hS.2.2.1 v hv.1 hv.2
  have hN := hS.2.1 v hv.1 hv.2
  have hz := si_room hI (s := 0) (p := 0) (by omega) (by omega)
  have hz1 := hz.2.2.2 (by omega)
  have hz0 := hz.1
  have hq := q_enter (s := 0) (x := x) hN hNR.1.1 (by omega) (by omega) hx (by rw [hNR.2.1]; omega) (fun _ => by rw [hNR.2.1]; omega)
  rw [if_pos (by decide), show (1000 * 0 + 100 * v + x : Int) = 1000 * 0 + 100 * v + 10 * 0 + x by omega] at hq
  have hfr : er_Fr (4 + 46 * v) M (er_ap (er_up (er_up M (4 + 46 * v) 10 0) (4 + 46 * v) 11 x) (4 + 46 * v) (1000 * 0 + 100 * v + 10 * 0 + x)) := (((er_Fr.rf _ M).up (by omega) (by omega)).up (by omega) (by omega)).ap
  refine ⟨_, hq, ?_, hfr⟩
  have hnr0 : er_NR n v (4 + 46 * v) (er_up (er_up M (4 + 46 * v) 10 0) (4 + 46 * v) 11 x) (er_up (er_up S 12 v 0) 13 v x) := by
    refine nr_c1 hNR (fun a a0 a1 => by rw [er_upF (by omega), er_upF (by omega)]) (fun j j0 j1 => by rw [er_upF (by omega), er_upF (by omega)]) ?_
    obtain ⟨f0, f8, f9, f10, f11, f12⟩ := hNR.1
    simp (disch := omega) only [er_upF, er_upR]
    refine ⟨?_, ?_, ?_, ?_, ?_, ?_⟩
    · rw [er_f1N (by decide), er_f1N (by decide)]; exact f0
    · rw [er_f1N (by decide), er_f1N (by decide)]; exact f8
    · rw [er_f1N (by decide), er_f1N (by decide)]; exact f9
    · rw [er_f1N (by decide), er_f1S, er_f1S]
    · rw [er_f1S, er_f1S, er_f1S, if_neg (by decide)]
    · rw [er_f1N (by decide), er_f1N (by decide)]; exact f12
  have hsi : er_SI n v (g_s0 S v x) := by
    obtain ⟨h1, h2, h3, h4, h5, h6⟩ := hI
    unfold g_s0 g_send er_SI
    simp (disch := omega) only [er_upF, er_upR]
    simp only [er_f1S]
    refine ⟨?_, fun k k0 k1 => ?_, h3, h4, by omega, h6⟩
    · have e : er_sp 0 = er_sp (S 12 v) + 1 := by unfold er_sp; omega
      rw [e]
      omega
    · by_cases e : k = S 3 v
      · rw [e, er_f1S]
        exact ⟨0, 0, v, x, by omega, by omega, hv, hx, by omega⟩
      · rw [er_f1N (by omega)]
        exact h2 k k0 (by omega)
  have e3 : er_up (er_up S 12 v 0) 13 v x 3 = S 3 := by rw [er_upF (by decide), er_upF (by decide)]
  refine hS.step hv (nr_append hnr0) hsi hfr (sf_send (((er_Sf.rf v S).up (Or.inr (Or.inl ⟨by omega, rfl⟩))).up (Or.inr (Or.inl ⟨by omega, rfl⟩))) (by rw [e3]; omega)) ?_ (fun u u0 u1 => ?_)
  · unfold g_s0
    rw [g_send_3, e3]
    omega
  · unfold g_s0
    rw [g_send_k (by decide) (by decide), er_upF (by decide), er_upF (by decide)]
    have := hS.2.2.2 v u hv.1 hv.2 u0 u1
    omega
theorem st_4 {n F w : Int} {T M S : er_Me} (h : er_St n F T M S) (hw : 0 ≤ w ∧ w < n) : 0 ≤ S 4 (8 * w) := by
  have := (h.2.2.2 w w hw.1 hw.2 hw.1 hw.2).1
  rw [show 7 * w + w = 8 * w by omega] at this
  exact this
theorem m_start {n F v x : Int} {T M S : er_Me} (h : er_W n F T M S) : ∃ a M1 M2 S', f_ER_start 1 v x T M = some (a, M1) ∧ f_Mo_start (4 + 46 * n) v x T M1 = some (a, M2) ∧ er_W n F T M2 S' := by
  have h' := h
  obtain ⟨hC, hS, hR, hF⟩ := h
  have hn : n ≤ 7 := hR.2.1.2.2.2.1
  by_cases hv : (0 ≤ v ∧ v < n) ∧ S 1 v = 0
  · obtain ⟨k1, k2, k3⟩ := k_nd hC hv.1
    have n1 := (hS.2.1 v hv.1.1 hv.1.2).2.1
    obtain ⟨hNR, hI⟩ := hS.2.2.1 v hv.1.1 hv.1.2
    have h10 : M (4 + 46 * v) 10 = S 12 v := hNR.1.2.2.2.1
    have h5 := hI.2.2.2.2.1
    obtain ⟨a12, b12, c12⟩ := mo12 hR.1
    obtain ⟨a13, b13, c13⟩ := mo13 hR.1
    have hz := si_room hI (s := 0) (p := 0) (by omega) (by omega)
    by_cases hs : S 12 v = -1
    · by_cases hx : x = 0 ∨ x = 1
      · obtain ⟨M1, d1, d2, d3⟩ := st_enter (x := x) hS hv.1 hs (by omega)
        obtain ⟨m, S2, M2, p1, p2, p3, p4, p5, p6⟩ := c_settled hv.1 d2
        have hR2 := m_RV hR hv.1 (d3.tr p5)
        have e1 : f_ER_start 1 v x T M = some (1, M2) := by
          unfold f_ER_start
          rw [if_pos hC.1, k_well h', Option.bind_some]
          dsimp only
          rw [if_pos hv, if_neg (show ¬ (1 : Int) = 0 by decide), if_pos k3, if_pos k1, k2, if_pos n1]
          simp only [h10]
          rw [if_pos hs, p_isPlain, Option.bind_some]
          dsimp only
          rw [if_pos hx, if_neg (show ¬ (1 : Int) = 0 by decide), d1, Option.bind_some, p3, Option.bind_some]
        have hR3 : er_RV n F (4 + 46 * n) T (er_up (er_up M2 (4 + 46 * n + 12) v 0) (4 + 46 * n + 13) v x) (er_up (er_up S 12 v 0) 13 v x) := (hR2.up (by omega) (by omega)).up (by omega) (by omega)
        have e3 : er_up (er_up S 12 v 0) 13 v x 3 = S 3 := by rw [er_upF (by decide), er_upF (by decide)]
        obtain ⟨M3, o1, o2, o3⟩ := r_send (k := 0) (s := 0) (p := v) (x := x) hR3 (w := v) (by omega) (by rw [e3]; omega) (by omega) (by omega) (by omega) (by omega)
        rw [if_neg (by decide)] at o2
        obtain ⟨M4, t1, t2, t3⟩ := r_settle o2 hv.1 (d2.2.2.1 v hv.1.1 hv.1.2).2 (st_4 d2 hv.1) p2 p1
        have e2 : f_Mo_start (4 + 46 * n) v x T M2 = some (1, M4) := by
          unfold f_Mo_start
          dsimp only [er_le]
          rw [if_pos hR.1.2.1, r_well hR2, Option.bind_some]
          dsimp only
          rw [if_pos hv, if_neg (show ¬ (1 : Int) = 0 by decide), a12, a13, c12, c13, if_pos (show 0 < 4 + 46 * n + 12 by omega), if_pos (show T (4 + 46 * n + 12) (-2) = 101 ∧ 0 ≤ v ∧ v < 7 from ⟨b12, by omega, by omega⟩)]
          simp only [hR2.2.2 12 (by omega) (by omega)]
          rw [if_neg (show ¬ 0 ≤ S 12 v by omega), if_neg (show ¬ x < 0 by omega), if_pos (show x ≤ 1 by omega), if_pos (show 0 < 4 + 46 * n + 13 by omega), if_pos (show T (4 + 46 * n + 13) (-2) = 101 ∧ v < 7 from ⟨b13, by omega⟩), o1, Option.bind_some, t1, Option.bind_some]
        refine ⟨1, M2, M4, S2, e1, e2, m_end hC p4 t2 ?_ (fun w w0 w1 => ?_)⟩
        · exact ((((er_Fm.rf _ M2).up (by omega) (by omega)).up (by omega) (by omega)).tr o3).tr t3
        · rw [ru_1 m _ _ p2]
          unfold g_s0
          rw [g_send_k (by decide) (by decide), er_upF (by decide), er_upF (by decide)]
          exact hF w w0 w1
      · refine ⟨0, M, M, S, ?_, ?_, h'⟩
        · unfold f_ER_start
          rw [if_pos hC.1, k_well h', Option.bind_some]
          dsimp only
          rw [if_pos hv, if_neg (show ¬ (1 : Int) = 0 by decide), if_pos k3, if_pos k1, k2, if_pos n1]
          simp only [h10]
          rw [if_pos hs, p_isPlain, Option.bind_some]
          dsimp only
          rw [if_neg hx, if_pos rfl]
        · unfold f_Mo_start
          dsimp only [er_le]
          rw [if_pos hR.1.2.1, r_well hR, Option.bind_some]
          dsimp only
          rw [if_pos hv, if_neg (show ¬ (1 : Int) = 0 by decide), a12, a13, c12, c13, if_pos (show 0 < 4 + 46 * n + 12 by omega), if_pos (show T (4 + 46 * n + 12) (-2) = 101 ∧ 0 ≤ v ∧ v < 7 from ⟨b12, by omega, by omega⟩)]
          simp only [hR.2.2 12 (by omega) (by omega)]
          rw [if_neg (show ¬ 0 ≤ S 12 v by omega)]
          by_cases hx0 : x < 0
          · rw [if_pos hx0]
          · rw [if_neg hx0, if_neg (show ¬ x ≤ 1 by omega)]
    · refine ⟨0, M, M, S, ?_, ?_, h'⟩
      · unfold f_ER_start
        rw [if_pos hC.1, k_well h', Option.bind_some]
        dsimp only
        rw [if_pos hv, if_neg (show ¬ (1 : Int) = 0 by decide), if_pos k3, if_pos k1, k2, if_pos n1]
        simp only [h10]
        rw [if_neg hs]
      · unfold f_Mo_start
        dsimp only [er_le]
        rw [if_pos hR.1.2.1, r_well hR, Option.bind_some]
        dsimp only
        rw [if_pos hv, if_neg (show ¬ (1 : Int) = 0 by decide), a12, a13, c12, c13, if_pos (show 0 < 4 + 46 * n + 12 by omega), if_pos (show T (4 + 46 * n + 12) (-2) = 101 ∧ 0 ≤ v ∧ v < 7 from ⟨b12, by omega, by omega⟩)]
        simp only [hR.2.2 12 (by omega) (by omega)]
        rw [if_pos (show 0 ≤ S 12 v by omega)]
  · have e1 : f_ER_start 1 v x T M = some (0, M) := by
      unfold f_ER_start
      rw [if_pos hC.1, k_well h', Option.bind_some]
      dsimp only
      rw [if_neg hv, if_pos rfl]
    have e2 : f_Mo_start (4 + 46 * n) v x T M = some (0, M) := by
      unfold f_Mo_start
      rw [if_pos hR.1.2.1, r_well hR, Option.bind_some]
      dsimp only
      rw [if_neg hv, if_pos rfl]
    exact ⟨0, M, M, S, e1, e2, h'⟩
