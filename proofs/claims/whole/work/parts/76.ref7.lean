/-! the reference's settle -/
theorem si_log {n F w v : Int} {S : er_Me} (hn : n ≤ 7) (hI : er_SI n w S) (hIv : er_SI n v S) (hg : 0 ≤ S 4 (7 * w + v) ∧ S 4 (7 * w + v) < S 3 v) : er_SI n w (g_log n F S w v) := by
  have hcd := hIv.2.1 (S 4 (7 * w + v)) hg.1 hg.2
  obtain ⟨d1, d2, d3, d4, d5⟩ := er_cd_d hn hcd
  exact si_recv (si_up hI (by omega)) d2 d3 hn d4
theorem g_log_4 {n F w : Int} {S : er_Me} (h : 0 ≤ S 4 (8 * w)) : 0 ≤ g_log n F S w w 4 (8 * w) := by
  have e8 : 7 * w + w = 8 * w := by omega
  unfold g_log
  rw [g_recv_k.1 4 (by omega), er_upR, e8, er_f1S]
  omega
theorem r_set_b {n F R w i : Int} {T M S : er_Me} {f : Nat} (h : er_RV n F R T M S) (hw : 0 ≤ w ∧ w < n) (h0 : 0 ≤ i) (h1 : i < 2000) : f_Mo_settle_4 (f + 1) T R w 1 i M = if S 3 w ≤ S 4 (8 * w) then (f_Mo_validate R w T M).bind fun q8 => if q8.1 = 0 then (f_Mo_goOn R w T q8.2).bind fun q11 => if q11.1 = 0 then f_Mo_settle_4 f T R w 0 (i + 1) q11.2 else f_Mo_settle_4 f T R w 1 (i + 1) q11.2 else f_Mo_settle_4 f T R w 1 (i + 1) q8.2 else (f_Mo_receiveFromLog R w w T M).bind fun q15 => f_Mo_settle_4 f T R w 1 (i + 1) q15 := by
  obtain ⟨g1, ⟨g2, g2b, q1, q2, q3⟩, g3⟩ := h
  have ha := g1.1
  have m0 := g1.2.1
  obtain ⟨a3, b3, c3⟩ := mo3 g1
  obtain ⟨a4, b4, c4⟩ := mo4 g1
  clear g1
  have e3 := g3 3 (by omega) (by omega)
  have e4 := g3 4 (by omega) (by omega)
  have ei : er_add i 1 = i + 1 := er_addE (by constructor <;> omega)
  have i1 : er_mul 8 w = 8 * w := er_mulE (by constructor <;> omega)
  show f_Mo_settle_4_b (f_Mo_settle_4 f T) R w 1 i T M = _
  unfold f_Mo_settle_4_b
  dsimp only [er_le]
  rw [if_neg (show ¬ 2000 ≤ i by omega), if_neg (show ¬ (1 : Int) = 0 by decide), a3, a4, c3, c4, ei, i1, if_pos (show T R (-2) = 7 ∧ 0 < R + 4 from ⟨m0, by omega⟩), if_pos (show T (R + 4) (-2) = 101 ∧ 0 ≤ 8 * w ∧ 8 * w < 49 from ⟨b4, by omega, by omega⟩), if_pos (show 0 < R + 3 by omega), if_pos (show T (R + 3) (-2) = 101 ∧ 0 ≤ w ∧ w < 7 from ⟨b3, by omega, by omega⟩), e3, e4]
theorem r_set4 {n F R w : Int} {T S' : er_Me} (hw : 0 ≤ w ∧ w < n) : ∀ (m fuel : Nat) (i : Int) (M S : er_Me), er_RV n F R T M S → er_SI n w S → 0 ≤ S 4 (8 * w) → er_Ru n F w m S S' → 0 ≤ i → i + m + 1 < 2000 → m + 1 < fuel → ∃ M', f_Mo_settle_4 fuel T R w 1 i M = some M' ∧ er_RV n F R T M' S' ∧ er_Fm R M M'
  | 0, fuel, i, M, S, h, hI, hg, hr, h0, h1, h2 => by
    obtain ⟨f, rfl⟩ : ∃ f, fuel = f + 1 + 1 := ⟨fuel - 2, by omega⟩
    obtain ⟨⟨r1, r2, r3⟩, rfl⟩ := hr
    have hn : n ≤ 7 := h.2.1.2.2.2.1
    rw [r_set_b h hw h0 (by omega), if_pos r1]
    rcases r_validate hI hw hn h with ⟨s1, p1, M1, v1, -⟩ | ⟨-, M1, v2, v3, v4⟩
    · exact absurd v1.2.2.1 (r2 s1 p1 v1.1.1 v1.1.2 v1.2.1.1 v1.2.1.2)
    · rw [v2, Option.bind_some]
      dsimp only
      rw [if_pos rfl]
      rcases r_goOn v3 hI hw with ⟨c1, -⟩ | ⟨-, c2⟩
      · exact absurd c1 r3
      · rw [c2, Option.bind_some]
        dsimp only
        rw [if_pos rfl]
        refine ⟨M1, ?_, v3, v4⟩
        show f_Mo_settle_4_b (f_Mo_settle_4 f T) R w 0 (i + 1) T M1 = _
        unfold f_Mo_settle_4_b
        rw [if_neg (show ¬ 2000 ≤ i + 1 by omega), if_pos rfl]
  | m + 1, fuel, i, M, S, h, hI, hg, hr, h0, h1, h2 => by
    have ih := r_set4 (n := n) (F := F) (R := R) (w := w) (T := T) (S' := S') hw m
    obtain ⟨f, rfl⟩ : ∃ f, fuel = f + 1 := ⟨fuel - 1, by omega⟩
    obtain ⟨S1, hac, hr'⟩ := hr
    have hn : n ≤ 7 := h.2.1.2.2.2.1
    have e8 : 7 * w + w = 8 * w := by omega
    have go : ∀ M1, er_RV n F R T M1 S1 → er_Fm R M M1 → er_SI n w S1 → 0 ≤ S1 4 (8 * w) → ∃ M', f_Mo_settle_4 f T R w 1 (i + 1) M1 = some M' ∧ er_RV n F R T M' S' ∧ er_Fm R M M' := by
      intro M1 k1 k2 k3 k4
      obtain ⟨M', b1, b2, b3⟩ := ih f (i + 1) M1 S1 k1 k3 k4 hr' (by omega) (by omega) (by omega)
      exact ⟨M', b1, b2, k2.tr b3⟩
    rw [r_set_b h hw h0 (by omega)]
    rcases hac with ⟨hl, rfl⟩ | ⟨hl, hac⟩
    · obtain ⟨M1, a1, a2, a3⟩ := r_log h hw hw hI hI (by rw [e8]; exact ⟨hg, hl⟩)
      rw [if_neg (by omega), a1, Option.bind_some]
      exact go M1 a2 a3 (si_log hn hI hI (by rw [e8]; exact ⟨hg, hl⟩)) (g_log_4 hg)
    · rw [if_pos hl]
      rcases hac with ⟨s, p, hf, rfl⟩ | ⟨r2, r3, rfl⟩
      · rcases r_validate hI hw hn h with ⟨s1, p1, M1, v1, v2, v3, v4⟩ | ⟨v1, -⟩
        · obtain ⟨rfl, rfl⟩ := er_1st_uq hf v1
          rw [v2, Option.bind_some]
          dsimp only
          rw [if_neg (by decide)]
          refine go M1 v3 v4 (si_val hI v1.1 v1.2.1 hn v1.2.2.1) ?_
          unfold g_val
          rw [er_upF (by decide), er_upF (by decide), er_upF (by decide)]
          exact hg
        · exact absurd hf.2.2.1 (v1 s p hf.1.1 hf.1.2 hf.2.1.1 hf.2.1.2)
      · rcases r_validate hI hw hn h with ⟨s1, p1, M1, v1, -⟩ | ⟨-, M1, v2, v3, v4⟩
        · exact absurd v1.2.2.1 (r2 s1 p1 v1.1.1 v1.1.2 v1.2.1.1 v1.2.1.2)
        · rw [v2, Option.bind_some]
          dsimp only
          rw [if_pos rfl]
          rcases r_goOn v3 hI hw with ⟨-, M2, c2, c3, c4⟩ | ⟨c1, -⟩
          · rw [c2, Option.bind_some]
            dsimp only
            rw [if_neg (by decide)]
            refine go M2 c3 (v4.tr c4) (si_go hI hw hn r3) ?_
            rw [(g_go_k n F w S).1 4 (by omega)]
            exact hg
          · exact absurd r3 c1
theorem r_settle {n F R w : Int} {T M S S' : er_Me} {m : Nat} (h : er_RV n F R T M S) (hw : 0 ≤ w ∧ w < n) (hI : er_SI n w S) (hg : 0 ≤ S 4 (8 * w)) (hr : er_Ru n F w m S S') (hm : m ≤ 208) : ∃ M', f_Mo_settle R w T M = some M' ∧ er_RV n F R T M' S' ∧ er_Fm R M M' :=
  r_set4 hw m er_fu 0 M S h hI hg hr (by omega) (by omega) (by unfold er_fu; omega)
