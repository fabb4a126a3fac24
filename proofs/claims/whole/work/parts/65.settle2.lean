/-! acts of settling, as steps of the reference's arrays -/
def er_ac (n F w : Int) (S S' : er_Me) : Prop := (S 4 (8 * w) < S 3 w ∧ S' = g_log n F S w w) ∨ (S 3 w ≤ S 4 (8 * w) ∧ ((∃ s p, er_1st n F S w s p ∧ S' = g_val S w s p) ∨ (er_0th n F S w ∧ er_gc n F S w ∧ S' = g_go n F S w)))
def er_fi (n F w : Int) (S : er_Me) : Prop := S 3 w ≤ S 4 (8 * w) ∧ er_0th n F S w ∧ ¬ er_gc n F S w
def er_Ru (n F w : Int) : Nat → er_Me → er_Me → Prop
  | 0, S, S' => er_fi n F w S ∧ S' = S
  | m + 1, S, S' => ∃ S1, er_ac n F w S S1 ∧ er_Ru n F w m S1 S'
def er_mu (w : Int) (S : er_Me) : Nat := (135 - S 4 (8 * w)).toNat + (63 - er_fl w (S 8)) + (9 - S 12 w).toNat
theorem st_val {n F w s p : Int} {T M M' S : er_Me} (h : er_St n F T M S) (hw : 0 ≤ w ∧ w < n) (h1 : er_1st n F S w s p) (h2 : er_NR n w (4 + 46 * w) M' (g_val S w s p)) (h3 : er_Fr (4 + 46 * w) M M') : er_St n F T M' (g_val S w s p) ∧ er_Sf w S (g_val S w s p) ∧ er_mu w (g_val S w s p) < er_mu w S := by
  have h' := h
  obtain ⟨g1, g2, g3, g4⟩ := h
  have hn : n ≤ 7 := g1.2.2.2.2.2.2.2.1
  obtain ⟨hNR, hI⟩ := g3 w hw.1 hw.2
  obtain ⟨hs, hp, hv, -⟩ := h1
  have h7 := er_room hI hs hp hn hv.2.1
  have hz := (er_rowM hNR hI hs).2.1
  have hsi := si_val (F := F) hI hs hp hn hv
  have hsf : er_Sf w S (g_val S w s p) := (((er_Sf.rf w S).up (Or.inr (Or.inr (Or.inr (Or.inl ⟨by omega, by omega, by omega, by omega⟩))))).up (Or.inr (Or.inr (Or.inr (Or.inl ⟨by omega, by omega, by omega, by omega⟩))))).up (Or.inr (Or.inr (Or.inr (Or.inr (Or.inl ⟨rfl, by omega, by omega⟩)))))
  have ek : ∀ j, j ≠ 8 → j ≠ 9 → j ≠ 10 → g_val S w s p j = S j := fun j a b c => by unfold g_val; rw [er_upF c, er_upF b, er_upF a]
  refine ⟨h'.step hw h2 hsi h3 hsf (by rw [ek 3 (by decide) (by decide) (by decide)]; exact Int.le_refl _) (fun v v0 v1 => ?_), hsf, ?_⟩
  · rw [ek 4 (by decide) (by decide) (by decide)]
    have := g4 w v hw.1 hw.2 v0 v1
    omega
  · have e8 : g_val S w s p 8 = er_f1 (S 8) (63 * w + (7 * s + p)) 1 := by
      unfold g_val
      rw [er_upF (by decide), er_upF (by decide), er_upR, Int.add_assoc]
    have h0 := hv.2.1
    rw [Int.add_assoc] at h0
    have hu := er_fl_up (w := w) (c := 7 * s + p) (f := S 8) (by omega) h0
    have hl := er_fl_le (w := w) (f := g_val S w s p 8) (fun c c0 c1 => (hsi.2.2.1 c c0 c1).2.2)
    unfold er_mu
    rw [ek 4 (by decide) (by decide) (by decide), ek 12 (by decide) (by decide) (by decide)]
    rw [e8] at hl ⊢
    omega
theorem g_go_k (n F w : Int) (S : er_Me) : (∀ j, j = 1 ∨ 4 ≤ j ∧ j ≤ 11 ∨ j = 15 → g_go n F S w j = S j) ∧ S 3 w ≤ g_go n F S w 3 w ∧ g_go n F S w 12 w = S 12 w + 1 := by
  unfold g_go
  split
  · refine ⟨fun j hj => ?_, ?_, ?_⟩
    · rw [g_send_k (by omega) (by omega)]
      unfold g_st
      rw [er_upF (by omega), er_upF (by omega), er_upF (by omega)]
    · rw [g_send_3]
      unfold g_st
      rw [er_upF (by decide), er_upF (by decide), er_upF (by decide)]
      omega
    · rw [g_send_k (by decide) (by decide)]
      unfold g_st
      rw [er_upS]
  · refine ⟨fun j hj => ?_, ?_, ?_⟩
    · unfold g_st
      rw [er_upF (by omega), er_upF (by omega), er_upF (by omega)]
    · unfold g_st
      rw [er_upF (by decide), er_upF (by decide), er_upF (by decide)]
      exact Int.le_refl _
    · unfold g_st
      rw [er_upS]
theorem sf_st {w s x d : Int} {S : er_Me} : er_Sf w S (g_st S w s x d) := (((er_Sf.rf w S).up (Or.inr (Or.inl ⟨by omega, rfl⟩))).up (Or.inr (Or.inl ⟨by omega, rfl⟩))).up (Or.inr (Or.inl ⟨by omega, rfl⟩))
theorem st_go {n F w : Int} {T M M' S : er_Me} (h : er_St n F T M S) (hw : 0 ≤ w ∧ w < n) (h1 : er_gc n F S w) (h2 : er_NR n w (4 + 46 * w) M' (g_go n F S w)) (h3 : er_Fr (4 + 46 * w) M M') : er_St n F T M' (g_go n F S w) ∧ er_Sf w S (g_go n F S w) ∧ er_mu w (g_go n F S w) < er_mu w S := by
  have h' := h
  obtain ⟨g1, g2, g3, g4⟩ := h
  have hn : n ≤ 7 := g1.2.2.2.2.2.2.2.1
  obtain ⟨hNR, hI⟩ := g3 w hw.1 hw.2
  have hsi := si_go hI hw hn h1
  have hz := si_room hI (s := 0) (p := 0) (by omega) (by omega)
  obtain ⟨k1, k2, k3⟩ := g_go_k n F w S
  have hsf : er_Sf w S (g_go n F S w) := by
    unfold g_go
    split
    · refine sf_send sf_st ?_
      unfold g_st
      rw [er_upF (by decide), er_upF (by decide), er_upF (by decide)]
      omega
    · exact sf_st
  refine ⟨h'.step hw h2 hsi h3 hsf k2 (fun v v0 v1 => ?_), hsf, ?_⟩
  · rw [k1 4 (by omega)]
    have := g4 w v hw.1 hw.2 v0 v1
    omega
  · unfold er_mu
    rw [k1 4 (by omega), k1 8 (by omega), k3]
    have := h1.1
    have := h1.2.1
    omega
theorem mu_log {n F w : Int} {T M S : er_Me} (h : er_St n F T M S) (hw : 0 ≤ w ∧ w < n) (hg : S 4 (8 * w) < S 3 w) : er_mu w (g_log n F S w w) < er_mu w S := by
  obtain ⟨g1, g2, g3, g4⟩ := h
  have hz := si_room (g3 w hw.1 hw.2).2 (s := 0) (p := 0) (by omega) (by omega)
  have hb := g4 w w hw.1 hw.2 hw.1 hw.2
  have e8 : 7 * w + w = 8 * w := by omega
  unfold er_mu g_log
  rw [(g_recv_k).1 4 (by omega), (g_recv_k).1 8 (by omega), (g_recv_k).1 12 (by omega), e8, er_upS, er_upF (show (8 : Int) ≠ 4 by decide), er_upF (show (12 : Int) ≠ 4 by decide)]
  omega
set_option maxHeartbeats 1000000 in
/-- one turn of settle's loop, given what the turns behind it do -/
theorem c_settle_b {n F w : Int} {T : er_Me} (hw : 0 ≤ w ∧ w < n) (μ : Nat) (ih : ∀ (fuel : Nat) (i : Int) (M S : er_Me), er_St n F T M S → er_mu w S < μ → 0 ≤ i → i + μ ≤ 1000 → μ ≤ fuel → ∃ m S' M', m < μ ∧ er_Ru n F w m S S' ∧ f_Node_settle_2 fuel T (4 + 46 * w) i M = some M' ∧ er_St n F T M' S' ∧ er_Fr (4 + 46 * w) M M' ∧ er_Sf w S S') :
    ∀ (fuel : Nat) (i : Int) (M S : er_Me), er_St n F T M S → er_mu w S ≤ μ → 0 ≤ i → i + μ < 1000 → μ < fuel → ∃ m S' M', m ≤ μ ∧ er_Ru n F w m S S' ∧ f_Node_settle_2 fuel T (4 + 46 * w) i M = some M' ∧ er_St n F T M' S' ∧ er_Fr (4 + 46 * w) M M' ∧ er_Sf w S S' := by
  intro fuel i M S h hm h0 h1 h2
  obtain ⟨f, rfl⟩ : ∃ f, fuel = f + 1 := ⟨fuel - 1, by omega⟩
  have h' := h
  obtain ⟨g1, g2, g3, g4⟩ := h
  have hn : n ≤ 7 := g1.2.2.2.2.2.2.2.1
  obtain ⟨hNR, hI⟩ := g3 w hw.1 hw.2
  have hN := g2 w hw.1 hw.2
  have hz := si_room hI (s := 0) (p := 0) (by omega) (by omega)
  obtain ⟨ha, n1, n2, n3, -⟩ := g2 w hw.1 hw.2
  have e8 : 7 * w + w = 8 * w := by omega
  have ei : er_add i 1 = i + 1 := er_addE (by constructor <;> omega)
  have hb : f_Node_settle_2 (f + 1) T (4 + 46 * w) i M = (f_Node_hearNextOf (4 + 46 * w) w (4 + 46 * w + 1) T M).bind fun q4 => if q4.1 = 0 then (f_Node_makeOneValid (4 + 46 * w) T q4.2).bind fun q7 => if q7.1 = 0 then (f_Node_goOn (4 + 46 * w) T q7.2).bind fun q10 => if q10.1 = 0 then some q10.2 else f_Node_settle_2 f T (4 + 46 * w) (i + 1) q10.2 else f_Node_settle_2 f T (4 + 46 * w) (i + 1) q7.2 else f_Node_settle_2 f T (4 + 46 * w) (i + 1) q4.2 := by
    show f_Node_settle_2_b (f_Node_settle_2 f T) (4 + 46 * w) i T M = _
    unfold f_Node_settle_2_b
    dsimp only [er_le]
    rw [n3, ei, if_neg (show ¬ 1000 ≤ i by omega), if_pos n1, if_pos (show 0 < 4 + 46 * w + 1 by omega), hNR.1.1]
  -- a turn that goes on
  have go : ∀ M1 S1, er_ac n F w S S1 → er_St n F T M1 S1 → er_Fr (4 + 46 * w) M M1 → er_Sf w S S1 → er_mu w S1 < er_mu w S → f_Node_settle_2 (f + 1) T (4 + 46 * w) i M = f_Node_settle_2 f T (4 + 46 * w) (i + 1) M1 → ∃ m S' M', m ≤ μ ∧ er_Ru n F w m S S' ∧ f_Node_settle_2 (f + 1) T (4 + 46 * w) i M = some M' ∧ er_St n F T M' S' ∧ er_Fr (4 + 46 * w) M M' ∧ er_Sf w S S' := by
    intro M1 S1 hac hst hfr hsf hmu he
    obtain ⟨m, S', M', b1, b2, b3, b4, b5, b6⟩ := ih f (i + 1) M1 S1 hst (by omega) (by omega) (by omega) (by omega)
    exact ⟨m + 1, S', M', by omega, ⟨S1, hac, b2⟩, by rw [he]; exact b3, b4, hfr.tr b5, hsf.tr b6⟩
  by_cases hl : S 4 (8 * w) < S 3 w
  · obtain ⟨M1, a1, a2, a3, a4⟩ := st_log h' hw hw (by rw [e8]; exact hl)
    refine go M1 _ (Or.inl ⟨hl, rfl⟩) a2 a3 a4 (mu_log h' hw hl) ?_
    rw [hb, a1, Option.bind_some]
    dsimp only
    rw [if_neg (by decide)]
  · have a1 := st_nolog h' hw hw (by rw [e8]; omega)
    rw [a1, Option.bind_some] at hb
    dsimp only at hb
    rw [if_pos rfl] at hb
    rcases q_make hN g1 hNR hI with ⟨s, p, M1, b1, b2, b3, b4⟩ | ⟨b1, b2⟩
    · obtain ⟨d1, d2, d3⟩ := st_val h' hw b1 b3 b4
      refine go M1 _ (Or.inr ⟨by omega, Or.inl ⟨s, p, b1, rfl⟩⟩) d1 b4 d2 d3 ?_
      rw [hb, b2, Option.bind_some]
      dsimp only
      rw [if_neg (by decide)]
    · rw [b2, Option.bind_some] at hb
      dsimp only at hb
      rw [if_pos rfl] at hb
      rcases q_goOn hN (by omega) g1 hNR hI hw (fun q => ⟨hz.1, hz.2.2.2 q⟩) hz.1 with ⟨c1, M1, c2, c3, c4⟩ | ⟨c1, c2⟩
      · obtain ⟨d1, d2, d3⟩ := st_go h' hw c1 c3 c4
        refine go M1 _ (Or.inr ⟨by omega, Or.inr ⟨b1, c1, rfl⟩⟩) d1 c4 d2 d3 ?_
        rw [hb, c2, Option.bind_some]
        dsimp only
        rw [if_neg (by decide)]
      · rw [c2, Option.bind_some] at hb
        dsimp only at hb
        rw [if_pos rfl] at hb
        exact ⟨0, S, M, Nat.zero_le _, ⟨⟨by omega, b1, c1⟩, rfl⟩, hb, h', er_Fr.rf _ M, er_Sf.rf w S⟩
set_option maxHeartbeats 1000000 in
theorem c_settle {n F w : Int} {T : er_Me} (hw : 0 ≤ w ∧ w < n) : ∀ (μ fuel : Nat) (i : Int) (M S : er_Me), er_St n F T M S → er_mu w S ≤ μ → 0 ≤ i → i + μ < 1000 → μ < fuel → ∃ m S' M', m ≤ μ ∧ er_Ru n F w m S S' ∧ f_Node_settle_2 fuel T (4 + 46 * w) i M = some M' ∧ er_St n F T M' S' ∧ er_Fr (4 + 46 * w) M M' ∧ er_Sf w S S' := by
  intro μ
  induction μ with
  | zero =>
    intro fuel i M S h hm h0 h1 h2
    exact c_settle_b hw 0 (fun _ _ _ _ _ q => absurd q (Nat.not_lt_zero _)) fuel i M S h hm h0 h1 h2
  | succ μ ih =>
    intro fuel i M S h hm h0 h1 h2
    refine c_settle_b hw (μ + 1) (fun f i M S h q a b c => ?_) fuel i M S h hm h0 h1 h2
    obtain ⟨m, S', M', b1, b2⟩ := ih f i M S h (by omega) a (by omega) (by omega)
    exact ⟨m, S', M', by omega, b2⟩
theorem c_settled {n F w : Int} {T M S : er_Me} (hw : 0 ≤ w ∧ w < n) (h : er_St n F T M S) : ∃ m S' M', m ≤ 208 ∧ er_Ru n F w m S S' ∧ f_Node_settle (4 + 46 * w) T M = some M' ∧ er_St n F T M' S' ∧ er_Fr (4 + 46 * w) M M' ∧ er_Sf w S S' := by
  have hb := h.2.2.2 w w hw.1 hw.2 hw.1 hw.2
  have hI := (h.2.2.1 w hw.1 hw.2).2
  have h5 := hI.2.2.2.2.1
  have hm : er_mu w S ≤ 208 := by
    have e8 : 7 * w + w = 8 * w := by omega
    rw [e8] at hb
    unfold er_mu
    omega
  exact c_settle hw 208 er_fu 0 M S h hm (by omega) (by omega) (by unfold er_fu; omega)
