/-! Node.goOn -/
def g_c (n F : Int) (S : er_Me) (w s x : Int) : Nat := er_rc w s x (S 7) (S 9) (n - F).toNat
def g_fv (n F : Int) (S : er_Me) (w s o : Int) : Int := if o ≤ (g_c n F S w s 2 : Int) then 0 else if o ≤ (g_c n F S w s 3 : Int) then 1 else -1
def g_nv (n F : Int) (S : er_Me) (w s : Int) : Int :=
  if s % 3 = 0 then (if g_c n F S w s 0 < g_c n F S w s 1 then 1 else 0)
  else if s % 3 = 1 then (if n < 2 * (g_c n F S w s 0 : Int) then 2 else if n < 2 * (g_c n F S w s 1 : Int) then 3 else S 13 w)
  else if g_fv n F S w s (2 * F + 1) = -1 then (if g_fv n F S w s (F + 1) = -1 then er_and (er_shr (S 15 w) (s / 3)) 1 else g_fv n F S w s (F + 1)) else g_fv n F S w s (2 * F + 1)
def g_nd (n F : Int) (S : er_Me) (w s : Int) : Int := if s % 3 = 2 ∧ g_fv n F S w s (2 * F + 1) ≠ -1 ∧ S 14 w = -1 then g_fv n F S w s (2 * F + 1) else S 14 w
def g_st (S : er_Me) (w s x d : Int) : er_Me := er_up (er_up (er_up S 14 w d) 13 w x) 12 w s
def g_go (n F : Int) (S : er_Me) (w : Int) : er_Me := if S 12 w < 8 then g_send (g_st S w (S 12 w + 1) (g_nv n F S w (S 12 w)) (g_nd n F S w (S 12 w))) w 0 (S 12 w + 1) w (g_nv n F S w (S 12 w)) else g_st S w (S 12 w + 1) (g_nv n F S w (S 12 w)) (g_nd n F S w (S 12 w))
def er_gc (n F : Int) (S : er_Me) (w : Int) : Prop := 0 ≤ S 12 w ∧ S 12 w ≤ 8 ∧ n - F ≤ S 10 (9 * w + S 12 w)
theorem g_fv_r (n F : Int) (S : er_Me) (w s o : Int) : g_fv n F S w s o = 0 ∨ g_fv n F S w s o = 1 ∨ g_fv n F S w s o = -1 := by
  unfold g_fv
  split
  · exact Or.inl rfl
  · split
    · exact Or.inr (Or.inl rfl)
    · exact Or.inr (Or.inr rfl)
theorem g_nv_r {n F : Int} {S : er_Me} {w s : Int} (h : 0 ≤ S 13 w ∧ S 13 w ≤ 3) : 0 ≤ g_nv n F S w s ∧ g_nv n F S w s < 4 := by
  have a := g_fv_r n F S w s (2 * F + 1)
  have b := g_fv_r n F S w s (F + 1)
  have c := er_and1 (er_shr (S 15 w) (s / 3))
  unfold g_nv
  constructor <;> (repeat (first | omega | split))
theorem nr_c1 {n w A : Int} {M M' S S' : er_Me} (h : er_NR n w A M S) (hM : ∀ a, A < a → a < A + 46 → M' a = M a) (hS : ∀ j, 2 ≤ j → j ≤ 11 → S' j = S j) (hc : er_c1 w (M' A) (S' 1) (S' 15) (S' 12) (S' 13) (S' 14)) : er_NR n w A M' S' := by
  obtain ⟨c1, c2, c3, c4, c4b, c5, c6, c7, c8, c9⟩ := h
  unfold er_NR
  rw [hM (A + 1) (by omega) (by omega), hM (A + 2) (by omega) (by omega), hM (A + 4) (by omega) (by omega), hM (A + 5) (by omega) (by omega), hM (A + 6) (by omega) (by omega), hM (A + 7) (by omega) (by omega), hM (A + 8) (by omega) (by omega), hS 2 (by omega) (by omega), hS 3 (by omega) (by omega), hS 4 (by omega) (by omega), hS 5 (by omega) (by omega), hS 6 (by omega) (by omega), hS 7 (by omega) (by omega), hS 9 (by omega) (by omega), hS 10 (by omega) (by omega), hS 11 (by omega) (by omega)]
  exact ⟨hc, c2, c3, c4, c4b, c5, c6, c7, c8, er_c9M c9 (fun a a0 a1 => hM a (by omega) a1)⟩
theorem er_ci_rc {n w A s x : Int} {M S : er_Me} (h : er_NR n w A M S) (hs : 0 ≤ s ∧ s < 9) {m : Nat} (hm : (m : Int) ≤ S 10 (9 * w + s)) : er_ci M (A + 10 + 4 * s) x m = er_rc w s x (S 7) (S 9) m := by
  have h9 := h.2.2.2.2.2.2.2.2.2 s hs.1 hs.2
  unfold er_ci er_rc
  apply er_sm_congr
  intro k hk
  rw [(h9.2.1 (k : Int) (by omega) (by omega)).2]
  by_cases q : er_sa w s (S 7) (S 9) (k : Int) = x + 1
  · rw [if_pos q, if_pos (by omega)]
  · rw [if_neg q, if_neg (by omega)]
set_option maxHeartbeats 1000000 in
/-- valueAfter: the new value, and the decision -/
theorem q_valueAfter {T M S : er_Me} {A n F w s : Int} (hN : er_Nd T A) (hA : 3 < A) (hr : er_Rl T M 2 n F) (h : er_NR n w A M S) (hI : er_SI n w S) (hsl : S 12 w = s) (hs : 0 ≤ s ∧ s < 9) (hf : n - F ≤ S 10 (9 * w + s)) : f_Node_valueAfter A s T M = some (g_nv n F S w s, if s % 3 = 2 ∧ g_fv n F S w s (2 * F + 1) ≠ -1 ∧ S 14 w = -1 then er_up M A 12 (g_nd n F S w s) else M) := by
  have hr' := hr
  obtain ⟨-, r1, r2, r3, r4, r5, q1, q2, q3⟩ := hr
  obtain ⟨ha, n1, n2, n3, n4, n5, n6, n7, n8, -, -, -, -, -, ⟨w1, w2⟩, hrows⟩ := hN
  obtain ⟨rs1, hR⟩ := hrows s hs.1 hs.2
  have hrow := er_rowM h hI hs
  have hc : ∀ x, er_ci M (A + 10 + 4 * s) x (n - F).toNat = g_c n F S w s x := fun x => er_ci_rc h hs (by omega)
  have h7 : M (A + 10 + 4 * s) 3 ≤ 7 := by omega
  have hf' : n - F ≤ M (A + 10 + 4 * s) 3 := by omega
  obtain ⟨f0, f8, f9, f10, f11, f12⟩ := h.1
  have e3 : er_rem s 3 = s % 3 := er_remE (by omega) (by omega) (by omega) (by omega)
  unfold f_Node_valueAfter
  rw [n2, n8, w2, rs1, if_pos ⟨n1, by omega⟩, if_pos ⟨w1, hs.1, hs.2, by omega⟩, e3]
  unfold g_nv
  by_cases s0 : s % 3 = 0
  · rw [if_pos s0, if_pos s0, if_pos (by omega), if_pos r1, p_prevailing hr' hR h7 hf', Option.bind_some, hc, hc, if_neg (show ¬ (s % 3 = 2 ∧ g_fv n F S w s (2 * F + 1) ≠ -1 ∧ S 14 w = -1) from fun q => by omega)]
  · rw [if_neg s0, if_neg s0]
    by_cases s1 : s % 3 = 1
    · rw [if_pos s1, if_pos s1, if_pos (by omega), if_pos r1, p_firmOr hr' hR h7 hf', Option.bind_some, hc, hc, if_neg (show ¬ (s % 3 = 2 ∧ g_fv n F S w s (2 * F + 1) ≠ -1 ∧ S 14 w = -1) from fun q => by omega), f11, if_neg (show ¬ S 12 w < 0 by omega)]
    · have s2 : s % 3 = 2 := by omega
      rw [if_neg s1, if_neg s1, er_divE (by omega) (by omega) (by omega) (by omega)]
      have hF : 0 ≤ F ∧ F ≤ 2 := by omega
      have k1 : f_Rules_heldFirm 2 (A + 10 + 4 * s) (2 * F + 1) T M = some (g_fv n F S w s (2 * F + 1), M) := by
        rw [p_heldFirm hr' hR h7 hf', hc, hc]
        rfl
      have k2 : f_Rules_heldFirm 2 (A + 10 + 4 * s) (F + 1) T M = some (g_fv n F S w s (F + 1), M) := by
        rw [p_heldFirm hr' hR h7 hf', hc, hc]
        rfl
      unfold f_Node_endRound
      rw [n2, if_pos ⟨n1, by omega⟩, if_pos r1, r3, er_mulE (by constructor <;> omega), er_addE (by constructor <;> omega), k1, Option.bind_some]
      dsimp only [er_le]
      rw [r3, er_addE (by constructor <;> omega), k2, Option.bind_some]
      dsimp only
      by_cases c1 : g_fv n F S w s (2 * F + 1) = -1
      · rw [if_pos c1, if_pos c1, if_neg (show ¬ (s % 3 = 2 ∧ g_fv n F S w s (2 * F + 1) ≠ -1 ∧ S 14 w = -1) from fun q => q.2.1 c1), f9]
        by_cases c2 : g_fv n F S w s (F + 1) = -1
        · rw [if_pos c2, if_pos c2, Option.bind_some]
        · rw [if_neg c2, if_neg c2, Option.bind_some]
      · rw [if_neg c1, if_neg c1]
        simp only [f12]
        by_cases c3 : S 14 w = -1
        · have cc : s % 3 = 2 ∧ g_fv n F S w s (2 * F + 1) ≠ -1 ∧ S 14 w = -1 := ⟨s2, c1, c3⟩
          unfold g_nd
          rw [if_pos c3, if_pos cc, if_pos cc, Option.bind_some]
        · rw [if_neg c3, if_neg (show ¬ (s % 3 = 2 ∧ g_fv n F S w s (2 * F + 1) ≠ -1 ∧ S 14 w = -1) from fun q => c3 q.2.2), Option.bind_some]
set_option maxHeartbeats 1000000 in
theorem q_goOn {T M S : er_Me} {A n F w : Int} (hN : er_Nd T A) (hA : 3 < A) (hr : er_Rl T M 2 n F) (h : er_NR n w A M S) (hI : er_SI n w S) (hw : 0 ≤ w ∧ w < n) (hz : S 12 w < 8 → 0 ≤ S 3 w ∧ S 3 w < 135) (hz0 : 0 ≤ S 3 w) : (er_gc n F S w ∧ ∃ M', f_Node_goOn A T M = some (1, M') ∧ er_NR n w A M' (g_go n F S w) ∧ er_Fr A M M') ∨ (¬ er_gc n F S w ∧ f_Node_goOn A T M = some (0, M)) := by
  have hr' := hr
  have hN' := hN
  obtain ⟨-, r1, r2, r3, r4, r5, q1, q2, q3⟩ := hr
  obtain ⟨ha, n1, n2, n3, n4, n5, n6, n7, n8, -, -, -, -, -, ⟨w1, w2⟩, hrows⟩ := hN
  obtain ⟨f0, f8, f9, f10, f11, f12⟩ := h.1
  obtain ⟨i1, i2, i3, i4, i5, i6⟩ := hI.2.2.2.2.1
  have hva := q_valueAfter (s := S 12 w) hN' hA hr' h hI rfl
  unfold f_Node_goOn er_gc
  rw [f10, n2, n8, w2, if_pos n1, p_isSlot, Option.bind_some]
  dsimp only
  by_cases hs : 0 ≤ S 12 w ∧ S 12 w < 9
  · obtain ⟨rs1, hR⟩ := hrows (S 12 w) hs.1 hs.2
    have hrow := er_rowM h hI hs
    rw [if_pos hs, if_neg (by decide), if_pos (by omega), if_pos (by omega)]
    simp only [f10, rs1]
    rw [if_pos ⟨w1, hs.1, hs.2, by omega⟩, if_pos r1, p_isFull hr' hR, Option.bind_some, hrow.1]
    dsimp only
    by_cases hf : S 10 (9 * w + S 12 w) < n - F
    · rw [if_pos hf, if_pos rfl]
      exact Or.inr ⟨fun q => by omega, rfl⟩
    · rw [if_neg hf, if_neg (by decide)]
      refine Or.inl ⟨by omega, ?_⟩
      have hx := g_nv_r (n := n) (F := F) (S := S) (w := w) (s := S 12 w) ⟨i3, i4⟩
      simp only [f10]
      rw [hva hs (by omega), Option.bind_some, er_addE (by constructor <;> omega)]
      dsimp only
      -- the memory behind valueAfter
      have hm : ∃ M1, (if S 12 w % 3 = 2 ∧ g_fv n F S w (S 12 w) (2 * F + 1) ≠ -1 ∧ S 14 w = -1 then er_up M A 12 (g_nd n F S w (S 12 w)) else M) = M1 ∧ (∀ a, a ≠ A → M1 a = M a) ∧ M1 A 0 = w ∧ M1 A 8 = M A 8 ∧ M1 A 9 = M A 9 ∧ M1 A 12 = g_nd n F S w (S 12 w) := by
        by_cases c : S 12 w % 3 = 2 ∧ g_fv n F S w (S 12 w) (2 * F + 1) ≠ -1 ∧ S 14 w = -1
        · rw [if_pos c]
          exact ⟨_, rfl, fun a h => er_upF h, by rw [er_upI (by decide)]; exact f0, er_upI (by decide), er_upI (by decide), er_upS _ _ _ _⟩
        · rw [if_neg c]
          refine ⟨_, rfl, fun a _ => rfl, f0, rfl, rfl, ?_⟩
          unfold g_nd
          rw [if_neg c, f12]
      obtain ⟨M1, hM1, g1, g2, g3, g4, g5⟩ := hm
      rw [hM1]
      generalize hX : g_nv n F S w (S 12 w) = x at *
      generalize hD : g_nd n F S w (S 12 w) = d at *
      have hsz : M1 (A + 1) 1 = S 3 w := by rw [g1 (A + 1) (by omega)]; exact h.2.1
      have hnr : er_NR n w A (er_up (er_up M1 A 10 (S 12 w + 1)) A 11 x) (g_st S w (S 12 w + 1) x d) := by
        refine nr_c1 h (fun a a0 a1 => by rw [er_upF (by omega), er_upF (by omega), g1 a (by omega)]) (fun j j0 j1 => by unfold g_st; rw [er_upF (by omega), er_upF (by omega), er_upF (by omega)]) ?_
        unfold g_st
        simp (disch := omega) only [er_upF, er_upR]
        refine ⟨?_, ?_, ?_, ?_, ?_, ?_⟩
        · rw [er_f1N (by decide), er_f1N (by decide), g2]
        · rw [er_f1N (by decide), er_f1N (by decide), g3, f8]
        · rw [er_f1N (by decide), er_f1N (by decide), g4, f9]
        · rw [er_f1N (by decide), er_f1S, er_f1S]
        · rw [er_f1S, er_f1S, er_f1S, if_neg (by omega)]
        · rw [er_f1N (by decide), er_f1N (by decide), g5, er_f1S]
      have hfr : er_Fr A M (er_up (er_up M1 A 10 (S 12 w + 1)) A 11 x) := fun a ha => by rw [er_upF (by omega), er_upF (by omega), g1 a (by omega)]
      rw [q_enter hN' g2 (by omega) (by omega) hx (by rw [hsz]; exact hz0) (fun q => by rw [hsz]; exact (hz (by omega)).2), Option.bind_some]
      unfold g_go
      rw [hX, hD]
      by_cases h8 : S 12 w < 8
      · rw [if_pos (by omega), if_pos h8]
        refine ⟨_, rfl, ?_, hfr.ap⟩
        have := nr_append (k := 0) (s := S 12 w + 1) (p := w) (x := x) hnr
        rw [show 1000 * (S 12 w + 1) + 100 * w + 10 * 0 + x = 1000 * (S 12 w + 1) + 100 * w + x by omega] at this
        exact this
      · rw [if_neg (by omega), if_neg h8]
        exact ⟨_, rfl, hnr, hfr⟩
  · rw [if_neg hs, if_pos rfl]
    exact Or.inr ⟨fun q => by omega, rfl⟩
