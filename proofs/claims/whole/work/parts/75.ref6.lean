/-! the reference's goOn -/
theorem er_up_id (S : er_Me) (j i : Int) : er_up S j i (S j i) = S := by
  funext a b
  unfold er_up
  by_cases h : a = j ∧ b = i
  · rw [if_pos h, h.1, h.2]
  · rw [if_neg h]
theorem r_firmValue {n F R o : Int} {T M S : er_Me} (h : er_RV n F R T M S) : f_Mo_firmValue R o T M = some (if o ≤ M (R + 16) 2 then 0 else if o ≤ M (R + 16) 3 then 1 else -1, M) := by
  obtain ⟨g1, g2, g3⟩ := h
  have ha := g1.1
  have m0 := g1.2.1
  obtain ⟨a16, b16, c16⟩ := mo16 g1
  clear g1
  unfold f_Mo_firmValue
  rw [a16, c16, if_pos ⟨m0, by omega⟩, if_pos ⟨b16, by decide⟩]
  by_cases h2 : M (R + 16) 2 < o
  · rw [if_pos h2, if_neg (show ¬ o ≤ M (R + 16) 2 by omega), if_pos (show (3 : Int) < 4 by decide)]
    by_cases h3 : M (R + 16) 3 < o
    · rw [if_pos h3, if_neg (show ¬ o ≤ M (R + 16) 3 by omega)]
    · rw [if_neg h3, if_pos (show o ≤ M (R + 16) 3 by omega)]
  · rw [if_neg h2, if_pos (show o ≤ M (R + 16) 2 by omega)]
theorem r_go231 {n F R w s x d y z : Int} {T M S : er_Me} (h : er_RV n F R T M (er_up (er_up S 14 w d) 13 w x)) (hw : 0 ≤ w ∧ w < 7) (hs : 0 ≤ s ∧ s ≤ 8) (hx : 0 ≤ x ∧ x < 4) (hz : 0 ≤ S 3 w ∧ S 3 w < 140) : ∃ M', f_Mo_goOn_231 T R w s y z M = some (1, M') ∧ er_RV n F R T M' (if s < 8 then g_send (g_st S w (s + 1) x d) w 0 (s + 1) w x else g_st S w (s + 1) x d) ∧ er_Fm R M M' := by
  have h' := h
  obtain ⟨g1, g2, g3⟩ := h
  have ha := g1.1
  have m0 := g1.2.1
  obtain ⟨a12, b12, c12⟩ := mo12 g1
  obtain ⟨a13, b13, c13⟩ := mo13 g1
  clear g1
  have hr : er_RV n F R T (er_up M (R + 12) w (s + 1)) (g_st S w (s + 1) x d) := h'.up (by omega) (by omega)
  have hfm : er_Fm R M (er_up M (R + 12) w (s + 1)) := (er_Fm.rf R M).up (by omega) (by omega)
  have e13 : er_up M (R + 12) w (s + 1) (R + 13) w = x := by
    rw [hr.2.2 13 (by omega) (by omega)]
    unfold g_st
    rw [er_upF (by decide), er_upS]
  have ez : g_st S w (s + 1) x d 3 w = S 3 w := by
    unfold g_st
    rw [er_upF (by decide), er_upF (by decide), er_upF (by decide)]
  unfold f_Mo_goOn_231
  dsimp only [er_le]
  rw [a12, a13, c12, c13, if_pos ⟨m0, by omega⟩, if_pos ⟨b12, hw.1, hw.2⟩, er_addE (by constructor <;> omega)]
  by_cases h8 : 8 ≤ s
  · rw [if_pos h8, if_neg (show ¬ s < 8 by omega)]
    exact ⟨_, rfl, hr, hfm⟩
  · obtain ⟨M', k1, k2, k3⟩ := r_send (k := 0) (s := s + 1) (p := w) (x := x) hr hw (by rw [ez]; exact hz) (by omega) (by omega) hw hx
    rw [if_neg (by decide)] at k2
    rw [if_neg h8, if_pos (show s < 8 by omega), if_pos (show 0 < R + 13 by omega), if_pos ⟨b13, hw.2⟩, e13, k1, Option.bind_some]
    exact ⟨M', rfl, k2, hfm.tr k3⟩
theorem r_155 {T M : er_Me} {v0 v1 v2 v3 v4 a w x : Int} (b : T a (-2) = 101) (c : T a (-1) = 7) (h0 : 0 ≤ w) (h1 : w < 7) : f_Mo_goOn_155 T v0 v1 v2 v3 v4 a w x M = f_Mo_goOn_231 T v0 v1 v2 v3 v4 (er_up M a w x) := by
  unfold f_Mo_goOn_155
  dsimp only [er_le]
  rw [c, if_pos ⟨b, h0, h1⟩]
theorem r_215 {T M : er_Me} {v0 v1 v2 v3 v4 a w x : Int} (b : T a (-2) = 101) (c : T a (-1) = 7) (h0 : 0 ≤ w) (h1 : w < 7) : f_Mo_goOn_215 T v0 v1 v2 v3 v4 a w x M = f_Mo_goOn_231 T v0 v1 v2 v3 v4 (er_up M a w x) := by
  unfold f_Mo_goOn_215
  dsimp only [er_le]
  rw [c, if_pos ⟨b, h0, h1⟩]
theorem r_42 {T M : er_Me} {v0 v1 v2 v3 a w x : Int} (b : T a (-2) = 101) (c : T a (-1) = 7) (h0 : 0 ≤ w) (h1 : w < 7) : f_Mo_afterFirm_42 T v0 v1 v2 v3 a w x M = some (v3, er_up M a w x) := by
  unfold f_Mo_afterFirm_42
  dsimp only [er_le]
  rw [c, if_pos ⟨b, h0, h1⟩]
theorem r_goFirm {n F R w s : Int} {T M S : er_Me} {kk : Int} (h : er_RV n F R T M S) (hw : 0 ≤ w ∧ w < n) (hs : S 12 w = s) (s2 : s % 3 = 2) (hsb : 0 ≤ s ∧ s ≤ 8) (hz : 0 ≤ S 3 w ∧ S 3 w < 140) (hnv : g_nv n F S w s = if g_fv n F S w s (2 * F + 1) = -1 then (if g_fv n F S w s (F + 1) = -1 then er_and (er_shr (S 15 w) (s / 3)) 1 else g_fv n F S w s (F + 1)) else g_fv n F S w s (2 * F + 1)) (hfv : ∀ o, f_Mo_firmValue R o T M = some (g_fv n F S w s o, M)) (r1 : g_fv n F S w s (2 * F + 1) = 0 ∨ g_fv n F S w s (2 * F + 1) = 1 ∨ g_fv n F S w s (2 * F + 1) = -1) (r2 : g_fv n F S w s (F + 1) = 0 ∨ g_fv n F S w s (F + 1) = 1 ∨ g_fv n F S w s (F + 1) = -1) (rand : er_and (er_shr (S 15 w) (s / 3)) 1 = 0 ∨ er_and (er_shr (S 15 w) (s / 3)) 1 = 1)
    (fin0 : ∀ x, 0 ≤ x → x < 4 → g_nv n F S w s = x → g_nd n F S w s = S 14 w → ∀ M1, er_RV n F R T M1 S → er_Fm R M M1 → ∃ M', f_Mo_goOn_231 T R w s (n - F) kk (er_up M1 (R + 13) w x) = some (1, M') ∧ er_RV n F R T M' (g_go n F S w) ∧ er_Fm R M M') :
    ∃ M', (if T R (-2) = 7 ∧ 0 < T R 14 then (f_Mo_afterFirm R w s T M).bind fun q5 => if T (T R 14) (-2) = 101 ∧ 0 ≤ w ∧ w < T (T R 14) (-1) then f_Mo_goOn_231 T R w s (n - F) kk (er_up q5.2 (T R 14) w q5.1) else none else none) = some (1, M') ∧ er_RV n F R T M' (g_go n F S w) ∧ er_Fm R M M' := by
  have h' := h
  obtain ⟨g1, ⟨g2, g2b, q1, q2, q3⟩, g3⟩ := h
  have ha := g1.1
  have m0 := g1.2.1
  obtain ⟨a13, b13, c13⟩ := mo13 g1
  obtain ⟨a14, b14, c14⟩ := mo14 g1
  obtain ⟨a15, b15, c15⟩ := mo15 g1
  clear g1
  have e14 := g3 14 (by omega) (by omega)
  have e15 := g3 15 (by omega) (by omega)
  have i1 : er_add (er_mul 2 F) 1 = 2 * F + 1 := by rw [er_mulE (by constructor <;> omega), er_addE (by constructor <;> omega)]
  have i2 : er_add F 1 = F + 1 := er_addE (by constructor <;> omega)
  have i3 : er_div s 3 = s / 3 := er_divE (by omega) (by omega) (by omega) (by omega)
  rw [a13, c13, if_pos ⟨m0, by omega⟩]
  unfold f_Mo_afterFirm
  rw [if_pos m0, g2b, i1, hfv, Option.bind_some]
  dsimp only
  simp only [g2b, i2, hfv, Option.bind_some, a14, a15, c14, c15, e14, e15, i3]
  by_cases c1 : g_fv n F S w s (2 * F + 1) < 0
  · have c1' : g_fv n F S w s (2 * F + 1) = -1 := by omega
    have hnd : g_nd n F S w s = S 14 w := if_neg (fun q => q.2.1 c1')
    rw [if_pos c1]
    rw [if_pos c1'] at hnv
    by_cases c2 : g_fv n F S w s (F + 1) < 0
    · rw [if_pos (show g_fv n F S w s (F + 1) = -1 by omega)] at hnv
      rw [if_pos c2, if_pos (show 0 < R + 15 by omega), if_pos (show T (R + 15) (-2) = 101 ∧ 0 ≤ w ∧ w < 7 from ⟨b15, hw.1, by omega⟩), Option.bind_some]
      dsimp only
      rw [if_pos (show T (R + 13) (-2) = 101 ∧ 0 ≤ w ∧ w < 7 from ⟨b13, hw.1, by omega⟩)]
      exact fin0 _ (by omega) (by omega) hnv hnd M h' (er_Fm.rf R M)
    · rw [if_neg (show ¬ g_fv n F S w s (F + 1) = -1 by omega)] at hnv
      rw [if_neg c2, Option.bind_some]
      dsimp only
      rw [if_pos (show T (R + 13) (-2) = 101 ∧ 0 ≤ w ∧ w < 7 from ⟨b13, hw.1, by omega⟩)]
      exact fin0 _ (by omega) (by omega) hnv hnd M h' (er_Fm.rf R M)
  · have c1' : ¬ g_fv n F S w s (2 * F + 1) = -1 := by omega
    rw [if_neg c1'] at hnv
    have fin1 : ∀ d, g_nd n F S w s = d → ∃ M', f_Mo_goOn_231 T R w s (n - F) kk (er_up (er_up M (R + 14) w d) (R + 13) w (g_fv n F S w s (2 * F + 1))) = some (1, M') ∧ er_RV n F R T M' (g_go n F S w) ∧ er_Fm R M M' := by
      intro d hd
      obtain ⟨M', k1, k2, k3⟩ := r_go231 (s := s) (d := d) (x := g_fv n F S w s (2 * F + 1)) (y := n - F) (z := kk) ((h'.up (j := 14) (i := w) (v := d) (by omega) (by omega)).up (j := 13) (by omega) (by omega)) (by omega) hsb (by omega) hz
      refine ⟨M', k1, ?_, (((er_Fm.rf R M).up (by omega) (by omega)).up (by omega) (by omega)).tr k3⟩
      unfold g_go
      rw [hs, hnv, hd]
      exact k2
    rw [if_neg c1, if_pos (show 0 < R + 14 by omega), if_pos (show T (R + 14) (-2) = 101 ∧ 0 ≤ w ∧ w < 7 from ⟨b14, hw.1, by omega⟩), r_42 b14 c14 hw.1 (by omega), r_42 b14 c14 hw.1 (by omega)]
    by_cases c3 : S 14 w = -1
    · rw [if_pos c3, Option.bind_some]
      dsimp only
      rw [if_pos (show T (R + 13) (-2) = 101 ∧ 0 ≤ w ∧ w < 7 from ⟨b13, hw.1, by omega⟩)]
      exact fin1 _ (if_pos ⟨s2, c1', c3⟩)
    · rw [if_neg c3, Option.bind_some]
      dsimp only
      rw [if_pos (show T (R + 13) (-2) = 101 ∧ 0 ≤ w ∧ w < 7 from ⟨b13, hw.1, by omega⟩)]
      exact fin1 _ (if_neg (fun q => c3 q.2.2))
set_option maxHeartbeats 1000000 in
theorem r_go70 {n F R w s : Int} {T S : er_Me} (hI : er_SI n w S) (hw : 0 ≤ w ∧ w < n) (hg : er_gc n F S w) (hs : S 12 w = s) : ∀ (m k : Nat) (M : er_Me), er_RV n F R T M S → (k : Int) ≤ n - F → n - F - k < m → (∀ j : Nat, j < 4 → M (R + 16) (j : Int) = (er_rc w s (j : Int) (S 7) (S 9) k : Int)) → ∃ M', f_Mo_goOn_70 m T R w s (n - F) (k : Int) M = some (1, M') ∧ er_RV n F R T M' (g_go n F S w) ∧ er_Fm R M M'
  | 0, k, M, _, _, h, _ => by
    exfalso
    omega
  | m + 1, k, M, h, h0, h1, hc => by
    have ih := r_go70 (R := R) (T := T) hI hw hg hs m
    have h' := h
    obtain ⟨g1, ⟨g2, g2b, q1, q2, q3⟩, g3⟩ := h
    have ha := g1.1
    have m0 := g1.2.1
    obtain ⟨a7, b7, c7⟩ := mo7 g1
    obtain ⟨a9, b9, c9⟩ := mo9 g1
    obtain ⟨a13, b13, c13⟩ := mo13 g1
    obtain ⟨a16, b16, c16⟩ := mo16 g1
    obtain ⟨y1, y2, y3⟩ := hg
    rw [hs] at y1 y2 y3
    have h6 := hI.2.2.2.2.2 s (by omega) (by omega)
    have h5 := hI.2.2.2.2.1
    have hzr := si_room hI (s := 0) (p := 0) (by omega) (by omega)
    have hz : 0 ≤ S 3 w ∧ S 3 w < 140 := by omega
    have i3 : er_rem s 3 = s % 3 := er_remE (by omega) (by omega) (by omega) (by omega)
    show ∃ M', f_Mo_goOn_70_b (f_Mo_goOn_70 m T) R w s (n - F) (k : Int) T M = some (1, M') ∧ _
    by_cases hk : n - F ≤ (k : Int)
    · have ek : k = (n - F).toNat := by omega
      have hc' : ∀ j : Nat, j < 4 → M (R + 16) (j : Int) = (g_c n F S w s (j : Int) : Int) := fun j hj => by rw [hc j hj, ek]; rfl
      have hc0 := hc' 0 (by omega)
      have hc1 := hc' 1 (by omega)
      have hc2 := hc' 2 (by omega)
      have hc3 := hc' 3 (by omega)
      have hcb : ∀ x : Int, g_c n F S w s x ≤ 7 := fun x => by
        have := er_sm_le (fun k : Nat => if er_sa w s (S 7) (S 9) (k : Int) = x + 1 then 1 else 0) (n - F).toNat (fun k _ => by by_cases q : er_sa w s (S 7) (S 9) (k : Int) = x + 1 <;> simp [q])
        unfold g_c er_rc
        omega
      have b0 := hcb 0
      have b1 := hcb 1
      have e14 : er_up S 14 w (S 14 w) = S := er_up_id S 14 w
      -- values[w] = x with the decision as it was
      have fin0 : ∀ x, 0 ≤ x → x < 4 → g_nv n F S w s = x → g_nd n F S w s = S 14 w → ∀ M1, er_RV n F R T M1 S → er_Fm R M M1 → ∃ M', f_Mo_goOn_231 T R w s (n - F) (k : Int) (er_up M1 (R + 13) w x) = some (1, M') ∧ er_RV n F R T M' (g_go n F S w) ∧ er_Fm R M M' := by
        intro x x0 x1 hx hd M1 r1 r2
        have r3 : er_RV n F R T (er_up M1 (R + 13) w x) (er_up (er_up S 14 w (S 14 w)) 13 w x) := by rw [e14]; exact r1.up (by omega) (by omega)
        obtain ⟨M', k1, k2, k3⟩ := r_go231 (s := s) (y := n - F) (z := (k : Int)) r3 (by omega) (by omega) ⟨x0, x1⟩ hz
        refine ⟨M', k1, ?_, (r2.up (by omega) (by omega)).tr k3⟩
        unfold g_go
        rw [hs, hx, hd]
        exact k2
      have hnd : s % 3 ≠ 2 → g_nd n F S w s = S 14 w := fun q => if_neg (fun r => q r.1)
      clear g1
      unfold f_Mo_goOn_70_b
      dsimp only [er_le]
      rw [if_pos hk, i3]
      by_cases s0 : s % 3 = 0
      · have hnv : g_nv n F S w s = if g_c n F S w s 0 < g_c n F S w s 1 then 1 else 0 := if_pos s0
        have hc0' : M (R + 16) 0 = (g_c n F S w s 0 : Int) := hc0
        have hc1' : M (R + 16) 1 = (g_c n F S w s 1 : Int) := hc1
        rw [if_pos s0, a13, a16, c16, if_pos ⟨m0, by omega⟩, if_pos (show 0 < R + 16 by omega), if_pos (show T (R + 16) (-2) = 101 ∧ (1 : Int) < 4 from ⟨b16, by decide⟩), if_pos (show (0 : Int) < 4 by decide), hc0', hc1', r_155 b13 c13 hw.1 (by omega), r_155 b13 c13 hw.1 (by omega)]
        by_cases q : g_c n F S w s 0 < g_c n F S w s 1
        · rw [if_neg (show ¬ (g_c n F S w s 1 : Int) ≤ (g_c n F S w s 0 : Int) by omega)]
          exact fin0 1 (by omega) (by omega) (by rw [hnv, if_pos q]) (hnd (by omega)) M h' (er_Fm.rf R M)
        · rw [if_pos (show (g_c n F S w s 1 : Int) ≤ (g_c n F S w s 0 : Int) by omega)]
          exact fin0 0 (by omega) (by omega) (by rw [hnv, if_neg q]) (hnd (by omega)) M h' (er_Fm.rf R M)
      · rw [if_neg s0]
        by_cases s1 : s % 3 = 1
        · have hnv : g_nv n F S w s = if n < 2 * (g_c n F S w s 0 : Int) then 2 else if n < 2 * (g_c n F S w s 1 : Int) then 3 else S 13 w := (if_neg s0).trans (if_pos s1)
          have e13 := g3 13 (by omega) (by omega)
          have hc0' : M (R + 16) 0 = (g_c n F S w s 0 : Int) := hc0
          have hc1' : M (R + 16) 1 = (g_c n F S w s 1 : Int) := hc1
          rw [if_pos s1, a13, a16, c16, c13, if_pos ⟨m0, by omega⟩, if_pos (show 0 < R + 16 by omega), if_pos (show T (R + 16) (-2) = 101 ∧ (0 : Int) < 4 from ⟨b16, by decide⟩), hc0', hc1', g2, er_mulE (x := 2) (y := (g_c n F S w s 0 : Int)) (by constructor <;> omega), er_mulE (x := 2) (y := (g_c n F S w s 1 : Int)) (by constructor <;> omega), if_pos (show (1 : Int) < 4 by decide), if_pos (show T (R + 13) (-2) = 101 ∧ 0 ≤ w ∧ w < 7 from ⟨b13, hw.1, by omega⟩)]
          simp only [r_215 b13 c13 hw.1 (show w < 7 by omega)]
          by_cases q : n < 2 * (g_c n F S w s 0 : Int)
          · rw [if_neg (show ¬ 2 * (g_c n F S w s 0 : Int) ≤ n by omega)]
            exact fin0 2 (by omega) (by omega) (by rw [hnv, if_pos q]) (hnd (by omega)) M h' (er_Fm.rf R M)
          · rw [if_pos (show 2 * (g_c n F S w s 0 : Int) ≤ n by omega)]
            by_cases q2 : n < 2 * (g_c n F S w s 1 : Int)
            · rw [if_neg (show ¬ 2 * (g_c n F S w s 1 : Int) ≤ n by omega)]
              exact fin0 3 (by omega) (by omega) (by rw [hnv, if_neg q, if_pos q2]) (hnd (by omega)) M h' (er_Fm.rf R M)
            · rw [if_pos (show 2 * (g_c n F S w s 1 : Int) ≤ n by omega), e13]
              exact fin0 (S 13 w) (by omega) (by omega) (by rw [hnv, if_neg q, if_neg q2]) (hnd (by omega)) M h' (er_Fm.rf R M)
        · have s2 : s % 3 = 2 := by omega
          have hnv : g_nv n F S w s = if g_fv n F S w s (2 * F + 1) = -1 then (if g_fv n F S w s (F + 1) = -1 then er_and (er_shr (S 15 w) (s / 3)) 1 else g_fv n F S w s (F + 1)) else g_fv n F S w s (2 * F + 1) := (if_neg s0).trans (if_neg s1)
          have hfv : ∀ o, f_Mo_firmValue R o T M = some (g_fv n F S w s o, M) := fun o => by
            rw [r_firmValue h', show M (R + 16) 2 = _ from hc2, show M (R + 16) 3 = _ from hc3]
            rfl
          have r1 := g_fv_r n F S w s (2 * F + 1)
          have r2 := g_fv_r n F S w s (F + 1)
          have rand := er_and1 (er_shr (S 15 w) (s / 3))
          rw [if_neg s1]
          exact r_goFirm h' hw hs s2 ⟨y1, y2⟩ hz hnv hfv r1 r2 rand fin0
    · obtain ⟨d1, d2, d3, d4⟩ := h6.2.1 (k : Int) (by omega) (by omega)
      clear g1
      have e7 := g3 7 (by omega) (by omega)
      have e9 := g3 9 (by omega) (by omega)
      have ik : er_add (k : Int) 1 = ((k + 1 : Nat) : Int) := by rw [er_addE (by constructor <;> omega)]; omega
      have hv : ((er_rv w s (S 7) (S 9) k : Nat) : Int) = er_sa w s (S 7) (S 9) (k : Int) - 1 := by unfold er_rv; omega
      have hM := hc (er_rv w s (S 7) (S 9) k) (by omega)
      have hcz := er_sm_le (fun k' : Nat => if er_sa w s (S 7) (S 9) (k' : Int) = ((er_rv w s (S 7) (S 9) k : Nat) : Int) + 1 then 1 else 0) k (fun k' _ => by by_cases q : er_sa w s (S 7) (S 9) (k' : Int) = ((er_rv w s (S 7) (S 9) k : Nat) : Int) + 1 <;> simp [q])
      have hcz' : er_rc w s ((er_rv w s (S 7) (S 9) k : Nat) : Int) (S 7) (S 9) k ≤ k := hcz
      have es : er_sub (S 7 (63 * w + 7 * s + S 9 (63 * w + 7 * s + (k : Int)))) 1 = ((er_rv w s (S 7) (S 9) k : Nat) : Int) := by
        rw [hv]
        exact er_subE (by constructor <;> (unfold er_sa at d2 d3; omega))
      unfold f_Mo_goOn_70_b
      dsimp only [er_le]
      rw [if_neg hk, a7, a9, c7, c9, a16, c16, ik, if_pos ⟨m0, by omega⟩, if_pos (show 0 < R + 9 by omega), r_at (by omega) (by omega) (by omega), Option.bind_some]
      dsimp only
      simp only [e9]
      rw [if_pos ⟨b9, by omega, by omega⟩, r_at (by omega) (by omega) (by omega), Option.bind_some]
      dsimp only
      simp only [e7]
      rw [if_pos ⟨b7, by omega, by omega⟩, es, if_pos (show 0 < R + 16 by omega), if_pos ⟨b16, by omega, by omega⟩, hM, er_addE (x := ((er_rc w s ((er_rv w s (S 7) (S 9) k : Nat) : Int) (S 7) (S 9) k : Nat) : Int)) (by constructor <;> omega)]
      obtain ⟨M', v1, v2, v3⟩ := ih (k + 1) (er_up M (R + 16) ((er_rv w s (S 7) (S 9) k : Nat) : Int) (((er_rc w s ((er_rv w s (S 7) (S 9) k : Nat) : Int) (S 7) (S 9) k : Nat) : Int) + 1)) h'.sc (by omega) (by omega) (fun j hj => by
        rw [er_upR]
        by_cases e : j = er_rv w s (S 7) (S 9) k
        · rw [e, er_f1S]
          unfold er_rc
          rw [er_sm, if_pos (by omega)]
          omega
        · rw [er_f1N (by omega), hc j hj]
          unfold er_rc
          rw [er_sm, if_neg (by omega)]
          rfl)
      exact ⟨M', v1, v2, ((er_Fm.rf R M).up (by omega) (by omega)).tr v3⟩
theorem r_go47 {n F R w s : Int} {T S : er_Me} (hI : er_SI n w S) (hw : 0 ≤ w ∧ w < n) (hg : er_gc n F S w) (hs : S 12 w = s) : ∀ (m k : Nat) (M : er_Me), er_RV n F R T M S → k ≤ 4 → 4 - k < m → (∀ j : Nat, j < k → M (R + 16) (j : Int) = 0) → ∃ M', f_Mo_goOn_47 m T R w s (n - F) (k : Int) M = some (1, M') ∧ er_RV n F R T M' (g_go n F S w) ∧ er_Fm R M M'
  | 0, k, M, _, _, h, _ => by omega
  | m + 1, k, M, h, h0, h1, hc => by
    have ih := r_go47 (R := R) (T := T) hI hw hg hs m
    show ∃ M', f_Mo_goOn_47_b (f_Mo_goOn_47 m T) R w s (n - F) (k : Int) T M = some (1, M') ∧ _
    unfold f_Mo_goOn_47_b
    dsimp only [er_le]
    by_cases hk : k = 4
    · rw [if_pos (by omega)]
      have hn := h.2.1
      exact r_go70 hI hw hg hs er_fu 0 M h (by omega) (by unfold er_fu; omega) (fun j hj => by rw [hc j (by omega)]; rfl)
    · have h' := h
      obtain ⟨g1, g2, g3⟩ := h
      have ha := g1.1
      have m0 := g1.2.1
      obtain ⟨a16, b16, c16⟩ := mo16 g1
      clear g1
      have i3 : er_add (k : Int) 1 = ((k + 1 : Nat) : Int) := by rw [er_addE (by constructor <;> omega)]; omega
      rw [if_neg (by omega), a16, c16, if_pos ⟨m0, by omega⟩, if_pos ⟨b16, by omega, by omega⟩, i3]
      obtain ⟨M', v1, v2, v3⟩ := ih (k + 1) (er_up M (R + 16) (k : Int) 0) h'.sc (by omega) (by omega) (fun j hj => by
        rw [er_upR]
        by_cases e : j = k
        · rw [e, er_f1S]
        · rw [er_f1N (by omega)]
          exact hc j (by omega))
      exact ⟨M', v1, v2, ((er_Fm.rf R M).up (by omega) (by omega)).tr v3⟩
theorem r_goOn {n F R w : Int} {T M S : er_Me} (h : er_RV n F R T M S) (hI : er_SI n w S) (hw : 0 ≤ w ∧ w < n) : (er_gc n F S w ∧ ∃ M', f_Mo_goOn R w T M = some (1, M') ∧ er_RV n F R T M' (g_go n F S w) ∧ er_Fm R M M') ∨ (¬ er_gc n F S w ∧ f_Mo_goOn R w T M = some (0, M)) := by
  have h' := h
  obtain ⟨g1, ⟨g2, g2b, q1, q2, q3⟩, g3⟩ := h
  have ha := g1.1
  have m0 := g1.2.1
  obtain ⟨a10, b10, c10⟩ := mo10 g1
  obtain ⟨a12, b12, c12⟩ := mo12 g1
  clear g1
  have e10 := g3 10 (by omega) (by omega)
  have e12 := g3 12 (by omega) (by omega)
  have h5 := hI.2.2.2.2.1
  have i2 : er_sub n F = n - F := er_subE (by constructor <;> omega)
  unfold f_Mo_goOn
  dsimp only [er_le]
  rw [a12, c12, a10, c10, if_pos ⟨m0, by omega⟩, if_pos ⟨b12, hw.1, by omega⟩]
  simp only [e12, e10, g2, g2b, i2]
  by_cases c1 : S 12 w < 0
  · rw [if_pos c1]
    exact Or.inr ⟨fun q => by have := q.1; omega, rfl⟩
  · rw [if_neg c1]
    by_cases c2 : 8 < S 12 w
    · rw [if_pos c2]
      exact Or.inr ⟨fun q => by have := q.2.1; omega, rfl⟩
    · have i1 : er_add (er_mul 9 w) (S 12 w) = 9 * w + S 12 w := by rw [er_mulE (by constructor <;> omega), er_addE (by constructor <;> omega)]
      rw [if_neg c2, if_pos (show 0 < R + 10 by omega), i1, if_pos ⟨b10, by omega, by omega⟩]
      by_cases c3 : n - F ≤ S 10 (9 * w + S 12 w)
      · rw [if_pos c3]
        exact Or.inl ⟨⟨by omega, by omega, c3⟩, r_go47 hI hw ⟨by omega, by omega, c3⟩ rfl er_fu 0 M h' (by omega) (by unfold er_fu; omega) (fun j hj => by omega)⟩
      · rw [if_neg c3]
        exact Or.inr ⟨fun q => c3 q.2.2, rfl⟩
