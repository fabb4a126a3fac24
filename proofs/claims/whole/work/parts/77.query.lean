/-! the class's questions and the reference's -/
def er_Ca (n : Int) (T : er_Me) : Prop := T 1 (-2) = 1 ∧ T 1 0 = 3 ∧ T 3 (-2) = 103 ∧ T 3 (-1) = n ∧ ∀ v, 0 ≤ v → v < n → T 3 v = 4 + 46 * v
def er_W (n F : Int) (T M S : er_Me) : Prop := er_Ca n T ∧ er_St n F T M S ∧ er_RV n F (4 + 46 * n) T M S ∧ ∀ w, 0 ≤ w → w < n → S 1 w = 0 ∨ S 1 w = 1
theorem k_isNode {n v : Int} {T M : er_Me} (h : er_Ca n T) : f_ER_isNode 1 v T M = some (if 0 ≤ v ∧ v < n then 1 else 0, M) := by
  obtain ⟨c1, c2, c3, c4, c5⟩ := h
  unfold f_ER_isNode
  rw [c2, c4]
  by_cases h0 : v < 0
  · rw [if_pos h0, if_neg (show ¬ (0 ≤ v ∧ v < n) by omega)]
  · rw [if_neg h0, if_pos (show T 1 (-2) = 1 ∧ (0 : Int) < 3 from ⟨c1, by decide⟩), if_pos c3]
    by_cases h1 : n ≤ v
    · rw [if_pos h1, if_neg (show ¬ (0 ≤ v ∧ v < n) by omega)]
    · rw [if_neg h1, if_pos (show 0 ≤ v ∧ v < n by omega)]
theorem k_nd {n v : Int} {T : er_Me} (h : er_Ca n T) (hv : 0 ≤ v ∧ v < n) : (T (T 1 0) (-2) = 103 ∧ 0 ≤ v ∧ v < T (T 1 0) (-1) ∧ 0 < T (T 1 0) v) ∧ T (T 1 0) v = 4 + 46 * v ∧ 0 < T 1 0 := by
  obtain ⟨c1, c2, c3, c4, c5⟩ := h
  have h5 := c5 v hv.1 hv.2
  rw [c2, c4, h5]
  exact ⟨⟨c3, hv.1, hv.2, by omega⟩, rfl, by omega⟩
theorem r_isSlot {x : Int} {T M : er_Me} : f_Mo_isSlot x T M = some (if 0 ≤ x ∧ x < 9 then 1 else 0, M) := by
  unfold f_Mo_isSlot
  by_cases h0 : x < 0
  · rw [if_pos h0, if_neg (show ¬ (0 ≤ x ∧ x < 9) by omega)]
  · by_cases h1 : 8 < x
    · rw [if_neg h0, if_pos h1, if_neg (show ¬ (0 ≤ x ∧ x < 9) by omega)]
    · rw [if_neg h0, if_neg h1, if_pos (show 0 ≤ x ∧ x < 9 by omega)]
theorem k_well {n F v : Int} {T M S : er_Me} (h : er_W n F T M S) : f_ER_isWellBehaved 1 v T M = some (if (0 ≤ v ∧ v < n) ∧ S 1 v = 0 then 1 else 0, M) := by
  obtain ⟨hC, hS, hR, hF⟩ := h
  unfold f_ER_isWellBehaved
  rw [if_pos hC.1, k_isNode hC, Option.bind_some]
  dsimp only
  by_cases hv : 0 ≤ v ∧ v < n
  · obtain ⟨k1, k2, k3⟩ := k_nd hC hv
    have hN := hS.2.1 v hv.1 hv.2
    have h8 := (hS.2.2.1 v hv.1 hv.2).1.1.2.1
    have hf := hF v hv.1 hv.2
    rw [if_pos hv, if_neg (show ¬ (1 : Int) = 0 by decide), if_pos k3, if_pos k1, k2, if_pos hN.2.1]
    simp only [h8]
    by_cases h1 : S 1 v = 0
    · rw [if_neg (by omega), if_pos ⟨hv, h1⟩]
    · rw [if_pos (by omega), if_neg (fun q => h1 q.2)]
  · rw [if_neg hv, if_pos rfl, if_neg (fun q => hv q.1)]
theorem r_well {n F R v : Int} {T M S : er_Me} (h : er_RV n F R T M S) : f_Mo_well R v T M = some (if (0 ≤ v ∧ v < n) ∧ S 1 v = 0 then 1 else 0, M) := by
  have h' := h
  obtain ⟨g1, ⟨g2, g2b, q1, q2, q3⟩, g3⟩ := h
  have ha := g1.1
  have m0 := g1.2.1
  obtain ⟨a1, b1, c1⟩ := mo1 g1
  clear g1
  have e1 := g3 1 (by omega) (by omega)
  unfold f_Mo_well
  rw [if_pos m0, r_isNode h', Option.bind_some, a1, c1]
  dsimp only
  by_cases hv : 0 ≤ v ∧ v < n
  · rw [if_pos hv, if_neg (show ¬ (1 : Int) = 0 by decide), if_pos (show 0 < R + 1 by omega), if_pos (show T (R + 1) (-2) = 102 ∧ 0 ≤ v ∧ v < 7 from ⟨b1, by omega, by omega⟩)]
    simp only [e1]
    by_cases h1 : S 1 v = 0
    · rw [if_pos h1, if_pos ⟨hv, h1⟩]
    · rw [if_neg h1, if_neg (fun q => h1 q.2)]
  · rw [if_neg hv, if_pos rfl, if_neg (fun q => hv q.1)]
theorem k_sent {n F v : Int} {T M S : er_Me} (h : er_W n F T M S) : f_ER_sent 1 v T M = some (if 0 ≤ v ∧ v < n then S 3 v else -1, M) := by
  obtain ⟨hC, hS, hR, hF⟩ := h
  unfold f_ER_sent
  rw [if_pos hC.1, k_isNode hC, Option.bind_some]
  dsimp only
  by_cases hv : 0 ≤ v ∧ v < n
  · obtain ⟨k1, k2, k3⟩ := k_nd hC hv
    obtain ⟨ha, n1, n2, n3, n4, n5, n6, n7, n8, ⟨l1, l2, l3, l4⟩, -⟩ := hS.2.1 v hv.1 hv.2
    rw [if_pos hv, if_pos hv, if_neg (show ¬ (1 : Int) = 0 by decide), if_pos k3, if_pos k1, k2, n3, if_pos ⟨n1, by omega⟩, if_pos l1, (hS.2.2.1 v hv.1 hv.2).1.2.1]
  · rw [if_neg hv, if_pos rfl, if_neg hv]
theorem r_sent {n F R v : Int} {T M S : er_Me} (h : er_RV n F R T M S) : f_Mo_sent R v T M = some (if 0 ≤ v ∧ v < n then S 3 v else -1, M) := by
  have h' := h
  obtain ⟨g1, ⟨g2, g2b, q1, q2, q3⟩, g3⟩ := h
  have ha := g1.1
  have m0 := g1.2.1
  obtain ⟨a1, b1, c1⟩ := mo3 g1
  clear g1
  have e1 := g3 3 (by omega) (by omega)
  unfold f_Mo_sent
  rw [if_pos m0, r_isNode h', Option.bind_some, a1, c1]
  dsimp only
  by_cases hv : 0 ≤ v ∧ v < n
  · rw [if_pos hv, if_pos hv, if_neg (show ¬ (1 : Int) = 0 by decide), if_pos (show 0 < R + 3 by omega), if_pos (show T (R + 3) (-2) = 101 ∧ 0 ≤ v ∧ v < 7 from ⟨b1, by omega, by omega⟩), e1]
  · rw [if_neg hv, if_pos rfl, if_neg hv]
theorem k_message {n F v k : Int} {T M S : er_Me} (h : er_W n F T M S) : f_ER_message 1 v k T M = some (if (0 ≤ v ∧ v < n) ∧ (0 ≤ k ∧ k < S 3 v) then S 2 (140 * v + k) else -1, M) := by
  obtain ⟨hC, hS, hR, hF⟩ := h
  unfold f_ER_message
  rw [if_pos hC.1, k_isNode hC, Option.bind_some]
  dsimp only
  by_cases hv : 0 ≤ v ∧ v < n
  · obtain ⟨k1, k2, k3⟩ := k_nd hC hv
    obtain ⟨ha, n1, n2, n3, n4, n5, n6, n7, n8, ⟨l1, l2, l3, l4⟩, -⟩ := hS.2.1 v hv.1 hv.2
    obtain ⟨hNR, hI⟩ := hS.2.2.1 v hv.1 hv.2
    have hz := si_room hI (s := 0) (p := 0) (by omega) (by omega)
    rw [if_pos hv, if_neg (show ¬ (1 : Int) = 0 by decide), if_pos k3, if_pos k1, k2, n3, if_pos ⟨n1, by omega⟩, if_pos l1, p_Log_codeAt l1 l2 (by omega) l3 l4 (by rw [hNR.2.1]; omega), Option.bind_some, hNR.2.1]
    dsimp only
    by_cases hk : 0 ≤ k ∧ k < S 3 v
    · rw [if_pos hk, if_pos ⟨hv, hk⟩, hNR.2.2.1 k hk.1 hk.2]
    · rw [if_neg hk, if_neg (fun q => hk q.2)]
  · rw [if_neg hv, if_pos rfl, if_neg (fun q => hv q.1)]
theorem r_message {n F R v k : Int} {T M S : er_Me} (h : er_RV n F R T M S) (hI : ∀ w, 0 ≤ w → w < n → er_SI n w S) : f_Mo_message R v k T M = some (if (0 ≤ v ∧ v < n) ∧ (0 ≤ k ∧ k < S 3 v) then S 2 (140 * v + k) else -1, M) := by
  have h' := h
  obtain ⟨g1, ⟨g2, g2b, q1, q2, q3⟩, g3⟩ := h
  have ha := g1.1
  have m0 := g1.2.1
  obtain ⟨a3, b3, c3⟩ := mo3 g1
  obtain ⟨a2, b2, c2⟩ := mo2 g1
  clear g1
  have e3 := g3 3 (by omega) (by omega)
  have e2 := g3 2 (by omega) (by omega)
  unfold f_Mo_message
  rw [if_pos m0, r_isNode h', Option.bind_some, a3, c3, a2, c2]
  dsimp only
  by_cases hv : 0 ≤ v ∧ v < n
  · have hz := si_room (hI v hv.1 hv.2) (s := 0) (p := 0) (by omega) (by omega)
    rw [if_pos hv, if_neg (show ¬ (1 : Int) = 0 by decide)]
    by_cases hk0 : k < 0
    · rw [if_pos hk0, if_neg (fun q => by have := q.2.1; omega)]
    · rw [if_neg hk0, if_pos (show 0 < R + 3 by omega), if_pos (show T (R + 3) (-2) = 101 ∧ 0 ≤ v ∧ v < 7 from ⟨b3, by omega, by omega⟩)]
      simp only [e3, e2]
      by_cases hk1 : S 3 v ≤ k
      · rw [if_pos hk1, if_neg (fun q => by have := q.2.2; omega)]
      · have i1 : er_add (er_mul 140 v) k = 140 * v + k := by rw [er_mulE (by constructor <;> omega), er_addE (by constructor <;> omega)]
        rw [if_neg hk1, if_pos (show 0 < R + 2 by omega), i1, if_pos (show T (R + 2) (-2) = 101 ∧ 0 ≤ 140 * v + k ∧ 140 * v + k < 980 from ⟨b2, by omega, by omega⟩), if_pos ⟨hv, by omega⟩]
  · rw [if_neg hv, if_pos rfl, if_neg (fun q => hv q.1)]
theorem k_waiting {n F v w : Int} {T M S : er_Me} (h : er_W n F T M S) : f_ER_waiting 1 v w T M = some (if (0 ≤ v ∧ v < n) ∧ (0 ≤ w ∧ w < n) then er_sub (S 3 v) (S 4 (7 * w + v)) else -1, M) := by
  obtain ⟨hC, hS, hR, hF⟩ := h
  have hn : n ≤ 7 := hR.2.1.2.2.2.1
  unfold f_ER_waiting
  rw [if_pos hC.1, k_isNode hC, Option.bind_some]
  dsimp only
  rw [k_isNode hC, Option.bind_some]
  dsimp only
  by_cases hv : 0 ≤ v ∧ v < n
  · rw [if_pos hv, if_neg (show ¬ (1 : Int) = 0 by decide)]
    by_cases hw : 0 ≤ w ∧ w < n
    · obtain ⟨k1, k2, k3⟩ := k_nd hC hv
      obtain ⟨k1', k2', -⟩ := k_nd hC hw
      obtain ⟨ha, n1, n2, n3, n4, n5, n6, n7, n8, ⟨l1, l2, l3, l4⟩, -⟩ := hS.2.1 v hv.1 hv.2
      obtain ⟨ha', n1', -, -, -, n5', -, -, -, -, -, ⟨o1, o2⟩, -⟩ := hS.2.1 w hw.1 hw.2
      rw [if_pos hw, if_neg (show ¬ (1 : Int) = 0 by decide), if_pos k3, if_pos k1, if_pos k1'.2, k2, k2', n3, n5', o2, if_pos ⟨n1, by omega⟩, if_pos l1, if_pos ⟨n1', by omega⟩, if_pos ⟨o1, by omega⟩, if_pos ⟨hv, hw⟩, (hS.2.2.1 v hv.1 hv.2).1.2.1, (hS.2.2.1 w hw.1 hw.2).1.2.2.2.2.2.2.1 v hv.1 hv.2]
    · rw [if_neg hw, if_pos rfl, if_neg (fun q => hw q.2)]
  · rw [if_neg hv, if_pos rfl, if_neg (fun q => hv q.1)]
theorem r_waiting {n F R v w : Int} {T M S : er_Me} (h : er_RV n F R T M S) : f_Mo_waiting R v w T M = some (if (0 ≤ v ∧ v < n) ∧ (0 ≤ w ∧ w < n) then er_sub (S 3 v) (S 4 (7 * w + v)) else -1, M) := by
  have h' := h
  obtain ⟨g1, ⟨g2, g2b, q1, q2, q3⟩, g3⟩ := h
  have ha := g1.1
  have m0 := g1.2.1
  obtain ⟨a3, b3, c3⟩ := mo3 g1
  obtain ⟨a4, b4, c4⟩ := mo4 g1
  clear g1
  have e3 := g3 3 (by omega) (by omega)
  have e4 := g3 4 (by omega) (by omega)
  unfold f_Mo_waiting
  rw [if_pos m0, r_isNode h', Option.bind_some, a3, c3, a4, c4]
  dsimp only
  rw [r_isNode h', Option.bind_some]
  dsimp only
  by_cases hv : 0 ≤ v ∧ v < n
  · rw [if_pos hv, if_neg (show ¬ (1 : Int) = 0 by decide)]
    by_cases hw : 0 ≤ w ∧ w < n
    · have i1 : er_add (er_mul 7 w) v = 7 * w + v := by rw [er_mulE (by constructor <;> omega), er_addE (by constructor <;> omega)]
      rw [if_pos hw, if_neg (show ¬ (1 : Int) = 0 by decide), if_pos (show 0 < R + 3 by omega), if_pos (show T (R + 3) (-2) = 101 ∧ 0 ≤ v ∧ v < 7 from ⟨b3, by omega, by omega⟩), e3, e4, i1, if_pos (show 0 < R + 4 by omega), if_pos (show T (R + 4) (-2) = 101 ∧ 0 ≤ 7 * w + v ∧ 7 * w + v < 49 from ⟨b4, by omega, by omega⟩), if_pos ⟨hv, hw⟩]
    · rw [if_neg hw, if_pos rfl, if_neg (fun q => hw q.2)]
  · rw [if_neg hv, if_pos rfl, if_neg (fun q => hv q.1)]
theorem k_votes {n F w s p x b : Int} {T M S : er_Me} (h : er_W n F T M S) : f_ER_votes 1 w s p x b T M = some (if (0 ≤ w ∧ w < n) ∧ (0 ≤ s ∧ s < 9) ∧ (0 ≤ p ∧ p < n) ∧ (0 ≤ x ∧ x < 4) then (er_vt n w (if b = 0 then 1 else 2) s p x (S 11) : Int) else 0, M) := by
  obtain ⟨hC, hS, hR, hF⟩ := h
  have hn : n ≤ 7 := hR.2.1.2.2.2.1
  unfold f_ER_votes
  rw [if_pos hC.1, k_isNode hC, Option.bind_some]
  dsimp only
  by_cases hw : 0 ≤ w ∧ w < n
  · rw [if_pos hw, if_neg (show ¬ (1 : Int) = 0 by decide), p_isSlot, Option.bind_some]
    dsimp only
    by_cases hs : 0 ≤ s ∧ s < 9
    · rw [if_pos hs, if_neg (show ¬ (1 : Int) = 0 by decide), k_isNode hC, Option.bind_some]
      dsimp only
      by_cases hp : 0 ≤ p ∧ p < n
      · rw [if_pos hp, if_neg (show ¬ (1 : Int) = 0 by decide)]
        by_cases hx0 : x < 0
        · rw [if_pos hx0, if_neg (fun q => by have := q.2.2.2.1; omega)]
        · rw [if_neg hx0]
          by_cases hx1 : x < 4
          · obtain ⟨k1, k2, k3⟩ := k_nd hC hw
            obtain ⟨ha, n1, n2, n3, n4, n5, n6, n7, n8, -, ⟨t1, t2, t3, t4, t5, t6, t7⟩, -⟩ := hS.2.1 w hw.1 hw.2
            have c5 := (hS.2.2.1 w hw.1 hw.2).1.2.2.2.2.2.1
            have go : ∀ k, 1 ≤ k → k < 3 → f_ER_votes_55 T 1 w s p x b (4 + 46 * w + 3) k M = some ((er_vt n w k s p x (S 11) : Int), M) := fun k hk0 hk1 => by
              unfold f_ER_votes_55
              rw [p_cellOf hs (by omega), Option.bind_some]
              dsimp only
              rw [if_pos t1, p_count t1 t3 (by omega) t6 t7 (by omega) (by omega) ⟨by omega, hx1⟩, Option.bind_some, c5 k s p x hk0 hk1 hs.1 hs.2 hp.1 hp.2 (by omega) hx1]
            rw [if_pos hx1, if_pos k3, if_pos k1, k2, n4, if_pos ⟨n1, by omega⟩, go 1 (by omega) (by omega), go 2 (by omega) (by omega), if_pos (show (0 ≤ w ∧ w < n) ∧ (0 ≤ s ∧ s < 9) ∧ (0 ≤ p ∧ p < n) ∧ (0 ≤ x ∧ x < 4) from ⟨hw, hs, hp, by omega, by omega⟩)]
            by_cases hb : b = 0
            · rw [if_pos hb, if_pos hb]
            · rw [if_neg hb, if_neg hb]
          · rw [if_neg hx1, if_neg (fun q => hx1 q.2.2.2.2)]
      · rw [if_neg hp, if_pos rfl, if_neg (fun q => hp q.2.2.1)]
    · rw [if_neg hs, if_pos rfl, if_neg (fun q => hs q.2.1)]
  · rw [if_neg hw, if_pos rfl, if_neg (fun q => hw q.1)]
theorem r_votes {n F R w s p x b : Int} {T M S : er_Me} (h : er_RV n F R T M S) : f_Mo_votes R w s p x b T M = some (if (0 ≤ w ∧ w < n) ∧ (0 ≤ s ∧ s < 9) ∧ (0 ≤ p ∧ p < n) ∧ (0 ≤ x ∧ x < 4) then (er_vt n w (if b = 0 then 1 else 2) s p x (S 11) : Int) else 0, M) := by
  have hq := h.2.1.2.2
  have m0 := h.1.2.1
  unfold f_Mo_votes
  rw [if_pos m0, r_isNode h, Option.bind_some]
  dsimp only
  by_cases hw : 0 ≤ w ∧ w < n
  · rw [if_pos hw, if_neg (show ¬ (1 : Int) = 0 by decide), r_isNode h, Option.bind_some]
    dsimp only
    by_cases hp : 0 ≤ p ∧ p < n
    · rw [if_pos hp, if_neg (show ¬ (1 : Int) = 0 by decide), r_isSlot, Option.bind_some]
      dsimp only
      by_cases hs : 0 ≤ s ∧ s < 9
      · rw [if_pos hs, if_neg (show ¬ (1 : Int) = 0 by decide)]
        by_cases hx0 : x < 0
        · rw [if_pos hx0, if_neg (fun q => by have := q.2.2.2.1; omega)]
        · rw [if_neg hx0]
          by_cases hx1 : 3 < x
          · rw [if_pos hx1, if_neg (fun q => by have := q.2.2.2.2; omega)]
          · have go : ∀ k, 1 ≤ k → k < 3 → f_Mo_votes_46 T R w s p x b R w k M = some ((er_vt n w k s p x (S 11) : Int), M) := fun k hk0 hk1 => by
              unfold f_Mo_votes_46
              rw [if_pos m0, r_count' h (by omega) (by omega) hs (by omega) (by omega), Option.bind_some]
            rw [if_neg hx1, go 1 (by omega) (by omega), go 2 (by omega) (by omega), if_pos (show (0 ≤ w ∧ w < n) ∧ (0 ≤ s ∧ s < 9) ∧ (0 ≤ p ∧ p < n) ∧ (0 ≤ x ∧ x < 4) from ⟨hw, hs, hp, by omega, by omega⟩)]
            by_cases hb : b = 0
            · rw [if_pos hb, if_pos hb]
            · rw [if_neg hb, if_neg hb]
      · rw [if_neg hs, if_pos rfl, if_neg (fun q => hs q.2.1)]
    · rw [if_neg hp, if_pos rfl, if_neg (fun q => hp q.2.2.1)]
  · rw [if_neg hw, if_pos rfl, if_neg (fun q => hw q.1)]
theorem k_accepted {n F w s p : Int} {T M S : er_Me} (h : er_W n F T M S) : f_ER_accepted 1 w s p T M = some (if (0 ≤ w ∧ w < n) ∧ (0 ≤ s ∧ s < 9) ∧ (0 ≤ p ∧ p < n) then S 7 (63 * w + 7 * s + p) - 1 else -1, M) := by
  obtain ⟨hC, hS, hR, hF⟩ := h
  have hn : n ≤ 7 := hR.2.1.2.2.2.1
  unfold f_ER_accepted
  rw [if_pos hC.1, k_isNode hC, Option.bind_some]
  dsimp only
  by_cases hw : 0 ≤ w ∧ w < n
  · rw [if_pos hw, if_neg (show ¬ (1 : Int) = 0 by decide), p_isSlot, Option.bind_some]
    dsimp only
    by_cases hs : 0 ≤ s ∧ s < 9
    · rw [if_pos hs, if_neg (show ¬ (1 : Int) = 0 by decide), k_isNode hC, Option.bind_some]
      dsimp only
      by_cases hp : 0 ≤ p ∧ p < n
      · obtain ⟨k1, k2, k3⟩ := k_nd hC hw
        obtain ⟨ha, n1, n2, n3, n4, n5, n6, n7, n8, -, -, -, -, ⟨o1, o2⟩, -⟩ := hS.2.1 w hw.1 hw.2
        rw [if_pos hp, if_neg (show ¬ (1 : Int) = 0 by decide), if_pos k3, if_pos k1, k2, n7, o2, if_pos ⟨n1, by omega⟩, p_cellOf hs (by omega), Option.bind_some]
        dsimp only
        rw [if_pos ⟨o1, by omega, by omega⟩, if_pos ⟨hw, hs, hp⟩, (hS.2.2.1 w hw.1 hw.2).1.2.2.2.2.2.2.2.2.1 s p hs.1 hs.2 hp.1 hp.2]
      · rw [if_neg hp, if_pos rfl, if_neg (fun q => hp q.2.2)]
    · rw [if_neg hs, if_pos rfl, if_neg (fun q => hs q.2.1)]
  · rw [if_neg hw, if_pos rfl, if_neg (fun q => hw q.1)]
theorem r_accepted {n F R w s p : Int} {T M S : er_Me} (h : er_RV n F R T M S) (hI : ∀ w, 0 ≤ w → w < n → er_SI n w S) : f_Mo_accepted R w s p T M = some (if (0 ≤ w ∧ w < n) ∧ (0 ≤ s ∧ s < 9) ∧ (0 ≤ p ∧ p < n) then S 7 (63 * w + 7 * s + p) - 1 else -1, M) := by
  have h' := h
  obtain ⟨g1, ⟨g2, g2b, q1, q2, q3⟩, g3⟩ := h
  have ha := g1.1
  have m0 := g1.2.1
  obtain ⟨a7, b7, c7⟩ := mo7 g1
  clear g1
  have e7 := g3 7 (by omega) (by omega)
  unfold f_Mo_accepted
  rw [if_pos m0, r_isNode h', Option.bind_some, a7, c7]
  dsimp only
  by_cases hw : 0 ≤ w ∧ w < n
  · rw [if_pos hw, if_neg (show ¬ (1 : Int) = 0 by decide), r_isNode h', Option.bind_some]
    dsimp only
    by_cases hp : 0 ≤ p ∧ p < n
    · rw [if_pos hp, if_neg (show ¬ (1 : Int) = 0 by decide), r_isSlot, Option.bind_some]
      dsimp only
      by_cases hs : 0 ≤ s ∧ s < 9
      · have hac := (hI w hw.1 hw.2).2.2.2.1 (7 * s + p) (by omega) (by omega)
        rw [← Int.add_assoc] at hac
        rw [if_pos hs, if_neg (show ¬ (1 : Int) = 0 by decide), if_pos (show 0 < R + 7 by omega), r_at (by omega) (by omega) (by omega), Option.bind_some]
        dsimp only
        rw [if_pos (show T (R + 7) (-2) = 101 ∧ 0 ≤ 63 * w + 7 * s + p ∧ 63 * w + 7 * s + p < 441 from ⟨b7, by omega, by omega⟩), e7, if_pos ⟨hw, hs, hp⟩, er_subE (by constructor <;> omega)]
      · rw [if_neg hs, if_pos rfl, if_neg (fun q => hs q.2.1)]
    · rw [if_neg hp, if_pos rfl, if_neg (fun q => hp q.2.2)]
  · rw [if_neg hw, if_pos rfl, if_neg (fun q => hw q.1)]
theorem si_rz {n w s : Int} {S : er_Me} (hI : er_SI n w S) (hs : 0 ≤ s ∧ s < 9) : 0 ≤ S 10 (9 * w + s) ∧ S 10 (9 * w + s) ≤ 7 := by
  have h6 := (hI.2.2.2.2.2 s hs.1 hs.2).1
  have h8 := er_f8_le (w := w) (s := s) (f := S 8) (fun p p0 p1 => by
    have := (hI.2.2.1 (7 * s + p) (by omega) (by omega)).2.2
    rw [← Int.add_assoc] at this
    exact this)
  omega
theorem k_rowAt {n F w s k : Int} {T M S : er_Me} (h : er_W n F T M S) : f_ER_rowAt 1 w s k T M = some (if (0 ≤ w ∧ w < n) ∧ (0 ≤ s ∧ s < 9) ∧ (0 ≤ k ∧ k < S 10 (9 * w + s)) then S 9 (63 * w + 7 * s + k) else -1, M) := by
  obtain ⟨hC, hS, hR, hF⟩ := h
  have hn : n ≤ 7 := hR.2.1.2.2.2.1
  unfold f_ER_rowAt
  rw [if_pos hC.1, k_isNode hC, Option.bind_some]
  dsimp only
  by_cases hw : 0 ≤ w ∧ w < n
  · rw [if_pos hw, if_neg (show ¬ (1 : Int) = 0 by decide), p_isSlot, Option.bind_some]
    dsimp only
    by_cases hs : 0 ≤ s ∧ s < 9
    · obtain ⟨k1, k2, k3⟩ := k_nd hC hw
      obtain ⟨ha, n1, n2, n3, n4, n5, n6, n7, n8, -, -, -, -, -, ⟨o1, o2⟩, o3⟩ := hS.2.1 w hw.1 hw.2
      obtain ⟨o4, o5⟩ := o3 s hs.1 hs.2
      obtain ⟨hNR, hI⟩ := hS.2.2.1 w hw.1 hw.2
      obtain ⟨r1, r2, r3⟩ := hNR.2.2.2.2.2.2.2.2.2 s hs.1 hs.2
      have h6 := si_rz hI hs
      rw [if_pos hs, if_neg (show ¬ (1 : Int) = 0 by decide), if_pos k3, if_pos k1, k2, n8, o2, o4, if_pos ⟨n1, by omega⟩, if_pos ⟨o1, hs.1, hs.2, by omega⟩, if_pos o5.2.1, p_Row_speakerAt o5 (by rw [r1]; omega), Option.bind_some, r1]
      dsimp only
      by_cases hk : 0 ≤ k ∧ k < S 10 (9 * w + s)
      · rw [if_pos hk, if_pos ⟨hw, hs, hk⟩, (r2 k hk.1 hk.2).1]
      · rw [if_neg hk, if_neg (fun q => hk q.2.2)]
    · rw [if_neg hs, if_pos rfl, if_neg (fun q => hs q.2.1)]
  · rw [if_neg hw, if_pos rfl, if_neg (fun q => hw q.1)]
theorem r_rowAt {n F R w s k : Int} {T M S : er_Me} (h : er_RV n F R T M S) (hI : ∀ w, 0 ≤ w → w < n → er_SI n w S) : f_Mo_rowAt R w s k T M = some (if (0 ≤ w ∧ w < n) ∧ (0 ≤ s ∧ s < 9) ∧ (0 ≤ k ∧ k < S 10 (9 * w + s)) then S 9 (63 * w + 7 * s + k) else -1, M) := by
  have h' := h
  obtain ⟨g1, ⟨g2, g2b, q1, q2, q3⟩, g3⟩ := h
  have ha := g1.1
  have m0 := g1.2.1
  obtain ⟨a9, b9, c9⟩ := mo9 g1
  obtain ⟨a10, b10, c10⟩ := mo10 g1
  clear g1
  have e9 := g3 9 (by omega) (by omega)
  have e10 := g3 10 (by omega) (by omega)
  unfold f_Mo_rowAt
  rw [if_pos m0, r_isNode h', Option.bind_some, a9, c9, a10, c10]
  dsimp only
  by_cases hw : 0 ≤ w ∧ w < n
  · rw [if_pos hw, if_neg (show ¬ (1 : Int) = 0 by decide), r_isSlot, Option.bind_some]
    dsimp only
    by_cases hs : 0 ≤ s ∧ s < 9
    · have h6 := si_rz (hI w hw.1 hw.2) hs
      rw [if_pos hs, if_neg (show ¬ (1 : Int) = 0 by decide)]
      by_cases hk0 : k < 0
      · rw [if_pos hk0, if_neg (fun q => by have := q.2.2.1; omega)]
      · have i1 : er_add (er_mul 9 w) s = 9 * w + s := by rw [er_mulE (by constructor <;> omega), er_addE (by constructor <;> omega)]
        rw [if_neg hk0, if_pos (show 0 < R + 10 by omega), i1, if_pos (show T (R + 10) (-2) = 101 ∧ 0 ≤ 9 * w + s ∧ 9 * w + s < 63 from ⟨b10, by omega, by omega⟩)]
        simp only [e10]
        by_cases hk1 : S 10 (9 * w + s) ≤ k
        · rw [if_pos hk1, if_neg (fun q => by have := q.2.2.2; omega)]
        · rw [if_neg hk1, if_pos (show 0 < R + 9 by omega), r_at (by omega) (by omega) (by omega), Option.bind_some]
          dsimp only
          rw [if_pos (show T (R + 9) (-2) = 101 ∧ 0 ≤ 63 * w + 7 * s + k ∧ 63 * w + 7 * s + k < 441 from ⟨b9, by omega, by omega⟩), e9, if_pos ⟨hw, hs, by omega, by omega⟩]
    · rw [if_neg hs, if_pos rfl, if_neg (fun q => hs q.2.1)]
  · rw [if_neg hw, if_pos rfl, if_neg (fun q => hw q.1)]
theorem k_slot {n F v : Int} {T M S : er_Me} (h : er_W n F T M S) : f_ER_slot 1 v T M = some (if 0 ≤ v ∧ v < n then S 12 v else -1, M) := by
  obtain ⟨hC, hS, hR, hF⟩ := h
  unfold f_ER_slot
  rw [if_pos hC.1, k_isNode hC, Option.bind_some]
  dsimp only
  by_cases hv : 0 ≤ v ∧ v < n
  · obtain ⟨k1, k2, k3⟩ := k_nd hC hv
    have n1 := (hS.2.1 v hv.1 hv.2).2.1
    rw [if_pos hv, if_pos hv, if_neg (show ¬ (1 : Int) = 0 by decide), if_pos k3, if_pos k1, k2, if_pos n1, (hS.2.2.1 v hv.1 hv.2).1.1.2.2.2.1]
  · rw [if_neg hv, if_pos rfl, if_neg hv]
theorem r_slot {n F R v : Int} {T M S : er_Me} (h : er_RV n F R T M S) : f_Mo_slot R v T M = some (if 0 ≤ v ∧ v < n then S 12 v else -1, M) := by
  have h' := h
  obtain ⟨g1, ⟨g2, g2b, q1, q2, q3⟩, g3⟩ := h
  have ha := g1.1
  have m0 := g1.2.1
  obtain ⟨a1, b1, c1⟩ := mo12 g1
  clear g1
  have e1 := g3 12 (by omega) (by omega)
  unfold f_Mo_slot
  rw [if_pos m0, r_isNode h', Option.bind_some, a1, c1]
  dsimp only
  by_cases hv : 0 ≤ v ∧ v < n
  · rw [if_pos hv, if_pos hv, if_neg (show ¬ (1 : Int) = 0 by decide), if_pos (show 0 < R + 12 by omega), if_pos (show T (R + 12) (-2) = 101 ∧ 0 ≤ v ∧ v < 7 from ⟨b1, by omega, by omega⟩), e1]
  · rw [if_neg hv, if_pos rfl, if_neg hv]
theorem k_value {n F v : Int} {T M S : er_Me} (h : er_W n F T M S) : f_ER_value 1 v T M = some (if 0 ≤ v ∧ v < n then (if S 12 v < 0 then -1 else S 13 v) else -1, M) := by
  obtain ⟨hC, hS, hR, hF⟩ := h
  unfold f_ER_value
  rw [if_pos hC.1, k_isNode hC, Option.bind_some]
  dsimp only
  by_cases hv : 0 ≤ v ∧ v < n
  · obtain ⟨k1, k2, k3⟩ := k_nd hC hv
    have n1 := (hS.2.1 v hv.1 hv.2).2.1
    rw [if_pos hv, if_pos hv, if_neg (show ¬ (1 : Int) = 0 by decide), if_pos k3, if_pos k1, k2, if_pos n1, (hS.2.2.1 v hv.1 hv.2).1.1.2.2.2.2.1]
  · rw [if_neg hv, if_pos rfl, if_neg hv]
theorem r_value {n F R v : Int} {T M S : er_Me} (h : er_RV n F R T M S) : f_Mo_value R v T M = some (if 0 ≤ v ∧ v < n then (if S 12 v < 0 then -1 else S 13 v) else -1, M) := by
  have h' := h
  obtain ⟨g1, ⟨g2, g2b, q1, q2, q3⟩, g3⟩ := h
  have ha := g1.1
  have m0 := g1.2.1
  obtain ⟨a1, b1, c1⟩ := mo12 g1
  obtain ⟨a2, b2, c2⟩ := mo13 g1
  clear g1
  have e1 := g3 12 (by omega) (by omega)
  have e2 := g3 13 (by omega) (by omega)
  unfold f_Mo_value
  rw [if_pos m0, r_isNode h', Option.bind_some, a1, c1, a2, c2]
  dsimp only
  by_cases hv : 0 ≤ v ∧ v < n
  · rw [if_pos hv, if_pos hv, if_neg (show ¬ (1 : Int) = 0 by decide), if_pos (show 0 < R + 12 by omega), if_pos (show T (R + 12) (-2) = 101 ∧ 0 ≤ v ∧ v < 7 from ⟨b1, by omega, by omega⟩)]
    simp only [e1, e2]
    by_cases h1 : S 12 v < 0
    · rw [if_pos h1, if_pos h1]
    · rw [if_neg h1, if_neg h1, if_pos (show 0 < R + 13 by omega), if_pos (show T (R + 13) (-2) = 101 ∧ v < 7 from ⟨b2, by omega⟩)]
  · rw [if_neg hv, if_pos rfl, if_neg hv]
theorem k_decided {n F v : Int} {T M S : er_Me} (h : er_W n F T M S) : f_ER_decided 1 v T M = some (if 0 ≤ v ∧ v < n then S 14 v else -1, M) := by
  obtain ⟨hC, hS, hR, hF⟩ := h
  unfold f_ER_decided
  rw [if_pos hC.1, k_isNode hC, Option.bind_some]
  dsimp only
  by_cases hv : 0 ≤ v ∧ v < n
  · obtain ⟨k1, k2, k3⟩ := k_nd hC hv
    have n1 := (hS.2.1 v hv.1 hv.2).2.1
    rw [if_pos hv, if_pos hv, if_neg (show ¬ (1 : Int) = 0 by decide), if_pos k3, if_pos k1, k2, if_pos n1, (hS.2.2.1 v hv.1 hv.2).1.1.2.2.2.2.2]
  · rw [if_neg hv, if_pos rfl, if_neg hv]
theorem r_decided {n F R v : Int} {T M S : er_Me} (h : er_RV n F R T M S) : f_Mo_decided R v T M = some (if 0 ≤ v ∧ v < n then S 14 v else -1, M) := by
  have h' := h
  obtain ⟨g1, ⟨g2, g2b, q1, q2, q3⟩, g3⟩ := h
  have ha := g1.1
  have m0 := g1.2.1
  obtain ⟨a1, b1, c1⟩ := mo14 g1
  clear g1
  have e1 := g3 14 (by omega) (by omega)
  unfold f_Mo_decided
  rw [if_pos m0, r_isNode h', Option.bind_some, a1, c1]
  dsimp only
  by_cases hv : 0 ≤ v ∧ v < n
  · rw [if_pos hv, if_pos hv, if_neg (show ¬ (1 : Int) = 0 by decide), if_pos (show 0 < R + 14 by omega), if_pos (show T (R + 14) (-2) = 101 ∧ 0 ≤ v ∧ v < 7 from ⟨b1, by omega, by omega⟩), e1]
  · rw [if_neg hv, if_pos rfl, if_neg hv]
