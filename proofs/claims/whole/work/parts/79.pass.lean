/-! pass and forge -/
def er_Sk (n : Int) (S : er_Me) : Prop := (∀ u, 0 ≤ u → u < n → er_SI n u S) ∧ ∀ u v, 0 ≤ u → u < n → 0 ≤ v → v < n → 0 ≤ S 4 (7 * u + v) ∧ S 4 (7 * u + v) ≤ S 3 v
theorem st_Sk {n F : Int} {T M S : er_Me} (h : er_St n F T M S) : er_Sk n S := ⟨fun u u0 u1 => (h.2.2.1 u u0 u1).2, h.2.2.2⟩
def er_Pl (n F v w : Int) : Nat → er_Me → Nat → er_Me → Prop
  | 0, S, r, S' => r = 0 ∧ S' = S
  | d + 1, S, r, S' => (S 3 v ≤ S 4 (7 * w + v) ∧ r = 0 ∧ S' = S) ∨ (S 4 (7 * w + v) < S 3 v ∧ er_Sk n S ∧ er_Sk n (g_log n F S w v) ∧ ∃ m S1 r1, m ≤ 208 ∧ er_Ru n F w m (g_log n F S w v) S1 ∧ r = r1 + 1 ∧ er_Pl n F v w d S1 r1 S')
theorem k_pass37 {n F v w lim : Int} {T : er_Me} (hC : er_Ca n T) (hv : 0 ≤ v ∧ v < n) (hw : 0 ≤ w ∧ w < n) (hl : lim ≤ 100) : ∀ (d fuel : Nat) (i : Int) (M S : er_Me), er_St n F T M S → 0 ≤ i → i + d = lim → d < fuel → ∃ r S' M', er_Pl n F v w d S r S' ∧ f_ER_pass_37 fuel T 1 v w lim i M = some (i + (r : Int), M') ∧ er_St n F T M' S' ∧ er_Fr (4 + 46 * w) M M' ∧ S' 1 = S 1
  | 0, fuel, i, M, S, h, h0, h1, h2 => by
    obtain ⟨f, rfl⟩ : ∃ f, fuel = f + 1 := ⟨fuel - 1, by omega⟩
    refine ⟨0, S, M, ⟨rfl, rfl⟩, ?_, h, er_Fr.rf _ M, rfl⟩
    show f_ER_pass_37_b (f_ER_pass_37 f T) 1 v w lim i T M = _
    unfold f_ER_pass_37_b
    rw [if_pos (show lim ≤ i by omega)]
    simp
  | d + 1, fuel, i, M, S, h, h0, h1, h2 => by
    have ih := k_pass37 (F := F) hC hv hw hl d
    obtain ⟨f, rfl⟩ : ∃ f, fuel = f + 1 := ⟨fuel - 1, by omega⟩
    have hc1 := hC.1
    obtain ⟨k1, k2, k3⟩ := k_nd hC hv
    obtain ⟨j1, j2, j3⟩ := k_nd hC hw
    obtain ⟨-, n1, -, n3, -⟩ := h.2.1 v hv.1 hv.2
    obtain ⟨-, o1, -⟩ := h.2.1 w hw.1 hw.2
    have ei : er_add i 1 = i + 1 := er_addE (by constructor <;> omega)
    have hb : f_ER_pass_37 (f + 1) T 1 v w lim i M = (f_Node_hearNextOf (4 + 46 * w) v (4 + 46 * v + 1) T M).bind fun q8 => if q8.1 = 0 then some (i, q8.2) else (f_Node_settle (4 + 46 * w) T q8.2).bind fun q13 => f_ER_pass_37 f T 1 v w lim (i + 1) q13 := by
      show f_ER_pass_37_b (f_ER_pass_37 f T) 1 v w lim i T M = _
      unfold f_ER_pass_37_b
      dsimp only [er_le]
      rw [if_neg (show ¬ lim ≤ i by omega), if_pos ⟨hc1, k3⟩, if_pos j1, if_pos k1.2, k2, j2, n3, ei, if_pos ⟨n1, by omega⟩, if_pos o1]
    rw [hb]
    by_cases hg : S 4 (7 * w + v) < S 3 v
    · obtain ⟨M1, a1, a2, a3, a4⟩ := st_log h hw hv hg
      obtain ⟨m, S2, M2, p1, p2, p3, p4, p5, p6⟩ := c_settled hw a2
      obtain ⟨r, S', M', b1, b2, b3, b4, b5⟩ := ih f (i + 1) M2 S2 p4 (by omega) (by omega) (by omega)
      refine ⟨r + 1, S', M', Or.inr ⟨hg, st_Sk h, st_Sk a2, m, S2, r, p1, p2, rfl, b1⟩, ?_, b3, (a3.tr p5).tr b4, ?_⟩
      · rw [a1, Option.bind_some]
        dsimp only
        rw [if_neg (show ¬ (1 : Int) = 0 by decide), p3, Option.bind_some, b2]
        congr 2
        omega
      · rw [b5, ru_1 m _ _ p2]
        unfold g_log
        rw [g_recv_k.1 1 (by omega), er_upF (by decide)]
    · refine ⟨0, S, M, Or.inl ⟨by omega, rfl, rfl⟩, ?_, h, er_Fr.rf _ M, rfl⟩
      rw [st_nolog h hw hv (by omega), Option.bind_some]
      dsimp only
      rw [if_pos rfl]
      simp
theorem r_pass37 {n F R v w lim : Int} {T : er_Me} (hv : 0 ≤ v ∧ v < n) (hw : 0 ≤ w ∧ w < n) (hl : lim ≤ 100) : ∀ (d fuel : Nat) (i : Int) (M S S' : er_Me) (r : Nat), er_RV n F R T M S → er_Pl n F v w d S r S' → 0 ≤ i → i + d = lim → d < fuel → ∃ M', f_Mo_pass_37 fuel T R v w lim i M = some (i + (r : Int), M') ∧ er_RV n F R T M' S' ∧ er_Fm R M M'
  | 0, fuel, i, M, S, S', r, h, hp, h0, h1, h2 => by
    obtain ⟨f, rfl⟩ : ∃ f, fuel = f + 1 := ⟨fuel - 1, by omega⟩
    obtain ⟨rfl, rfl⟩ := hp
    refine ⟨M, ?_, h, er_Fm.rf _ M⟩
    show f_Mo_pass_37_b (f_Mo_pass_37 f T) R v w lim i T M = _
    unfold f_Mo_pass_37_b
    rw [if_pos (show lim ≤ i by omega)]
    simp
  | d + 1, fuel, i, M, S, S', r, h, hp, h0, h1, h2 => by
    have ih := r_pass37 (F := F) (R := R) (T := T) hv hw hl d
    obtain ⟨f, rfl⟩ : ∃ f, fuel = f + 1 := ⟨fuel - 1, by omega⟩
    have h' := h
    obtain ⟨g1, ⟨g2, g2b, q1, q2, q3⟩, g3⟩ := h
    have ha := g1.1
    have m0 := g1.2.1
    obtain ⟨a3, b3, c3⟩ := mo3 g1
    obtain ⟨a4, b4, c4⟩ := mo4 g1
    clear g1
    have e3 := g3 3 (by omega) (by omega)
    have e4 := g3 4 (by omega) (by omega)
    have ei : er_add i 1 = i + 1 := er_addE (by constructor <;> omega)
    have i1 : er_add (er_mul 7 w) v = 7 * w + v := by rw [er_mulE (by constructor <;> omega), er_addE (by constructor <;> omega)]
    have hb : f_Mo_pass_37 (f + 1) T R v w lim i M = if S 3 v ≤ S 4 (7 * w + v) then some (i, M) else (f_Mo_receiveFromLog R w v T M).bind fun q9 => (f_Mo_settle R w T q9).bind fun q10 => f_Mo_pass_37 f T R v w lim (i + 1) q10 := by
      show f_Mo_pass_37_b (f_Mo_pass_37 f T) R v w lim i T M = _
      unfold f_Mo_pass_37_b
      rw [if_neg (show ¬ lim ≤ i by omega), a3, a4, c3, c4, ei, i1, if_pos (show T R (-2) = 7 ∧ 0 < R + 4 from ⟨m0, by omega⟩), if_pos (show T (R + 4) (-2) = 101 ∧ 0 ≤ 7 * w + v ∧ 7 * w + v < 49 from ⟨b4, by omega, by omega⟩), if_pos (show 0 < R + 3 by omega), if_pos (show T (R + 3) (-2) = 101 ∧ 0 ≤ v ∧ v < 7 from ⟨b3, by omega, by omega⟩), e3, e4]
    rw [hb]
    rcases hp with ⟨p1, rfl, rfl⟩ | ⟨p1, k1, k2, m, S1, r1, k3, k4, rfl, k5⟩
    · refine ⟨M, ?_, h', er_Fm.rf _ M⟩
      rw [if_pos p1]
      simp
    · obtain ⟨M1, o1, o2, o3⟩ := r_log h' hw hv (k1.1 w hw.1 hw.2) (k1.1 v hv.1 hv.2) ⟨(k1.2 w v hw.1 hw.2 hv.1 hv.2).1, p1⟩
      have h8 := (k2.2 w w hw.1 hw.2 hw.1 hw.2).1
      rw [show 7 * w + w = 8 * w by omega] at h8
      obtain ⟨M2, t1, t2, t3⟩ := r_settle o2 hw (k2.1 w hw.1 hw.2) h8 k4 k3
      obtain ⟨M', u1, u2, u3⟩ := ih f (i + 1) M2 S1 S' r1 t2 k5 (by omega) (by omega) (by omega)
      refine ⟨M', ?_, u2, (o3.tr t3).tr u3⟩
      rw [if_neg (by omega), o1, Option.bind_some, t1, Option.bind_some, u1]
      congr 2
      omega
theorem m_pass {n F v w x : Int} {T M S : er_Me} (h : er_W n F T M S) : ∃ a M1 M2 S', f_ER_pass 1 v w x T M = some (a, M1) ∧ f_Mo_pass (4 + 46 * n) v w x T M1 = some (a, M2) ∧ er_W n F T M2 S' := by
  have h' := h
  obtain ⟨hC, hS, hR, hF⟩ := h
  by_cases hv : 0 ≤ v ∧ v < n
  · by_cases hw : (0 ≤ w ∧ w < n) ∧ S 1 w = 0
    · have k0 : ∀ a M1, (if v = w then some (-1, M) else if x < 1 then some (-1, M) else if x ≤ 100 then f_ER_pass_37 er_fu T 1 v w x 0 M else some (-1, M)) = some (a, M1) → f_ER_pass 1 v w x T M = some (a, M1) := by
        intro a M1 q
        unfold f_ER_pass
        rw [if_pos hC.1, k_isNode hC, Option.bind_some]
        dsimp only
        rw [if_pos hv, if_neg (show ¬ (1 : Int) = 0 by decide), k_well h', Option.bind_some]
        dsimp only
        rw [if_pos hw, if_neg (show ¬ (1 : Int) = 0 by decide)]
        exact q
      have r0 : ∀ M1 a M2, er_RV n F (4 + 46 * n) T M1 S → (if v = w then some (-1, M1) else if x < 1 then some (-1, M1) else if x ≤ 100 then f_Mo_pass_37 er_fu T (4 + 46 * n) v w x 0 M1 else some (-1, M1)) = some (a, M2) → f_Mo_pass (4 + 46 * n) v w x T M1 = some (a, M2) := by
        intro M1 a M2 hr q
        unfold f_Mo_pass
        rw [if_pos hR.1.2.1, r_isNode hr, Option.bind_some]
        dsimp only
        rw [if_pos hv, if_neg (show ¬ (1 : Int) = 0 by decide), r_well hr, Option.bind_some]
        dsimp only
        rw [if_pos hw, if_neg (show ¬ (1 : Int) = 0 by decide)]
        exact q
      by_cases e : v = w
      · exact ⟨-1, M, M, S, k0 _ _ (if_pos e), r0 _ _ _ hR (if_pos e), h'⟩
      · by_cases x0 : x < 1
        · exact ⟨-1, M, M, S, k0 _ _ (by rw [if_neg e, if_pos x0]), r0 _ _ _ hR (by rw [if_neg e, if_pos x0]), h'⟩
        · by_cases x1 : x ≤ 100
          · obtain ⟨r, S', M1, b1, b2, b3, b4, b5⟩ := k_pass37 (F := F) hC hv hw.1 x1 x.toNat er_fu 0 M S hS (by omega) (by omega) (by unfold er_fu; omega)
            have hR1 := m_RV hR hw.1 b4
            obtain ⟨M2, c1, c2, c3⟩ := r_pass37 hv hw.1 x1 x.toNat er_fu 0 M1 S S' r hR1 b1 (by omega) (by omega) (by unfold er_fu; omega)
            refine ⟨_, M1, M2, S', k0 _ _ (by rw [if_neg e, if_neg x0, if_pos x1]; exact b2), r0 _ _ _ hR1 (by rw [if_neg e, if_neg x0, if_pos x1]; exact c1), m_end hC b3 c2 c3 (fun u u0 u1 => ?_)⟩
            rw [b5]
            exact hF u u0 u1
          · exact ⟨-1, M, M, S, k0 _ _ (by rw [if_neg e, if_neg x0, if_neg x1]), r0 _ _ _ hR (by rw [if_neg e, if_neg x0, if_neg x1]), h'⟩
    · refine ⟨-1, M, M, S, ?_, ?_, h'⟩
      · unfold f_ER_pass
        rw [if_pos hC.1, k_isNode hC, Option.bind_some]
        dsimp only
        rw [if_pos hv, if_neg (show ¬ (1 : Int) = 0 by decide), k_well h', Option.bind_some]
        dsimp only
        rw [if_neg hw, if_pos rfl]
      · unfold f_Mo_pass
        rw [if_pos hR.1.2.1, r_isNode hR, Option.bind_some]
        dsimp only
        rw [if_pos hv, if_neg (show ¬ (1 : Int) = 0 by decide), r_well hR, Option.bind_some]
        dsimp only
        rw [if_neg hw, if_pos rfl]
  · refine ⟨-1, M, M, S, ?_, ?_, h'⟩
    · unfold f_ER_pass
      rw [if_pos hC.1, k_isNode hC, Option.bind_some]
      dsimp only
      rw [if_neg hv, if_pos rfl]
    · unfold f_Mo_pass
      rw [if_pos hR.1.2.1, r_isNode hR, Option.bind_some]
      dsimp only
      rw [if_neg hv, if_pos rfl]
theorem g_recv_01 (n F : Int) (S : er_Me) (w v k s p x : Int) : (g_recv n F S w v k s p x).1 = 0 ∨ (g_recv n F S w v k s p x).1 = 1 := by
  unfold g_recv
  repeat' split
  all_goals first | exact Or.inl rfl | exact Or.inr rfl
theorem st_hear {n F w v k s p x : Int} {T M S : er_Me} (h : er_St n F T M S) (hw : 0 ≤ w ∧ w < n) (hv : 0 ≤ v ∧ v < n) (hk : 0 ≤ k ∧ k < 3) (hs : 0 ≤ s ∧ s < 9) (hp : 0 ≤ p ∧ p < n) (hx : 0 ≤ x ∧ x < 4) : ∃ M', f_Node_hear (4 + 46 * w) v (1000 * s + 100 * p + 10 * k + x) T M = some ((g_recv n F S w v k s p x).1, M') ∧ er_St n F T M' (g_recv n F S w v k s p x).2 ∧ er_Fr (4 + 46 * w) M M' := by
  have h' := h
  obtain ⟨g1, g2, g3, g4⟩ := h
  have hn : n ≤ 7 := g1.2.2.2.2.2.2.2.1
  obtain ⟨hNR, hI⟩ := g3 w hw.1 hw.2
  have hN := g2 w hw.1 hw.2
  have hroom := si_room hI hs (show 0 ≤ p ∧ p < 7 by omega)
  have hac := hI.2.2.2.1 (7 * s + p) (by omega) (by omega)
  rw [← Int.add_assoc] at hac
  obtain ⟨M', m1, m2, m3⟩ := h_hear (T := T) (k := k) (s := s) (p := p) (x := x) (v := v) hN (by omega) g1 hNR hroom.1 hroom.2.1 (si_row hI) hac.1 hv hk hs hp hx
  have hkk := g_recv_k (n := n) (F := F) (w := w) (v := v) (k := k) (s := s) (p := p) (x := x) (S := S)
  refine ⟨M', m1, h'.step hw m2 (si_recv hI hs hp hn hx) m3 (sf_recv (er_Sf.rf w S) (by omega) (by omega) hk hs (by omega)) hkk.2 (fun u u0 u1 => ?_), m3⟩
  rw [hkk.1 4 (by omega)]
  have := g4 w u hw.1 hw.2 u0 u1
  omega
theorem m_forge {n F v w s p c : Int} {T M S : er_Me} (h : er_W n F T M S) : ∃ a M1 M2 S', f_ER_forge 1 v w s p c T M = some (a, M1) ∧ f_Mo_forge (4 + 46 * n) v w s p c T M1 = some (a, M2) ∧ er_W n F T M2 S' := by
  have h' := h
  obtain ⟨hC, hS, hR, hF⟩ := h
  have hn : n ≤ 7 := hR.2.1.2.2.2.1
  obtain ⟨a1, b1, c1⟩ := mo1 hR.1
  by_cases hv : 0 ≤ v ∧ v < n
  · obtain ⟨k1, k2, k3⟩ := k_nd hC hv
    have n1 := (hS.2.1 v hv.1 hv.2).2.1
    have h8 : M (4 + 46 * v) 8 = 1 - S 1 v := (hS.2.2.1 v hv.1 hv.2).1.1.2.1
    have hf := hF v hv.1 hv.2
    have hcv : T (4 + 46 * n + 1) (-2) = 102 ∧ 0 ≤ v ∧ v < 7 := ⟨b1, by omega, by omega⟩
    by_cases hi : S 1 v = 0
    · refine ⟨0, M, M, S, ?_, ?_, h'⟩
      · unfold f_ER_forge
        rw [if_pos hC.1, k_isNode hC, Option.bind_some]
        dsimp only
        rw [if_pos hv, if_neg (show ¬ (1 : Int) = 0 by decide), if_pos k3, if_pos k1, k2, if_pos n1]
        simp only [h8]
        rw [if_neg (show ¬ 1 - S 1 v = 0 by omega)]
      · unfold f_Mo_forge
        rw [if_pos hR.1.2.1, r_isNode hR, Option.bind_some]
        dsimp only
        rw [if_pos hv, if_neg (show ¬ (1 : Int) = 0 by decide), a1, c1, if_pos (show 0 < 4 + 46 * n + 1 by omega), if_pos hcv]
        simp only [hR.2.2 1 (by omega) (by omega)]
        rw [if_pos hi]
    · have k0 : f_ER_forge 1 v w s p c T M = (f_ER_isWellBehaved 1 w T M).bind fun q9 => if q9.1 = 0 then some (0, q9.2) else (f_ER_isSlot s T q9.2).bind fun q11 => if q11.1 = 0 then some (0, q11.2) else (f_ER_isNode 1 p T q11.2).bind fun q14 => if q14.1 = 0 then some (0, q14.2) else if c < 0 then some (0, q14.2) else if c < 12 then if 0 ≤ w ∧ w < T (T 1 0) (-1) ∧ 0 < T (T 1 0) w then (f_ER_codeOf (er_div c 4) s p (er_rem c 4) T q14.2).bind fun q22 => if T (T (T 1 0) w) (-2) = 3 then (f_Node_hear (T (T 1 0) w) v q22.1 T q22.2).bind fun q23 => (f_Node_settle (T (T 1 0) w) T q23.2).bind fun q26 => if q23.1 = 0 ∨ q23.1 = 1 then some (q23.1, q26) else none else none else none else some (0, q14.2) := by
        unfold f_ER_forge
        rw [if_pos hC.1, k_isNode hC, Option.bind_some]
        dsimp only
        rw [if_pos hv, if_neg (show ¬ (1 : Int) = 0 by decide), if_pos k3, if_pos k1, k2, if_pos n1]
        simp only [h8]
        rw [if_pos (show 1 - S 1 v = 0 by omega)]
      have r0 : ∀ M1, er_RV n F (4 + 46 * n) T M1 S → f_Mo_forge (4 + 46 * n) v w s p c T M1 = (f_Mo_well (4 + 46 * n) w T M1).bind fun q8 => if q8.1 = 0 then some (0, q8.2) else if s < 0 then some (0, q8.2) else if 8 < s then some (0, q8.2) else (f_Mo_isNode (4 + 46 * n) p T q8.2).bind fun q15 => if q15.1 = 0 then some (0, q15.2) else if c < 0 then some (0, q15.2) else if c ≤ 11 then (f_Mo_receive (4 + 46 * n) w v (er_div c 4) s p (er_rem c 4) T q15.2).bind fun q21 => (f_Mo_settle (4 + 46 * n) w T q21.2).bind fun q22 => if q21.1 = 0 ∨ q21.1 = 1 then some (q21.1, q22) else none else some (0, q15.2) := by
        intro M1 hr
        unfold f_Mo_forge
        rw [if_pos hR.1.2.1, r_isNode hr, Option.bind_some]
        dsimp only
        rw [if_pos hv, if_neg (show ¬ (1 : Int) = 0 by decide), a1, c1, if_pos (show 0 < 4 + 46 * n + 1 by omega), if_pos hcv]
        simp only [hr.2.2 1 (by omega) (by omega)]
        rw [if_neg hi]
      by_cases hw : (0 ≤ w ∧ w < n) ∧ S 1 w = 0
      · have k4 : f_ER_forge 1 v w s p c T M = (f_ER_isSlot s T M).bind fun q11 => if q11.1 = 0 then some (0, q11.2) else (f_ER_isNode 1 p T q11.2).bind fun q14 => if q14.1 = 0 then some (0, q14.2) else if c < 0 then some (0, q14.2) else if c < 12 then if 0 ≤ w ∧ w < T (T 1 0) (-1) ∧ 0 < T (T 1 0) w then (f_ER_codeOf (er_div c 4) s p (er_rem c 4) T q14.2).bind fun q22 => if T (T (T 1 0) w) (-2) = 3 then (f_Node_hear (T (T 1 0) w) v q22.1 T q22.2).bind fun q23 => (f_Node_settle (T (T 1 0) w) T q23.2).bind fun q26 => if q23.1 = 0 ∨ q23.1 = 1 then some (q23.1, q26) else none else none else none else some (0, q14.2) := by
          rw [k0, k_well h', Option.bind_some]
          dsimp only
          rw [if_pos hw, if_neg (show ¬ (1 : Int) = 0 by decide)]
        have r4 : ∀ M1, er_RV n F (4 + 46 * n) T M1 S → f_Mo_forge (4 + 46 * n) v w s p c T M1 = if s < 0 then some (0, M1) else if 8 < s then some (0, M1) else (f_Mo_isNode (4 + 46 * n) p T M1).bind fun q15 => if q15.1 = 0 then some (0, q15.2) else if c < 0 then some (0, q15.2) else if c ≤ 11 then (f_Mo_receive (4 + 46 * n) w v (er_div c 4) s p (er_rem c 4) T q15.2).bind fun q21 => (f_Mo_settle (4 + 46 * n) w T q21.2).bind fun q22 => if q21.1 = 0 ∨ q21.1 = 1 then some (q21.1, q22) else none else some (0, q15.2) := by
          intro M1 hr
          rw [r0 M1 hr, r_well hr, Option.bind_some]
          dsimp only
          rw [if_pos hw, if_neg (show ¬ (1 : Int) = 0 by decide)]
        clear k0 r0
        by_cases hs : 0 ≤ s ∧ s < 9
        · rw [p_isSlot, Option.bind_some] at k4
          dsimp only at k4
          rw [if_pos hs, if_neg (show ¬ (1 : Int) = 0 by decide), k_isNode hC, Option.bind_some] at k4
          dsimp only at k4
          by_cases hp : 0 ≤ p ∧ p < n
          · rw [if_pos hp, if_neg (show ¬ (1 : Int) = 0 by decide)] at k4
            have r5 : ∀ M1, er_RV n F (4 + 46 * n) T M1 S → f_Mo_forge (4 + 46 * n) v w s p c T M1 = if c < 0 then some (0, M1) else if c ≤ 11 then (f_Mo_receive (4 + 46 * n) w v (er_div c 4) s p (er_rem c 4) T M1).bind fun q21 => (f_Mo_settle (4 + 46 * n) w T q21.2).bind fun q22 => if q21.1 = 0 ∨ q21.1 = 1 then some (q21.1, q22) else none else some (0, M1) := by
              intro M1 hr
              rw [r4 M1 hr, if_neg (show ¬ s < 0 by omega), if_neg (show ¬ 8 < s by omega), r_isNode hr, Option.bind_some]
              dsimp only
              rw [if_pos hp, if_neg (show ¬ (1 : Int) = 0 by decide)]
            clear r4
            by_cases hc0 : c < 0
            · exact ⟨0, M, M, S, by rw [k4, if_pos hc0], by rw [r5 M hR, if_pos hc0], h'⟩
            · by_cases hc1 : c < 12
              · obtain ⟨j1, j2, -⟩ := k_nd hC hw.1
                have o1 := (hS.2.1 w hw.1.1 hw.1.2).2.1
                have i1 : er_div c 4 = c / 4 := er_divE (by omega) (by omega) (by omega) (by omega)
                have i2 : er_rem c 4 = c % 4 := er_remE (by omega) (by omega) (by omega) (by omega)
                obtain ⟨M1, d1, d2, d3⟩ := st_hear (v := v) (k := c / 4) (s := s) (p := p) (x := c % 4) hS hw.1 hv (by omega) hs hp (by omega)
                obtain ⟨m, S2, M2, p1, p2, p3, p4, p5, p6⟩ := c_settled hw.1 d2
                have hR2 := m_RV hR hw.1 (d3.tr p5)
                have hI := (hS.2.2.1 w hw.1.1 hw.1.2).2
                have hroom := si_room hI hs (show 0 ≤ p ∧ p < 7 by omega)
                have h5 := (hI.2.2.1 (7 * s + p) (by omega) (by omega)).1
                rw [← Int.add_assoc] at h5
                obtain ⟨M3, t1, t2, t3⟩ := r_receive (v := v) (k := c / 4) (s := s) (p := p) (x := c % 4) hR2 (w := w) (by omega) (by omega) (by omega) hs (by omega) (by omega) ⟨hroom.1, hroom.2.2.1⟩ h5
                obtain ⟨M4, u1, u2, u3⟩ := r_settle t2 hw.1 (d2.2.2.1 w hw.1.1 hw.1.2).2 (st_4 d2 hw.1) p2 p1
                have h01 := g_recv_01 n F S w v (c / 4) s p (c % 4)
                refine ⟨(g_recv n F S w v (c / 4) s p (c % 4)).1, M2, M4, S2, ?_, ?_, m_end hC p4 u2 (t3.tr u3) (fun y y0 y1 => ?_)⟩
                · rw [k4, if_neg hc0, if_pos hc1, if_pos j1.2, i1, i2, p_codeOf (by omega) hs (by omega) (by omega), Option.bind_some, j2, if_pos o1]
                  dsimp only
                  rw [d1, Option.bind_some]
                  dsimp only
                  rw [p3, Option.bind_some, if_pos h01]
                · rw [r5 M2 hR2, if_neg hc0, if_pos (show c ≤ 11 by omega), i1, i2, t1, Option.bind_some]
                  dsimp only
                  rw [u1, Option.bind_some, if_pos h01]
                · rw [ru_1 m _ _ p2, g_recv_k.1 1 (by omega)]
                  exact hF y y0 y1
              · exact ⟨0, M, M, S, by rw [k4, if_neg hc0, if_neg hc1], by rw [r5 M hR, if_neg hc0, if_neg (show ¬ c ≤ 11 by omega)], h'⟩
          · refine ⟨0, M, M, S, by rw [k4, if_neg hp, if_pos rfl], ?_, h'⟩
            rw [r4 M hR, if_neg (show ¬ s < 0 by omega), if_neg (show ¬ 8 < s by omega), r_isNode hR, Option.bind_some]
            dsimp only
            rw [if_neg hp, if_pos rfl]
        · refine ⟨0, M, M, S, ?_, ?_, h'⟩
          · rw [k4, p_isSlot, Option.bind_some]
            dsimp only
            rw [if_neg hs, if_pos rfl]
          · rw [r4 M hR]
            by_cases hs0 : s < 0
            · rw [if_pos hs0]
            · rw [if_neg hs0, if_pos (show 8 < s by omega)]
      · refine ⟨0, M, M, S, ?_, ?_, h'⟩
        · rw [k0, k_well h', Option.bind_some]
          dsimp only
          rw [if_neg hw, if_pos rfl]
        · rw [r0 M hR, r_well hR, Option.bind_some]
          dsimp only
          rw [if_neg hw, if_pos rfl]
  · refine ⟨0, M, M, S, ?_, ?_, h'⟩
    · unfold f_ER_forge
      rw [if_pos hC.1, k_isNode hC, Option.bind_some]
      dsimp only
      rw [if_neg hv, if_pos rfl]
    · unfold f_Mo_forge
      rw [if_pos hR.1.2.1, r_isNode hR, Option.bind_some]
      dsimp only
      rw [if_neg hv, if_pos rfl]
