/-! the reference: its arrays at R + 1 .. R + 16 -/
def er_Mo (T : er_Me) (R : Int) : Prop := 0 < R ∧ T R (-2) = 7 ∧ (T R 2 = R + 1 ∧ T (R + 1) (-2) = 102 ∧ T (R + 1) (-1) = 7) ∧ (T R 3 = R + 2 ∧ T (R + 2) (-2) = 101 ∧ T (R + 2) (-1) = 980) ∧ (T R 4 = R + 3 ∧ T (R + 3) (-2) = 101 ∧ T (R + 3) (-1) = 7) ∧ (T R 5 = R + 4 ∧ T (R + 4) (-2) = 101 ∧ T (R + 4) (-1) = 49) ∧ (T R 6 = R + 5 ∧ T (R + 5) (-2) = 102 ∧ T (R + 5) (-1) = 441) ∧ (T R 7 = R + 6 ∧ T (R + 6) (-2) = 102 ∧ T (R + 6) (-1) = 441) ∧ (T R 8 = R + 7 ∧ T (R + 7) (-2) = 101 ∧ T (R + 7) (-1) = 441) ∧ (T R 9 = R + 8 ∧ T (R + 8) (-2) = 102 ∧ T (R + 8) (-1) = 441) ∧ (T R 10 = R + 9 ∧ T (R + 9) (-2) = 101 ∧ T (R + 9) (-1) = 441) ∧ (T R 11 = R + 10 ∧ T (R + 10) (-2) = 101 ∧ T (R + 10) (-1) = 63) ∧ (T R 12 = R + 11 ∧ T (R + 11) (-2) = 101 ∧ T (R + 11) (-1) = 6174) ∧ (T R 13 = R + 12 ∧ T (R + 12) (-2) = 101 ∧ T (R + 12) (-1) = 7) ∧ (T R 14 = R + 13 ∧ T (R + 13) (-2) = 101 ∧ T (R + 13) (-1) = 7) ∧ (T R 15 = R + 14 ∧ T (R + 14) (-2) = 101 ∧ T (R + 14) (-1) = 7) ∧ (T R 16 = R + 15 ∧ T (R + 15) (-2) = 101 ∧ T (R + 15) (-1) = 7) ∧ (T R 17 = R + 16 ∧ T (R + 16) (-2) = 101 ∧ T (R + 16) (-1) = 4)
theorem mo1 {T : er_Me} {R : Int} (h : er_Mo T R) : T R 2 = R + 1 ∧ T (R + 1) (-2) = 102 ∧ T (R + 1) (-1) = 7 := h.2.2.1
theorem mo2 {T : er_Me} {R : Int} (h : er_Mo T R) : T R 3 = R + 2 ∧ T (R + 2) (-2) = 101 ∧ T (R + 2) (-1) = 980 := h.2.2.2.1
theorem mo3 {T : er_Me} {R : Int} (h : er_Mo T R) : T R 4 = R + 3 ∧ T (R + 3) (-2) = 101 ∧ T (R + 3) (-1) = 7 := h.2.2.2.2.1
theorem mo4 {T : er_Me} {R : Int} (h : er_Mo T R) : T R 5 = R + 4 ∧ T (R + 4) (-2) = 101 ∧ T (R + 4) (-1) = 49 := h.2.2.2.2.2.1
theorem mo5 {T : er_Me} {R : Int} (h : er_Mo T R) : T R 6 = R + 5 ∧ T (R + 5) (-2) = 102 ∧ T (R + 5) (-1) = 441 := h.2.2.2.2.2.2.1
theorem mo6 {T : er_Me} {R : Int} (h : er_Mo T R) : T R 7 = R + 6 ∧ T (R + 6) (-2) = 102 ∧ T (R + 6) (-1) = 441 := h.2.2.2.2.2.2.2.1
theorem mo7 {T : er_Me} {R : Int} (h : er_Mo T R) : T R 8 = R + 7 ∧ T (R + 7) (-2) = 101 ∧ T (R + 7) (-1) = 441 := h.2.2.2.2.2.2.2.2.1
theorem mo8 {T : er_Me} {R : Int} (h : er_Mo T R) : T R 9 = R + 8 ∧ T (R + 8) (-2) = 102 ∧ T (R + 8) (-1) = 441 := h.2.2.2.2.2.2.2.2.2.1
theorem mo9 {T : er_Me} {R : Int} (h : er_Mo T R) : T R 10 = R + 9 ∧ T (R + 9) (-2) = 101 ∧ T (R + 9) (-1) = 441 := h.2.2.2.2.2.2.2.2.2.2.1
theorem mo10 {T : er_Me} {R : Int} (h : er_Mo T R) : T R 11 = R + 10 ∧ T (R + 10) (-2) = 101 ∧ T (R + 10) (-1) = 63 := h.2.2.2.2.2.2.2.2.2.2.2.1
theorem mo11 {T : er_Me} {R : Int} (h : er_Mo T R) : T R 12 = R + 11 ∧ T (R + 11) (-2) = 101 ∧ T (R + 11) (-1) = 6174 := h.2.2.2.2.2.2.2.2.2.2.2.2.1
theorem mo12 {T : er_Me} {R : Int} (h : er_Mo T R) : T R 13 = R + 12 ∧ T (R + 12) (-2) = 101 ∧ T (R + 12) (-1) = 7 := h.2.2.2.2.2.2.2.2.2.2.2.2.2.1
theorem mo13 {T : er_Me} {R : Int} (h : er_Mo T R) : T R 14 = R + 13 ∧ T (R + 13) (-2) = 101 ∧ T (R + 13) (-1) = 7 := h.2.2.2.2.2.2.2.2.2.2.2.2.2.2.1
theorem mo14 {T : er_Me} {R : Int} (h : er_Mo T R) : T R 15 = R + 14 ∧ T (R + 14) (-2) = 101 ∧ T (R + 14) (-1) = 7 := h.2.2.2.2.2.2.2.2.2.2.2.2.2.2.2.1
theorem mo15 {T : er_Me} {R : Int} (h : er_Mo T R) : T R 16 = R + 15 ∧ T (R + 15) (-2) = 101 ∧ T (R + 15) (-1) = 7 := h.2.2.2.2.2.2.2.2.2.2.2.2.2.2.2.2.1
theorem mo16 {T : er_Me} {R : Int} (h : er_Mo T R) : T R 17 = R + 16 ∧ T (R + 16) (-2) = 101 ∧ T (R + 16) (-1) = 4 := h.2.2.2.2.2.2.2.2.2.2.2.2.2.2.2.2.2
def er_RV (n F R : Int) (T M S : er_Me) : Prop := er_Mo T R ∧ (M R 0 = n ∧ M R 1 = F ∧ 4 ≤ n ∧ n ≤ 7 ∧ F = (n - 1) / 3) ∧ ∀ j, 1 ≤ j → j ≤ 15 → M (R + j) = S j
def er_Fm (R : Int) (M M' : er_Me) : Prop := ∀ a, a ≤ R ∨ R + 17 ≤ a → M' a = M a
theorem er_Fm.rf (R : Int) (M : er_Me) : er_Fm R M M := fun _ _ => rfl
theorem er_Fm.tr {R : Int} {M M1 M2 : er_Me} (h : er_Fm R M M1) (g : er_Fm R M1 M2) : er_Fm R M M2 := fun a ha => (g a ha).trans (h a ha)
theorem er_Fm.up {R : Int} {M M1 : er_Me} {j i v : Int} (h : er_Fm R M M1) (h1 : 1 ≤ j) (h2 : j ≤ 16) : er_Fm R M (er_up M1 (R + j) i v) := fun b hb => (er_upF (by omega)).trans (h b hb)
theorem er_RV.up {n F R : Int} {T M S : er_Me} {j i v : Int} (h : er_RV n F R T M S) (h1 : 1 ≤ j) (h2 : j ≤ 15) : er_RV n F R T (er_up M (R + j) i v) (er_up S j i v) := by
  obtain ⟨g1, g2, g3⟩ := h
  refine ⟨g1, by rw [er_upF (by omega)]; exact g2, fun k k0 k1 => ?_⟩
  by_cases e : k = j
  · rw [e, er_upR, er_upR, g3 j h1 h2]
  · rw [er_upF (by omega), er_upF e]
    exact g3 k k0 k1
theorem er_RV.sc {n F R : Int} {T M S : er_Me} {i v : Int} (h : er_RV n F R T M S) : er_RV n F R T (er_up M (R + 16) i v) S := by
  obtain ⟨g1, g2, g3⟩ := h
  refine ⟨g1, by rw [er_upF (by omega)]; exact g2, fun k k0 k1 => ?_⟩
  rw [er_upF (by omega)]
  exact g3 k k0 k1
theorem r_isNode {n F R v : Int} {T M S : er_Me} (h : er_RV n F R T M S) : f_Mo_isNode R v T M = some (if 0 ≤ v ∧ v < n then 1 else 0, M) := by
  obtain ⟨g1, ⟨g2, -⟩, -⟩ := h
  unfold f_Mo_isNode
  by_cases h0 : v < 0
  · rw [if_pos h0, if_neg (by omega)]
  · rw [if_neg h0, if_pos g1.2.1, g2]
    by_cases h1 : n ≤ v
    · rw [if_pos h1, if_neg (by omega)]
    · rw [if_neg h1, if_pos (by omega)]
theorem r_at {T M : er_Me} {w s p : Int} (hw : 0 ≤ w ∧ w < 7) (hs : 0 ≤ s ∧ s < 9) (hp : 0 ≤ p ∧ p < 7) : f_Mo_at w s p T M = some (63 * w + 7 * s + p, M) := by
  unfold f_Mo_at
  simp (disch := (constructor <;> omega)) only [er_mulE, er_addE]
theorem r_send {n F R w k s p x : Int} {T M S : er_Me} (h : er_RV n F R T M S) (hw : 0 ≤ w ∧ w < 7) (hz : 0 ≤ S 3 w ∧ S 3 w < 140) (hk : 0 ≤ k ∧ k < 3) (hs : 0 ≤ s ∧ s < 9) (hp : 0 ≤ p ∧ p < 7) (hx : 0 ≤ x ∧ x < 4) : ∃ M', f_Mo_send R w k s p x T M = some M' ∧ er_RV n F R T M' (if k = 2 then g_sendR S w s p x else g_send S w k s p x) ∧ er_Fm R M M' := by
  have h' := h
  obtain ⟨g1, g2, g3⟩ := h
  have ha := g1.1
  have m0 := g1.2.1
  obtain ⟨a2, b2, c2⟩ := mo2 g1
  obtain ⟨a3, b3, c3⟩ := mo3 g1
  obtain ⟨a6, b6, c6⟩ := mo6 g1
  clear g1
  have e3 := g3 3 (by omega) (by omega)
  have i1 : er_add (er_mul 140 w) (S 3 w) = 140 * w + S 3 w := by rw [er_mulE (by constructor <;> omega), er_addE (by constructor <;> omega)]
  have i2 : er_add (er_add (er_add (er_mul 1000 s) (er_mul 100 p)) (er_mul 10 k)) x = 1000 * s + 100 * p + 10 * k + x := by simp (disch := (constructor <;> omega)) only [er_mulE, er_addE]
  have hrv : er_RV n F R T (er_up (er_up M (R + 2) (140 * w + S 3 w) (1000 * s + 100 * p + 10 * k + x)) (R + 3) w (S 3 w + 1)) (g_send S w k s p x) := (h'.up (by omega) (by omega)).up (by omega) (by omega)
  have hfm : er_Fm R M (er_up (er_up M (R + 2) (140 * w + S 3 w) (1000 * s + 100 * p + 10 * k + x)) (R + 3) w (S 3 w + 1)) := ((er_Fm.rf R M).up (by omega) (by omega)).up (by omega) (by omega)
  unfold f_Mo_send
  dsimp only [er_le]
  rw [a2, a3, a6, c2, c3, if_pos ⟨m0, by omega⟩, if_pos (by omega), if_pos ⟨b3, by omega, by omega⟩, e3, i1, i2, if_pos ⟨b2, by omega, by omega⟩, er_upF (show R + 3 ≠ R + 2 by omega), e3, er_addE (by constructor <;> omega)]
  by_cases hk2 : k = 2
  · subst hk2
    rw [if_pos rfl, if_pos rfl, if_pos (by omega), r_at hw hs hp, Option.bind_some]
    dsimp only
    rw [if_pos ⟨b6, by omega, by omega⟩]
    exact ⟨_, rfl, hrv.up (by omega) (by omega), hfm.up (by omega) (by omega)⟩
  · rw [if_neg hk2, if_neg hk2]
    exact ⟨_, rfl, hrv, hfm⟩
theorem er_hE {w v k s p : Int} (hw : 0 ≤ w ∧ w < 7) (hv : 0 ≤ v ∧ v < 7) (hk : 1 ≤ k ∧ k < 3) (hs : 0 ≤ s ∧ s < 9) (hp : 0 ≤ p ∧ p < 7) : er_add (er_add (er_add (er_mul 126 (er_add (er_mul 7 w) v)) (er_mul 63 (er_sub k 1))) (er_mul 7 s)) p = er_h w v k s p ∧ 0 ≤ er_h w v k s p ∧ er_h w v k s p < 6174 := by
  refine ⟨?_, by unfold er_h; omega, by unfold er_h; omega⟩
  rw [er_mulE (x := 7) (y := w) (by constructor <;> omega), er_addE (x := 7 * w) (by constructor <;> omega), er_mulE (x := 126) (by constructor <;> omega), er_subE (by constructor <;> omega), er_mulE (x := 63) (by constructor <;> omega), er_mulE (x := 7) (y := s) (by constructor <;> omega), er_addE (x := 126 * (7 * w + v)) (by constructor <;> omega), er_addE (y := 7 * s) (by constructor <;> omega), er_addE (by constructor <;> omega)]
theorem r_count {n F R w k s p x : Int} {T M S : er_Me} (h : er_RV n F R T M S) (hw : 0 ≤ w ∧ w < 7) (hk : 1 ≤ k ∧ k < 3) (hs : 0 ≤ s ∧ s < 9) (hp : 0 ≤ p ∧ p < 7) (hx : 0 ≤ x ∧ x < 4) : ∀ (m v : Nat), (v : Int) ≤ n → n - v < m → f_Mo_count_6 m T R w k s p x (er_sm (fun u => if S 11 (er_h w (u : Int) k s p) = x + 1 then 1 else 0) v : Nat) (v : Int) M = some ((er_vt n w k s p x (S 11) : Int), M)
  | 0, v, h0, h1 => by
    exfalso
    omega
  | m + 1, v, h0, h1 => by
    have ih := r_count h hw hk hs hp hx m
    obtain ⟨g1, ⟨g2, g2b, q1, q2, q3⟩, g3⟩ := h
    have ha := g1.1
    have m0 := g1.2.1
    obtain ⟨a11, b11, c11⟩ := mo11 g1
    clear g1
    have e11 := g3 11 (by omega) (by omega)
    have hle := er_sm_le (fun u : Nat => if S 11 (er_h w (u : Int) k s p) = x + 1 then 1 else 0) v (fun u _ => by by_cases q : S 11 (er_h w (u : Int) k s p) = x + 1 <;> simp [q])
    show f_Mo_count_6_b (f_Mo_count_6 m T) R w k s p x _ (v : Int) T M = _
    unfold f_Mo_count_6_b
    dsimp only [er_le]
    rw [if_pos m0, g2]
    by_cases hv : n ≤ (v : Int)
    · rw [if_pos hv]
      unfold er_vt
      rw [show n.toNat = v by omega]
    · obtain ⟨hE, hE1, hE2⟩ := er_hE hw (show 0 ≤ (v : Int) ∧ (v : Int) < 7 by omega) hk hs hp
      rw [if_neg hv, a11, c11, hE, if_pos (show 0 < R + 11 by omega), if_pos ⟨b11, hE1, hE2⟩, e11, er_addE (x := x) (by constructor <;> omega), er_addE (x := (v : Int)) (by constructor <;> omega), er_addE (by constructor <;> omega)]
      have hi := ih (v + 1) (by omega) (by omega)
      rw [er_sm] at hi
      have ev : ((v + 1 : Nat) : Int) = (v : Int) + 1 := by omega
      rw [ev] at hi
      by_cases q : S 11 (er_h w (v : Int) k s p) = x + 1
      · rw [if_pos q] at hi ⊢
        exact hi
      · rw [if_neg q] at hi ⊢
        exact hi
theorem r_count' {n F R w k s p x : Int} {T M S : er_Me} (h : er_RV n F R T M S) (hw : 0 ≤ w ∧ w < 7) (hk : 1 ≤ k ∧ k < 3) (hs : 0 ≤ s ∧ s < 9) (hp : 0 ≤ p ∧ p < 7) (hx : 0 ≤ x ∧ x < 4) : f_Mo_count R w k s p x T M = some ((er_vt n w k s p x (S 11) : Int), M) := by
  have hn := h.2.1
  exact r_count h hw hk hs hp hx er_fu 0 (by omega) (by unfold er_fu; omega)
