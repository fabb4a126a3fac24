/-! the maker of a Node -/
theorem er_leq {α β : Type} (x : α) (k : α → Option β) : er_le x k = k x := rfl
def er_N0 (T : er_Me) (A : Int) : Prop := 0 < A ∧ T A (-2) = 3 ∧ T A 1 = 2 ∧ T A 2 = A + 1 ∧ T A 3 = A + 3 ∧ T A 4 = A + 6 ∧ T A 5 = A + 7 ∧ T A 6 = A + 8 ∧ T A 7 = A + 9 ∧ (T (A + 1) (-2) = 4 ∧ T (A + 1) 0 = A + 2 ∧ T (A + 2) (-2) = 101 ∧ T (A + 2) (-1) = 135) ∧ (T (A + 3) (-2) = 5 ∧ T (A + 3) 0 = A + 4 ∧ T (A + 3) 1 = A + 5 ∧ T (A + 4) (-2) = 101 ∧ T (A + 4) (-1) = 189 ∧ T (A + 5) (-2) = 101 ∧ T (A + 5) (-1) = 756) ∧ (T (A + 6) (-2) = 101 ∧ T (A + 6) (-1) = 7) ∧ (T (A + 7) (-2) = 102 ∧ T (A + 7) (-1) = 63) ∧ (T (A + 8) (-2) = 101 ∧ T (A + 8) (-1) = 63) ∧ (T (A + 9) (-2) = 104 ∧ T (A + 9) (-1) = 9)
theorem n0_F {T T' : er_Me} {A : Int} (h : er_N0 T A) (hF : ∀ b, A ≤ b → b ≤ A + 8 → T' b = T b) (h1 : T' (A + 9) (-2) = T (A + 9) (-2)) (h2 : T' (A + 9) (-1) = T (A + 9) (-1)) : er_N0 T' A := by
  unfold er_N0 at h ⊢
  rw [h1, h2, hF A (by omega) (by omega), hF (A + 1) (by omega) (by omega), hF (A + 2) (by omega) (by omega), hF (A + 3) (by omega) (by omega), hF (A + 4) (by omega) (by omega), hF (A + 5) (by omega) (by omega), hF (A + 6) (by omega) (by omega), hF (A + 7) (by omega) (by omega), hF (A + 8) (by omega) (by omega)]
  exact h
theorem n0_Nd {T : er_Me} {A : Int} (h : er_N0 T A) (hr : ∀ s : Int, 0 ≤ s → s < 9 → T (A + 9) s = A + 10 + 4 * s ∧ er_Rw T (A + 10 + 4 * s)) : er_Nd T A := by
  obtain ⟨ha, n1, n2, n3, n4, n5, n6, n7, n8, a1, a2, a3, a4, a5, a6⟩ := h
  exact ⟨ha, n1, n2, n3, n4, n5, n6, n7, n8, a1, a2, a3, a4, a5, a6, hr⟩
theorem rw_F {T T' : er_Me} {a : Int} (h : er_Rw T a) (hF : ∀ b, a ≤ b → b ≤ a + 3 → T' b = T b) : er_Rw T' a := by
  unfold er_Rw at h ⊢
  rw [hF a (by omega) (by omega), hF (a + 1) (by omega) (by omega), hF (a + 2) (by omega) (by omega), hF (a + 3) (by omega) (by omega)]
  exact h
theorem nd_F {T T' : er_Me} {A : Int} (h : er_Nd T A) (hF : ∀ b, A ≤ b → b ≤ A + 45 → T' b = T b) : er_Nd T' A := by
  obtain ⟨ha, n1, n2, n3, n4, n5, n6, n7, n8, a1, a2, a3, a4, a5, a6, hr⟩ := h
  refine n0_Nd (n0_F ⟨ha, n1, n2, n3, n4, n5, n6, n7, n8, a1, a2, a3, a4, a5, a6⟩ (fun b b0 b1 => hF b b0 (by omega)) (by rw [hF (A + 9) (by omega) (by omega)]) (by rw [hF (A + 9) (by omega) (by omega)])) (fun s s0 s1 => ?_)
  obtain ⟨r1, r2⟩ := hr s s0 s1
  rw [hF (A + 9) (by omega) (by omega)]
  exact ⟨r1, rw_F r2 (fun b b0 b1 => hF b (by omega) (by omega))⟩
def er_nA (M : er_Me) (A v : Int) : Prop := M A 0 = v ∧ M A 8 = 1 ∧ M A 9 = 0 ∧ M A 10 = -1 ∧ M A 11 = -1 ∧ M A 12 = -1
def er_NM (M : er_Me) (A v : Int) : Prop := er_nA M A v ∧ (∀ c, 0 ≤ c → c < 63 → M (A + 8) c = -1) ∧ ∀ b i, A < b → b < A + 46 → b ≠ A + 8 → M b i = 0
def er_PNo (T M : er_Me) (A v : Int) (o : Option (er_Me × er_Me)) : Prop := ∃ T' M', o = some (T', M') ∧ T' 0 0 = A + 45 ∧ (∀ b, b ≠ 0 → b < A → T' b = T b) ∧ er_Nd T' A ∧ (∀ b, b < A → M' b = M b) ∧ er_NM M' A v
theorem i_117 {A v : Int} {T0 M0 : er_Me} : ∀ (m : Nat) (s : Int) (T M : er_Me), 0 ≤ s → s ≤ 9 → 9 - s < m → T 0 0 = A + 9 + 4 * s → er_N0 T A → (∀ s', 0 ≤ s' → s' < s → T (A + 9) s' = A + 10 + 4 * s' ∧ er_Rw T (A + 10 + 4 * s')) → (∀ b, b ≠ 0 → b < A → T b = T0 b) → (∀ b, b < A → M b = M0 b) → er_nA M A v → (∀ c, 0 ≤ c → c < 63 → M (A + 8) c = -1) → (∀ b i, A < b → b < A + 10 + 4 * s → b ≠ A + 8 → M b i = 0) → er_PNo T0 M0 A v (f_Node_init_117 m A v 2 s T M)
  | 0, s, T, M, h0, h1, h2, _, _, _, _, _, _, _, _ => by
    exfalso
    omega
  | m + 1, s, T, M, h0, h1, h2, hT, hN, hr, hF, hM, hA, h8, hz => by
    show er_PNo T0 M0 A v (f_Node_init_117_b (f_Node_init_117 m) A v 2 s T M)
    unfold f_Node_init_117_b
    have ha := hN.1
    rw [if_pos (show 0 ≤ s ∧ s ≤ 9 from ⟨h0, h1⟩)]
    by_cases h9 : 9 ≤ s
    · rw [if_pos h9]
      have e9 : s = 9 := by omega
      rw [e9] at hT hr hz
      exact ⟨T, M, rfl, by omega, hF, n0_Nd hN hr, hM, hA, h8, fun b i b0 b1 b2 => hz b i b0 (by omega) b2⟩
    · have n1 := hN.2.1
      have n8 : T A 7 = A + 9 := hN.2.2.2.2.2.2.2.2.1
      have o1 : T (A + 9) (-2) = 104 ∧ T (A + 9) (-1) = 9 := hN.2.2.2.2.2.2.2.2.2.2.2.2.2.2
      have e1 : T 0 0 + 1 = A + 10 + 4 * s := by omega
      dsimp only [er_le]
      rw [if_neg h9, n8, e1, nw_nx T 6 0 e1, if_pos ⟨n1, by omega⟩]
      obtain ⟨T4, M4, r1, r2, r3, r4, r5, r6⟩ := i_Row (T := er_nx T (A + 10 + 4 * s) 6 0) (M := er_mw M (A + 10 + 4 * s)) (a := A + 10 + 4 * s) (by omega) (nx_0 (by omega)) nx_k (fun i => mw_S)
      have f9 : T4 (A + 9) = T (A + 9) := by rw [r3 (A + 9) (by omega) (by omega), nx_F (by omega) (by omega)]
      rw [r1, Option.bind_some]
      dsimp only
      rw [if_pos (show T4 (A + 9) (-2) = 104 ∧ T4 (A + 10 + 4 * s) (-2) = 6 ∧ 0 ≤ s ∧ s < T4 (A + 9) (-1) from by rw [f9]; exact ⟨o1.1, r4.2.1, h0, by omega⟩), er_addE (by constructor <;> omega)]
      have fT : ∀ b, b ≠ 0 → b < A + 10 + 4 * s → b ≠ A + 9 → er_up T4 (A + 9) s (A + 10 + 4 * s) b = T b := fun b b0 b1 b2 => by
        rw [er_upF b2, r3 b b0 b1, nx_F (by omega) b0]
      have fM : ∀ b, b < A + 10 + 4 * s → M4 b = M b := fun b b0 => by
        rw [r5 b b0, mw_F (by omega)]
      refine i_117 m (s + 1) _ _ (by omega) (by omega) (by omega) ?_ ?_ ?_ ?_ ?_ ?_ ?_ ?_
      · rw [er_upF (by omega), r2]
        omega
      · refine n0_F hN (fun b b0 b1 => fT b (by omega) (by omega) (by omega)) ?_ ?_
        · rw [er_upR, er_f1N (by omega), f9]
        · rw [er_upR, er_f1N (by omega), f9]
      · intro s' s0 s1
        by_cases e : s' = s
        · rw [e, er_upR, er_f1S]
          refine ⟨rfl, rw_F r4 (fun b b0 b1 => er_upF (by omega))⟩
        · rw [er_upR, er_f1N e, f9]
          obtain ⟨q1, q2⟩ := hr s' s0 (by omega)
          exact ⟨q1, rw_F q2 (fun b b0 b1 => fT b (by omega) (by omega) (by omega))⟩
      · intro b b0 b1
        rw [fT b b0 (by omega) (by omega)]
        exact hF b b0 b1
      · intro b b0
        rw [fM b (by omega)]
        exact hM b b0
      · unfold er_nA at hA ⊢
        rw [fM A (by omega)]
        exact hA
      · intro c c0 c1
        rw [fM (A + 8) (by omega)]
        exact h8 c c0 c1
      · intro b i b0 b1 b2
        by_cases e : b < A + 10 + 4 * s
        · rw [fM b e]
          exact hz b i b0 e b2
        · exact r6 b i (by omega) (by omega)
theorem i_96 {A v : Int} {T0 M0 T : er_Me} (hT : T 0 0 = A + 9) (hN : er_N0 T A) (hF : ∀ b, b ≠ 0 → b < A → T b = T0 b) : ∀ (m : Nat) (c : Int) (M : er_Me), 0 ≤ c → c ≤ 63 → 63 - c < m → (∀ b, b < A → M b = M0 b) → er_nA M A v → (∀ c', 0 ≤ c' → c' < c → M (A + 8) c' = -1) → (∀ b i, A < b → b < A + 10 → b ≠ A + 8 → M b i = 0) → er_PNo T0 M0 A v (f_Node_init_96 m A v 2 c T M)
  | 0, c, M, h0, h1, h2, _, _, _, _ => by
    exfalso
    omega
  | m + 1, c, M, h0, h1, h2, hM, hA, h8, hz => by
    show er_PNo T0 M0 A v (f_Node_init_96_b (f_Node_init_96 m) A v 2 c T M)
    unfold f_Node_init_96_b
    dsimp only [er_le]
    have ha := hN.1
    by_cases h9 : 63 ≤ c
    · rw [if_pos h9]
      exact i_117 er_fu 0 T M (by omega) (by omega) (by unfold er_fu; omega) (by omega) hN (fun s' a b => by omega) hF hM hA (fun c' c0 c1 => h8 c' c0 (by omega)) (fun b i b0 b1 b2 => hz b i b0 (by omega) b2)
    · have n1 := hN.2.1
      have n7 : T A 6 = A + 8 := hN.2.2.2.2.2.2.2.1
      have o1 : T (A + 8) (-2) = 101 ∧ T (A + 8) (-1) = 63 := hN.2.2.2.2.2.2.2.2.2.2.2.2.2.1
      rw [if_neg h9, n7, o1.2, if_pos ⟨n1, by omega⟩, if_pos ⟨o1.1, h0, by omega⟩, er_addE (by constructor <;> omega)]
      refine i_96 hT hN hF m (c + 1) _ (by omega) (by omega) (by omega) ?_ ?_ ?_ ?_
      · intro b b0
        rw [er_upF (by omega)]
        exact hM b b0
      · unfold er_nA at hA ⊢
        rw [er_upF (by omega)]
        exact hA
      · intro c' c0 c1
        rw [er_upR]
        by_cases e : c' = c
        · rw [e, er_f1S]
        · rw [er_f1N e]
          exact h8 c' c0 (by omega)
      · intro b i b0 b1 b2
        rw [er_upF b2]
        exact hz b i b0 b1 b2
set_option maxHeartbeats 1000000 in
theorem i_Node {A v : Int} {T M : er_Me} (ha : 0 < A) (h0 : T 0 0 = A) (hk : T A (-2) = 3) (hM : ∀ i, M A i = 0) : er_PNo T M A v (f_Node_init A v 2 T M) := by
  have e1 : T 0 0 + 1 = A + 1 := by omega
  unfold f_Node_init
  rw [er_leq, er_leq, er_leq, e1, nw_nx T 4 0 e1]
  obtain ⟨T3, M3, r1, r2, r3, r4, r5, r6⟩ := i_Log (T := er_nx T (A + 1) 4 0) (M := er_mw M (A + 1)) (a := A + 1) (by omega) (nx_0 (by omega)) nx_k (fun i => mw_S)
  rw [r1, Option.bind_some]
  have t3A : T3 A = T A := by rw [r3 A (by omega) (by omega), nx_F (by omega) (by omega)]
  have t3F : ∀ b, b ≠ 0 → b < A → T3 b = T b := fun b b0 b1 => by rw [r3 b b0 (by omega), nx_F (by omega) b0]
  have m3A : M3 A = M A := by rw [r5 A (by omega), mw_F (by omega)]
  have m3F : ∀ b, b < A → M3 b = M b := fun b b0 => by rw [r5 b (by omega), mw_F (by omega)]
  clear r1 r3 r5
  dsimp only
  rw [if_pos (show T3 A (-2) = 3 ∧ 0 < A + 1 from ⟨by rw [t3A]; exact hk, by omega⟩), er_leq, er_leq, er_leq, er_leq]
  have e2 : er_up T3 A 2 (A + 1) 0 0 + 1 = A + 3 := by rw [er_upF (by omega), r2]; omega
  rw [e2, nw_nx _ 5 0 e2]
  obtain ⟨T6, M6, s1, s2, s3, s4, s5, s6⟩ := i_Tally (T := er_nx (er_up T3 A 2 (A + 1)) (A + 3) 5 0) (M := er_mw M3 (A + 3)) (a := A + 3) (by omega) (nx_0 (by omega)) nx_k (fun i => mw_S)
  rw [s1, Option.bind_some]
  have t6A : T6 A = er_f1 (T A) 2 (A + 1) := by rw [s3 A (by omega) (by omega), nx_F (by omega) (by omega), er_upR, t3A]
  have t6F : ∀ b, b ≠ 0 → b < A → T6 b = T b := fun b b0 b1 => by rw [s3 b b0 (by omega), nx_F (by omega) b0, er_upF (by omega), t3F b b0 b1]
  have t61 : T6 (A + 1) = T3 (A + 1) := by rw [s3 (A + 1) (by omega) (by omega), nx_F (by omega) (by omega), er_upF (by omega)]
  have t62 : T6 (A + 2) = T3 (A + 2) := by rw [s3 (A + 2) (by omega) (by omega), nx_F (by omega) (by omega), er_upF (by omega)]
  have m6A : M6 A = M A := by rw [s5 A (by omega), mw_F (by omega), m3A]
  have m6F : ∀ b, b < A → M6 b = M b := fun b b0 => by rw [s5 b (by omega), mw_F (by omega), m3F b b0]
  have m6z : ∀ b i, A < b → b < A + 6 → M6 b i = 0 := fun b i b0 b1 => by
    by_cases e : b < A + 3
    · rw [s5 b e, mw_F (by omega)]
      exact r6 b i (by omega) (by omega)
    · exact s6 b i (by omega) (by omega)
  rw [show A + 1 + 1 = A + 2 by omega, ← t61, ← t62] at r4
  rw [show A + 3 + 1 = A + 4 by omega, show A + 3 + 2 = A + 5 by omega] at s4
  clear s1 s3 s5 t3A t3F m3A m3F r6 e2 r2 t61 t62 s6
  dsimp only
  have k6 : T6 A (-2) = 3 := by rw [t6A, er_f1N (by decide)]; exact hk
  rw [if_pos (show T6 A (-2) = 3 ∧ 0 < A + 3 from ⟨k6, by omega⟩), er_leq]
  have d0 : er_up T6 A 3 (A + 3) 0 0 + 1 = A + 6 := by rw [er_upF (by omega), s2]; omega
  refine al_step (Q := er_PNo T M A v) (N := A + 6) (a := A) ha (by omega) d0 ?_ ?_
  · rw [er_upR, er_f1N (by decide)]; exact k6
  refine al_step (Q := er_PNo T M A v) (N := A + 7) (a := A) ha (by omega) ?_ ?_ ?_
  · rw [er_upF (by omega), nx_0 (by omega)]; omega
  · simp (disch := omega) only [nx_F, er_upR, er_f1N]; exact k6
  refine al_step (Q := er_PNo T M A v) (N := A + 8) (a := A) ha (by omega) ?_ ?_ ?_
  · rw [er_upF (by omega), nx_0 (by omega)]; omega
  · simp (disch := omega) only [nx_F, er_upR, er_f1N]; exact k6
  refine al_step (Q := er_PNo T M A v) (N := A + 9) (a := A) ha (by omega) ?_ ?_ ?_
  · rw [er_upF (by omega), nx_0 (by omega)]; omega
  · simp (disch := omega) only [nx_F, er_upR, er_f1N]; exact k6
  rw [if_pos (by simp (disch := omega) only [nx_F, er_upR, er_f1N]; exact k6)]
  dsimp only [er_le]
  rw [if_pos (show (0 : Int) < 2 by decide)]
  refine i_96 ?_ ?_ ?_ er_fu 0 _ (by omega) (by omega) (by unfold er_fu; omega) ?_ ?_ (fun c' a b => by omega) ?_
  · rw [er_upF (by omega), er_upF (by omega), nx_0 (by omega)]
  · obtain ⟨u1, u2, u3, u4⟩ := r4
    obtain ⟨v1, v2, v3, v4, v5, v6, v7⟩ := s4
    refine ⟨ha, ?_, ?_, ?_, ?_, ?_, ?_, ?_, ?_, ⟨?_, ?_, ?_, ?_⟩, ⟨?_, ?_, ?_, ?_, ?_, ?_, ?_⟩, ⟨?_, ?_⟩, ⟨?_, ?_⟩, ⟨?_, ?_⟩, ⟨?_, ?_⟩⟩
    · simp (disch := omega) only [nx_F, er_upR, er_f1N]; exact k6
    · simp (disch := omega) only [nx_F, er_upR, er_f1N, er_f1S]
    · simp (disch := omega) only [nx_F, er_upR, er_f1N, er_f1S, t6A]
    · simp (disch := omega) only [nx_F, er_upR, er_f1N, er_f1S]
    · simp (disch := omega) only [nx_F, er_upR, er_f1N, er_f1S]
    · simp (disch := omega) only [nx_F, er_upR, er_f1N, er_f1S]
    · simp (disch := omega) only [nx_F, er_upR, er_f1N, er_f1S]
    · simp (disch := omega) only [nx_F, er_upR, er_f1N, er_f1S]
    · simp (disch := omega) only [nx_F, er_upF]; exact u1
    · simp (disch := omega) only [nx_F, er_upF]; exact u2
    · simp (disch := omega) only [nx_F, er_upF]; exact u3
    · simp (disch := omega) only [nx_F, er_upF]; exact u4
    · simp (disch := omega) only [nx_F, er_upF]; exact v1
    · simp (disch := omega) only [nx_F, er_upF]; exact v2
    · simp (disch := omega) only [nx_F, er_upF]; exact v3
    · simp (disch := omega) only [nx_F, er_upF]; exact v4
    · simp (disch := omega) only [nx_F, er_upF]; exact v5
    · simp (disch := omega) only [nx_F, er_upF]; exact v6
    · simp (disch := omega) only [nx_F, er_upF]; exact v7
    · simp (disch := omega) only [nx_F, er_upF, nx_k]
    · simp (disch := omega) only [nx_F, er_upF, nx_l]
    · simp (disch := omega) only [nx_F, er_upF, nx_k]
    · simp (disch := omega) only [nx_F, er_upF, nx_l]
    · simp (disch := omega) only [nx_F, er_upF, nx_k]
    · simp (disch := omega) only [nx_F, er_upF, nx_l]
    · simp (disch := omega) only [nx_F, er_upF, nx_k]
    · simp (disch := omega) only [nx_F, er_upF, nx_l]
  · intro b b0 b1
    simp (disch := omega) only [nx_F, er_upF]
    exact t6F b b0 b1
  · intro b b0
    simp (disch := omega) only [mw_F, er_upF]
    exact m6F b b0
  · unfold er_nA
    refine ⟨?_, ?_, ?_, ?_, ?_, ?_⟩ <;> simp (disch := omega) only [er_upR, er_f1N, er_f1S]
  · intro b i b0 b1 b2
    simp (disch := omega) only [er_upF]
    by_cases e9 : b = A + 9
    · rw [e9, mw_S]
    · rw [mw_F e9, mw_F b2]
      by_cases e7 : b = A + 7
      · rw [e7, mw_S]
      · rw [mw_F e7]
        by_cases e6 : b = A + 6
        · rw [e6, mw_S]
        · rw [mw_F e6]
          exact m6z b i b0 (by omega)
