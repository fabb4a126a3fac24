/-! the makers of the class and of the reference -/
theorem nm_F {M M' : er_Me} {A v : Int} (h : er_NM M A v) (hF : ∀ b, A ≤ b → b < A + 46 → M' b = M b) : er_NM M' A v := by
  obtain ⟨h1, h2, h3⟩ := h
  refine ⟨?_, fun c c0 c1 => ?_, fun b i b0 b1 b2 => ?_⟩
  · unfold er_nA at h1 ⊢
    rw [hF A (by omega) (by omega)]
    exact h1
  · rw [hF (A + 8) (by omega) (by omega)]
    exact h2 c c0 c1
  · rw [hF b (by omega) b1]
    exact h3 b i b0 b1 b2
def er_PE (n F : Int) (o : Option (er_Me × er_Me)) : Prop := ∃ T' M', o = some (T', M') ∧ T' 0 0 = 3 + 46 * n ∧ er_Ca n T' ∧ er_Rl T' M' 2 n F ∧ ∀ v, 0 ≤ v → v < n → er_Nd T' (4 + 46 * v) ∧ er_NM M' (4 + 46 * v) v
theorem i_35 {n F p : Int} (hn : 4 ≤ n ∧ n ≤ 7) : ∀ (m : Nat) (k : Int) (T M : er_Me), 0 ≤ k → k ≤ n → n - k < m → T 0 0 = 3 + 46 * k → T 1 (-2) = 1 → T 1 0 = 3 → T 3 (-2) = 103 → T 3 (-1) = n → (∀ v, 0 ≤ v → v < k → T 3 v = 4 + 46 * v) → er_Rl T M 2 n F → (∀ v, 0 ≤ v → v < k → er_Nd T (4 + 46 * v) ∧ er_NM M (4 + 46 * v) v) → er_PE n F (f_ER_init_35 m 1 p n 2 k T M)
  | 0, k, T, M, h0, h1, h2, _, _, _, _, _, _, _, _ => by
    exfalso
    omega
  | m + 1, k, T, M, h0, h1, h2, hT, a1, a2, a3, a4, a5, hr, hN => by
    show er_PE n F (f_ER_init_35_b (f_ER_init_35 m) 1 p n 2 k T M)
    unfold f_ER_init_35_b
    rw [if_pos (show 0 ≤ k ∧ n ≤ 7 ∧ k ≤ 7 by omega)]
    by_cases hk : n ≤ k
    · have e : k = n := by omega
      rw [if_pos hk]
      rw [e] at hT a5 hN
      exact ⟨T, M, rfl, hT, ⟨a1, a2, a3, a4, a5⟩, hr, hN⟩
    · have e1 : T 0 0 + 1 = 4 + 46 * k := by omega
      rw [if_neg hk, if_pos ⟨a1, by omega⟩, er_leq, er_leq, er_leq, e1, nw_nx T 3 0 e1]
      obtain ⟨T4, M4, r1, r2, r3, r4, r5, r6⟩ := i_Node (T := er_nx T (4 + 46 * k) 3 0) (M := er_mw M (4 + 46 * k)) (A := 4 + 46 * k) (v := k) (by omega) (nx_0 (by omega)) nx_k (fun i => mw_S)
      have fT : ∀ b, b ≠ 0 → b < 4 + 46 * k → T4 b = T b := fun b b0 b1 => by rw [r3 b b0 b1, nx_F (by omega) b0]
      have fM : ∀ b, b < 4 + 46 * k → M4 b = M b := fun b b0 => by rw [r5 b b0, mw_F (by omega)]
      rw [r1, Option.bind_some]
      dsimp only [er_le]
      have f3 := fT 3 (by omega) (by omega)
      rw [a2, if_pos (show T4 3 (-2) = 103 ∧ T4 (4 + 46 * k) (-2) = 3 ∧ 0 ≤ k ∧ k < T4 3 (-1) from by rw [f3, a4]; exact ⟨a3, r4.2.1, h0, by omega⟩), er_addE (by constructor <;> omega)]
      refine i_35 hn m (k + 1) _ _ (by omega) (by omega) (by omega) ?_ ?_ ?_ ?_ ?_ ?_ ?_ ?_
      · rw [er_upF (by decide), r2]
        omega
      · rw [er_upF (by decide), fT 1 (by omega) (by omega)]
        exact a1
      · rw [er_upF (by decide), fT 1 (by omega) (by omega)]
        exact a2
      · rw [er_upR, er_f1N (by omega), f3]
        exact a3
      · rw [er_upR, er_f1N (by omega), f3]
        exact a4
      · intro v v0 v1
        rw [er_upR]
        by_cases e : v = k
        · rw [e, er_f1S]
        · rw [er_f1N e, f3]
          exact a5 v v0 (by omega)
      · unfold er_Rl at hr ⊢
        rw [er_upF (by decide), fT 2 (by omega) (by omega), fM 2 (by omega)]
        exact hr
      · intro v v0 v1
        by_cases e : v = k
        · rw [e]
          exact ⟨nd_F r4 (fun b b0 b1 => er_upF (by omega)), r6⟩
        · obtain ⟨q1, q2⟩ := hN v v0 (by omega)
          refine ⟨nd_F q1 (fun b b0 b1 => ?_), nm_F q2 (fun b b0 b1 => fM b (by omega))⟩
          rw [er_upF (by omega), fT b (by omega) (by omega)]
theorem i_ER {n F p : Int} {T M : er_Me} (hn : 4 ≤ n ∧ n ≤ 7) (hF : F = (n - 1) / 3) (hp : er_max 4 (er_min 7 p) = n) (h0 : T 0 0 = 1) (h1 : T 1 (-2) = 1) : er_PE n F (f_ER_init 1 p T M) := by
  have e1 : T 0 0 + 1 = 2 := by omega
  unfold f_ER_init
  rw [er_leq, er_leq, er_leq, er_leq, hp, e1, nw_nx T 2 0 e1]
  unfold f_Rules_init
  have i1 : er_div (er_sub n 1) 3 = F := by rw [er_subE (by constructor <;> omega), er_divE (by omega) (by omega) (by omega) (by omega)]; exact hF.symm
  have i2 : er_sub n F = n - F := er_subE (by constructor <;> omega)
  have i3 : er_add (er_div (er_add n F) 2) 1 = (n + F) / 2 + 1 := by rw [er_addE (x := n) (by constructor <;> omega), er_divE (by omega) (by omega) (by omega) (by omega), er_addE (by constructor <;> omega)]
  rw [if_pos nx_k, i1]
  dsimp only [er_le]
  simp only [er_upR, er_f1S]
  rw [er_f1N (show (1 : Int) ≠ 2 by decide), er_f1S, i2, i3, Option.bind_some]
  dsimp only
  have e2 : er_nx T 2 2 0 0 0 + 1 = 3 := by rw [nx_0 (by omega)]; omega
  rw [e2, nw_nx _ 103 n e2, if_pos (show 0 ≤ n ∧ n ≤ 9 by omega)]
  have k1 : er_nx (er_nx T 2 2 0) 3 103 n 1 (-2) = 1 := by simp (disch := omega) only [nx_F]; exact h1
  rw [if_pos (show er_nx (er_nx T 2 2 0) 3 103 n 1 (-2) = 1 ∧ (0 : Int) < 3 from ⟨k1, by decide⟩)]
  refine i_35 hn er_fu 0 _ _ (by omega) (by omega) (by unfold er_fu; omega) ?_ ?_ ?_ ?_ ?_ (fun v a b => by omega) ?_ (fun v a b => by omega)
  · rw [er_upF (by decide), nx_0 (by omega)]
    omega
  · rw [er_upR, er_f1N (by decide)]
    exact k1
  · rw [er_upR, er_f1S]
  · rw [er_upF (by decide), nx_k]
  · rw [er_upF (by decide), nx_l]
  · refine ⟨by decide, ?_, ?_, ?_, ?_, ?_, hn.1, hn.2, hF⟩
    · rw [er_upF (by decide), nx_F (by decide) (by decide), nx_k]
    · simp (disch := omega) only [mw_F, er_upR, er_f1S, er_f1N]
    · simp (disch := omega) only [mw_F, er_upR, er_f1S, er_f1N]
    · simp (disch := omega) only [mw_F, er_upR, er_f1S, er_f1N]
    · simp (disch := omega) only [mw_F, er_upR, er_f1S, er_f1N]
def er_mk (i : Int) : Int := if i = 1 ∨ i = 5 ∨ i = 6 ∨ i = 8 then 102 else 101
def er_ml (i : Int) : Int := if i = 2 then 980 else if i = 4 then 49 else if 5 ≤ i ∧ i ≤ 9 then 441 else if i = 10 then 63 else if i = 11 then 6174 else if i = 16 then 4 else 7
def er_Mi (T0 M0 : er_Me) (R j : Int) (T M : er_Me) : Prop := T 0 0 = R + j ∧ 0 < R ∧ T R (-2) = 7 ∧ (∀ b, b ≠ 0 → b < R → T b = T0 b) ∧ (∀ i, 1 ≤ i → i ≤ j → T R (i + 1) = R + i ∧ T (R + i) (-2) = er_mk i ∧ T (R + i) (-1) = er_ml i) ∧ (∀ b, b ≤ R → M b = M0 b) ∧ ∀ i x, 1 ≤ i → i ≤ j → M (R + i) x = 0
theorem mo_step {β : Type} {Q : Option β → Prop} {k : er_Me → er_Me → Option β} {T0 M0 T M : er_Me} {R j j' f kd ln : Int} (h : er_Mi T0 M0 R j T M) (hj : 0 ≤ j) (hj' : j' = j + 1) (hf : f = j + 2) (hkd : kd = er_mk j') (hln : ln = er_ml j') (hk : ∀ T' M', er_Mi T0 M0 R j' T' M' → Q (k T' M')) : Q (er_le (T 0 0 + 1) fun b => er_le (er_nw T kd ln) fun T2 => er_le (er_mw M b) fun M2 => if T2 R (-2) = 7 ∧ 0 < b then er_le (er_up T2 R f b) fun T3 => k T3 M2 else none) := by
  obtain ⟨h0, hR, h7, hF, hI, hM, hz⟩ := h
  refine al_step (N := R + j') hR (by omega) (by omega) h7 (hk _ _ ⟨?_, hR, ?_, ?_, ?_, ?_, ?_⟩)
  · rw [er_upF (by omega), nx_0 (by omega)]
  · simp (disch := omega) only [nx_F, er_upR, er_f1N]
    exact h7
  · intro b b0 b1
    simp (disch := omega) only [nx_F, er_upF]
    exact hF b b0 b1
  · intro i i0 i1
    by_cases e : i = j'
    · rw [e, show j' + 1 = f by omega, er_upR, er_f1S, er_upF (by omega), nx_k, nx_l]
      exact ⟨rfl, hkd, hln⟩
    · rw [er_upR, er_f1N (by omega), er_upF (by omega), nx_F (by omega) (by omega), nx_F (by omega) (by omega)]
      exact hI i i0 (by omega)
  · intro b b0
    rw [mw_F (by omega)]
    exact hM b b0
  · intro i x i0 i1
    by_cases e : i = j'
    · rw [e, mw_S]
    · rw [mw_F (by omega)]
      exact hz i x i0 (by omega)
def er_PM (T0 M0 : er_Me) (R n F : Int) (o : Option (er_Me × er_Me)) : Prop := ∃ T' M', o = some (T', M') ∧ (∀ b, b ≠ 0 → b < R → T' b = T0 b) ∧ er_Mo T' R ∧ (∀ b, b < R → M' b = M0 b) ∧ M' R 0 = n ∧ M' R 1 = F ∧ (∀ j i, 1 ≤ j → j ≤ 15 → j ≠ 12 → j ≠ 14 → M' (R + j) i = 0) ∧ ∀ i, 0 ≤ i → i < 7 → M' (R + 12) i = -1 ∧ M' (R + 14) i = -1
theorem mi_Mo {T0 M0 T M : er_Me} {R : Int} (h : er_Mi T0 M0 R 16 T M) : er_Mo T R := by
  obtain ⟨h0, hR, h7, hF, hI, hM, hz⟩ := h
  exact ⟨hR, h7, ⟨(hI 1 (by omega) (by omega)).1, (hI 1 (by omega) (by omega)).2.1, (hI 1 (by omega) (by omega)).2.2⟩, ⟨(hI 2 (by omega) (by omega)).1, (hI 2 (by omega) (by omega)).2.1, (hI 2 (by omega) (by omega)).2.2⟩, ⟨(hI 3 (by omega) (by omega)).1, (hI 3 (by omega) (by omega)).2.1, (hI 3 (by omega) (by omega)).2.2⟩, ⟨(hI 4 (by omega) (by omega)).1, (hI 4 (by omega) (by omega)).2.1, (hI 4 (by omega) (by omega)).2.2⟩, ⟨(hI 5 (by omega) (by omega)).1, (hI 5 (by omega) (by omega)).2.1, (hI 5 (by omega) (by omega)).2.2⟩, ⟨(hI 6 (by omega) (by omega)).1, (hI 6 (by omega) (by omega)).2.1, (hI 6 (by omega) (by omega)).2.2⟩, ⟨(hI 7 (by omega) (by omega)).1, (hI 7 (by omega) (by omega)).2.1, (hI 7 (by omega) (by omega)).2.2⟩, ⟨(hI 8 (by omega) (by omega)).1, (hI 8 (by omega) (by omega)).2.1, (hI 8 (by omega) (by omega)).2.2⟩, ⟨(hI 9 (by omega) (by omega)).1, (hI 9 (by omega) (by omega)).2.1, (hI 9 (by omega) (by omega)).2.2⟩, ⟨(hI 10 (by omega) (by omega)).1, (hI 10 (by omega) (by omega)).2.1, (hI 10 (by omega) (by omega)).2.2⟩, ⟨(hI 11 (by omega) (by omega)).1, (hI 11 (by omega) (by omega)).2.1, (hI 11 (by omega) (by omega)).2.2⟩, ⟨(hI 12 (by omega) (by omega)).1, (hI 12 (by omega) (by omega)).2.1, (hI 12 (by omega) (by omega)).2.2⟩, ⟨(hI 13 (by omega) (by omega)).1, (hI 13 (by omega) (by omega)).2.1, (hI 13 (by omega) (by omega)).2.2⟩, ⟨(hI 14 (by omega) (by omega)).1, (hI 14 (by omega) (by omega)).2.1, (hI 14 (by omega) (by omega)).2.2⟩, ⟨(hI 15 (by omega) (by omega)).1, (hI 15 (by omega) (by omega)).2.1, (hI 15 (by omega) (by omega)).2.2⟩, ⟨(hI 16 (by omega) (by omega)).1, (hI 16 (by omega) (by omega)).2.1, (hI 16 (by omega) (by omega)).2.2⟩⟩
theorem i_177 {T0 M0 T : er_Me} {R n F p : Int} (hF : ∀ b, b ≠ 0 → b < R → T b = T0 b) (hMo : er_Mo T R) : ∀ (m : Nat) (c : Int) (M : er_Me), 0 ≤ c → c ≤ 7 → 7 - c < m → (∀ b, b < R → M b = M0 b) → M R 0 = n → M R 1 = F → (∀ j i, 1 ≤ j → j ≤ 15 → j ≠ 12 → j ≠ 14 → M (R + j) i = 0) → (∀ i, 0 ≤ i → i < c → M (R + 12) i = -1 ∧ M (R + 14) i = -1) → er_PM T0 M0 R n F (f_Mo_init_177 m R p c T M)
  | 0, c, M, h0, h1, h2, _, _, _, _, _ => by
    exfalso
    omega
  | m + 1, c, M, h0, h1, h2, hM, n0, n1, hz, hc => by
    show er_PM T0 M0 R n F (f_Mo_init_177_b (f_Mo_init_177 m) R p c T M)
    unfold f_Mo_init_177_b
    dsimp only [er_le]
    by_cases h7 : 7 ≤ c
    · rw [if_pos h7]
      exact ⟨T, M, rfl, hF, hMo, hM, n0, n1, hz, fun i i0 i1 => hc i i0 (by omega)⟩
    · have ha := hMo.1
      have m0 := hMo.2.1
      obtain ⟨a12, b12, c12⟩ := mo12 hMo
      obtain ⟨a14, b14, c14⟩ := mo14 hMo
      rw [if_neg h7, a12, a14, c12, c14, if_pos (show T R (-2) = 7 ∧ 0 < R + 12 from ⟨m0, by omega⟩), if_pos (show T (R + 12) (-2) = 101 ∧ 0 ≤ c ∧ c < 7 from ⟨b12, h0, by omega⟩), if_pos (show 0 < R + 14 by omega), if_pos (show T (R + 14) (-2) = 101 ∧ c < 7 from ⟨b14, by omega⟩), er_addE (by constructor <;> omega)]
      refine i_177 hF hMo m (c + 1) _ (by omega) (by omega) (by omega) ?_ ?_ ?_ ?_ ?_
      · intro b b0
        rw [er_upF (by omega), er_upF (by omega)]
        exact hM b b0
      · rw [er_upF (by omega), er_upF (by omega)]
        exact n0
      · rw [er_upF (by omega), er_upF (by omega)]
        exact n1
      · intro j i j0 j1 j2 j3
        rw [er_upF (by omega), er_upF (by omega)]
        exact hz j i j0 j1 j2 j3
      · intro i i0 i1
        rw [er_upF (show R + 12 ≠ R + 14 by omega), er_upR, er_upR, er_upF (show R + 14 ≠ R + 12 by omega)]
        by_cases e : i = c
        · rw [e, er_f1S, er_f1S]
          exact ⟨rfl, rfl⟩
        · rw [er_f1N e, er_f1N e]
          exact hc i i0 (by omega)
theorem i_160 {T0 M0 T M : er_Me} {R n F p : Int} (hn : 4 ≤ n ∧ n ≤ 7) (hF : F = (n - 1) / 3) (h : er_Mi T0 M0 R 16 T M) : er_PM T0 M0 R n F (f_Mo_init_160 R p R n T M) := by
  have hMo := mi_Mo h
  obtain ⟨h0, hR, h7, hT, hI, hM, hz⟩ := h
  have i1 : er_div (er_sub n 1) 3 = F := by rw [er_subE (by constructor <;> omega), er_divE (by omega) (by omega) (by omega) (by omega)]; exact hF.symm
  unfold f_Mo_init_160
  dsimp only [er_le]
  rw [if_pos h7, if_pos h7, er_upS, i1]
  refine i_177 hT hMo er_fu 0 _ (by omega) (by omega) (by unfold er_fu; omega) ?_ ?_ ?_ ?_ (fun i a b => by omega)
  · intro b b0
    rw [er_upF (by omega), er_upF (by omega)]
    exact hM b (by omega)
  · rw [er_upR, er_f1N (by decide), er_upR, er_f1S]
  · rw [er_upR, er_f1S]
  · intro j i j0 j1 j2 j3
    rw [er_upF (by omega), er_upF (by omega)]
    exact hz j i j0 (by omega)
theorem i_Mo {T M : er_Me} {R n F p : Int} (hn : 4 ≤ n ∧ n ≤ 7) (hF : F = (n - 1) / 3) (hp : er_max 4 (er_min 7 p) = n) (ha : 0 < R) (h0 : T 0 0 = R) (h7 : T R (-2) = 7) : er_PM T M R n F (f_Mo_init R p T M) := by
  have s0 : er_Mi T M R 0 T M := ⟨by omega, ha, h7, fun _ _ _ => rfl, fun i a b => by omega, fun _ _ => rfl, fun i x a b => by omega⟩
  unfold f_Mo_init
  refine mo_step (Q := er_PM T M R n F) (j := 0) (j' := 1) s0 (by decide) (by decide) (by decide) (by decide) (by decide) ?_
  intro T1 M1 s1
  refine mo_step (Q := er_PM T M R n F) (j := 1) (j' := 2) s1 (by decide) (by decide) (by decide) (by decide) (by decide) ?_
  intro T2 M2 s2
  refine mo_step (Q := er_PM T M R n F) (j := 2) (j' := 3) s2 (by decide) (by decide) (by decide) (by decide) (by decide) ?_
  intro T3 M3 s3
  refine mo_step (Q := er_PM T M R n F) (j := 3) (j' := 4) s3 (by decide) (by decide) (by decide) (by decide) (by decide) ?_
  intro T4 M4 s4
  refine mo_step (Q := er_PM T M R n F) (j := 4) (j' := 5) s4 (by decide) (by decide) (by decide) (by decide) (by decide) ?_
  intro T5 M5 s5
  refine mo_step (Q := er_PM T M R n F) (j := 5) (j' := 6) s5 (by decide) (by decide) (by decide) (by decide) (by decide) ?_
  intro T6 M6 s6
  refine mo_step (Q := er_PM T M R n F) (j := 6) (j' := 7) s6 (by decide) (by decide) (by decide) (by decide) (by decide) ?_
  intro T7 M7 s7
  refine mo_step (Q := er_PM T M R n F) (j := 7) (j' := 8) s7 (by decide) (by decide) (by decide) (by decide) (by decide) ?_
  intro T8 M8 s8
  refine mo_step (Q := er_PM T M R n F) (j := 8) (j' := 9) s8 (by decide) (by decide) (by decide) (by decide) (by decide) ?_
  intro T9 M9 s9
  refine mo_step (Q := er_PM T M R n F) (j := 9) (j' := 10) s9 (by decide) (by decide) (by decide) (by decide) (by decide) ?_
  intro T10 M10 s10
  refine mo_step (Q := er_PM T M R n F) (j := 10) (j' := 11) s10 (by decide) (by decide) (by decide) (by decide) (by decide) ?_
  intro T11 M11 s11
  refine mo_step (Q := er_PM T M R n F) (j := 11) (j' := 12) s11 (by decide) (by decide) (by decide) (by decide) (by decide) ?_
  intro T12 M12 s12
  refine mo_step (Q := er_PM T M R n F) (j := 12) (j' := 13) s12 (by decide) (by decide) (by decide) (by decide) (by decide) ?_
  intro T13 M13 s13
  refine mo_step (Q := er_PM T M R n F) (j := 13) (j' := 14) s13 (by decide) (by decide) (by decide) (by decide) (by decide) ?_
  intro T14 M14 s14
  refine mo_step (Q := er_PM T M R n F) (j := 14) (j' := 15) s14 (by decide) (by decide) (by decide) (by decide) (by decide) ?_
  intro T15 M15 s15
  refine mo_step (Q := er_PM T M R n F) (j := 15) (j' := 16) s15 (by decide) (by decide) (by decide) (by decide) (by decide) ?_
  intro T16 M16 s16
  by_cases p4 : 4 ≤ p
  · rw [if_pos p4]
    by_cases p7 : p ≤ 7
    · rw [if_pos p7]
      have e : p = n := by
        rw [← hp]
        unfold er_max er_min
        split <;> split at * <;> omega
      rw [e]
      exact i_160 hn hF s16
    · rw [if_neg p7]
      have e : (7 : Int) = n := by
        rw [← hp]
        unfold er_max er_min
        split <;> split at * <;> omega
      rw [e]
      exact i_160 hn hF s16
  · rw [if_neg p4]
    have e : (4 : Int) = n := by
      rw [← hp]
      unfold er_max er_min
      split <;> split at * <;> omega
    rw [e]
    exact i_160 hn hF s16
