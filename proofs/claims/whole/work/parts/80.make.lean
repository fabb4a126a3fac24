/-! makers: pieces -/
def er_nx (T : er_Me) (N k l : Int) : er_Me := fun a i => if a = N then (if i = -1 then l else if i = -2 then k else 0) else if a = 0 ∧ i = 0 then N else T a i
theorem nw_nx (T : er_Me) (k l : Int) {N : Int} (h : T 0 0 + 1 = N) : er_nw T k l = er_nx T N k l := by
  subst h
  rfl
theorem nx_k {T : er_Me} {N k l : Int} : er_nx T N k l N (-2) = k := by
  unfold er_nx
  rw [if_pos rfl, if_neg (by decide), if_pos rfl]
theorem nx_l {T : er_Me} {N k l : Int} : er_nx T N k l N (-1) = l := by
  unfold er_nx
  rw [if_pos rfl, if_pos rfl]
theorem nx_F {T : er_Me} {N k l a : Int} (h : a ≠ N) (h0 : a ≠ 0) : er_nx T N k l a = T a := by
  funext i
  unfold er_nx
  rw [if_neg h, if_neg (fun q => h0 q.1)]
theorem nx_0 {T : er_Me} {N k l : Int} (h : 0 < N) : er_nx T N k l 0 0 = N := by
  unfold er_nx
  rw [if_neg (by omega), if_pos ⟨rfl, rfl⟩]
theorem mw_S {M : er_Me} {b i : Int} : er_mw M b b i = 0 := if_pos rfl
theorem mw_F {M : er_Me} {b a : Int} (h : a ≠ b) : er_mw M b a = M a := by
  funext i
  exact if_neg h
theorem al_step {β : Type} {Q : Option β → Prop} {k : er_Me → er_Me → Option β} {T M : er_Me} {a f kd ln K N : Int} (ha : 0 < a) (haN : a < N) (h0 : T 0 0 + 1 = N) (hK : T a (-2) = K) (hk : Q (k (er_up (er_nx T N kd ln) a f N) (er_mw M N))) : Q (er_le (T 0 0 + 1) fun b => er_le (er_nw T kd ln) fun T2 => er_le (er_mw M b) fun M2 => if T2 a (-2) = K ∧ 0 < b then er_le (er_up T2 a f b) fun T3 => k T3 M2 else none) := by
  dsimp only [er_le]
  rw [nw_nx T kd ln h0, h0, if_pos ⟨by rw [nx_F (by omega) (by omega)]; exact hK, by omega⟩]
  exact hk
def er_PLog (T M : er_Me) (a : Int) (o : Option (er_Me × er_Me)) : Prop := ∃ T' M', o = some (T', M') ∧ T' 0 0 = a + 1 ∧ (∀ b, b ≠ 0 → b < a → T' b = T b) ∧ (T' a (-2) = 4 ∧ T' a 0 = a + 1 ∧ T' (a + 1) (-2) = 101 ∧ T' (a + 1) (-1) = 135) ∧ (∀ b, b < a → M' b = M b) ∧ ∀ b i, a ≤ b → b ≤ a + 1 → M' b i = 0
theorem i_Log {T M : er_Me} {a : Int} (ha : 0 < a) (h0 : T 0 0 = a) (hk : T a (-2) = 4) (hM : ∀ i, M a i = 0) : er_PLog T M a (f_Log_init a T M) := by
  unfold f_Log_init
  refine al_step (Q := er_PLog T M a) (N := a + 1) ha (by omega) (by omega) hk ?_
  dsimp only [er_le]
  have k2 : er_up (er_nx T (a + 1) 101 135) a 0 (a + 1) a (-2) = 4 := by rw [er_upR, er_f1N (by decide), nx_F (by omega) (by omega)]; exact hk
  rw [if_pos k2]
  refine ⟨_, _, rfl, ?_, fun b b0 b1 => ?_, ⟨k2, ?_, ?_, ?_⟩, fun b b0 => ?_, fun b i b0 b1 => ?_⟩
  · rw [er_upF (by omega), nx_0 (by omega)]
  · rw [er_upF (by omega), nx_F (by omega) b0]
  · rw [er_upR, er_f1S]
  · rw [er_upF (by omega), nx_k]
  · rw [er_upF (by omega), nx_l]
  · rw [er_upF (by omega), mw_F (by omega)]
  · by_cases e : b = a
    · rw [e, er_upR]
      by_cases e1 : i = 1
      · rw [e1, er_f1S]
      · rw [er_f1N e1, mw_F (by omega)]
        exact hM i
    · rw [er_upF e, show b = a + 1 by omega, mw_S]
def er_PTa (T M : er_Me) (a : Int) (o : Option (er_Me × er_Me)) : Prop := ∃ T' M', o = some (T', M') ∧ T' 0 0 = a + 2 ∧ (∀ b, b ≠ 0 → b < a → T' b = T b) ∧ (T' a (-2) = 5 ∧ T' a 0 = a + 1 ∧ T' a 1 = a + 2 ∧ T' (a + 1) (-2) = 101 ∧ T' (a + 1) (-1) = 189 ∧ T' (a + 2) (-2) = 101 ∧ T' (a + 2) (-1) = 756) ∧ (∀ b, b < a → M' b = M b) ∧ ∀ b i, a ≤ b → b ≤ a + 2 → M' b i = 0
theorem i_Tally {T M : er_Me} {a : Int} (ha : 0 < a) (h0 : T 0 0 = a) (hk : T a (-2) = 5) (hM : ∀ i, M a i = 0) : er_PTa T M a (f_Tally_init a T M) := by
  unfold f_Tally_init
  refine al_step (Q := er_PTa T M a) (N := a + 1) ha (by omega) (by omega) hk ?_
  refine al_step (Q := er_PTa T M a) (N := a + 2) ha (by omega) ?_ ?_ ?_
  · rw [er_upF (by omega), nx_0 (by omega)]
    omega
  · simp (disch := omega) only [nx_F, er_upR, er_f1N]
    exact hk
  · refine ⟨_, _, rfl, ?_, fun b b0 b1 => ?_, ⟨?_, ?_, ?_, ?_, ?_, ?_, ?_⟩, fun b b0 => ?_, fun b i b0 b1 => ?_⟩
    · rw [er_upF (by omega), nx_0 (by omega)]
    · simp (disch := omega) only [nx_F, er_upF]
    · simp (disch := omega) only [nx_F, er_upR, er_f1N]
      exact hk
    · simp (disch := omega) only [nx_F, er_upR, er_f1N, er_f1S]
    · simp (disch := omega) only [nx_F, er_upR, er_f1N, er_f1S]
    · simp (disch := omega) only [nx_F, er_upF, nx_k]
    · simp (disch := omega) only [nx_F, er_upF, nx_l]
    · simp (disch := omega) only [nx_F, er_upF, nx_k]
    · simp (disch := omega) only [nx_F, er_upF, nx_l]
    · rw [mw_F (by omega), mw_F (by omega)]
    · by_cases e : b = a + 2
      · rw [e, mw_S]
      · rw [mw_F e]
        by_cases e1 : b = a + 1
        · rw [e1, mw_S]
        · rw [mw_F e1, show b = a by omega]
          exact hM i
def er_PRow (T M : er_Me) (a : Int) (o : Option (er_Me × er_Me)) : Prop := ∃ T' M', o = some (T', M') ∧ T' 0 0 = a + 3 ∧ (∀ b, b ≠ 0 → b < a → T' b = T b) ∧ er_Rw T' a ∧ (∀ b, b < a → M' b = M b) ∧ ∀ b i, a ≤ b → b ≤ a + 3 → M' b i = 0
theorem i_Row {T M : er_Me} {a : Int} (ha : 0 < a) (h0 : T 0 0 = a) (hk : T a (-2) = 6) (hM : ∀ i, M a i = 0) : er_PRow T M a (f_Row_init a T M) := by
  unfold f_Row_init
  refine al_step (Q := er_PRow T M a) (N := a + 1) ha (by omega) (by omega) hk ?_
  refine al_step (Q := er_PRow T M a) (N := a + 2) ha (by omega) ?_ ?_ ?_
  · rw [er_upF (by omega), nx_0 (by omega)]
    omega
  · simp (disch := omega) only [nx_F, er_upR, er_f1N]
    exact hk
  refine al_step (Q := er_PRow T M a) (N := a + 3) ha (by omega) ?_ ?_ ?_
  · rw [er_upF (by omega), nx_0 (by omega)]
    omega
  · simp (disch := omega) only [nx_F, er_upR, er_f1N]
    exact hk
  dsimp only [er_le]
  rw [if_pos (by simp (disch := omega) only [nx_F, er_upR, er_f1N]; exact hk)]
  refine ⟨_, _, rfl, ?_, fun b b0 b1 => ?_, ⟨ha, ?_, ?_, ?_, ?_, ?_, ?_, ?_, ?_, ?_, ?_⟩, fun b b0 => ?_, fun b i b0 b1 => ?_⟩
  · rw [er_upF (by omega), nx_0 (by omega)]
  · simp (disch := omega) only [nx_F, er_upF]
  · simp (disch := omega) only [nx_F, er_upR, er_f1N]
    exact hk
  · simp (disch := omega) only [nx_F, er_upR, er_f1N, er_f1S]
  · simp (disch := omega) only [nx_F, er_upR, er_f1N, er_f1S]
  · simp (disch := omega) only [nx_F, er_upR, er_f1N, er_f1S]
  · simp (disch := omega) only [nx_F, er_upF, nx_k]
  · simp (disch := omega) only [nx_F, er_upF, nx_l]
  · simp (disch := omega) only [nx_F, er_upF, nx_k]
  · simp (disch := omega) only [nx_F, er_upF, nx_l]
  · simp (disch := omega) only [nx_F, er_upF, nx_k]
  · simp (disch := omega) only [nx_F, er_upF, nx_l]
  · simp (disch := omega) only [mw_F, er_upF]
  · by_cases e : b = a
    · rw [e, er_upR]
      by_cases e1 : i = 3
      · rw [e1, er_f1S]
      · rw [er_f1N e1, mw_F (by omega), mw_F (by omega), mw_F (by omega)]
        exact hM i
    · rw [er_upF e]
      by_cases e3 : b = a + 3
      · rw [e3, mw_S]
      · rw [mw_F e3]
        by_cases e2 : b = a + 2
        · rw [e2, mw_S]
        · rw [mw_F e2, show b = a + 1 by omega, mw_S]
