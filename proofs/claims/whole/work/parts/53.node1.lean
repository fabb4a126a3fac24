/-! a node's small methods -/
def er_Nd (T : er_Me) (A : Int) : Prop := 0 < A ∧ T A (-2) = 3 ∧ T A 1 = 2 ∧ T A 2 = A + 1 ∧ T A 3 = A + 3 ∧ T A 4 = A + 6 ∧ T A 5 = A + 7 ∧ T A 6 = A + 8 ∧ T A 7 = A + 9 ∧ (T (A + 1) (-2) = 4 ∧ T (A + 1) 0 = A + 2 ∧ T (A + 2) (-2) = 101 ∧ T (A + 2) (-1) = 135) ∧ (T (A + 3) (-2) = 5 ∧ T (A + 3) 0 = A + 4 ∧ T (A + 3) 1 = A + 5 ∧ T (A + 4) (-2) = 101 ∧ T (A + 4) (-1) = 189 ∧ T (A + 5) (-2) = 101 ∧ T (A + 5) (-1) = 756) ∧ (T (A + 6) (-2) = 101 ∧ T (A + 6) (-1) = 7) ∧ (T (A + 7) (-2) = 102 ∧ T (A + 7) (-1) = 63) ∧ (T (A + 8) (-2) = 101 ∧ T (A + 8) (-1) = 63) ∧ (T (A + 9) (-2) = 104 ∧ T (A + 9) (-1) = 9) ∧ ∀ s : Int, 0 ≤ s → s < 9 → T (A + 9) s = A + 10 + 4 * s ∧ er_Rw T (A + 10 + 4 * s)
/-- a code put at the log's end -/
def er_ap (M : er_Me) (A c : Int) : er_Me := er_up (er_up M (A + 2) (M (A + 1) 1) c) (A + 1) 1 (M (A + 1) 1 + 1)
theorem q_append {T M : er_Me} {A c : Int} (hN : er_Nd T A) (h5 : 0 ≤ M (A + 1) 1) (h6 : M (A + 1) 1 < 135) : f_Log_append (A + 1) c T M = some (er_ap M A c) := by
  obtain ⟨ha, n1, n2, n3, n4, n5, n6, n7, n8, ⟨l1, l2, l3, l4⟩, -⟩ := hN
  exact p_Log_append l1 l2 (by omega) l3 l4 h5 h6 (by omega)
theorem q_enter {T M : er_Me} {A w s x : Int} (hN : er_Nd T A) (hw : M A 0 = w) (hw7 : 0 ≤ w ∧ w < 7) (hs : 0 ≤ s ∧ s ≤ 9) (hx : 0 ≤ x ∧ x < 4) (h5 : 0 ≤ M (A + 1) 1) (h6 : s < 9 → M (A + 1) 1 < 135) : f_Node_enter A s x T M = some (if s < 9 then er_ap (er_up (er_up M A 10 s) A 11 x) A (1000 * s + 100 * w + x) else er_up (er_up M A 10 s) A 11 x) := by
  have hN' := hN
  obtain ⟨ha, n1, n2, n3, n4, n5, n6, n7, n8, ⟨l1, l2, l3, l4⟩, -⟩ := hN
  unfold f_Node_enter
  dsimp only [er_le]
  rw [n3, if_pos n1]
  by_cases h9 : 9 ≤ s
  · rw [if_pos h9, if_neg (by omega)]
  · have e0 : er_up (er_up M A 10 s) A 11 x A 0 = w := by rw [er_upI (by omega), er_upI (by omega), hw]
    have e1 : er_up (er_up M A 10 s) A 11 x (A + 1) 1 = M (A + 1) 1 := by rw [er_upA (by omega), er_upA (by omega)]
    rw [if_neg h9, if_pos (by omega), e0, p_codeOf (by omega) (by omega) hw7 hx, Option.bind_some]
    dsimp only
    rw [if_pos l1, q_append hN' (by rw [e1]; exact h5) (by rw [e1]; exact h6 (by omega)), Option.bind_some, if_pos (by omega)]
    congr 2
    omega
theorem q_sendReady {T M : er_Me} {A s p x : Int} (hN : er_Nd T A) (hs : 0 ≤ s ∧ s < 9) (hp : 0 ≤ p ∧ p < 7) (hx : 0 ≤ x ∧ x < 4) (h5 : 0 ≤ M (A + 1) 1) (h6 : M (A + 7) (7 * s + p) = 0 → M (A + 1) 1 < 135) : f_Node_sendReadyOnce A s p x T M = some (if M (A + 7) (7 * s + p) = 0 then er_ap (er_up M (A + 7) (7 * s + p) 1) A (1000 * s + 100 * p + 20 + x) else M) := by
  have hN' := hN
  obtain ⟨ha, n1, n2, n3, n4, n5, n6, n7, n8, ⟨l1, l2, l3, l4⟩, -, -, ⟨r1, r2⟩, -⟩ := hN
  unfold f_Node_sendReadyOnce
  rw [p_cellOf hs hp, Option.bind_some]
  dsimp only [er_le]
  rw [n6, n3, r2, if_pos ⟨n1, by omega⟩, if_pos ⟨r1, by omega, by omega⟩]
  by_cases h : M (A + 7) (7 * s + p) = 0
  · have e1 : er_up M (A + 7) (7 * s + p) 1 (A + 1) 1 = M (A + 1) 1 := er_upA (by omega)
    rw [if_pos h, if_pos h, if_pos (by omega), p_codeOf (by omega) hs hp hx, Option.bind_some]
    dsimp only
    rw [if_pos l1, q_append hN' (by rw [e1]; exact h5) (by rw [e1]; exact h6 h), Option.bind_some]
    congr 2
  · rw [if_neg h, if_neg h]
theorem q_hearEcho {T M : er_Me} {A s p x n F : Int} (hN : er_Nd T A) (hr : er_Rl T M 2 n F) (hs : 0 ≤ s ∧ s < 9) (hp : 0 ≤ p ∧ p < 7) (hx : 0 ≤ x ∧ x < 4) (h5 : 0 ≤ M (A + 1) 1) (h6 : M (A + 7) (7 * s + p) = 0 → M (A + 1) 1 < 135) : f_Node_hearEcho A s p x T M = some (if (n + F) / 2 + 1 ≤ M (A + 5) (4 * (63 + (7 * s + p)) + x) ∧ M (A + 7) (7 * s + p) = 0 then er_ap (er_up M (A + 7) (7 * s + p) 1) A (1000 * s + 100 * p + 20 + x) else M) := by
  have hsr := q_sendReady (T := T) (M := M) hN hs hp hx h5 h6
  obtain ⟨ha, n1, n2, n3, n4, n5, n6, n7, n8, -, ⟨t1, t2, t3, t4, t5, t6, t7⟩, -⟩ := hN
  obtain ⟨-, r1, r2, r3, r4, r5, -⟩ := hr
  unfold f_Node_hearEcho
  rw [n4, n2, if_pos ⟨n1, by omega⟩, p_cellOf hs hp, Option.bind_some]
  dsimp only
  rw [if_pos t1, p_count t1 t3 (by omega) t6 t7 (by omega) (by omega) hx, Option.bind_some]
  dsimp only
  have e : (63 : Int) * 1 + (7 * s + p) = 63 + (7 * s + p) := by omega
  rw [if_pos (by omega), if_pos r1]
  simp only [r5, hsr, Option.bind_some, e]
  by_cases h : M (A + 5) (4 * (63 + (7 * s + p)) + x) < (n + F) / 2 + 1
  · rw [if_pos h, if_neg (by omega)]
  · rw [if_neg h]
    by_cases h2 : M (A + 7) (7 * s + p) = 0
    · rw [if_pos h2, if_pos ⟨by omega, h2⟩]
    · rw [if_neg h2, if_neg (by omega)]
/-- what hearReady takes -/
def er_tk (M : er_Me) (A ce c F x : Int) : er_Me := if 2 * F + 1 ≤ c ∧ M (A + 8) ce = -1 then er_up M (A + 8) ce x else M
theorem q_hearReady41 {T M : er_Me} {A s p x n F c : Int} (hN : er_Nd T A) (hr : er_Rl T M 2 n F) (hs : 0 ≤ s ∧ s < 9) (hp : 0 ≤ p ∧ p < 7) : f_Node_hearReady_41 T A s p x (7 * s + p) c M = some (er_tk M A (7 * s + p) c F x) := by
  obtain ⟨ha, n1, n2, n3, n4, n5, n6, n7, n8, -, -, -, -, ⟨k1, k2⟩, -⟩ := hN
  obtain ⟨-, r1, r2, r3, r4, r5, q1, q2, q3⟩ := hr
  unfold f_Node_hearReady_41 er_tk
  dsimp only [er_le]
  rw [n2, n7, k2, if_pos ⟨n1, by omega⟩, if_pos r1, r3, er_mulE (by constructor <;> omega), er_addE (by constructor <;> omega)]
  by_cases h : c < 2 * F + 1
  · rw [if_pos h, if_neg (by omega)]
  · rw [if_neg h, if_pos (by omega), if_pos ⟨k1, by omega, by omega⟩]
    by_cases h2 : M (A + 8) (7 * s + p) = -1
    · rw [if_pos h2, if_pos ⟨by omega, h2⟩]
    · rw [if_neg h2, if_neg (fun q => h2 q.2)]
theorem er_Rl_up {T M : er_Me} {n F a i v : Int} (hr : er_Rl T M 2 n F) (h : a ≠ 2) : er_Rl T (er_up M a i v) 2 n F := by
  obtain ⟨r0, r1, r2, r3, r4, r5, r6⟩ := hr
  refine ⟨r0, r1, ?_, ?_, ?_, ?_, r6⟩ <;> rw [er_upA (Ne.symm h)] <;> assumption
theorem er_Rl_ap {T M : er_Me} {n F A c : Int} (hr : er_Rl T M 2 n F) (h : 3 < A) : er_Rl T (er_ap M A c) 2 n F := er_Rl_up (er_Rl_up hr (by omega)) (by omega)
theorem q_hearReady {T M : er_Me} {A s p x n F : Int} (hN : er_Nd T A) (hA : 3 < A) (hr : er_Rl T M 2 n F) (hs : 0 ≤ s ∧ s < 9) (hp : 0 ≤ p ∧ p < 7) (hx : 0 ≤ x ∧ x < 4) (h5 : 0 ≤ M (A + 1) 1) (h6 : M (A + 7) (7 * s + p) = 0 → M (A + 1) 1 < 135) : f_Node_hearReady A s p x T M = some (er_tk (if F + 1 ≤ M (A + 5) (4 * (126 + (7 * s + p)) + x) ∧ M (A + 7) (7 * s + p) = 0 then er_ap (er_up M (A + 7) (7 * s + p) 1) A (1000 * s + 100 * p + 20 + x) else M) A (7 * s + p) (M (A + 5) (4 * (126 + (7 * s + p)) + x)) F x) := by
  have hsr := q_sendReady (T := T) (M := M) hN hs hp hx h5 h6
  have hN' := hN
  have hr' := hr
  obtain ⟨ha, n1, n2, n3, n4, n5, n6, n7, n8, -, ⟨t1, t2, t3, t4, t5, t6, t7⟩, -⟩ := hN
  obtain ⟨-, r1, r2, r3, r4, r5, q1, q2, q3⟩ := hr
  unfold f_Node_hearReady
  rw [p_cellOf hs hp, Option.bind_some]
  dsimp only
  rw [n4, n2, if_pos ⟨n1, by omega⟩, if_pos t1, p_count t1 t3 (by omega) t6 t7 (by omega) (by omega) hx, Option.bind_some]
  dsimp only
  have e : (63 : Int) * 2 + (7 * s + p) = 126 + (7 * s + p) := by omega
  rw [if_pos (by omega), if_pos r1]
  simp only [e, r3, hsr, Option.bind_some]
  rw [er_addE (by constructor <;> omega)]
  by_cases h : M (A + 5) (4 * (126 + (7 * s + p)) + x) < F + 1
  · rw [if_pos h, if_neg (by omega), q_hearReady41 hN' hr' hs hp]
  · rw [if_neg h]
    by_cases h2 : M (A + 7) (7 * s + p) = 0
    · rw [if_pos h2, if_pos ⟨by omega, h2⟩, q_hearReady41 hN' (er_Rl_ap (er_Rl_up hr' (show A + 7 ≠ 2 by omega)) hA) hs hp]
    · rw [if_neg h2, if_neg (by omega), q_hearReady41 hN' hr' hs hp]
