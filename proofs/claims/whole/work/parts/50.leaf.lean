/-! what the leaves' functions answer, where the layout holds -/
theorem er_upS (M : er_Me) (a i v : Int) : er_up M a i v a i = v := if_pos ⟨rfl, rfl⟩
theorem er_upA {M : er_Me} {a i v a' i' : Int} (h : a' ≠ a) : er_up M a i v a' i' = M a' i' := if_neg (fun q => h q.1)
theorem er_upI {M : er_Me} {a i v a' i' : Int} (h : i' ≠ i) : er_up M a i v a' i' = M a' i' := if_neg (fun q => h q.2)
theorem p_Log_append {T M : er_Me} {a c x : Int} (h1 : T a (-2) = 4) (h2 : T a 0 = c) (hc : 0 < c) (h3 : T c (-2) = 101) (h4 : T c (-1) = 135) (h5 : 0 ≤ M a 1) (h6 : M a 1 < 135) (hac : a ≠ c) : f_Log_append a x T M = some (er_up (er_up M c (M a 1) x) a 1 (M a 1 + 1)) := by
  unfold f_Log_append
  dsimp only [er_le]
  rw [h2, if_pos h1, if_pos hc, if_pos h3, h4, if_neg (by omega), if_pos ⟨h5, h6⟩, er_upA hac, er_addE (by constructor <;> omega)]
theorem p_Log_codeAt {T M : er_Me} {a c k : Int} (h1 : T a (-2) = 4) (h2 : T a 0 = c) (hc : 0 < c) (h3 : T c (-2) = 101) (h4 : T c (-1) = 135) (h6 : M a 1 ≤ 135) : f_Log_codeAt a k T M = some (if 0 ≤ k ∧ k < M a 1 then M c k else -1, M) := by
  unfold f_Log_codeAt
  rw [h2, h4]
  by_cases hk : k < 0
  · rw [if_pos hk, if_neg (by omega)]
  · by_cases hk2 : M a 1 ≤ k
    · rw [if_neg hk, if_pos h1, if_pos hk2, if_neg (by omega)]
    · rw [if_neg hk, if_pos h1, if_neg hk2, if_pos hc, if_pos ⟨h3, by omega, by omega⟩, if_pos (by omega)]
theorem p_codeOf {T M : er_Me} {k s p x : Int} (hk : 0 ≤ k ∧ k < 3) (hs : 0 ≤ s ∧ s < 9) (hp : 0 ≤ p ∧ p < 7) (hx : 0 ≤ x ∧ x < 4) : f_ER_codeOf k s p x T M = some (1000 * s + 100 * p + 10 * k + x, M) := by
  unfold f_ER_codeOf
  simp (disch := (constructor <;> omega)) only [er_mulE, er_addE]
theorem p_cellOf {T M : er_Me} {s p : Int} (hs : 0 ≤ s ∧ s < 9) (hp : 0 ≤ p ∧ p < 7) : f_ER_cellOf s p T M = some (7 * s + p, M) := by
  unfold f_ER_cellOf
  rw [er_mulE (by constructor <;> omega), er_addE (by constructor <;> omega), Int.mul_comm s 7]
theorem p_isPlain {T M : er_Me} {x : Int} : f_ER_isPlain x T M = some (if x = 0 ∨ x = 1 then 1 else 0, M) := by
  unfold f_ER_isPlain
  by_cases h0 : x = 0
  · rw [if_pos h0, if_pos (Or.inl h0)]
  · by_cases h1 : x = 1
    · rw [if_neg h0, if_pos h1, if_pos (Or.inr h1)]
    · rw [if_neg h0, if_neg h1, if_neg (by omega)]
theorem p_isSlot {T M : er_Me} {x : Int} : f_ER_isSlot x T M = some (if 0 ≤ x ∧ x < 9 then 1 else 0, M) := by
  unfold f_ER_isSlot
  by_cases h0 : x < 0
  · rw [if_pos h0, if_neg (by omega)]
  · by_cases h1 : 9 ≤ x
    · rw [if_neg h0, if_pos h1, if_neg (by omega)]
    · rw [if_neg h0, if_neg h1, if_pos (by omega)]
/-- a tally at a: senders at c, counts at d -/
theorem p_countIn {T M : er_Me} {a c d v k ce x : Int} {b : Nat} (h1 : T a (-2) = 5) (h2 : T a 0 = c) (hc : 0 < c) (h3 : T c (-2) = 101) (h4 : T c (-1) = 189) (g2 : T a 1 = d) (hd : 0 < d) (g3 : T d (-2) = 101) (g4 : T d (-1) = 756) (hcd : d ≠ c) (hv : 0 ≤ v ∧ v < 7) (hk : 0 ≤ k ∧ k < 3) (hce : 0 ≤ ce ∧ ce < 63) (hx : 0 ≤ x ∧ x < 4) (hb : M c (63 * k + ce) = (b : Int)) (hb2 : b < 128) :
    f_Tally_countIn a v k ce x T M = if er_bi b v.toNat = 0 then some (1, er_up (er_up M c (63 * k + ce) ((b + 2 ^ v.toNat : Nat) : Int)) d (4 * (63 * k + ce) + x) (er_add (M d (4 * (63 * k + ce) + x)) 1)) else some (0, M) := by
  unfold f_Tally_countIn
  dsimp only [er_le]
  have e1 : er_add (er_mul k 63) ce = 63 * k + ce := by rw [er_mulE (by constructor <;> omega), er_addE (by constructor <;> omega), Int.mul_comm]
  have e2 : er_add (er_mul (63 * k + ce) 4) x = 4 * (63 * k + ce) + x := by rw [er_mulE (by constructor <;> omega), er_addE (by constructor <;> omega), Int.mul_comm]
  have ev : v = ((v.toNat : Nat) : Int) := by omega
  have hv7 : v.toNat < 7 := by omega
  have e3 : er_and (er_shr (b : Int) v) 1 = ((er_bi b v.toNat : Nat) : Int) := by rw [ev]; exact er_bitT b hb2 _ hv7
  have e4 : er_or (b : Int) (er_shl 1 v) = ((b + (1 - er_bi b v.toNat) * 2 ^ v.toNat : Nat) : Int) := by rw [ev]; exact er_orT b hb2 _ hv7
  rw [e1, h2, h4, if_pos ⟨h1, hc⟩, if_pos ⟨h3, by omega, by omega⟩, hb, e3]
  by_cases hz : er_bi b v.toNat = 0
  · rw [if_pos (by omega), if_pos hz, g2, g4, if_pos hd, e2, if_pos ⟨g3, by omega, by omega⟩, er_upA hcd, e4, hz]
    simp
  · rw [if_neg (by omega), if_neg hz]
theorem p_count {T M : er_Me} {a d k ce x : Int} (h1 : T a (-2) = 5) (g2 : T a 1 = d) (hd : 0 < d) (g3 : T d (-2) = 101) (g4 : T d (-1) = 756) (hk : 0 ≤ k ∧ k < 3) (hce : 0 ≤ ce ∧ ce < 63) (hx : 0 ≤ x ∧ x < 4) : f_Tally_count a k ce x T M = some (M d (4 * (63 * k + ce) + x), M) := by
  unfold f_Tally_count
  have e1 : er_add (er_mul k 63) ce = 63 * k + ce := by rw [er_mulE (by constructor <;> omega), er_addE (by constructor <;> omega), Int.mul_comm]
  have e2 : er_add (er_mul (63 * k + ce) 4) x = 4 * (63 * k + ce) + x := by rw [er_mulE (by constructor <;> omega), er_addE (by constructor <;> omega), Int.mul_comm]
  rw [e1, e2, g2, g4, if_pos ⟨h1, hd⟩, if_pos ⟨g3, by omega, by omega⟩]
