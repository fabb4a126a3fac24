/-! the world at the start, and the law -/
theorem er_sm_z {f : Nat → Nat} : ∀ z : Nat, (∀ k, k < z → f k = 0) → er_sm f z = 0
  | 0, _ => rfl
  | z + 1, h => by
    rw [er_sm, h z (by omega), er_sm_z z (fun k hk => h k (by omega))]
theorem nr_init {n v A : Int} {M S : er_Me} (hv : 0 ≤ v ∧ v < 7) (hn : n ≤ 7) (h : er_NM M A v) (hz : ∀ j i, 1 ≤ j → j ≤ 15 → j ≠ 12 → j ≠ 14 → S j i = 0) (hm : ∀ i, 0 ≤ i → i < 7 → S 12 i = -1 ∧ S 14 i = -1) : er_NR n v A M S ∧ er_SI n v S := by
  obtain ⟨⟨f0, f8, f9, f10, f11, f12⟩, h8, h0⟩ := h
  obtain ⟨m12, m14⟩ := hm v hv.1 hv.2
  have z1 : ∀ i, S 1 i = 0 := fun i => hz 1 i (by omega) (by omega) (by omega) (by omega)
  have z3 : ∀ i, S 3 i = 0 := fun i => hz 3 i (by omega) (by omega) (by omega) (by omega)
  have z4 : ∀ i, S 4 i = 0 := fun i => hz 4 i (by omega) (by omega) (by omega) (by omega)
  have z5 : ∀ i, S 5 i = 0 := fun i => hz 5 i (by omega) (by omega) (by omega) (by omega)
  have z6 : ∀ i, S 6 i = 0 := fun i => hz 6 i (by omega) (by omega) (by omega) (by omega)
  have z7 : ∀ i, S 7 i = 0 := fun i => hz 7 i (by omega) (by omega) (by omega) (by omega)
  have z8 : ∀ i, S 8 i = 0 := fun i => hz 8 i (by omega) (by omega) (by omega) (by omega)
  have z10 : ∀ i, S 10 i = 0 := fun i => hz 10 i (by omega) (by omega) (by omega) (by omega)
  have z11 : ∀ i, S 11 i = 0 := fun i => hz 11 i (by omega) (by omega) (by omega) (by omega)
  have z13 : ∀ i, S 13 i = 0 := fun i => hz 13 i (by omega) (by omega) (by omega) (by omega)
  have z15 : ∀ i, S 15 i = 0 := fun i => hz 15 i (by omega) (by omega) (by omega) (by omega)
  have bi0 : ∀ u : Nat, er_bi 0 u = 0 := fun u => by unfold er_bi; rw [Nat.zero_div]
  constructor
  · refine ⟨⟨f0, by rw [f8, z1]; rfl, by rw [f9, z15], by rw [f10, m12], by rw [f11, m12, if_pos (by decide)], by rw [f12, m14]⟩, by rw [h0 (A + 1) 1 (by omega) (by omega) (by omega), z3], fun k k0 k1 => ?_, fun s p s0 s1 p0 p1 => ?_, fun k s p k0 k1 s0 s1 p0 p1 => ?_, fun k s p x k0 k1 s0 s1 p0 p1 x0 x1 => ?_, fun u u0 u1 => ?_, fun s p s0 s1 p0 p1 => ?_, fun s p s0 s1 p0 p1 => ?_, fun s s0 s1 => ⟨?_, fun k k0 k1 => ?_, fun x x0 x1 => ?_⟩⟩
    · rw [z3] at k1
      omega
    · exact ⟨0, by omega, by rw [h0 (A + 4) _ (by omega) (by omega) (by omega)]; rfl, by rw [bi0, z5]; rfl⟩
    · exact ⟨0, by omega, by rw [h0 (A + 4) _ (by omega) (by omega) (by omega)]; rfl, fun u u0 u1 => ⟨fun _ => z11 _, fun _ => bi0 _⟩⟩
    · have e : er_vt n v k s p x (S 11) = 0 := er_sm_z _ (fun u hu => by rw [z11, if_neg (by omega)])
      rw [h0 (A + 5) _ (by omega) (by omega) (by omega), e]
      rfl
    · rw [h0 (A + 6) _ (by omega) (by omega) (by omega), z4]
    · rw [h0 (A + 7) _ (by omega) (by omega) (by omega), z6]
    · rw [h8 _ (by omega) (by omega), z7]
      rfl
    · rw [h0 (A + 10 + 4 * s) _ (by omega) (by omega) (by omega), z10]
    · rw [z10] at k1
      omega
    · rw [h0 (A + 10 + 4 * s + 3) _ (by omega) (by omega) (by omega), z10]
      rfl
  · have fl : ∀ j, (∀ i, S j i = 0) → er_fl v (S j) = 0 := fun j h => er_sm_z _ (fun c _ => by rw [h]; rfl)
    refine ⟨?_, fun k k0 k1 => ?_, fun c c0 c1 => ⟨Or.inl (z5 _), Or.inl (z6 _), Or.inl (z8 _)⟩, fun c c0 c1 => by rw [z7]; omega, by rw [m12, m14, z13]; omega, fun s s0 s1 => ⟨?_, fun k k0 k1 => ?_, fun p p0 p1 => ⟨fun q => ?_, ?_⟩⟩⟩
    · rw [z3, m12, fl 5 z5, fl 6 z6]
      rfl
    · rw [z3] at k1
      omega
    · have e : er_f8 v s (S 8) = 0 := er_sm_z _ (fun c _ => by rw [z8]; rfl)
      rw [z10, e]
      rfl
    · rw [z10] at k1
      omega
    · rw [z8] at q
      omega
    · rintro ⟨k, k0, k1, k2⟩
      rw [z10] at k1
      omega
theorem er_pure (g : Int → Int) (n : Int) (hg : ∀ i, er_rg (g i)) (h0 : 0 ≤ n) (h1 : n ≤ 3073) : f_Law_law g n er_0 er_0 = some () := by
  unfold f_Law_law
  have e1 : er_0 0 0 + 1 = 1 := rfl
  rw [er_leq, er_leq, er_leq, e1, nw_nx er_0 1 0 e1]
  have hc : ∃ p, ∀ T M : er_Me, f_Law_cell g n 0 T M = some (p, M) := by
    by_cases q : n ≤ 0
    · exact ⟨0, fun T M => by unfold f_Law_cell; rw [if_pos q]⟩
    · exact ⟨g 0, fun T M => by unfold f_Law_cell; rw [if_neg q, if_pos ⟨by omega, by omega⟩]⟩
  obtain ⟨p, hp⟩ := hc
  rw [hp, Option.bind_some]
  obtain ⟨N, hN⟩ : ∃ N, er_max 4 (er_min 7 p) = N := ⟨_, rfl⟩
  have hNb : 4 ≤ N ∧ N ≤ 7 := by
    rw [← hN]
    unfold er_max er_min
    split <;> split at * <;> omega
  obtain ⟨T3, M3, r1, r2, r3, r4, r5⟩ := i_ER (F := (N - 1) / 3) (T := er_nx er_0 1 1 0) (M := er_mw er_0 1) hNb rfl hN (nx_0 (by decide)) nx_k
  dsimp only
  rw [r1, Option.bind_some]
  dsimp only
  have e2 : T3 0 0 + 1 = 4 + 46 * N := by omega
  rw [er_leq, er_leq, er_leq, e2, nw_nx T3 7 0 e2, hp, Option.bind_some]
  obtain ⟨T6, M6, s1, s2, s3, s4, s5, s6, s7, s8⟩ := i_Mo (F := (N - 1) / 3) (T := er_nx T3 (4 + 46 * N) 7 0) (M := er_mw M3 (4 + 46 * N)) (R := 4 + 46 * N) hNb rfl hN (by omega) (nx_0 (by omega)) nx_k
  dsimp only
  rw [s1, Option.bind_some]
  have fT : ∀ b, b ≠ 0 → b < 4 + 46 * N → T6 b = T3 b := fun b b0 b1 => by rw [s2 b b0 b1, nx_F (by omega) b0]
  have fM : ∀ b, b < 4 + 46 * N → M6 b = M3 b := fun b b0 => by rw [s4 b b0, mw_F (by omega)]
  have hNM : ∀ v, 0 ≤ v → v < N → er_Nd T6 (4 + 46 * v) ∧ er_NM M6 (4 + 46 * v) v := fun v v0 v1 => by
    obtain ⟨q1, q2⟩ := r5 v v0 v1
    exact ⟨nd_F q1 (fun b b0 b1 => fT b (by omega) (by omega)), nm_F q2 (fun b b0 b1 => fM b (by omega))⟩
  have hW : er_W N ((N - 1) / 3) T6 M6 (fun j => M6 (4 + 46 * N + j)) := by
    refine ⟨?_, ⟨?_, fun u u0 u1 => (hNM u u0 u1).1, fun u u0 u1 => nr_init (by omega) hNb.2 (hNM u u0 u1).2 s7 s8, fun u v u0 u1 v0 v1 => ?_⟩, ⟨s3, ⟨s5, s6, hNb.1, hNb.2, rfl⟩, fun j _ _ => rfl⟩, fun w w0 w1 => Or.inl (s7 1 w (by omega) (by omega) (by omega) (by omega))⟩
    · unfold er_Ca at r3 ⊢
      rw [fT 1 (by omega) (by omega), fT 3 (by omega) (by omega)]
      exact r3
    · unfold er_Rl at r4 ⊢
      rw [fT 2 (by omega) (by omega), fM 2 (by omega)]
      exact r4
    · have a := s7 4 (7 * u + v) (by omega) (by omega) (by omega) (by omega)
      have b := s7 3 v (by omega) (by omega) (by omega) (by omega)
      show 0 ≤ M6 (4 + 46 * N + 4) (7 * u + v) ∧ M6 (4 + 46 * N + 4) (7 * u + v) ≤ M6 (4 + 46 * N + 3) v
      omega
  exact l_loop h1 h0 er_fu 1 M6 _ hW (by omega) (by unfold er_fu; omega) (by unfold er_fu; omega)
