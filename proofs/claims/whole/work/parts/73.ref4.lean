/-! setDoes, some, can -/
theorem r_sd3 {n F R w s x : Int} {T S : er_Me} {st z : Nat} (hw : 0 ≤ w ∧ w < 7) (hs : 0 ≤ s ∧ s < 8) (hx : 0 ≤ x ∧ x < 4) (hx2 : (s + 1) % 3 ≠ 2 → x < 2) (hst : st < 128) (hz : S 10 (9 * w + s) = (z : Int)) (hz7 : z ≤ 7) (h6 : er_s6 n w s (S 8) (S 10) (S 9) (S 7)) : ∀ (m k : Nat) (M : er_Me), er_RV n F R T M S → k ≤ 4 → 4 - k < m → (∀ j : Nat, j < k → M (R + 16) (j : Int) = 0) → ∃ v M', f_Mo_setDoes_3 m T R w s (st : Int) x (k : Int) M = some (v, M') ∧ er_bv v (er_sd n F w s x S st) ∧ er_RV n F R T M' S ∧ er_Fm R M M'
  | 0, k, M, _, _, h, _ => by omega
  | m + 1, k, M, h, h0, h1, hc => by
    have ih := r_sd3 (T := T) (R := R) (F := F) hw hs hx hx2 hst hz hz7 h6 m
    show ∃ v M', f_Mo_setDoes_3_b (f_Mo_setDoes_3 m T) R w s (st : Int) x (k : Int) T M = some (v, M') ∧ _
    unfold f_Mo_setDoes_3_b
    dsimp only [er_le]
    by_cases hk : k = 4
    · rw [if_pos (by omega)]
      have h29 := r_sd29 (T := T) (R := R) (F := F) hw hs hx hx2 hst hz hz7 h6 er_fu 0 M h (by omega) (by unfold er_fu; omega) (fun j hj => by rw [hc j (by omega)]; rfl)
      exact h29
    · have h' := h
      obtain ⟨g1, g2, g3⟩ := h
      have ha := g1.1
      have m0 := g1.2.1
      obtain ⟨a16, b16, c16⟩ := mo16 g1
      clear g1
      have i3 : er_add (k : Int) 1 = ((k + 1 : Nat) : Int) := by rw [er_addE (by constructor <;> omega)]; omega
      rw [if_neg (by omega), a16, c16, if_pos ⟨m0, by omega⟩, if_pos ⟨b16, by omega, by omega⟩, i3]
      obtain ⟨v, M', v1, v2, v3, v4⟩ := ih (k + 1) (er_up M (R + 16) (k : Int) 0) h'.sc (by omega) (by omega) (fun j hj => by
        rw [er_upR]
        by_cases e : j = k
        · rw [e, er_f1S]
        · rw [er_f1N (by omega)]
          exact hc j (by omega))
      exact ⟨v, M', v1, v2, v3, ((er_Fm.rf R M).up (by omega) (by omega)).tr v4⟩
theorem r_some6 {n F R w s x : Int} {T S : er_Me} {z : Nat} (hw : 0 ≤ w ∧ w < 7) (hs : 0 ≤ s ∧ s < 8) (hx : 0 ≤ x ∧ x < 4) (hx2 : (s + 1) % 3 ≠ 2 → x < 2) (hz : S 10 (9 * w + s) = (z : Int)) (hz7 : z ≤ 7) (h6 : er_s6 n w s (S 8) (S 10) (S 9) (S 7)) : ∀ (m st : Nat) (fd : Int) (M : er_Me) (P : Prop), er_RV n F R T M S → er_bv fd P → st ≤ 2 ^ z → 2 ^ z - st < m → ∃ v M', f_Mo_some_6 m T R w s x fd (st : Int) M = some (v, M') ∧ er_bv v (P ∨ ∃ t, st ≤ t ∧ t < 2 ^ z ∧ er_sd n F w s x S t) ∧ er_RV n F R T M' S ∧ er_Fm R M M'
  | 0, st, fd, M, P, _, _, _, h => by omega
  | m + 1, st, fd, M, P, h, hP, h0, h1 => by
    have ih := r_some6 (T := T) (R := R) (F := F) hw hs hx hx2 hz hz7 h6 m
    have h' := h
    have hp2 : 2 ^ z ≤ 128 := Nat.pow_le_pow_right (n := 2) (by omega) hz7
    obtain ⟨g1, g2, g3⟩ := h
    have ha := g1.1
    have m0 := g1.2.1
    obtain ⟨a10, b10, c10⟩ := mo10 g1
    clear g1
    have e10 := g3 10 (by omega) (by omega)
    have i1 : er_add (er_mul 9 w) s = 9 * w + s := by rw [er_mulE (by constructor <;> omega), er_addE (by constructor <;> omega)]
    have i3 : er_add (st : Int) 1 = ((st + 1 : Nat) : Int) := by rw [er_addE (by constructor <;> omega)]; omega
    have hsh := er_shlT z (by omega)
    show ∃ v M', f_Mo_some_6_b (f_Mo_some_6 m T) R w s x fd (st : Int) T M = some (v, M') ∧ _
    unfold f_Mo_some_6_b
    dsimp only [er_le]
    rw [a10, c10, i1, i3, if_pos ⟨m0, by omega⟩, if_pos ⟨b10, by omega, by omega⟩]
    simp only [e10, hz, hsh]
    by_cases hk : 2 ^ z ≤ st
    · rw [if_pos (by omega), if_pos hP.1]
      refine ⟨fd, M, rfl, ⟨hP.1, hP.2.trans ⟨Or.inl, ?_⟩⟩, h', er_Fm.rf R M⟩
      rintro (q | ⟨t, t0, t1, -⟩)
      · exact q
      · omega
    · rw [if_neg (by omega)]
      have wid : ∀ (Q : Prop), (Q ↔ P ∨ er_sd n F w s x S st) → ∀ v, er_bv v (Q ∨ ∃ t, st + 1 ≤ t ∧ t < 2 ^ z ∧ er_sd n F w s x S t) → er_bv v (P ∨ ∃ t, st ≤ t ∧ t < 2 ^ z ∧ er_sd n F w s x S t) := by
        intro Q hQ v hv
        refine ⟨hv.1, hv.2.trans ⟨?_, ?_⟩⟩
        · rintro (q | ⟨t, t0, t1, t2⟩)
          · rcases hQ.mp q with q | q
            · exact Or.inl q
            · exact Or.inr ⟨st, Nat.le_refl _, by omega, q⟩
          · exact Or.inr ⟨t, by omega, t1, t2⟩
        · rintro (q | ⟨t, t0, t1, t2⟩)
          · exact Or.inl (hQ.mpr (Or.inl q))
          · by_cases e : t = st
            · rw [e] at t2
              exact Or.inl (hQ.mpr (Or.inr t2))
            · exact Or.inr ⟨t, by omega, t1, t2⟩
      by_cases hf : fd = 0
      · have hnP : ¬ P := fun q => by have := hP.2.mpr q; omega
        obtain ⟨v, M1, v1, v2, v3, v4⟩ := r_sd3 (T := T) (R := R) (F := F) (st := st) hw hs hx hx2 (by omega) hz hz7 h6 er_fu 0 M h' (by omega) (by unfold er_fu; omega) (fun j hj => by omega)
        have v1 : f_Mo_setDoes R w s (st : Int) x T M = some (v, M1) := v1
        rw [if_pos hf, v1, Option.bind_some]
        dsimp only
        by_cases hv : v = 0
        · rw [if_pos hv]
          obtain ⟨u, M2, u1, u2, u3, u4⟩ := ih (st + 1) 0 M1 False v3 (er_bv.no (fun q => q)) (by omega) (by omega)
          exact ⟨u, M2, u1, wid False ⟨fun q => q.elim, fun q => by
            rcases q with q | q
            · exact hnP q
            · have := v2.2.mpr q
              omega⟩ u u2, u3, v4.tr u4⟩
        · rw [if_neg hv]
          obtain ⟨u, M2, u1, u2, u3, u4⟩ := ih (st + 1) 1 M1 True v3 (er_bv.ye trivial) (by omega) (by omega)
          exact ⟨u, M2, u1, wid True ⟨fun _ => Or.inr (v2.2.mp (by have := v2.1; omega)), fun _ => trivial⟩ u u2, u3, v4.tr u4⟩
      · have hyP : P := hP.2.mp (by have := hP.1; omega)
        rw [if_neg hf]
        obtain ⟨u, M2, u1, u2, u3, u4⟩ := ih (st + 1) 1 M True h' (er_bv.ye trivial) (by omega) (by omega)
        exact ⟨u, M2, u1, wid True ⟨fun _ => Or.inl hyP, fun _ => trivial⟩ u u2, u3, u4⟩
theorem r_some {n F R w s x : Int} {T M S : er_Me} (h : er_RV n F R T M S) (hI : er_SI n w S) (hw : 0 ≤ w ∧ w < 7) (hs : 0 ≤ s ∧ s < 8) (hx : 0 ≤ x ∧ x < 4) (hx2 : (s + 1) % 3 ≠ 2 → x < 2) : ∃ v M', f_Mo_some R w s x T M = some (v, M') ∧ er_bv v (er_so n F ((s + 1) % 3) x (er_cs w s S 0) (er_cs w s S 1) (er_cs w s S 2) (er_cs w s S 3)) ∧ er_RV n F R T M' S ∧ er_Fm R M M' := by
  have h6 := hI.2.2.2.2.2 s hs.1 (by omega)
  have h8 := er_f8_le (w := w) (s := s) (f := S 8) (fun p p0 p1 => by
    have := (hI.2.2.1 (7 * s + p) (by omega) (by omega)).2.2
    rw [← Int.add_assoc] at this
    exact this)
  have hz := h6.1
  obtain ⟨z, hze⟩ : ∃ z : Nat, S 10 (9 * w + s) = (z : Int) := ⟨_, hz⟩
  have hz7 : z ≤ 7 := by omega
  have hp2 : 2 ^ z ≤ 128 := Nat.pow_le_pow_right (n := 2) (by omega) hz7
  obtain ⟨v, M', v1, v2, v3, v4⟩ := r_some6 (T := T) (R := R) (F := F) hw hs hx hx2 hze hz7 h6 er_fu 0 0 M False h (er_bv.no (fun q => q)) (Nat.zero_le _) (by unfold er_fu; omega)
  refine ⟨v, M', v1, ⟨v2.1, v2.2.trans ?_⟩, v3, v4⟩
  have h4 := er_set4 (er_rv w s (S 7) (S 9)) z (n - F).toNat (fun k hk => by
    have := h6.2.1 (k : Int) (by omega) (by omega)
    unfold er_rv
    omega) (er_do n F ((s + 1) % 3) x)
  unfold er_sd er_so er_cs
  rw [hze]
  constructor
  · rintro (q | ⟨t, -, t1, t2⟩)
    · exact q.elim
    · exact h4.mp ⟨t, t1, t2⟩
  · intro q
    obtain ⟨t, t1, t2⟩ := h4.mpr q
    exact Or.inr ⟨t, Nat.zero_le _, t1, t2⟩
theorem r_can110 {n F R w s p x y : Int} {T M S : er_Me} {P : Prop} (h : er_RV n F R T M S) (hI : er_SI n w S) (hw : 0 ≤ w ∧ w < 7) (hs : 0 < s ∧ s < 9) (hx : 0 ≤ x ∧ x < 4) (hs2 : s % 3 = 2) (hy : er_bv y P) : ∃ v M', f_Mo_can_110 T R w s p x y M = some (v, M') ∧ er_bv v (P ∧ er_so n F 2 x (er_cs w (s - 1) S 0) (er_cs w (s - 1) S 1) (er_cs w (s - 1) S 2) (er_cs w (s - 1) S 3)) ∧ er_RV n F R T M' S ∧ er_Fm R M M' := by
  unfold f_Mo_can_110
  by_cases h0 : y = 0
  · rw [if_pos h0]
    exact ⟨0, M, rfl, er_bv.no (fun q => by have := hy.2.mpr q.1; omega), h, er_Fm.rf R M⟩
  · obtain ⟨v, M', v1, v2, v3, v4⟩ := r_some (s := s - 1) (x := x) h hI hw (by omega) hx (fun q => by omega)
    rw [if_neg h0, if_pos h.1.2.1, er_subE (by constructor <;> omega), v1, Option.bind_some]
    dsimp only
    rw [show (s - 1 + 1) % 3 = 2 by omega] at v2
    have hyP := hy.2.mp (by have := hy.1; omega)
    by_cases hv : v = 0
    · rw [if_pos hv]
      exact ⟨0, M', rfl, er_bv.no (fun q => by have := v2.2.mpr q.2; omega), v3, v4⟩
    · rw [if_neg hv]
      exact ⟨1, M', rfl, er_bv.ye ⟨hyP, v2.2.mp (by have := v2.1; omega)⟩, v3, v4⟩
set_option maxHeartbeats 1000000 in
theorem r_can {n F R w s p : Int} {T M S : er_Me} (h : er_RV n F R T M S) (hI : er_SI n w S) (hw : 0 ≤ w ∧ w < 7) (hs : 0 ≤ s ∧ s < 9) (hp : 0 ≤ p ∧ p < n) (hac : 0 < S 7 (63 * w + 7 * s + p)) : ∃ v M', f_Mo_can R w s p T M = some (v, M') ∧ er_bv v (er_can n F S w s p) ∧ er_RV n F R T M' S ∧ er_Fm R M M' := by
  have h' := h
  obtain ⟨g1, ⟨g2, g2b, q1, q2, q3⟩, g3⟩ := h
  have ha := g1.1
  have m0 := g1.2.1
  obtain ⟨a7, b7, c7⟩ := mo7 g1
  obtain ⟨a8, b8, c8⟩ := mo8 g1
  clear g1
  have e7 := g3 7 (by omega) (by omega)
  have e8 := g3 8 (by omega) (by omega)
  have hb := hI.2.2.2.1 (7 * s + p) (by omega) (by omega)
  rw [← Int.add_assoc] at hb
  have i3 : er_rem s 3 = s % 3 := er_remE (by omega) (by omega) (by omega) (by omega)
  unfold f_Mo_can er_can
  rw [a7, a8, c7, c8, i3, if_pos ⟨m0, by omega⟩, r_at hw hs (by omega), Option.bind_some]
  dsimp only [er_le]
  simp only [e7]
  rw [if_pos ⟨b7, by omega, by omega⟩, er_subE (x := S 7 (63 * w + 7 * s + p)) (by constructor <;> omega)]
  generalize hxx : S 7 (63 * w + 7 * s + p) - 1 = x at *
  by_cases s0 : s = 0
  · rw [if_pos s0, if_pos s0]
    by_cases hx : 2 ≤ x
    · rw [if_pos hx]
      exact ⟨0, M, rfl, er_bv.no (fun q => by omega), h', er_Fm.rf R M⟩
    · rw [if_neg hx]
      exact ⟨1, M, rfl, er_bv.ye (by omega), h', er_Fm.rf R M⟩
  · rw [if_neg s0, if_neg s0]
    by_cases s2 : s % 3 = 2
    · rw [if_pos s2, if_pos s2]
      by_cases hx : 1 < x
      · rw [if_pos hx]
        exact r_can110 (P := 1 < x ∨ S 8 (63 * w + 7 * (s - 1) + p) = 1 ∧ S 7 (63 * w + 7 * (s - 1) + p) = S 7 (63 * w + 7 * s + p)) h' hI hw (by omega) (by omega) s2 (er_bv.ye (Or.inl hx))
      · have h8f := (hI.2.2.1 (7 * (s - 1) + p) (by omega) (by omega)).2.2
        rw [← Int.add_assoc] at h8f
        rw [if_neg hx, if_pos (show 0 < R + 8 by omega), er_subE (x := s) (by constructor <;> omega), r_at hw (by omega) (by omega), Option.bind_some]
        dsimp only
        simp only [e8, e7]
        rw [if_pos ⟨b8, by omega, by omega⟩]
        by_cases hv : S 8 (63 * w + 7 * (s - 1) + p) = 0
        · rw [if_pos hv]
          exact r_can110 (P := 1 < x ∨ S 8 (63 * w + 7 * (s - 1) + p) = 1 ∧ S 7 (63 * w + 7 * (s - 1) + p) = S 7 (63 * w + 7 * s + p)) h' hI hw (by omega) (by omega) s2 (er_bv.no (fun q => by omega))
        · rw [if_neg hv, r_at hw (by omega) (by omega), Option.bind_some]
          dsimp only
          simp only [e7]
          rw [if_pos (by omega), er_addE (x := x) (by constructor <;> omega)]
          by_cases hq : S 7 (63 * w + 7 * (s - 1) + p) = x + 1
          · rw [if_pos hq]
            exact r_can110 (P := 1 < x ∨ S 8 (63 * w + 7 * (s - 1) + p) = 1 ∧ S 7 (63 * w + 7 * (s - 1) + p) = S 7 (63 * w + 7 * s + p)) h' hI hw (by omega) (by omega) s2 (er_bv.ye (Or.inr ⟨by omega, by omega⟩))
          · rw [if_neg hq]
            exact r_can110 (P := 1 < x ∨ S 8 (63 * w + 7 * (s - 1) + p) = 1 ∧ S 7 (63 * w + 7 * (s - 1) + p) = S 7 (63 * w + 7 * s + p)) h' hI hw (by omega) (by omega) s2 (er_bv.no (fun q => by omega))
    · rw [if_neg s2, if_neg s2]
      by_cases hx : 2 ≤ x
      · rw [if_pos hx]
        exact ⟨0, M, rfl, er_bv.no (fun q => by omega), h', er_Fm.rf R M⟩
      · obtain ⟨v, M', v1, v2, v3, v4⟩ := r_some (s := s - 1) (x := x) h' hI hw (by omega) (by omega) (fun q => by omega)
        rw [if_neg hx, er_subE (x := s) (by constructor <;> omega), v1, Option.bind_some]
        dsimp only
        rw [show s - 1 + 1 = s by omega] at v2
        by_cases hv : v = 0
        · rw [if_pos hv]
          exact ⟨0, M', rfl, er_bv.no (fun q => by have := v2.2.mpr q.2; omega), v3, v4⟩
        · rw [if_neg hv]
          exact ⟨1, M', rfl, er_bv.ye ⟨by omega, v2.2.mp (by have := v2.1; omega)⟩, v3, v4⟩
