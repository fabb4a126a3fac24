/-! what the reference's arrays keep; when a speaker's value becomes valid -/
def er_sp (sl : Int) : Nat := (min (sl + 1) 9).toNat
def er_fl (w : Int) (f : Int → Int) : Nat := er_sm (fun c => (f (63 * w + (c : Int))).toNat) 63
def er_f8 (w s : Int) (f : Int → Int) : Nat := er_sm (fun p => (f (63 * w + 7 * s + (p : Int))).toNat) 7
def er_cd (n c : Int) : Prop := ∃ k s p x : Int, (0 ≤ k ∧ k < 3) ∧ (0 ≤ s ∧ s < 9) ∧ (0 ≤ p ∧ p < n) ∧ (0 ≤ x ∧ x < 4) ∧ c = 1000 * s + 100 * p + 10 * k + x
def er_s6 (n w s : Int) (va rz rw ac : Int → Int) : Prop := rz (9 * w + s) = (er_f8 w s va : Int) ∧ (∀ k, 0 ≤ k → k < rz (9 * w + s) → (0 ≤ rw (63 * w + 7 * s + k) ∧ rw (63 * w + 7 * s + k) < n) ∧ 0 < er_sa w s ac rw k ∧ er_sa w s ac rw k ≤ 4 ∧ (s % 3 ≠ 2 → er_sa w s ac rw k ≤ 2)) ∧ ∀ p, 0 ≤ p → p < n → (va (63 * w + 7 * s + p) = 1 ↔ ∃ k, 0 ≤ k ∧ k < rz (9 * w + s) ∧ rw (63 * w + 7 * s + k) = p)
def er_SI (n w : Int) (S : er_Me) : Prop := S 3 w = ((er_sp (S 12 w) + er_fl w (S 5) + er_fl w (S 6) : Nat) : Int) ∧ (∀ k, 0 ≤ k → k < S 3 w → er_cd n (S 2 (140 * w + k))) ∧ (∀ c, 0 ≤ c → c < 63 → (S 5 (63 * w + c) = 0 ∨ S 5 (63 * w + c) = 1) ∧ (S 6 (63 * w + c) = 0 ∨ S 6 (63 * w + c) = 1) ∧ (S 8 (63 * w + c) = 0 ∨ S 8 (63 * w + c) = 1)) ∧ (∀ c, 0 ≤ c → c < 63 → 0 ≤ S 7 (63 * w + c) ∧ S 7 (63 * w + c) ≤ 4) ∧ (-1 ≤ S 12 w ∧ S 12 w ≤ 9 ∧ 0 ≤ S 13 w ∧ S 13 w ≤ 3 ∧ -1 ≤ S 14 w ∧ S 14 w ≤ 1) ∧ ∀ s, 0 ≤ s → s < 9 → er_s6 n w s (S 8) (S 10) (S 9) (S 7)
/-- the k-th of a row said -/
def er_rv (w s : Int) (ac rw : Int → Int) : Nat → Nat := fun k => (er_sa w s ac rw (k : Int) - 1).toNat
def er_cs (w s : Int) (S : er_Me) (j : Nat) : Nat := er_cn (er_rv w s (S 7) (S 9)) j (S 10 (9 * w + s)).toNat
theorem er_rc_cn {w s : Int} {ac rw : Int → Int} (j : Nat) : ∀ z : Nat, (∀ k : Nat, k < z → 0 < er_sa w s ac rw (k : Int)) → er_rc w s (j : Int) ac rw z = er_cn (er_rv w s ac rw) j z
  | 0, _ => rfl
  | z + 1, h => by
    have h1 := er_rc_cn j z (fun k hk => h k (by omega))
    have h2 := h z (by omega)
    unfold er_rc at h1 ⊢
    unfold er_sm er_cn
    rw [h1]
    congr 1
    unfold er_rv
    by_cases q : er_sa w s ac rw (z : Int) = (j : Int) + 1
    · rw [if_pos q, if_pos (by omega)]
    · rw [if_neg q, if_neg (by omega)]
theorem er_cs_sum {n w s : Int} {S : er_Me} (h : er_s6 n w s (S 8) (S 10) (S 9) (S 7)) : ((er_cs w s S 0 + er_cs w s S 1 + er_cs w s S 2 + er_cs w s S 3 : Nat) : Int) = S 10 (9 * w + s) := by
  unfold er_cs
  rw [er_cn_sum _ _ (fun k hk => by
    have := h.2.1 (k : Int) (by omega) (by omega)
    unfold er_rv
    omega)]
  have := h.1
  omega
theorem er_cs_23 {n w s : Int} {S : er_Me} (h : er_s6 n w s (S 8) (S 10) (S 9) (S 7)) (hs : s % 3 ≠ 2) : er_cs w s S 2 = 0 ∧ er_cs w s S 3 = 0 := by
  have key : ∀ j : Nat, 2 ≤ j → ∀ z : Nat, (z : Int) ≤ S 10 (9 * w + s) → er_cn (er_rv w s (S 7) (S 9)) j z = 0 := by
    intro j hj z
    induction z with
    | zero => intro _; rfl
    | succ z ih =>
      intro hz
      have := h.2.1 (z : Int) (by omega) (by omega)
      have h4 := this.2.2.2 hs
      unfold er_cn
      rw [ih (by omega), if_neg (by unfold er_rv; omega)]
  have h0 := h.1
  exact ⟨key 2 (by omega) _ (by omega), key 3 (by omega) _ (by omega)⟩
theorem er_f8_le {w s : Int} {f : Int → Int} (h : ∀ p, 0 ≤ p → p < 7 → f (63 * w + 7 * s + p) = 0 ∨ f (63 * w + 7 * s + p) = 1) : er_f8 w s f ≤ 7 := er_sm_le _ 7 (fun k hk => by have := h (k : Int) (by omega) (by omega); omega)
/-- when the speaker's value can become valid -/
def er_can (n F : Int) (S : er_Me) (w s p : Int) : Prop :=
  if s = 0 then S 7 (63 * w + 7 * s + p) - 1 < 2
  else if s % 3 = 2 then (1 < S 7 (63 * w + 7 * s + p) - 1 ∨ S 8 (63 * w + 7 * (s - 1) + p) = 1 ∧ S 7 (63 * w + 7 * (s - 1) + p) = S 7 (63 * w + 7 * s + p)) ∧ er_so n F 2 (S 7 (63 * w + 7 * s + p) - 1) (er_cs w (s - 1) S 0) (er_cs w (s - 1) S 1) (er_cs w (s - 1) S 2) (er_cs w (s - 1) S 3)
  else S 7 (63 * w + 7 * s + p) - 1 < 2 ∧ er_so n F (s % 3) (S 7 (63 * w + 7 * s + p) - 1) (er_cs w (s - 1) S 0) (er_cs w (s - 1) S 1) (er_cs w (s - 1) S 2) (er_cs w (s - 1) S 3)
def er_val (n F : Int) (S : er_Me) (w s p : Int) : Prop := 0 < S 7 (63 * w + 7 * s + p) ∧ S 8 (63 * w + 7 * s + p) = 0 ∧ er_can n F S w s p
theorem er_least {P : Nat → Prop} : ∀ (m : Nat), (∃ j, j ≤ m ∧ P j) → ∃ j, P j ∧ j ≤ m ∧ ∀ i, i < j → ¬ P i
  | 0, ⟨j, hj, h⟩ => ⟨0, by rw [show j = 0 by omega] at h; exact h, Nat.le_refl _, fun i hi => by omega⟩
  | m + 1, ⟨j, hj, h⟩ => by
    by_cases h2 : ∃ j, j ≤ m ∧ P j
    · obtain ⟨i, h3, h4, h5⟩ := er_least m h2
      exact ⟨i, h3, by omega, h5⟩
    · refine ⟨j, h, hj, fun i hi hp => h2 ⟨i, by omega, hp⟩⟩
/-- a row of the class beside the reference's -/
theorem er_rowM {n w A s : Int} {M S : er_Me} (h : er_NR n w A M S) (hI : er_SI n w S) (hs : 0 ≤ s ∧ s < 9) : M (A + 10 + 4 * s) 3 = S 10 (9 * w + s) ∧ (0 ≤ S 10 (9 * w + s) ∧ S 10 (9 * w + s) ≤ 7) ∧ (∀ k, 0 ≤ k → k < S 10 (9 * w + s) → M (A + 10 + 4 * s + 1) k = S 9 (63 * w + 7 * s + k) ∧ M (A + 10 + 4 * s + 2) k = er_sa w s (S 7) (S 9) k - 1) ∧ M (A + 10 + 4 * s + 3) 0 = (er_cs w s S 0 : Int) ∧ M (A + 10 + 4 * s + 3) 1 = (er_cs w s S 1 : Int) ∧ M (A + 10 + 4 * s + 3) 2 = (er_cs w s S 2 : Int) ∧ M (A + 10 + 4 * s + 3) 3 = (er_cs w s S 3 : Int) := by
  obtain ⟨d1, d2, d3⟩ := h.2.2.2.2.2.2.2.2.2 s hs.1 hs.2
  have h6 := hI.2.2.2.2.2 s hs.1 hs.2
  have h8 := er_f8_le (w := w) (s := s) (f := S 8) (fun p p0 p1 => by
    have := (hI.2.2.1 (7 * s + p) (by omega) (by omega)).2.2
    rw [← Int.add_assoc] at this
    exact this)
  have hz := h6.1
  have key : ∀ j : Nat, j < 4 → M (A + 10 + 4 * s + 3) (j : Int) = (er_cs w s S j : Int) := by
    intro j hj
    rw [d3 (j : Int) (by omega) (by omega), er_rc_cn j _ (fun k hk => (h6.2.1 (k : Int) (by omega) (by omega)).2.1)]
    rfl
  exact ⟨d1, by omega, d2, key 0 (by omega), key 1 (by omega), key 2 (by omega), key 3 (by omega)⟩
theorem q_holds {T M S : er_Me} {A n w s p : Int} (hN : er_Nd T A) (h : er_NR n w A M S) (hI : er_SI n w S) (hs : 0 ≤ s ∧ s < 9) (hp : 0 ≤ p ∧ p < n) (hn : n ≤ 7) : ∃ v, f_Row_holds (A + 10 + 4 * s) p T M = some (v, M) ∧ (v = 0 ∨ v = 1) ∧ (v = 0 ↔ S 8 (63 * w + 7 * s + p) = 0) := by
  obtain ⟨e1, e2, e3, -⟩ := er_rowM h hI hs
  have hR := (hN.2.2.2.2.2.2.2.2.2.2.2.2.2.2.2 s hs.1 hs.2).2
  have h6 := hI.2.2.2.2.2 s hs.1 hs.2
  have h8 := (hI.2.2.1 (7 * s + p) (by omega) (by omega)).2.2
  rw [← Int.add_assoc] at h8
  have hv := h6.2.2 p hp.1 hp.2
  by_cases hc : S 8 (63 * w + 7 * s + p) = 1
  · obtain ⟨k, k0, k1, k2⟩ := hv.mp hc
    refine ⟨1, p_holds_yes hR (by omega) (j := k) (by omega) (by rw [(e3 k k0 k1).1, k2]) er_fu 0 (by omega) k0 (by unfold er_fu; omega), Or.inr rfl, by omega⟩
  · refine ⟨0, p_holds_no hR (by omega) (fun j j0 j1 q => hc (hv.mpr ⟨j, j0, by omega, by rw [← (e3 j j0 (by omega)).1]; exact q⟩)) er_fu 0 (by omega) (by omega) (by unfold er_fu; omega), Or.inl rfl, by omega⟩
theorem q_holdsWith {T M S : er_Me} {A n w s p x : Int} (hN : er_Nd T A) (h : er_NR n w A M S) (hI : er_SI n w S) (hs : 0 ≤ s ∧ s < 9) (hp : 0 ≤ p ∧ p < n) (hn : n ≤ 7) : ∃ v, f_Row_holdsWith (A + 10 + 4 * s) p x T M = some (v, M) ∧ (v = 0 ∨ v = 1) ∧ (v = 1 ↔ S 8 (63 * w + 7 * s + p) = 1 ∧ S 7 (63 * w + 7 * s + p) = x + 1) := by
  obtain ⟨e1, e2, e3, -⟩ := er_rowM h hI hs
  have hR := (hN.2.2.2.2.2.2.2.2.2.2.2.2.2.2.2 s hs.1 hs.2).2
  have h6 := hI.2.2.2.2.2 s hs.1 hs.2
  have hv := h6.2.2 p hp.1 hp.2
  by_cases hc : S 8 (63 * w + 7 * s + p) = 1
  · obtain ⟨k, k0, k1, k2⟩ := hv.mp hc
    obtain ⟨j, j1, j2, j3⟩ := er_least (P := fun j : Nat => M (A + 10 + 4 * s + 1) (j : Int) = p) k.toNat ⟨k.toNat, Nat.le_refl _, by
      show M (A + 10 + 4 * s + 1) ((k.toNat : Nat) : Int) = p
      rw [Int.toNat_of_nonneg k0, (e3 k k0 k1).1, k2]⟩
    have hj := e3 (j : Int) (by omega) (by omega)
    have hjp : S 9 (63 * w + 7 * s + (j : Int)) = p := by rw [← hj.1]; exact j1
    have hsa : er_sa w s (S 7) (S 9) (j : Int) = S 7 (63 * w + 7 * s + p) := by unfold er_sa; rw [hjp]
    refine ⟨_, p_holdsWith_yes (x := x) hR (by omega) (j := (j : Int)) (by omega) j1 er_fu 0 (by omega) (by omega) (by unfold er_fu; omega) (fun i i0 i1 q => j3 i.toNat (by omega) (by
      show M (A + 10 + 4 * s + 1) ((i.toNat : Nat) : Int) = p
      rw [Int.toNat_of_nonneg i0]
      exact q)), ?_, ?_⟩
    · split
      · exact Or.inr rfl
      · exact Or.inl rfl
    · rw [hj.2, hsa]
      by_cases q : S 7 (63 * w + 7 * s + p) - 1 = x
      · rw [if_pos q]
        exact ⟨fun _ => ⟨hc, by omega⟩, fun _ => rfl⟩
      · rw [if_neg q]
        exact ⟨fun q => absurd q (by decide), fun r => absurd r.2 (by omega)⟩
  · refine ⟨0, p_holdsWith_no (x := x) hR (by omega) (fun j j0 j1 q => hc (hv.mpr ⟨j, j0, by omega, by rw [← (e3 j j0 (by omega)).1]; exact q⟩)) er_fu 0 (by omega) (by omega) (by unfold er_fu; omega), Or.inl rfl, ?_⟩
    exact ⟨fun q => absurd q (by decide), fun r => absurd r.1 hc⟩
