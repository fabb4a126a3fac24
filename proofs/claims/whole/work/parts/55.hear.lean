/-! hearing a message keeps the relation -/
def er_Fr (A : Int) (M M' : er_Me) : Prop := ∀ a, a < A ∨ A + 46 ≤ a → M' a = M a
theorem er_Fr.rf (A : Int) (M : er_Me) : er_Fr A M M := fun _ _ => rfl
theorem er_Fr.tr {A : Int} {M M1 M2 : er_Me} (h : er_Fr A M M1) (g : er_Fr A M1 M2) : er_Fr A M M2 := fun a ha => (g a ha).trans (h a ha)
theorem er_Fr.up {A : Int} {M M1 : er_Me} {a i v : Int} (h : er_Fr A M M1) (h1 : A ≤ a) (h2 : a < A + 46) : er_Fr A M (er_up M1 a i v) := fun b hb => (er_upF (by omega)).trans (h b hb)
theorem er_Fr.ap {A : Int} {M M1 : er_Me} {c : Int} (h : er_Fr A M M1) : er_Fr A M (er_ap M1 A c) := (h.up (a := A + 2) (by omega) (by omega)).up (a := A + 1) (by omega) (by omega)
theorem er_Fr.Rl {A : Int} {T M M1 : er_Me} {n F : Int} (h : er_Fr A M M1) (hA : 3 < A) (hr : er_Rl T M 2 n F) : er_Rl T M1 2 n F := by
  unfold er_Rl at hr ⊢
  rw [h 2 (by omega)]
  exact hr
theorem er_bitU : ∀ b : Nat, b < 128 → ∀ v : Nat, v < 7 → er_bi b v = 0 → b + 2 ^ v < 128 ∧ ∀ u : Nat, u < 7 → er_bi (b + 2 ^ v) u = if u = v then 1 else er_bi b u := by decide +kernel
theorem er_bi01 (b v : Nat) : er_bi b v = 0 ∨ er_bi b v = 1 := by unfold er_bi; omega
theorem er_vt_le (n w k s p x : Int) (hd : Int → Int) : er_vt n w k s p x hd ≤ n.toNat := er_sm_le _ _ (fun v _ => by by_cases h : hd (er_h w (v : Int) k s p) = x + 1 <;> simp [h])
theorem er_vt_same {n w v k s p x y k' s' p' : Int} {hd : Int → Int} (hn : n ≤ 7) (hv : 0 ≤ v ∧ v < 7) (hk : 1 ≤ k ∧ k < 3) (hs : 0 ≤ s ∧ s < 9) (hp : 0 ≤ p ∧ p < 7) (hk' : 1 ≤ k' ∧ k' < 3) (hs' : 0 ≤ s' ∧ s' < 9) (hp' : 0 ≤ p' ∧ p' < 7) (hne : ¬ (k' = k ∧ s' = s ∧ p' = p)) : er_vt n w k' s' p' x (er_f1 hd (er_h w v k s p) y) = er_vt n w k' s' p' x hd := by
  unfold er_vt
  apply er_sm_congr
  intro u hu
  rw [er_f1N (by unfold er_h; omega)]
theorem er_vt_up {n w v k s p x x0 : Int} {hd : Int → Int} (hn : n ≤ 7) (hv : 0 ≤ v ∧ v < n) (hx : 0 ≤ x) (h0 : hd (er_h w v k s p) = 0) : er_vt n w k s p x (er_f1 hd (er_h w v k s p) (x0 + 1)) = er_vt n w k s p x hd + (if x = x0 then 1 else 0) := by
  unfold er_vt
  have ev : ((v.toNat : Nat) : Int) = v := by omega
  have h := er_sm_up (f := fun u : Nat => if hd (er_h w (u : Int) k s p) = x + 1 then 1 else 0) (g := fun u : Nat => if er_f1 hd (er_h w v k s p) (x0 + 1) (er_h w (u : Int) k s p) = x + 1 then 1 else 0) (k := v.toNat) n.toNat (by omega) (fun j hj hne => by
    show (if er_f1 hd (er_h w v k s p) (x0 + 1) (er_h w (j : Int) k s p) = x + 1 then 1 else 0) = _
    rw [er_f1N (by unfold er_h; omega)])
  simp only [ev, er_f1S, h0] at h
  rw [if_neg (show ¬ (0 : Int) = x + 1 by omega)] at h
  by_cases hx2 : x = x0
  · rw [if_pos hx2]
    rw [if_pos (show x0 + 1 = x + 1 by omega)] at h
    omega
  · rw [if_neg hx2]
    rw [if_neg (show ¬ x0 + 1 = x + 1 by omega)] at h
    omega
section ERR
variable {n w A : Int} {M S : er_Me}
theorem nr_append {k s p x : Int} (h : er_NR n w A M S) : er_NR n w A (er_ap M A (1000 * s + 100 * p + 10 * k + x)) (g_send S w k s p x) := by
  obtain ⟨c1, c2, c3, c4, c4b, c5, c6, c7, c8, c9⟩ := h
  unfold er_NR er_ap g_send
  rw [er_upR _ (A + 1), er_upR _ 3]
  simp (disch := omega) only [er_upF, er_upR]
  refine ⟨c1, ?_, ?_, c4, c4b, c5, c6, c7, c8, er_c9M c9 (fun a h1 h2 => by rw [er_upF (by omega), er_upF (by omega)])⟩
  · rw [er_f1S, er_f1S, c2]
  · rw [er_f1S, c2]
    intro j h0 h1
    by_cases hj : j = S 3 w
    · rw [hj, er_f1S, er_f1S]
    · rw [er_f1N hj, er_f1N (by omega)]
      exact c3 j h0 (by omega)
theorem nr_ready {s p : Int} (hs : 0 ≤ s ∧ s < 9) (hp : 0 ≤ p ∧ p < 7) (hn : n ≤ 7) (h : er_NR n w A M S) : er_NR n w A (er_up M (A + 7) (7 * s + p) 1) (er_up S 6 (63 * w + 7 * s + p) 1) := by
  obtain ⟨c1, c2, c3, c4, c4b, c5, c6, c7, c8, c9⟩ := h
  unfold er_NR
  simp (disch := omega) only [er_upF, er_upR]
  refine ⟨c1, c2, c3, c4, c4b, c5, c6, ?_, c8, er_c9M c9 (fun a h1 h2 => er_upF (by omega))⟩
  intro s' p' h1 h2 h3 h4
  by_cases e : 7 * s' + p' = 7 * s + p
  · rw [e, er_f1S, show 63 * w + 7 * s' + p' = 63 * w + 7 * s + p by omega, er_f1S]
  · rw [er_f1N e, er_f1N (by omega)]
    exact c7 s' p' h1 h2 h3 h4
theorem nr_take {s p x : Int} (hs : 0 ≤ s ∧ s < 9) (hp : 0 ≤ p ∧ p < 7) (hn : n ≤ 7) (h : er_NR n w A M S) (h0 : S 7 (63 * w + 7 * s + p) = 0) (hrow : ∀ s k, 0 ≤ s → s < 9 → 0 ≤ k → k < S 10 (9 * w + s) → er_sa w s (S 7) (S 9) k ≠ 0) : er_NR n w A (er_up M (A + 8) (7 * s + p) x) (er_up S 7 (63 * w + 7 * s + p) (x + 1)) := by
  obtain ⟨c1, c2, c3, c4, c4b, c5, c6, c7, c8, c9⟩ := h
  unfold er_NR
  simp (disch := omega) only [er_upF, er_upR]
  have key : ∀ s' k, 0 ≤ s' → s' < 9 → 0 ≤ k → k < S 10 (9 * w + s') → er_sa w s' (er_f1 (S 7) (63 * w + 7 * s + p) (x + 1)) (S 9) k = er_sa w s' (S 7) (S 9) k := by
    intro s' k g0 g1 g2 g3
    have := hrow s' k g0 g1 g2 g3
    unfold er_sa at this ⊢
    rw [er_f1N (fun e => this (by rw [e]; exact h0))]
  refine ⟨c1, c2, c3, c4, c4b, c5, c6, c7, ?_, er_c9M (M := M) ?_ (fun a h1 h2 => er_upF (by omega))⟩
  · intro s' p' h1 h2 h3 h4
    by_cases e : 7 * s' + p' = 7 * s + p
    · rw [e, er_f1S, show 63 * w + 7 * s' + p' = 63 * w + 7 * s + p by omega, er_f1S]
      omega
    · rw [er_f1N e, er_f1N (by omega)]
      exact c8 s' p' h1 h2 h3 h4
  · intro s' g0 g1
    obtain ⟨d1, d2, d3⟩ := c9 s' g0 g1
    refine ⟨d1, fun k q0 q1 => ?_, fun y q0 q1 => ?_⟩
    · rw [key s' k g0 g1 q0 q1]
      exact d2 k q0 q1
    · rw [d3 y q0 q1]
      congr 1
      unfold er_rc
      apply er_sm_congr
      intro j hj
      rw [key s' (j : Int) g0 g1 (by omega) (by omega)]
theorem nr_count0 {s p x b : Int} {bn : Nat} {y : Int} (hs : 0 ≤ s ∧ s < 9) (hp : 0 ≤ p ∧ p < n) (hx : 0 ≤ x ∧ x < 4) (hn : n ≤ 7) (h : er_NR n w A M S) (hb : bn < 128) (e : M (A + 4) (7 * s + p) = bn) (hz : er_bi bn p.toNat = 0) : er_NR n w A (er_up (er_up M (A + 4) (7 * s + p) ((bn + 2 ^ p.toNat : Nat) : Int)) (A + 5) (4 * (7 * s + p) + x) y) (er_up S 5 (63 * w + 7 * s + p) 1) := by
  obtain ⟨c1, c2, c3, c4, c4b, c5, c6, c7, c8, c9⟩ := h
  unfold er_NR
  simp (disch := omega) only [er_upF, er_upR]
  obtain ⟨b1, b2⟩ := er_bitU bn hb p.toNat (by omega) hz
  refine ⟨c1, c2, c3, ?_, ?_, ?_, c6, c7, c8, er_c9M c9 (fun a h1 h2 => by rw [er_upF (by omega), er_upF (by omega)])⟩
  · intro s' p' h1 h2 h3 h4
    by_cases q : 7 * s' + p' = 7 * s + p
    · refine ⟨_, b1, by rw [q, er_f1S], ?_⟩
      rw [show 63 * w + 7 * s' + p' = 63 * w + 7 * s + p by omega, er_f1S, show p' = p by omega, b2 _ (by omega), if_pos rfl]
      rfl
    · rw [er_f1N q, er_f1N (by omega)]
      exact c4 s' p' h1 h2 h3 h4
  · intro k' s' p' k1 k2 h1 h2 h3 h4
    rw [er_f1N (by omega)]
    exact c4b k' s' p' k1 k2 h1 h2 h3 h4
  · intro k' s' p' x' k1 k2 h1 h2 h3 h4 h5 h6
    rw [er_f1N (by omega)]
    exact c5 k' s' p' x' k1 k2 h1 h2 h3 h4 h5 h6
theorem nr_count {v k s p x : Int} {bn : Nat} (hv : 0 ≤ v ∧ v < n) (hk : 1 ≤ k ∧ k < 3) (hs : 0 ≤ s ∧ s < 9) (hp : 0 ≤ p ∧ p < n) (hx : 0 ≤ x ∧ x < 4) (hn : n ≤ 7) (h : er_NR n w A M S) (hb : bn < 128) (e : M (A + 4) (63 * k + (7 * s + p)) = bn) (hz : er_bi bn v.toNat = 0) (hbits : ∀ v, 0 ≤ v → v < n → (er_bi bn v.toNat = 0 ↔ S 11 (er_h w v k s p) = 0)) : er_NR n w A (er_up (er_up M (A + 4) (63 * k + (7 * s + p)) ((bn + 2 ^ v.toNat : Nat) : Int)) (A + 5) (4 * (63 * k + (7 * s + p)) + x) ((er_vt n w k s p x (S 11) : Int) + 1)) (er_up S 11 (er_h w v k s p) (x + 1)) := by
  obtain ⟨c1, c2, c3, c4, c4b, c5, c6, c7, c8, c9⟩ := h
  have h0 := (hbits v hv.1 hv.2).mp hz
  unfold er_NR
  simp (disch := omega) only [er_upF, er_upR]
  obtain ⟨b1, b2⟩ := er_bitU bn hb v.toNat (by omega) hz
  refine ⟨c1, c2, c3, ?_, ?_, ?_, c6, c7, c8, er_c9M c9 (fun a h1 h2 => by rw [er_upF (by omega), er_upF (by omega)])⟩
  · intro s' p' h1 h2 h3 h4
    rw [er_f1N (by omega)]
    exact c4 s' p' h1 h2 h3 h4
  · intro k' s' p' k1 k2 h1 h2 h3 h4
    by_cases q : k' = k ∧ s' = s ∧ p' = p
    · obtain ⟨rfl, rfl, rfl⟩ := q
      refine ⟨_, b1, by rw [er_f1S], fun u u1 u2 => ?_⟩
      rw [b2 _ (by omega)]
      by_cases hu : u = v
      · rw [hu, if_pos rfl, er_f1S]
        omega
      · rw [if_neg (by omega), er_f1N (by unfold er_h; omega)]
        exact hbits u u1 u2
    · rw [er_f1N (by omega)]
      obtain ⟨b', g1, g2, g3⟩ := c4b k' s' p' k1 k2 h1 h2 h3 h4
      refine ⟨b', g1, g2, fun u u1 u2 => ?_⟩
      rw [er_f1N (by unfold er_h; omega)]
      exact g3 u u1 u2
  · intro k' s' p' x' k1 k2 h1 h2 h3 h4 h5 h6
    by_cases q : k' = k ∧ s' = s ∧ p' = p
    · obtain ⟨rfl, rfl, rfl⟩ := q
      rw [er_vt_up hn hv h5 h0]
      by_cases hx' : x' = x
      · rw [if_pos hx', hx', er_f1S]
        omega
      · rw [if_neg hx', er_f1N (by omega)]
        exact c5 _ _ _ x' k1 k2 h1 h2 h3 h4 h5 h6
    · rw [er_vt_same hn (by omega) hk hs (by omega) ⟨k1, k2⟩ ⟨h1, h2⟩ (by omega) q, er_f1N (by omega)]
      exact c5 k' s' p' x' k1 k2 h1 h2 h3 h4 h5 h6
end ERR
