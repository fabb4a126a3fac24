/-! Node.hear against the reference's receive -/
theorem g_sendR_eq (S : er_Me) (w s p x : Int) : g_send (er_up S 6 (63 * w + 7 * s + p) 1) w 2 s p x = g_sendR S w s p x := by
  unfold g_sendR g_send
  rw [er_upA (show (3 : Int) ≠ 6 by decide)]
  funext a i
  unfold er_up
  by_cases h6 : a = 6
  · subst h6
    simp
  · simp [h6]
theorem er_pr {A n w : Int} {M S : er_Me} {s p : Int} (h : er_NR n w A M S) (hs : 0 ≤ s ∧ s < 9) (hp : 0 ≤ p ∧ p < n) : M (A + 7) (7 * s + p) = S 6 (63 * w + 7 * s + p) := h.2.2.2.2.2.2.2.1 s p hs.1 hs.2 hp.1 hp.2
set_option maxHeartbeats 1000000 in
theorem h_hear43 {T M S : er_Me} {A n F w v k s p x c : Int} (hN : er_Nd T A) (hA : 3 < A) (hr : er_Rl T M 2 n F) (h : er_NR n w A M S) (hz : 0 ≤ S 3 w) (hzb : S 5 (63 * w + 7 * s + p) = 0 ∨ S 6 (63 * w + 7 * s + p) = 0 → S 3 w < 135) (hrow : ∀ s k, 0 ≤ s → s < 9 → 0 ≤ k → k < S 10 (9 * w + s) → er_sa w s (S 7) (S 9) k ≠ 0) (hac : 0 ≤ S 7 (63 * w + 7 * s + p)) (hv : 0 ≤ v ∧ v < n) (hk : 0 ≤ k ∧ k < 3) (hs : 0 ≤ s ∧ s < 9) (hp : 0 ≤ p ∧ p < n) (hx : 0 ≤ x ∧ x < 4) (hvp : k = 0 → v = p) :
    ∃ M', f_Node_hear_43 T A v c s p k x M = some ((g_recv n F S w v k s p x).1, M') ∧ er_NR n w A M' (g_recv n F S w v k s p x).2 ∧ er_Fr A M M' := by
  have hn : n ≤ 7 := hr.2.2.2.2.2.2.2.1
  have hN' := hN
  obtain ⟨ha, n1, n2, n3, n4, n5, n6, n7, n8, ⟨l1, l2, l3, l4⟩, ⟨t1, t2, t3, t4, t5, t6, t7⟩, -⟩ := hN
  unfold f_Node_hear_43
  rw [n4, n3, if_pos ⟨n1, by omega⟩, p_cellOf hs (by omega), Option.bind_some]
  dsimp only
  rw [if_pos t1]
  by_cases hk0 : k = 0
  · have hvp := hvp hk0
    subst hvp
    subst hk0
    obtain ⟨b, b1, b2, b3⟩ := h.2.2.2.1 s v hs.1 hs.2 hp.1 hp.2
    rw [p_countIn (b := b) t1 t2 (by omega) t4 t5 t3 (by omega) t6 t7 (by omega) (by omega) hk (by omega) hx (by rw [← b2]; congr 1; omega) b1]
    have e0 : (63 : Int) * 0 + (7 * s + v) = 7 * s + v := by omega
    rw [e0]
    unfold g_recv
    rw [if_pos rfl]
    by_cases hb : er_bi b v.toNat = 0
    · have h5 : S 5 (63 * w + 7 * s + v) = 0 := by omega
      have hzz := hzb (Or.inl h5)
      have hnr := nr_count0 (y := er_add (M (A + 5) (4 * (7 * s + v) + x)) 1) (b := 0) hs hp hx hn h b1 b2 hb
      rw [if_pos hb, if_pos ⟨rfl, h5⟩, Option.bind_some]
      dsimp only
      have hsz := hnr.2.1
      rw [er_upA (show (3 : Int) ≠ 5 by decide)] at hsz
      rw [if_neg (by decide), if_pos rfl, if_pos (by omega), p_codeOf (by omega) hs (by omega) hx, Option.bind_some]
      dsimp only
      rw [if_pos l1, q_append hN' (by rw [hsz]; exact hz) (by rw [hsz]; exact hzz), Option.bind_some]
      refine ⟨_, rfl, nr_append (k := 1) hnr, ((er_Fr.rf A M).up (by omega) (by omega)).up (by omega) (by omega) |>.ap⟩
    · have h5 : ¬ S 5 (63 * w + 7 * s + v) = 0 := by omega
      rw [if_neg hb, if_neg (fun q => h5 q.2), Option.bind_some]
      dsimp only
      rw [if_pos rfl]
      exact ⟨_, rfl, h, er_Fr.rf A M⟩
  · obtain ⟨b, b1, b2, b3⟩ := h.2.2.2.2.1 k s p (by omega) hk.2 hs.1 hs.2 hp.1 hp.2
    rw [p_countIn (b := b) t1 t2 (by omega) t4 t5 t3 (by omega) t6 t7 (by omega) (by omega) hk (by omega) hx b2 b1]
    unfold g_recv
    rw [if_neg hk0]
    by_cases hb : er_bi b v.toNat = 0
    · have h11 := (b3 v hv.1 hv.2).mp hb
      have hvt := er_vt_le n w k s p x (S 11)
      have hc5 := h.2.2.2.2.2.1 k s p x (by omega) hk.2 hs.1 hs.2 hp.1 hp.2 hx.1 hx.2
      have hnr := nr_count hv ⟨by omega, hk.2⟩ hs hp hx hn h b1 b2 hb b3
      have hfr : er_Fr A M (er_up (er_up M (A + 4) (63 * k + (7 * s + p)) ((b + 2 ^ v.toNat : Nat) : Int)) (A + 5) (4 * (63 * k + (7 * s + p)) + x) ((er_vt n w k s p x (S 11) : Int) + 1)) := ((er_Fr.rf A M).up (by omega) (by omega)).up (by omega) (by omega)
      rw [if_pos hb, if_pos h11, Option.bind_some]
      dsimp only
      rw [if_neg (by decide), if_neg hk0, hc5, er_addE (by constructor <;> omega)]
      generalize hM1 : er_up (er_up M (A + 4) (63 * k + (7 * s + p)) ((b + 2 ^ v.toNat : Nat) : Int)) (A + 5) (4 * (63 * k + (7 * s + p)) + x) ((er_vt n w k s p x (S 11) : Int) + 1) = M1 at hnr hfr ⊢
      have e3 : er_up S 11 (er_h w v k s p) (x + 1) 3 = S 3 := er_upF (by decide)
      have e6 : er_up S 11 (er_h w v k s p) (x + 1) 6 = S 6 := er_upF (by decide)
      have e7 : er_up S 11 (er_h w v k s p) (x + 1) 7 = S 7 := er_upF (by decide)
      have e9 : er_up S 11 (er_h w v k s p) (x + 1) 9 = S 9 := er_upF (by decide)
      have e10 : er_up S 11 (er_h w v k s p) (x + 1) 10 = S 10 := er_upF (by decide)
      generalize hS1 : er_up S 11 (er_h w v k s p) (x + 1) = S1 at hnr e3 e6 e7 e9 e10 ⊢
      have hr1 := hfr.Rl hA hr
      have hsz := hnr.2.1
      have hrd := er_pr hnr hs hp
      have hvt1 := hnr.2.2.2.2.2.1 k s p x (by omega) hk.2 hs.1 hs.2 hp.1 hp.2 hx.1 hx.2
      have htk := hnr.2.2.2.2.2.2.2.2.1 s p hs.1 hs.2 hp.1 hp.2
      rw [e3] at hsz
      rw [← e6] at hzb
      -- ready: relation behind it
      have hready : ∀ c, (c = (1000 * s + 100 * p + 20 + x)) → er_NR n w A (er_ap (er_up M1 (A + 7) (7 * s + p) 1) A c) (g_sendR S1 w s p x) := by
        intro c hc
        rw [hc, show 1000 * s + 100 * p + 20 + x = 1000 * s + 100 * p + 10 * 2 + x by omega, ← g_sendR_eq]
        exact nr_append (nr_ready hs (by omega) hn hnr)
      have hfr2 : ∀ c, er_Fr A M (er_ap (er_up M1 (A + 7) (7 * s + p) 1) A c) := fun c => (hfr.up (by omega) (by omega)).ap
      by_cases hk1 : k = 1
      · subst hk1
        rw [if_pos rfl, q_hearEcho hN' hr1 hs (by omega) hx (by rw [hsz]; exact hz) (fun q => by rw [hsz]; exact hzb (Or.inr (by rw [← hrd]; exact q))), Option.bind_some]
        have ea : (4 : Int) * (63 + (7 * s + p)) + x = 4 * (63 * 1 + (7 * s + p)) + x := by omega
        rw [ea, hvt1, hrd]
        rw [g_acc1]
        unfold g_rdy
        rw [g_th1]
        by_cases hc : (n + F) / 2 + 1 ≤ (er_vt n w 1 s p x (S1 11) : Int) ∧ S1 6 (63 * w + 7 * s + p) = 0
        · rw [if_pos hc, if_pos hc]
          exact ⟨_, rfl, hready _ rfl, hfr2 _⟩
        · rw [if_neg hc, if_neg hc]
          exact ⟨_, rfl, hnr, hfr⟩
      · have hk2 : k = 2 := by omega
        subst hk2
        rw [if_neg (by decide), q_hearReady hN' hA hr1 hs (by omega) hx (by rw [hsz]; exact hz) (fun q => by rw [hsz]; exact hzb (Or.inr (by rw [← hrd]; exact q))), Option.bind_some]
        have ea : (4 : Int) * (126 + (7 * s + p)) + x = 4 * (63 * 2 + (7 * s + p)) + x := by omega
        rw [ea, hvt1, hrd]
        -- the memories behind 'ready'
        have hmid : ∃ M2 S2, (if F + 1 ≤ (er_vt n w 2 s p x (S1 11) : Int) ∧ S1 6 (63 * w + 7 * s + p) = 0 then er_ap (er_up M1 (A + 7) (7 * s + p) 1) A (1000 * s + 100 * p + 20 + x) else M1) = M2 ∧ g_rdy n F S1 w 2 s p x = S2 ∧ er_NR n w A M2 S2 ∧ er_Fr A M M2 ∧ S2 7 = S1 7 ∧ S2 9 = S1 9 ∧ S2 10 = S1 10 ∧ S2 11 = S1 11 := by
          unfold g_rdy
          rw [g_th2]
          by_cases hc : F + 1 ≤ (er_vt n w 2 s p x (S1 11) : Int) ∧ S1 6 (63 * w + 7 * s + p) = 0
          · rw [if_pos hc, if_pos hc]
            exact ⟨_, _, rfl, rfl, hready _ rfl, hfr2 _, by unfold g_sendR g_send; simp (disch := decide) only [er_upF], by unfold g_sendR g_send; simp (disch := decide) only [er_upF], by unfold g_sendR g_send; simp (disch := decide) only [er_upF], by unfold g_sendR g_send; simp (disch := decide) only [er_upF]⟩
          · rw [if_neg hc, if_neg hc]
            exact ⟨_, _, rfl, rfl, hnr, hfr, rfl, rfl, rfl, rfl⟩
        obtain ⟨M2, S2, hM2, hS2, hnr2, hfr3, d7, d9, d10, d11⟩ := hmid
        rw [hM2, hS2]
        have htk2 := hnr2.2.2.2.2.2.2.2.2.1 s p hs.1 hs.2 hp.1 hp.2
        unfold g_acc er_tk
        rw [d11, htk2]
        by_cases hc : 2 * F + 1 ≤ (er_vt n w 2 s p x (S1 11) : Int) ∧ S2 7 (63 * w + 7 * s + p) = 0
        · rw [if_pos ⟨hc.1, by omega⟩, if_pos ⟨rfl, hc⟩]
          refine ⟨_, rfl, nr_take hs (by omega) hn hnr2 hc.2 ?_, hfr3.up (by omega) (by omega)⟩
          rw [d7, d9, d10, e7, e9, e10]
          exact hrow
        · rw [if_neg (by omega), if_neg (fun q => hc q.2)]
          exact ⟨_, rfl, hnr2, hfr3⟩
    · have h11 : ¬ S 11 (er_h w v k s p) = 0 := fun q => hb ((b3 v hv.1 hv.2).mpr q)
      rw [if_neg hb, if_neg h11, Option.bind_some]
      dsimp only
      rw [if_pos rfl]
      exact ⟨_, rfl, h, er_Fr.rf A M⟩
theorem h_hear {T M S : er_Me} {A n F w v k s p x : Int} (hN : er_Nd T A) (hA : 3 < A) (hr : er_Rl T M 2 n F) (h : er_NR n w A M S) (hz : 0 ≤ S 3 w) (hzb : S 5 (63 * w + 7 * s + p) = 0 ∨ S 6 (63 * w + 7 * s + p) = 0 → S 3 w < 135) (hrow : ∀ s k, 0 ≤ s → s < 9 → 0 ≤ k → k < S 10 (9 * w + s) → er_sa w s (S 7) (S 9) k ≠ 0) (hac : 0 ≤ S 7 (63 * w + 7 * s + p)) (hv : 0 ≤ v ∧ v < n) (hk : 0 ≤ k ∧ k < 3) (hs : 0 ≤ s ∧ s < 9) (hp : 0 ≤ p ∧ p < n) (hx : 0 ≤ x ∧ x < 4) :
    ∃ M', f_Node_hear A v (1000 * s + 100 * p + 10 * k + x) T M = some ((g_recv n F S w v k s p x).1, M') ∧ er_NR n w A M' (g_recv n F S w v k s p x).2 ∧ er_Fr A M M' := by
  have hn : n ≤ 7 := hr.2.2.2.2.2.2.2.1
  generalize hc : 1000 * s + 100 * p + 10 * k + x = c
  have e1 : er_div c 1000 = s := by rw [er_divE (by omega) (by omega) (by omega) (by omega)]; omega
  have e2 : er_rem (er_div c 100) 10 = p := by rw [er_divE (by omega) (by omega) (by omega) (by omega), er_remE (by omega) (by omega) (by omega) (by omega)]; omega
  have e3 : er_rem (er_div c 10) 10 = k := by rw [er_divE (by omega) (by omega) (by omega) (by omega), er_remE (by omega) (by omega) (by omega) (by omega)]; omega
  have e4 : er_rem c 10 = x := by rw [er_remE (by omega) (by omega) (by omega) (by omega)]; omega
  unfold f_Node_hear
  dsimp only [er_le]
  rw [e1, e2, e3, e4]
  by_cases hk0 : k = 0
  · rw [if_pos hk0]
    by_cases hpv : p = v
    · rw [if_pos hpv]
      exact h_hear43 hN hA hr h hz hzb hrow hac hv hk hs hp hx (fun _ => hpv.symm)
    · rw [if_neg hpv]
      unfold g_recv
      rw [if_pos hk0, if_neg (fun q => hpv q.1.symm)]
      exact ⟨_, rfl, h, er_Fr.rf A M⟩
  · rw [if_neg hk0]
    exact h_hear43 hN hA hr h hz hzb hrow hac hv hk hs hp hx (fun q => absurd q hk0)
