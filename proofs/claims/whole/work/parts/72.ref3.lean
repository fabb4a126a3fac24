/-! the reference's search over sets -/
theorem er_ch_z (f : Nat → Nat) (s j : Nat) : ∀ z, er_ch f s j z ≤ z
  | 0 => Nat.le_refl _
  | z + 1 => by
    have := er_ch_z f s j z
    unfold er_ch
    split <;> omega
theorem er_mn_z (s : Nat) : ∀ z, er_mn s z ≤ z
  | 0 => Nat.le_refl _
  | z + 1 => by
    have := er_mn_z s z
    unfold er_mn
    split <;> omega
/-- a set of places does it -/
def er_sd (n F w s x : Int) (S : er_Me) (st : Nat) : Prop := er_mn st (S 10 (9 * w + s)).toNat = (n - F).toNat ∧ er_do n F ((s + 1) % 3) x (er_ch (er_rv w s (S 7) (S 9)) st 0 (S 10 (9 * w + s)).toNat) (er_ch (er_rv w s (S 7) (S 9)) st 1 (S 10 (9 * w + s)).toNat) (er_ch (er_rv w s (S 7) (S 9)) st 2 (S 10 (9 * w + s)).toNat) (er_ch (er_rv w s (S 7) (S 9)) st 3 (S 10 (9 * w + s)).toNat)
set_option maxHeartbeats 1000000 in
/-- the end of setDoes: the counts decide -/
theorem r_sdEnd {n F R w s x a b d e : Int} {T M S : er_Me} {self : Int → Int → Int → Int → Int → Int → Int → er_Me → Option (Int × er_Me)} {c0 c1 c2 c3 mn : Nat} {set : Int} (h : er_RV n F R T M S) (hw : 0 ≤ w ∧ w < 7) (hs : 0 ≤ s ∧ s < 8) (hx : 0 ≤ x ∧ x < 4) (hx2 : (s + 1) % 3 ≠ 2 → x < 2) (h0 : M (R + 16) 0 = c0) (h1 : M (R + 16) 1 = c1) (h2 : M (R + 16) 2 = c2) (h3 : M (R + 16) 3 = c3) (hb : c0 ≤ 7 ∧ c1 ≤ 7 ∧ c2 ≤ 7 ∧ c3 ≤ 7) (hmn : mn ≤ 7) {k : Int} (hk : S 10 (9 * w + s) ≤ k) : ∃ v, f_Mo_setDoes_29_b self R w s set x (mn : Int) k T M = some (v, M) ∧ er_bv v (mn = (n - F).toNat ∧ er_do n F ((s + 1) % 3) x c0 c1 c2 c3) := by
  obtain ⟨g1, ⟨g2, g2b, q1, q2, q3⟩, g3⟩ := h
  have ha := g1.1
  have m0 := g1.2.1
  obtain ⟨a10, b10, c10⟩ := mo10 g1
  obtain ⟨a16, b16, c16⟩ := mo16 g1
  clear g1
  have e10 := g3 10 (by omega) (by omega)
  have i1 : er_add (er_mul 9 w) s = 9 * w + s := by rw [er_mulE (by constructor <;> omega), er_addE (by constructor <;> omega)]
  have i2 : er_rem (er_add s 1) 3 = (s + 1) % 3 := by rw [er_addE (by constructor <;> omega), er_remE (by omega) (by omega) (by omega) (by omega)]
  have i3 : er_sub n F = n - F := er_subE (by constructor <;> omega)
  have hsel : ∀ y, 0 ≤ y → y < 4 → M (R + 16) y = er_sel y c0 c1 c2 c3 := fun y y0 y1 => er_selM ⟨y0, y1⟩ h0 h1 h2 h3
  have hselb : ∀ y, 0 ≤ y → y < 4 → 0 ≤ er_sel y c0 c1 c2 c3 ∧ er_sel y c0 c1 c2 c3 ≤ 7 := by
    intro y y0 y1
    unfold er_sel
    constructor <;> (repeat (first | omega | split))
  unfold f_Mo_setDoes_29_b
  dsimp only [er_le]
  rw [a10, c10, i1, i2, if_pos ⟨m0, by omega⟩, if_pos ⟨b10, by omega, by omega⟩]
  simp only [e10, g2, g2b, i3, a16, c16]
  rw [if_pos hk]
  by_cases hm : (mn : Int) = n - F
  · rw [if_pos hm]
    have hm' : mn = (n - F).toNat := by omega
    unfold er_do
    by_cases s1 : (s + 1) % 3 = 1
    · rw [if_pos s1, if_pos s1, if_pos (show 0 < R + 16 by omega), if_pos ⟨b16, hx.1, hx.2⟩, hsel x hx.1 hx.2, er_mulE (by have := hselb x hx.1 hx.2; constructor <;> omega)]
      by_cases d1 : (mn : Int) < 2 * er_sel x c0 c1 c2 c3
      · rw [if_pos d1]
        exact ⟨1, rfl, er_bv.ye ⟨hm', Or.inl (by omega)⟩⟩
      · rw [if_neg d1]
        by_cases d2 : x = 0
        · rw [if_pos d2, if_pos (show (0 : Int) < 4 by decide), h0, er_mulE (by constructor <;> omega)]
          by_cases d3 : 2 * (c0 : Int) = (mn : Int)
          · rw [if_pos d3]
            exact ⟨1, rfl, er_bv.ye ⟨hm', Or.inr ⟨d2, by omega⟩⟩⟩
          · rw [if_neg d3]
            exact ⟨0, rfl, er_bv.no (fun q => by omega)⟩
        · rw [if_neg d2]
          exact ⟨0, rfl, er_bv.no (fun q => by omega)⟩
    · rw [if_neg s1, if_neg s1]
      by_cases s2 : (s + 1) % 3 = 2
      · rw [if_pos s2, if_pos s2]
        by_cases d1 : x ≤ 1
        · rw [if_pos d1, if_pos d1, if_pos (show 0 < R + 16 by omega), if_pos ⟨b16, by decide⟩, h0, h1, er_mulE (by constructor <;> omega), er_mulE (by constructor <;> omega)]
          by_cases d2 : n < 2 * (c0 : Int)
          · rw [if_pos d2]
            exact ⟨0, rfl, er_bv.no (fun q => by omega)⟩
          · rw [if_neg d2, if_pos (show (1 : Int) < 4 by decide)]
            by_cases d3 : n < 2 * (c1 : Int)
            · rw [if_pos d3]
              exact ⟨0, rfl, er_bv.no (fun q => by omega)⟩
            · rw [if_neg d3]
              exact ⟨1, rfl, er_bv.ye ⟨hm', by omega, by omega⟩⟩
        · rw [if_neg d1, if_neg d1, if_pos (show 0 < R + 16 by omega), er_subE (by constructor <;> omega), if_pos ⟨b16, by omega, by omega⟩, hsel (x - 2) (by omega) (by omega), er_mulE (by have := hselb (x - 2) (by omega) (by omega); constructor <;> omega)]
          by_cases d2 : 2 * er_sel (x - 2) c0 c1 c2 c3 ≤ n
          · rw [if_pos d2]
            exact ⟨0, rfl, er_bv.no (fun q => by omega)⟩
          · rw [if_neg d2]
            exact ⟨1, rfl, er_bv.ye ⟨hm', by omega⟩⟩
      · have hx2 := hx2 s2
        rw [if_neg s2, if_neg s2, if_pos (show 0 < R + 16 by omega), er_addE (x := x) (by constructor <;> omega), if_pos ⟨b16, by omega, by omega⟩, hsel (x + 2) (by omega) (by omega), h2, h3]
        by_cases d1 : F < er_sel (x + 2) c0 c1 c2 c3
        · rw [if_pos d1]
          exact ⟨1, rfl, er_bv.ye ⟨hm', Or.inl d1⟩⟩
        · rw [if_neg d1, if_pos (show (2 : Int) < 4 by decide)]
          by_cases d2 : F < (c2 : Int)
          · rw [if_pos d2]
            exact ⟨0, rfl, er_bv.no (fun q => by omega)⟩
          · rw [if_neg d2, if_pos (show (3 : Int) < 4 by decide)]
            by_cases d3 : F < (c3 : Int)
            · rw [if_pos d3]
              exact ⟨0, rfl, er_bv.no (fun q => by omega)⟩
            · rw [if_neg d3]
              exact ⟨1, rfl, er_bv.ye ⟨hm', Or.inr ⟨by omega, by omega⟩⟩⟩
  · rw [if_neg hm]
    exact ⟨0, rfl, er_bv.no (fun q => by omega)⟩
set_option maxHeartbeats 1000000 in
theorem r_sd29 {n F R w s x : Int} {T S : er_Me} {st z : Nat} (hw : 0 ≤ w ∧ w < 7) (hs : 0 ≤ s ∧ s < 8) (hx : 0 ≤ x ∧ x < 4) (hx2 : (s + 1) % 3 ≠ 2 → x < 2) (hst : st < 128) (hz : S 10 (9 * w + s) = (z : Int)) (hz7 : z ≤ 7) (h6 : er_s6 n w s (S 8) (S 10) (S 9) (S 7)) : ∀ (m k : Nat) (M : er_Me), er_RV n F R T M S → k ≤ z → z - k < m → (∀ j : Nat, j < 4 → M (R + 16) (j : Int) = (er_ch (er_rv w s (S 7) (S 9)) st j k : Int)) → ∃ v M', f_Mo_setDoes_29 m T R w s (st : Int) x (er_mn st k : Int) (k : Int) M = some (v, M') ∧ er_bv v (er_sd n F w s x S st) ∧ er_RV n F R T M' S ∧ er_Fm R M M'
  | 0, k, M, _, _, h, _ => by omega
  | m + 1, k, M, h, h0, h1, hc => by
    have ih := r_sd29 (T := T) (R := R) (F := F) hw hs hx hx2 hst hz hz7 h6 m
    show ∃ v M', f_Mo_setDoes_29_b (f_Mo_setDoes_29 m T) R w s (st : Int) x (er_mn st k : Int) (k : Int) T M = some (v, M') ∧ _
    by_cases hk : k = z
    · have hl : ∀ j, er_ch (er_rv w s (S 7) (S 9)) st j k ≤ 7 := fun j => by have := er_ch_z (er_rv w s (S 7) (S 9)) st j k; omega
      have hmn := er_mn_z st k
      obtain ⟨v, v1, v2⟩ := r_sdEnd (self := f_Mo_setDoes_29 m T) (set := (st : Int)) (mn := er_mn st k) (k := (k : Int)) (a := 0) (b := 0) (d := 0) (e := 0) h hw hs hx hx2 (hc 0 (by omega)) (hc 1 (by omega)) (hc 2 (by omega)) (hc 3 (by omega)) ⟨hl 0, hl 1, hl 2, hl 3⟩ (by omega) (by omega)
      refine ⟨v, M, v1, ?_, h, er_Fm.rf R M⟩
      unfold er_sd
      rw [hz]
      rw [hk] at v2
      exact v2
    · have h' := h
      obtain ⟨g1, ⟨g2, g2b, q1, q2, q3⟩, g3⟩ := h
      have ha := g1.1
      have m0 := g1.2.1
      obtain ⟨a7, b7, c7⟩ := mo7 g1
      obtain ⟨a9, b9, c9⟩ := mo9 g1
      obtain ⟨a10, b10, c10⟩ := mo10 g1
      obtain ⟨a16, b16, c16⟩ := mo16 g1
      clear g1
      have e7 := g3 7 (by omega) (by omega)
      have e9 := g3 9 (by omega) (by omega)
      have e10 := g3 10 (by omega) (by omega)
      have i1 : er_add (er_mul 9 w) s = 9 * w + s := by rw [er_mulE (by constructor <;> omega), er_addE (by constructor <;> omega)]
      have i3 : er_add (k : Int) 1 = ((k + 1 : Nat) : Int) := by rw [er_addE (by constructor <;> omega)]; omega
      have hbit := er_bitT st hst k (by omega)
      obtain ⟨d1, d2, d3, d4⟩ := h6.2.1 (k : Int) (by omega) (by omega)
      have hmn := er_mn_z st k
      unfold f_Mo_setDoes_29_b
      dsimp only [er_le]
      rw [a10, c10, i1, i3, if_pos ⟨m0, by omega⟩, if_pos ⟨b10, by omega, by omega⟩]
      simp only [e10]
      rw [if_neg (by omega), hbit]
      by_cases hb : er_bi st k = 1
      · have hv : (((er_rv w s (S 7) (S 9) k : Nat)) : Int) = er_sa w s (S 7) (S 9) (k : Int) - 1 := by unfold er_rv; omega
        have hcz := er_ch_z (er_rv w s (S 7) (S 9)) st (er_rv w s (S 7) (S 9) k) k
        have hM := hc (er_rv w s (S 7) (S 9) k) (by omega)
        rw [if_pos (by omega), a7, a9, c7, c9, a16, c16, if_pos (show 0 < R + 7 by omega), if_pos (show 0 < R + 9 by omega), r_at hw (by omega) (by omega), Option.bind_some]
        dsimp only
        simp only [e9]
        rw [if_pos ⟨b9, by omega, by omega⟩, r_at hw (by omega) (by omega), Option.bind_some]
        dsimp only
        simp only [e7]
        rw [if_pos ⟨b7, by omega, by omega⟩]
        have es : er_sub (S 7 (63 * w + 7 * s + S 9 (63 * w + 7 * s + (k : Int)))) 1 = ((er_rv w s (S 7) (S 9) k : Nat) : Int) := by
          rw [hv]
          exact er_subE (by constructor <;> (unfold er_sa at d2 d3; omega))
        rw [es, if_pos (show 0 < R + 16 by omega), if_pos ⟨b16, by omega, by omega⟩, hM, er_addE (x := ((er_ch (er_rv w s (S 7) (S 9)) st (er_rv w s (S 7) (S 9) k) k : Nat) : Int)) (by constructor <;> omega), er_addE (x := ((er_mn st k : Nat) : Int)) (by constructor <;> omega)]
        have emn : ((er_mn st k : Nat) : Int) + 1 = ((er_mn st (k + 1) : Nat) : Int) := by
          rw [er_mn, if_pos hb]
          omega
        rw [emn]
        obtain ⟨v, M', v1, v2, v3, v4⟩ := ih (k + 1) (er_up M (R + 16) ((er_rv w s (S 7) (S 9) k : Nat) : Int) (((er_ch (er_rv w s (S 7) (S 9)) st (er_rv w s (S 7) (S 9) k) k : Nat) : Int) + 1)) h'.sc (by omega) (by omega) (fun j hj => by
          rw [er_upR]
          by_cases e : j = er_rv w s (S 7) (S 9) k
          · rw [← e, er_f1S, er_ch, if_pos ⟨hb, e.symm⟩]
            omega
          · rw [er_f1N (by omega), hc j hj, er_ch, if_neg (fun q => e q.2.symm)]
            rfl)
        exact ⟨v, M', v1, v2, v3, ((er_Fm.rf R M).up (by omega) (by omega)).tr v4⟩
      · rw [if_neg (by omega)]
        have emn : ((er_mn st k : Nat) : Int) = ((er_mn st (k + 1) : Nat) : Int) := by rw [er_mn, if_neg hb]; rfl
        rw [emn]
        exact ih (k + 1) M h' (by omega) (by omega) (fun j hj => by
          rw [hc j hj, er_ch, if_neg (fun q => hb q.1)]
          rfl)
