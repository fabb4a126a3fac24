/-! the relation between a node's cells (address A, number w) and the reference's arrays S (1 ill, 2 logs, 3 sizes, 4 got, 5 heardSaying, 6 sentReady, 7 accepts, 8 valid, 9 rows, 10 rowSizes, 11 heard, 12 slots, 13 values, 14 decisions, 15 toss) -/
def er_f1 (f : Int → Int) (i v : Int) : Int → Int := fun j => if j = i then v else f j
theorem er_f1S (f : Int → Int) (i v : Int) : er_f1 f i v i = v := if_pos rfl
theorem er_f1N {f : Int → Int} {i v j : Int} (h : j ≠ i) : er_f1 f i v j = f j := if_neg h
theorem er_upR (M : er_Me) (a i v : Int) : er_up M a i v a = er_f1 (M a) i v := by
  funext j
  unfold er_up er_f1
  by_cases h : j = i
  · rw [if_pos ⟨rfl, h⟩, if_pos h]
  · rw [if_neg (fun q => h q.2), if_neg h]
theorem er_upF {M : er_Me} {a i v a' : Int} (h : a' ≠ a) : er_up M a i v a' = M a' := by
  funext j
  exact er_upA h
/-- where 'heard' of node w, sender v, kind k, slot s, speaker p lies -/
abbrev er_h (w v k s p : Int) : Int := 126 * (7 * w + v) + 63 * (k - 1) + 7 * s + p
def er_c1 (w : Int) (m ill toss slot val dec : Int → Int) : Prop := m 0 = w ∧ m 8 = 1 - ill w ∧ m 9 = toss w ∧ m 10 = slot w ∧ (m 11 = if slot w < 0 then -1 else val w) ∧ m 12 = dec w
def er_c3 (w : Int) (m : Int → Int) (z : Int) (l : Int → Int) : Prop := ∀ k, 0 ≤ k → k < z → m k = l (140 * w + k)
def er_c4 (n w : Int) (m hs : Int → Int) : Prop := ∀ s p, 0 ≤ s → s < 9 → 0 ≤ p → p < n → ∃ b : Nat, b < 128 ∧ m (7 * s + p) = b ∧ (er_bi b p.toNat : Int) = hs (63 * w + 7 * s + p)
def er_c4b (n w : Int) (m hd : Int → Int) : Prop := ∀ k s p, 1 ≤ k → k < 3 → 0 ≤ s → s < 9 → 0 ≤ p → p < n → ∃ b : Nat, b < 128 ∧ m (63 * k + (7 * s + p)) = b ∧ ∀ v, 0 ≤ v → v < n → (er_bi b v.toNat = 0 ↔ hd (er_h w v k s p) = 0)
/-- how many senders said x -/
def er_vt (n w k s p x : Int) (hd : Int → Int) : Nat := er_sm (fun v => if hd (er_h w (v : Int) k s p) = x + 1 then 1 else 0) n.toNat
def er_c5 (n w : Int) (m hd : Int → Int) : Prop := ∀ k s p x, 1 ≤ k → k < 3 → 0 ≤ s → s < 9 → 0 ≤ p → p < n → 0 ≤ x → x < 4 → m (4 * (63 * k + (7 * s + p)) + x) = (er_vt n w k s p x hd : Int)
def er_c6 (n w : Int) (m got : Int → Int) : Prop := ∀ v, 0 ≤ v → v < n → m v = got (7 * w + v)
def er_c7 (n w : Int) (m rd : Int → Int) : Prop := ∀ s p, 0 ≤ s → s < 9 → 0 ≤ p → p < n → m (7 * s + p) = rd (63 * w + 7 * s + p)
def er_c8 (n w : Int) (m ac : Int → Int) : Prop := ∀ s p, 0 ≤ s → s < 9 → 0 ≤ p → p < n → m (7 * s + p) = ac (63 * w + 7 * s + p) - 1
/-- what the k-th of a row said, and one more -/
abbrev er_sa (w s : Int) (ac rw : Int → Int) (k : Int) : Int := ac (63 * w + 7 * s + rw (63 * w + 7 * s + k))
def er_rc (w s x : Int) (ac rw : Int → Int) (z : Nat) : Nat := er_sm (fun k => if er_sa w s ac rw (k : Int) = x + 1 then 1 else 0) z
def er_c9 (w A : Int) (M : er_Me) (rz rw ac : Int → Int) : Prop := ∀ s, 0 ≤ s → s < 9 → M (A + 10 + 4 * s) 3 = rz (9 * w + s) ∧ (∀ k, 0 ≤ k → k < rz (9 * w + s) → M (A + 10 + 4 * s + 1) k = rw (63 * w + 7 * s + k) ∧ M (A + 10 + 4 * s + 2) k = er_sa w s ac rw k - 1) ∧ ∀ x, 0 ≤ x → x < 4 → M (A + 10 + 4 * s + 3) x = (er_rc w s x ac rw (rz (9 * w + s)).toNat : Int)
def er_NR (n w A : Int) (M S : er_Me) : Prop := er_c1 w (M A) (S 1) (S 15) (S 12) (S 13) (S 14) ∧ M (A + 1) 1 = S 3 w ∧ er_c3 w (M (A + 2)) (S 3 w) (S 2) ∧ er_c4 n w (M (A + 4)) (S 5) ∧ er_c4b n w (M (A + 4)) (S 11) ∧ er_c5 n w (M (A + 5)) (S 11) ∧ er_c6 n w (M (A + 6)) (S 4) ∧ er_c7 n w (M (A + 7)) (S 6) ∧ er_c8 n w (M (A + 8)) (S 7) ∧ er_c9 w A M (S 10) (S 9) (S 7)
theorem er_c9M {w A : Int} {M M' : er_Me} {rz rw ac : Int → Int} (h : er_c9 w A M rz rw ac) (hM : ∀ a, A + 10 ≤ a → a < A + 46 → M' a = M a) : er_c9 w A M' rz rw ac := by
  intro s h0 h1
  obtain ⟨g1, g2, g3⟩ := h s h0 h1
  rw [hM (A + 10 + 4 * s) (by omega) (by omega), hM (A + 10 + 4 * s + 1) (by omega) (by omega), hM (A + 10 + 4 * s + 2) (by omega) (by omega), hM (A + 10 + 4 * s + 3) (by omega) (by omega)]
  exact ⟨g1, g2, g3⟩
/-! the reference's own steps, as functions of its arrays -/
def g_send (S : er_Me) (w k s p x : Int) : er_Me := er_up (er_up S 2 (140 * w + S 3 w) (1000 * s + 100 * p + 10 * k + x)) 3 w (S 3 w + 1)
def g_sendR (S : er_Me) (w s p x : Int) : er_Me := er_up (g_send S w 2 s p x) 6 (63 * w + 7 * s + p) 1
def g_th (n F k : Int) : Int := if k = 1 then (n + F) / 2 + 1 else F + 1
theorem g_th1 (n F : Int) : g_th n F 1 = (n + F) / 2 + 1 := if_pos rfl
theorem g_th2 (n F : Int) : g_th n F 2 = F + 1 := if_neg (by decide)
def g_rdy (n F : Int) (S : er_Me) (w k s p x : Int) : er_Me := if g_th n F k ≤ (er_vt n w k s p x (S 11) : Int) ∧ S 6 (63 * w + 7 * s + p) = 0 then g_sendR S w s p x else S
def g_acc (n F : Int) (S : er_Me) (w k s p x : Int) : er_Me := if k = 2 ∧ 2 * F + 1 ≤ (er_vt n w k s p x (S 11) : Int) ∧ S 7 (63 * w + 7 * s + p) = 0 then er_up S 7 (63 * w + 7 * s + p) (x + 1) else S
def g_recv (n F : Int) (S : er_Me) (w v k s p x : Int) : Int × er_Me :=
  if k = 0 then (if v = p ∧ S 5 (63 * w + 7 * s + p) = 0 then (1, g_send (er_up S 5 (63 * w + 7 * s + p) 1) w 1 s p x) else (0, S))
  else if S 11 (er_h w v k s p) = 0 then (1, g_acc n F (g_rdy n F (er_up S 11 (er_h w v k s p) (x + 1)) w k s p x) w k s p x) else (0, S)
theorem g_acc1 (n F : Int) (S : er_Me) (w s p x : Int) : g_acc n F S w 1 s p x = S := if_neg (fun q => absurd q.1 (by decide))
