/-! memory: T holds kinds (at -2), lengths (at -1), references (T 0 0: how many cells); M the ints. A cell a of the memory lies at the heap's base + a; 0 is the script. er_nf, er_rf: fields of a class and which are references (part 08) -/
abbrev er_V : Type := Int ⊕ Int
abbrev er_Me : Type := Int → Int → Int
abbrev er_Ba : Type := Nat × Nat × Nat × (Nat → Int32)
abbrev er_X : Type := va_G × (Nat → ClassId) × er_Ba
abbrev er_rg (x : Int) : Prop := -2147483648 ≤ x ∧ x < 2147483648
def er_ok (v : er_V) : Prop := match v with
  | .inl x => er_rg x
  | .inr _ => True
def er_ad (X : er_X) (a : Int) : Nat := if a = 0 then X.2.2.2.1 else X.2.2.1 + a.toNat
def er_cv (X : er_X) (v : er_V) : Value := match v with
  | .inl x => .int (Int32.ofInt x)
  | .inr a => .ref (er_ad X a)
def er_ro (X : er_X) (x : Int) : Option Nat := if x ≤ 0 then none else some (er_ad X x)
def er_sv (X : er_X) (T M : er_Me) (a : Int) (r : Bool) (j : Nat) : Value := if r = true then va_rf (er_ro X (T a j)) else .int (Int32.ofInt (M a j))
def er_fs (X : er_X) (T M : er_Me) (a : Int) (ci : Nat) : List Value := (List.range (er_nf ci)).map fun j => er_sv X T M a (er_rf ci j) j
def er_cell (X : er_X) (T M : er_Me) (a : Int) : va_E :=
  if T a (-2) ≤ 100 then .inr ((T a (-2)).toNat - 1, er_fs X T M a ((T a (-2)).toNat - 1))
  else if T a (-2) ≤ 102 then .inl (X.2.1 ((T a (-2)).toNat - 101), (T a (-1)).toNat, .inl fun i => Int32.ofInt (M a i))
  else .inl (X.2.1 ((T a (-2)).toNat - 101), (T a (-1)).toNat, .inr (.inr (.inr (.inr fun i => er_ro X (T a i)))))
def er_ws (X : er_X) (T M : er_Me) : va_W := (List.range (T 0 0).toNat).map fun i => (X.2.2.1 + (i + 1), er_cell X T M ((i : Int) + 1))
def er_up (M : er_Me) (a i v : Int) : er_Me := fun a' i' => if a' = a ∧ i' = i then v else M a' i'
def er_nw (T : er_Me) (kind len : Int) : er_Me := fun a i => if a = T 0 0 + 1 then (if i = -1 then len else if i = -2 then kind else 0) else if a = 0 ∧ i = 0 then T 0 0 + 1 else T a i
def er_mw (M : er_Me) (b : Int) : er_Me := fun a i => if a = b then 0 else M a i
def er_Rg (T M : er_Me) : Prop := (∀ a i, er_rg (M a i)) ∧ (∀ a, T a (-2) ≠ 0 → 0 < a ∧ a ≤ T 0 0) ∧ (∀ a, 0 ≤ T a (-1) ∧ T a (-1) < 2147483648) ∧ 0 ≤ T 0 0
def er_A (X : er_X) : Nat → Prop := fun q => X.2.2.1 < q
def er_lv (X : er_X) (L : List (Nat × er_V)) : List (Nat × Value) := L.map fun q => (q.1, er_cv X q.2)
def er_st (X : er_X) (st : List er_V) : List Value := st.map (er_cv X)
def er_tys (X : er_X) : List (ClassId × FieldType) := [(X.2.1 0, .int), (X.2.1 1, .boolean), (X.2.1 2, .object er_O2), (X.2.1 3, .object er_O3)]
-- arithmetic: what the machine makes of two ints
def er_w (x : Int) : Int := (Int32.ofInt x).toInt
def er_add (x y : Int) : Int := (Int32.ofInt x + Int32.ofInt y).toInt
def er_sub (x y : Int) : Int := (Int32.ofInt x - Int32.ofInt y).toInt
def er_mul (x y : Int) : Int := (Int32.ofInt x * Int32.ofInt y).toInt
def er_div (x y : Int) : Int := (Int32.ofInt x / Int32.ofInt y).toInt
def er_rem (x y : Int) : Int := (Int32.ofInt x - Int32.ofInt x / Int32.ofInt y * Int32.ofInt y).toInt
def er_and (x y : Int) : Int := (Int32.ofInt x &&& Int32.ofInt y).toInt
def er_or (x y : Int) : Int := (Int32.ofInt x ||| Int32.ofInt y).toInt
def er_shl (x y : Int) : Int := (Int32.ofInt x <<< (Int32.ofInt y &&& 31)).toInt
def er_shr (x y : Int) : Int := (Int32.ofInt x >>> (Int32.ofInt y &&& 31)).toInt
def er_max (x y : Int) : Int := if x < y then y else x
def er_min (x y : Int) : Int := if y < x then y else x
theorem er_rgI (q : Int32) : er_rg q.toInt := ⟨Int32.le_toInt q, Int32.toInt_lt q⟩
theorem er_cvI {X : er_X} (q : Int32) : er_cv X (.inl q.toInt) = .int q := by
  show Value.int (Int32.ofInt q.toInt) = Value.int q
  rw [Int32.ofInt_toInt]
theorem er_wI {x : Int} (h : er_rg x) : (Int32.ofInt x).toInt = x := Int32.toInt_ofInt_of_le h.1 h.2
theorem er_eqI {x y : Int} (hx : er_rg x) (hy : er_rg y) : Int32.ofInt x = Int32.ofInt y ↔ x = y := ⟨fun h => by rw [← er_wI hx, ← er_wI hy, h], fun h => by rw [h]⟩
theorem er_ltI {x y : Int} (hx : er_rg x) (hy : er_rg y) : Int32.ofInt x < Int32.ofInt y ↔ x < y := by rw [Int32.lt_iff_toInt_lt, er_wI hx, er_wI hy]
theorem er_leI {x y : Int} (hx : er_rg x) (hy : er_rg y) : Int32.ofInt x ≤ Int32.ofInt y ↔ x ≤ y := by rw [Int32.le_iff_toInt_le, er_wI hx, er_wI hy]
theorem er_rg0 : er_rg 0 := by unfold er_rg; omega
theorem er_i0 : Int32.ofInt 0 = 0 := by decide +kernel
theorem er_nIo (n : Nat) : Int32.ofInt (n : Int) = nI n := Int32.ofInt_eq_ofNat
theorem er_clI {i : Int} (h0 : 0 ≤ i) (h1 : i < 2147483648) : (Int32.ofInt i).toNatClampNeg = i.toNat := by
  obtain ⟨n, rfl⟩ := Int.eq_ofNat_of_zero_le h0
  rw [er_nIo, nI_clamp (by omega)]
  rfl
theorem er_inI {i n : Int} (h0 : 0 ≤ i) (h1 : i < n) (hn : n < 2147483648) : vp_in (Int32.ofInt i) n.toNat := by
  obtain ⟨k, rfl⟩ := Int.eq_ofNat_of_zero_le h0
  rw [er_nIo]
  exact nI_in (by omega) (by omega)
theorem er_cat (X : er_X) (v : er_V) : (er_cv X v).category = 1 := by cases v <;> rfl
-- the world's list
theorem er_len (X : er_X) (T M : er_Me) : (er_ws X T M).length = (T 0 0).toNat := by simp [er_ws]
theorem er_wsI {X : er_X} {T M : er_Me} {i : Nat} (h : i < (T 0 0).toNat) : (er_ws X T M)[i]? = some (X.2.2.1 + (i + 1), er_cell X T M ((i : Int) + 1)) := by
  rw [er_ws, List.getElem?_map, List.getElem?_range h]
  rfl
theorem er_at {X : er_X} {T M : er_Me} (hg : er_Rg T M) {a : Int} (hk : T a (-2) ≠ 0) : (er_ws X T M)[a.toNat - 1]? = some (er_ad X a, er_cell X T M a) := by
  obtain ⟨h0, h1⟩ := hg.2.1 a hk
  rw [er_wsI (by omega)]
  have e1 : (((a.toNat - 1 : Nat) : Int) + 1) = a := by omega
  have e2 : X.2.2.1 + (a.toNat - 1 + 1) = er_ad X a := by unfold er_ad; rw [if_neg (by omega)]; omega
  rw [e1, e2]
theorem er_Dw (X : er_X) (T M : er_Me) : va_D (er_A X) (er_ws X T M) := by
  have key : ∀ (i : Nat) (q : Nat × va_E), (er_ws X T M)[i]? = some q → q.1 = X.2.2.1 + (i + 1) := by
    intro i q h
    have hi : i < (T 0 0).toNat := by
      have := (List.getElem?_eq_some_iff.mp h).1
      rw [er_len] at this
      exact this
    rw [er_wsI hi] at h
    rw [← Option.some.inj h]
  refine ⟨fun i j p q hi hj e => ?_, fun k q hk => ?_⟩
  · have h1 := key i p hi
    have h2 := key j q hj
    omega
  · have h1 := key k q hk
    show X.2.2.1 < q.1
    omega
theorem er_set {X : er_X} {T M T' M' : er_Me} {a : Int} (h0 : 0 < a) (hT : T' 0 0 = T 0 0) (ho : ∀ a' : Int, a' ≠ a → 0 < a' → er_cell X T' M' a' = er_cell X T M a') : (er_ws X T M).set (a.toNat - 1) (er_ad X a, er_cell X T' M' a) = er_ws X T' M' := by
  apply List.ext_getElem?
  intro i
  by_cases hi : i < (T 0 0).toNat
  · rw [er_wsI (T := T') (M := M') (by rw [hT]; exact hi), List.getElem?_set]
    by_cases h : a.toNat - 1 = i
    · rw [if_pos h, if_pos (by rw [er_len]; omega)]
      have e1 : ((i : Int) + 1) = a := by omega
      have e2 : X.2.2.1 + (i + 1) = er_ad X a := by unfold er_ad; rw [if_neg (by omega)]; omega
      rw [e1, e2]
    · rw [if_neg h, er_wsI hi, ho _ (by omega) (by omega)]
  · rw [List.getElem?_eq_none (by rw [List.length_set, er_len]; omega), List.getElem?_eq_none (by rw [er_len, hT]; omega)]
theorem er_cellM {X : er_X} {T M : er_Me} {a i v a' : Int} (h : a' ≠ a) : er_cell X T (er_up M a i v) a' = er_cell X T M a' := by
  unfold er_cell er_fs er_sv er_up
  simp only [h, false_and, if_false]
theorem er_cellT {X : er_X} {T M : er_Me} {a i v a' : Int} (h : a' ≠ a) : er_cell X (er_up T a i v) M a' = er_cell X T M a' := by
  unfold er_cell er_fs er_sv er_up
  simp only [h, false_and, if_false]
theorem er_cellO {X : er_X} {T M : er_Me} {a : Int} {ci : Nat} (h : T a (-2) = (ci : Int) + 1) (hc : ci < 100) : er_cell X T M a = .inr (ci, er_fs X T M a ci) := by
  unfold er_cell
  rw [if_pos (by omega), show (T a (-2)).toNat - 1 = ci by omega]
theorem er_cellI {X : er_X} {T M : er_Me} {a : Int} {t : Nat} (h : T a (-2) = (t : Int) + 101) (ht : t < 2) : er_cell X T M a = .inl (X.2.1 t, (T a (-1)).toNat, .inl fun i => Int32.ofInt (M a i)) := by
  unfold er_cell
  rw [if_neg (by omega), if_pos (by omega), show (T a (-2)).toNat - 101 = t by omega]
theorem er_cellR {X : er_X} {T M : er_Me} {a : Int} {t : Nat} (h : T a (-2) = (t : Int) + 101) (ht : 2 ≤ t) : er_cell X T M a = .inl (X.2.1 t, (T a (-1)).toNat, .inr (.inr (.inr (.inr fun i => er_ro X (T a i))))) := by
  unfold er_cell
  rw [if_neg (by omega), if_neg (by omega), show (T a (-2)).toNat - 101 = t by omega]
theorem er_fsA {X : er_X} {T M : er_Me} {a : Int} {ci j : Nat} (h : j < er_nf ci) : (er_fs X T M a ci)[j]? = some (er_sv X T M a (er_rf ci j) j) := by
  rw [er_fs, List.getElem?_map, List.getElem?_range h]
  rfl
theorem er_fsL (X : er_X) (T M : er_Me) (a : Int) (ci : Nat) : (er_fs X T M a ci).length = er_nf ci := by simp [er_fs]
theorem er_fsM {X : er_X} {T M : er_Me} {a x : Int} {ci k : Nat} (hr : er_rf ci k = false) : (er_fs X T M a ci).set k (.int (Int32.ofInt x)) = er_fs X T (er_up M a k x) a ci := by
  apply List.ext_getElem?
  intro j
  by_cases hj : j < er_nf ci
  · rw [er_fsA hj, List.getElem?_set]
    by_cases h : k = j
    · subst h
      rw [if_pos rfl, if_pos (by rw [er_fsL]; exact hj)]
      simp [er_sv, hr, er_up]
    · rw [if_neg h, er_fsA hj]
      have : ¬ ((j : Int) = (k : Int)) := by omega
      simp [er_sv, er_up, this]
  · rw [List.getElem?_eq_none (by rw [List.length_set, er_fsL]; omega), List.getElem?_eq_none (by rw [er_fsL]; omega)]
theorem er_fsT {X : er_X} {T M : er_Me} {a y : Int} {ci k : Nat} (hr : er_rf ci k = true) (hy : 0 < y) : (er_fs X T M a ci).set k (.ref (er_ad X y)) = er_fs X (er_up T a k y) M a ci := by
  apply List.ext_getElem?
  intro j
  by_cases hj : j < er_nf ci
  · rw [er_fsA hj, List.getElem?_set]
    by_cases h : k = j
    · subst h
      rw [if_pos rfl, if_pos (by rw [er_fsL]; exact hj)]
      have : ¬ y ≤ 0 := by omega
      simp [er_sv, hr, er_up, er_ro, va_rf, this]
    · rw [if_neg h, er_fsA hj]
      have : ¬ ((j : Int) = (k : Int)) := by omega
      simp [er_sv, er_up, this]
  · rw [List.getElem?_eq_none (by rw [List.length_set, er_fsL]; omega), List.getElem?_eq_none (by rw [er_fsL]; omega)]
theorem er_RgM {T M : er_Me} {a i x : Int} (h : er_Rg T M) (hx : er_rg x) : er_Rg T (er_up M a i x) := by
  refine ⟨fun a' i' => ?_, h.2⟩
  unfold er_up
  split
  · exact hx
  · exact h.1 a' i'
theorem er_RgT {T M : er_Me} {a i y : Int} (h : er_Rg T M) (h0 : 0 < a) (hi : 0 ≤ i) : er_Rg (er_up T a i y) M := by
  have e1 : ∀ b : Int, er_up T a i y b (-2) = T b (-2) := fun b => if_neg (fun q => by omega)
  have e2 : ∀ b : Int, er_up T a i y b (-1) = T b (-1) := fun b => if_neg (fun q => by omega)
  have e3 : er_up T a i y 0 0 = T 0 0 := if_neg (fun q => by omega)
  refine ⟨h.1, fun b => ?_, fun b => ?_, ?_⟩
  · rw [e1, e3]; exact h.2.1 b
  · rw [e2]; exact h.2.2.1 b
  · rw [e3]; exact h.2.2.2
theorem er_nw0 (T : er_Me) (h : 0 ≤ T 0 0) (kd n : Int) : er_nw T kd n 0 0 = T 0 0 + 1 := by
  unfold er_nw
  rw [if_neg (by omega), if_pos ⟨rfl, rfl⟩]
theorem er_nwO (T : er_Me) (kd n : Int) {a : Int} (h : a ≠ T 0 0 + 1) (h0 : 0 < a) : er_nw T kd n a = T a := by
  funext i
  unfold er_nw
  rw [if_neg h, if_neg (by omega)]
theorem er_nwA (T : er_Me) (kd n i : Int) : er_nw T kd n (T 0 0 + 1) i = (if i = -1 then n else if i = -2 then kd else 0) := by
  unfold er_nw
  rw [if_pos rfl]
theorem er_RgN {T M : er_Me} {kd n : Int} (h : er_Rg T M) (hn : 0 ≤ n ∧ n < 2147483648) : er_Rg (er_nw T kd n) (er_mw M (T 0 0 + 1)) := by
  have hz := er_nw0 T h.2.2.2 kd n
  refine ⟨fun a i => ?_, fun a => ?_, fun a => ?_, ?_⟩
  · unfold er_mw
    split
    · exact er_rg0
    · exact h.1 a i
  · rw [hz]
    intro hk
    by_cases ha : a = T 0 0 + 1
    · have := h.2.2.2
      omega
    · have hk2 : T a (-2) ≠ 0 := by
        intro e
        apply hk
        unfold er_nw
        rw [if_neg ha, if_neg (by omega), e]
      have := h.2.1 a hk2
      omega
  · by_cases ha : a = T 0 0 + 1
    · subst ha
      rw [er_nwA, if_pos rfl]
      exact hn
    · have e : er_nw T kd n a (-1) = T a (-1) := by
        unfold er_nw
        rw [if_neg ha, if_neg (by omega)]
      rw [e]
      exact h.2.2.1 a
  · rw [hz]
    have := h.2.2.2
    omega
theorem er_cellN {X : er_X} {T M : er_Me} {kd n a : Int} (h : a ≠ T 0 0 + 1) (h0 : 0 < a) : er_cell X (er_nw T kd n) (er_mw M (T 0 0 + 1)) a = er_cell X T M a := by
  have e : er_mw M (T 0 0 + 1) a = M a := by funext i; unfold er_mw; rw [if_neg h]
  unfold er_cell er_fs er_sv
  rw [er_nwO T kd n h h0, e]
theorem er_wsN {X : er_X} {T M : er_Me} {kd n : Int} (h : er_Rg T M) : er_ws X (er_nw T kd n) (er_mw M (T 0 0 + 1)) = er_ws X T M ++ [(X.2.2.1 + 1 + (T 0 0).toNat, er_cell X (er_nw T kd n) (er_mw M (T 0 0 + 1)) (T 0 0 + 1))] := by
  have h4 := h.2.2.2
  apply List.ext_getElem?
  intro i
  by_cases hi : i < (T 0 0).toNat
  · rw [er_wsI (by rw [er_nw0 T h4]; omega), List.getElem?_append_left (by rw [er_len]; exact hi), er_wsI hi, er_cellN (by omega) (by omega)]
  · by_cases he : i = (T 0 0).toNat
    · rw [er_wsI (by rw [er_nw0 T h4]; omega), List.getElem?_append_right (by rw [er_len]; omega), er_len, show i - (T 0 0).toNat = 0 by omega]
      have e1 : ((i : Int) + 1) = T 0 0 + 1 := by omega
      have e2 : X.2.2.1 + (i + 1) = X.2.2.1 + 1 + (T 0 0).toNat := by omega
      rw [e1, e2]
      rfl
    · rw [List.getElem?_eq_none (by rw [er_len, er_nw0 T h4]; omega), List.getElem?_eq_none (by rw [List.length_append, er_len]; simp; omega)]
