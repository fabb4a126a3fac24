/-! the law's entry: what the tables give at the start, and the walk from there, once the law's function answers -/
theorem er_inL {w : Cond} (h : w ∈ er_Ns) : w ∈ lw_tbl := List.mem_append_right _ (List.mem_filter.mp h).1
theorem er_subT {w : Cond} (h : w ∈ er_T) : w ∈ lw_tbl := (List.mem_filter.mp h).1
theorem er_arr0 {args : Array Value} {s : State} {ty : FieldType} (h : (Cond.arrayClass ty).before args s = true) : ∃ cA : ClassId, ArrOfT s cA ty ∧ s.vm.findClass ("[" ++ ty.toString) = some cA := by
  obtain ⟨cA, kA, comp, h1, h2, h3⟩ := Cond.arrayClass_spec h
  exact ⟨cA, fun n z => ⟨fun k h => (by cases h), kA, h2, comp, h3⟩, h1⟩
theorem er_arrQ {s : State} {C : String} (h : va_AO C s) : ∃ cA : ClassId, ArrOfT s cA (.object C) ∧ va_RA s cA (.object C) := by
  obtain ⟨comp, c, k, h1, h2, h3, h4, h5⟩ := Cond.arrayOver_spec h
  exact ⟨c, fun n z => ⟨fun k h => (by cases h), k, h3, comp, h4⟩, k, comp, h3, h4, h1, h5⟩
set_option maxHeartbeats 2000000 in
theorem er_K0 {args : Array Value} {s : State} (hts : ∀ w ∈ lw_tbl, w.before args s = true) : ∃ (D : va_G) (cA : Nat → ClassId), ∀ B : er_Ba, er_KK (D, cA, B) s := by
  have hT : ∀ w ∈ er_T, w.before args s = true := fun w h => hts w (er_subT h)
  obtain ⟨c0, i0, k0⟩ := u_known (N := 1) (n := 1) hT cl_ER.2.2.1 (hT _ wm_10)
  obtain ⟨c1, i1, k1⟩ := u_known (N := 4) (n := 4) hT cl_Rules.2.2.1 (hT _ wm_24)
  obtain ⟨c2, i2, k2⟩ := u_known (N := 13) (n := 13) hT cl_Node.2.2.1 (hT _ wm_47)
  obtain ⟨c3, i3, k3⟩ := u_known (N := 2) (n := 2) hT cl_Log.2.2.1 (hT _ wm_53)
  obtain ⟨c4, i4, k4⟩ := u_known (N := 2) (n := 2) hT cl_Tally.2.2.1 (hT _ wm_68)
  obtain ⟨c5, i5, k5⟩ := u_known (N := 4) (n := 4) hT cl_Row.2.2.1 (hT _ wm_82)
  obtain ⟨c6, i6, k6⟩ := u_known (N := 18) (n := 18) hT cl_Mo.2.2.1 (hT _ wm_373)
  have hO2 : va_AO er_O2 s := va_AO.of (hts (Cond.arrayOver (.object "EchoedRounds$Node")) (List.mem_append_right _ (List.mem_of_getElem? (i := 46) (by decide +kernel))))
  have hO3 : va_AO er_O3 s := va_AO.of (hts (Cond.arrayOver (.object "EchoedRounds$Row")) (List.mem_append_right _ (List.mem_of_getElem? (i := 81) (by decide +kernel))))
  obtain ⟨a0, h0, g0⟩ := er_arr0 (hts (Cond.arrayClass .int) (List.mem_append_right _ (List.mem_of_getElem? (i := 66) (by decide +kernel))))
  obtain ⟨a1, h1, g1⟩ := er_arr0 (hts (Cond.arrayClass .boolean) (List.mem_append_right _ (List.mem_of_getElem? (i := 102) (by decide +kernel))))
  obtain ⟨a2, h2, g2⟩ := er_arrQ hO2
  obtain ⟨a3, h3, g3⟩ := er_arrQ hO3
  refine ⟨(fun k => match k with | 0 => c0 | 1 => c1 | 2 => c2 | 3 => c3 | 4 => c4 | 5 => c5 | _ => c6, fun k => match k with | 0 => i0 | 1 => i1 | 2 => i2 | 3 => i3 | 4 => i4 | 5 => i5 | _ => i6), fun k => match k with | 0 => a0 | 1 => a1 | 2 => a2 | _ => a3, fun B => ⟨⟨fun c q h => ?_, fun k q h => ?_⟩, fun w hw => ?_, fun C hC => ?_⟩⟩
  · match c, h with
    | 0, h => cases h; exact k0
    | 1, h => cases h; exact k1
    | 2, h => cases h; exact k2
    | 3, h => cases h; exact k3
    | 4, h => cases h; exact k4
    | 5, h => cases h; exact k5
    | 6, h => cases h; exact k6
    | n + 7, h => cases h
  · match k, h with
    | 0, h => cases h; exact ⟨h0, g0⟩
    | 1, h => cases h; exact ⟨h1, g1⟩
    | 2, h => cases h; exact ⟨h2, g2⟩
    | 3, h => cases h; exact ⟨h3, g3⟩
    | n + 4, h => cases h
  · have h2 := List.all_eq_true.mp er_NsN w hw
    have h1 := hts w (er_inL hw)
    cases w <;> first | exact va_Nw.of rfl h1 | (exfalso; revert h2; simp [er_isN])
  · rcases List.mem_cons.mp hC with e | e
    · rw [e]; exact hO2
    · rw [List.mem_singleton.mp e]; exact hO3
def er_0 : er_Me := fun _ _ => 0
set_option maxHeartbeats 2000000 in
/-- the claim's walk, once the law's function answers on every script -/
theorem er_entry (hpure : ∀ (g : Int → Int) (n : Int), (∀ i, er_rg (g i)) → 0 ≤ n → n ≤ 3073 → f_Law_law g n er_0 er_0 = some ()) {p : Program} {e : Env} {s : State} {m : MethodId} {below : List Frame} {meth : Method} {c : Code} (l : Launch) {b L : Nat} {xs : Nat → Int32} (hL : L ≤ 3073) (C0 : lw_At p s m meth c b L xs) : W p l e room_1 s m #[Value.ref b] below meth c s.heap [] 0 0 (lw_Z below #[Value.ref b] s) (entryFrame m ([Value.ref b] : List Value).toArray 4) := by
  obtain ⟨hx, hb, hr, hml, hown, hts, hX, hbl, hlk, -⟩ := C0
  obtain ⟨D, cA, hK⟩ := er_K0 hts
  obtain ⟨n, hn⟩ : ∃ n, s.heap.size = n + 1 := ⟨s.heap.size - 1, by omega⟩
  have hK := hK (n, b, L, xs)
  generalize hXe : ((D, cA, n, b, L, xs) : er_X) = X at hK
  have e1 : X.2.2.1 = n := by rw [← hXe]
  have e2 : X.2.2.2.1 = b := by rw [← hXe]
  have e3 : X.2.2.2.2.1 = L := by rw [← hXe]
  have e4 : X.2.2.2.2.2 = xs := by rw [← hXe]
  have hXX : er_XX X s := ⟨by rw [e2, e3, e4]; exact hX, by omega, by omega⟩
  have hl := lv_entry ([Value.ref b]) (n := 4) (Nat.le_of_ble_eq_true rfl)
  rw [lg_entry_eq]
  refine w_Law_law (K := (p, l, e, room_1, s, m, #[Value.ref b], below, meth, c, lw_Z below #[Value.ref b] s, 4, X)) (l := l) (X := X) (T := er_0) (M := er_0) (r := ())
    ⟨p, e, s, m, _, below, meth, c, _, rfl, hx, hb, hml, hown, fun w hw => hts w (er_subT hw), hK, hXX, by omega⟩
    ⟨p, l, e, s, m, below, meth, c, b, rfl, hx, hb, hr, hlk, by omega⟩
    (hpure (er_xs X) (er_xn X) (fun i => er_rgI _) (by unfold er_xn; omega) (by unfold er_xn; omega)) s.heap [] _ ⟨⟨fun a i => er_rg0, fun a h => absurd rfl h, fun a => ⟨Int.le_refl _, by show (0 : Int) < _; omega⟩, Int.le_refl _⟩, fun q hq => ?_, fun v hv => (by cases hv), ?_, fun k q hk => (by cases hk), va_S.rf, ?_⟩
  · rw [List.mem_singleton.mp hq]
    trivial
  · show s.heap.size = X.2.2.1 + 1 + 0
    omega
  · have e5 : er_lv X [(0, .inr 0)] = [(0, Value.ref b)] := by
      show [(0, Value.ref (er_ad X 0))] = [(0, Value.ref b)]
      unfold er_ad
      rw [if_pos rfl, e2]
    rw [e5]
    exact hl
