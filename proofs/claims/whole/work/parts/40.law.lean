/-! Law_cell -/
abbrev rm_Law_cell : Room := { frames := 0, cells := 0, slots := 0, locals := 0 }
def f_Law_cell (xs : Int → Int) (xn : Int) (p1 : Int) (T M : er_Me) : Option (Int × er_Me) :=
  if xn ≤ p1 then
  some (0, M)
  else
  if 0 ≤ p1 ∧ p1 < xn then
  some (xs p1, M) else none
set_option maxHeartbeats 4000000 in
theorem w_Law_cell {K : er_K} {l : Launch} {X : er_X} (cx : er_Cx K l X b_Law_cell "EchoedRoundsLaw" 2 rm_Law_cell) {r : Int × er_Me} {p1 : Int} {T M : er_Me} (rt : er_Rt K X b_Law_cell (some .int) 0 0 (some (.inl r.1)) T r.2) (h : f_Law_cell (er_xs X) (er_xn X) p1 T M = some r) : er_G K 0 0 T M 0 [(0, .inr 0), (1, .inl p1)] [] := by
  unfold f_Law_cell at h
  refine er_iload_n cx d_Law_cell_0 1 rfl ?_
  refine er_aload_n cx d_Law_cell_1 0 rfl ?_
  refine er_salen cx d_Law_cell_2 ?_
  refine er_ic_ge (tgt := 12) cx d_Law_cell_3 (by decide) (fun b2 => ?_) (fun b2 => ?_)
  · have h := er_ift h b2
    refine er_iconst (v := 0) cx d_Law_cell_12 rfl (by decide) ?_
    obtain rfl := Option.some.inj h
    exact er_iret rt (Or.inl rfl) d_Law_cell_13 (by decide) (by decide) ⟨rfl, rfl, rfl⟩
  · have h := er_iff h b2
    refine er_aload_n cx d_Law_cell_6 0 rfl ?_
    refine er_iload_n cx d_Law_cell_7 1 rfl ?_
    obtain ⟨c4, h⟩ := er_ck h
    refine er_sald cx d_Law_cell_8 c4.1 c4.2 ?_
    refine er_goto (tgt := 13) cx d_Law_cell_9 (by decide) ?_
    obtain rfl := Option.some.inj h
    exact er_iret rt (Or.inl rfl) d_Law_cell_13 (by decide) (by decide) ⟨rfl, rfl, rfl⟩
theorem c_Law_cell {l : Launch} {X : er_X} {r : Int × er_Me} {p1 : Int} {T M : er_Me} (h : f_Law_cell (er_xs X) (er_xn X) p1 T M = some r) (hok : ∀ v ∈ ([.inr 0, .inl p1] : List er_V), er_ok v) : er_Ct l X y_Law_cell b_Law_cell 2 (some .int) rm_Law_cell [.inr 0, .inl p1] T M (some (.inl r.1)) T r.2 :=
  er_ct rfl rfl (Nat.le_of_ble_eq_true rfl) hok (fun K cx rt hin => w_Law_cell cx rt h)
/-! Law_law -/
abbrev rm_Law_law : Room := { frames := 8, cells := 342, slots := 19608, locals := 183 }
def f_Law_law_467 (xs : Int → Int) (xn : Int) (k28 : Int → Int → Int → er_Me → er_Me → Option (Unit)) (v1 v2 v3 s0 s1 s2 s3 s4 s5 s6 : Int) (T M : er_Me) : Option (Unit) :=
  if T s1 (-2) = 7 then
  (f_Mo_votes s1 s2 s3 s4 s5 s6 T M).bind fun q1 =>
  if s0 = q1.1 then
  er_le (er_add v3 6) fun x3 =>
  k28 v1 v2 x3 T q1.2
  else
  none else none
set_option maxHeartbeats 4000000 in
theorem w_Law_law_467 {K : er_K} {l : Launch} {X : er_X} (cx : er_Cx K l X code "EchoedRoundsLaw" 4 room_1) {r : Unit} (rt : er_Lt K X) {k28 : Int → Int → Int → er_Me → er_Me → Option (Unit)} (hk28 : ∀ (v1 v2 v3 : Int) (T M : er_Me), k28 v1 v2 v3 T M = some r → er_G K 342 19608 T M 28 [(0, .inr 0), (1, .inr v1), (2, .inr v2), (3, .inl v3)] []) : ∀ (v1 v2 v3 s0 s1 s2 s3 s4 s5 s6 : Int) (T M : er_Me), f_Law_law_467 (er_xs X) (er_xn X) k28 v1 v2 v3 s0 s1 s2 s3 s4 s5 s6 T M = some r → er_G K 342 19608 T M 467 [(0, .inr 0), (1, .inr v1), (2, .inr v2), (3, .inl v3)] [.inl s6, .inl s5, .inl s4, .inl s3, .inl s2, .inr s1, .inl s0] := by
  intro v1 v2 v3 s0 s1 s2 s3 s4 s5 s6 T M h
  unfold f_Law_law_467 at h
  obtain ⟨c1, h⟩ := er_ck h
  obtain ⟨q1, e1, h⟩ := er_bd h
  refine er_callV (b := s1) (As := [.inl s2, .inl s3, .inl s4, .inl s5, .inl s6]) (st := [.inl s0]) cx (c_Mo_votes e1) my_Law_63 c1 ⟨by decide, by decide⟩ rfl (Nat.le_of_ble_eq_true rfl) d_Law_law_467 ⟨(by decide), (by decide)⟩ rfl ?_
  refine er_ic_eq (tgt := 630) cx d_Law_law_470 (by decide) (fun b2 => ?_) (fun b2 => ?_)
  · have h := er_ift h b2
    obtain ⟨x3, e3, h⟩ := er_lel h
    refine er_iinc cx d_Law_law_630 (k := 3) rfl (by decide) e3 rfl ?_
    refine er_goto (tgt := 28) cx d_Law_law_633 (by decide) ?_
    refine er_sb cx [1, 2, 3, 0] rfl ?_
    exact hk28 _ _ _ _ _ h
  · have h := er_iff h b2
    refine er_iconst (v := 0) cx d_Law_law_473 rfl (by decide) ?_
    cases h
def f_Law_law_430 (xs : Int → Int) (xn : Int) (k28 : Int → Int → Int → er_Me → er_Me → Option (Unit)) (v1 v2 v3 s0 s1 s2 s3 s4 s5 : Int) (T M : er_Me) : Option (Unit) :=
  if T s0 (-2) = 1 then
  (f_ER_votes s0 s1 s2 s3 s4 s5 T M).bind fun q1 =>
  if 0 ≤ er_add v3 1 ∧ er_add v3 1 < xn then
  if 0 ≤ er_add v3 2 ∧ er_add v3 2 < xn then
  if 0 ≤ er_add v3 3 ∧ er_add v3 3 < xn then
  if 0 ≤ er_add v3 4 ∧ er_add v3 4 < xn then
  if 0 ≤ er_add v3 5 ∧ er_add v3 5 < xn then
  if xs (er_add v3 5) = 0 then
  f_Law_law_467 xs xn k28 v1 v2 v3 q1.1 v2 (xs (er_add v3 1)) (xs (er_add v3 2)) (xs (er_add v3 3)) (xs (er_add v3 4)) 0 T q1.2
  else
  f_Law_law_467 xs xn k28 v1 v2 v3 q1.1 v2 (xs (er_add v3 1)) (xs (er_add v3 2)) (xs (er_add v3 3)) (xs (er_add v3 4)) 1 T q1.2 else none else none else none else none else none else none
set_option maxHeartbeats 4000000 in
theorem w_Law_law_430 {K : er_K} {l : Launch} {X : er_X} (cx : er_Cx K l X code "EchoedRoundsLaw" 4 room_1) {r : Unit} (rt : er_Lt K X) {k28 : Int → Int → Int → er_Me → er_Me → Option (Unit)} (hk28 : ∀ (v1 v2 v3 : Int) (T M : er_Me), k28 v1 v2 v3 T M = some r → er_G K 342 19608 T M 28 [(0, .inr 0), (1, .inr v1), (2, .inr v2), (3, .inl v3)] []) : ∀ (v1 v2 v3 s0 s1 s2 s3 s4 s5 : Int) (T M : er_Me), f_Law_law_430 (er_xs X) (er_xn X) k28 v1 v2 v3 s0 s1 s2 s3 s4 s5 T M = some r → er_G K 342 19608 T M 430 [(0, .inr 0), (1, .inr v1), (2, .inr v2), (3, .inl v3)] [.inl s5, .inl s4, .inl s3, .inl s2, .inl s1, .inr s0] := by
  intro v1 v2 v3 s0 s1 s2 s3 s4 s5 T M h
  unfold f_Law_law_430 at h
  obtain ⟨c1, h⟩ := er_ck h
  obtain ⟨q1, e1, h⟩ := er_bd h
  refine er_callV (b := s0) (As := [.inl s1, .inl s2, .inl s3, .inl s4, .inl s5]) (st := []) cx (c_ER_votes e1) my_Law_59 c1 ⟨by decide, by decide⟩ rfl (Nat.le_of_ble_eq_true rfl) d_Law_law_430 ⟨(by decide), (by decide)⟩ rfl ?_
  refine er_aload_n cx d_Law_law_433 2 rfl ?_
  refine er_aload_n cx d_Law_law_434 0 rfl ?_
  refine er_iload_n cx d_Law_law_435 3 rfl ?_
  refine er_iconst (v := 1) cx d_Law_law_436 rfl (by decide) ?_
  refine er_iadd cx d_Law_law_437 ?_
  obtain ⟨c2, h⟩ := er_ck h
  refine er_sald cx d_Law_law_438 c2.1 c2.2 ?_
  refine er_aload_n cx d_Law_law_439 0 rfl ?_
  refine er_iload_n cx d_Law_law_440 3 rfl ?_
  refine er_iconst (v := 2) cx d_Law_law_441 rfl (by decide) ?_
  refine er_iadd cx d_Law_law_442 ?_
  obtain ⟨c3, h⟩ := er_ck h
  refine er_sald cx d_Law_law_443 c3.1 c3.2 ?_
  refine er_aload_n cx d_Law_law_444 0 rfl ?_
  refine er_iload_n cx d_Law_law_445 3 rfl ?_
  refine er_iconst (v := 3) cx d_Law_law_446 rfl (by decide) ?_
  refine er_iadd cx d_Law_law_447 ?_
  obtain ⟨c4, h⟩ := er_ck h
  refine er_sald cx d_Law_law_448 c4.1 c4.2 ?_
  refine er_aload_n cx d_Law_law_449 0 rfl ?_
  refine er_iload_n cx d_Law_law_450 3 rfl ?_
  refine er_iconst (v := 4) cx d_Law_law_451 rfl (by decide) ?_
  refine er_iadd cx d_Law_law_452 ?_
  obtain ⟨c5, h⟩ := er_ck h
  refine er_sald cx d_Law_law_453 c5.1 c5.2 ?_
  refine er_aload_n cx d_Law_law_454 0 rfl ?_
  refine er_iload_n cx d_Law_law_455 3 rfl ?_
  refine er_iconst (v := 5) cx d_Law_law_456 rfl (by decide) ?_
  refine er_iadd cx d_Law_law_457 ?_
  obtain ⟨c6, h⟩ := er_ck h
  refine er_sald cx d_Law_law_458 c6.1 c6.2 ?_
  refine er_if_eq (tgt := 466) cx d_Law_law_459 (by decide) (fun b7 => ?_) (fun b7 => ?_)
  · have h := er_ift h b7
    refine er_iconst (v := 0) cx d_Law_law_466 rfl (by decide) ?_
    exact w_Law_law_467 cx rt hk28 _ _ _ _ _ _ _ _ _ _ _ _ h
  · have h := er_iff h b7
    refine er_iconst (v := 1) cx d_Law_law_462 rfl (by decide) ?_
    refine er_goto (tgt := 467) cx d_Law_law_463 (by decide) ?_
    exact w_Law_law_467 cx rt hk28 _ _ _ _ _ _ _ _ _ _ _ _ h
def f_Law_law_28_b (xs : Int → Int) (xn : Int) (self : Int → Int → Int → er_Me → er_Me → Option (Unit)) (v1 v2 v3 : Int) (T M : er_Me) : Option (Unit) :=
  if er_sub xn 6 < v3 then
  some ()
  else
  if 0 ≤ v3 ∧ v3 < xn then
  if er_and (xs v3) 15 = 0 then
  if 0 ≤ er_add v3 1 ∧ er_add v3 1 < xn then
  if T v1 (-2) = 1 then
  (f_ER_corrupt v1 (xs (er_add v3 1)) T M).bind fun q6 =>
  if T v2 (-2) = 7 then
  (f_Mo_corrupt v2 (xs (er_add v3 1)) T q6.2).bind fun q8 =>
  if q6.1 = q8.1 then
  er_le (er_add v3 6) fun x10 =>
  self v1 v2 x10 T q8.2
  else
  none else none else none else none
  else if er_and (xs v3) 15 = 1 then
  if 0 ≤ er_add v3 1 ∧ er_add v3 1 < xn then
  if 0 ≤ er_add v3 2 ∧ er_add v3 2 < xn then
  if T v1 (-2) = 1 then
  (f_ER_tosses v1 (xs (er_add v3 1)) (xs (er_add v3 2)) T M).bind fun q14 =>
  if T v2 (-2) = 7 then
  (f_Mo_tosses v2 (xs (er_add v3 1)) (xs (er_add v3 2)) T q14.2).bind fun q17 =>
  if q14.1 = q17.1 then
  er_le (er_add v3 6) fun x19 =>
  self v1 v2 x19 T q17.2
  else
  none else none else none else none else none
  else if er_and (xs v3) 15 = 2 then
  if 0 ≤ er_add v3 1 ∧ er_add v3 1 < xn then
  if 0 ≤ er_add v3 2 ∧ er_add v3 2 < xn then
  if T v1 (-2) = 1 then
  (f_ER_start v1 (xs (er_add v3 1)) (xs (er_add v3 2)) T M).bind fun q23 =>
  if T v2 (-2) = 7 then
  (f_Mo_start v2 (xs (er_add v3 1)) (xs (er_add v3 2)) T q23.2).bind fun q26 =>
  if q23.1 = q26.1 then
  er_le (er_add v3 6) fun x28 =>
  self v1 v2 x28 T q26.2
  else
  none else none else none else none else none
  else if er_and (xs v3) 15 = 3 then
  if 0 ≤ er_add v3 1 ∧ er_add v3 1 < xn then
  if 0 ≤ er_add v3 2 ∧ er_add v3 2 < xn then
  if 0 ≤ er_add v3 3 ∧ er_add v3 3 < xn then
  if T v1 (-2) = 1 then
  (f_ER_pass v1 (xs (er_add v3 1)) (xs (er_add v3 2)) (xs (er_add v3 3)) T M).bind fun q33 =>
  if T v2 (-2) = 7 then
  (f_Mo_pass v2 (xs (er_add v3 1)) (xs (er_add v3 2)) (xs (er_add v3 3)) T q33.2).bind fun q37 =>
  if q33.1 = q37.1 then
  er_le (er_add v3 6) fun x39 =>
  self v1 v2 x39 T q37.2
  else
  none else none else none else none else none else none
  else if er_and (xs v3) 15 = 4 then
  if 0 ≤ er_add v3 1 ∧ er_add v3 1 < xn then
  if 0 ≤ er_add v3 2 ∧ er_add v3 2 < xn then
  if 0 ≤ er_add v3 3 ∧ er_add v3 3 < xn then
  if 0 ≤ er_add v3 4 ∧ er_add v3 4 < xn then
  if 0 ≤ er_add v3 5 ∧ er_add v3 5 < xn then
  if T v1 (-2) = 1 then
  (f_ER_forge v1 (xs (er_add v3 1)) (xs (er_add v3 2)) (xs (er_add v3 3)) (xs (er_add v3 4)) (xs (er_add v3 5)) T M).bind fun q46 =>
  if T v2 (-2) = 7 then
  (f_Mo_forge v2 (xs (er_add v3 1)) (xs (er_add v3 2)) (xs (er_add v3 3)) (xs (er_add v3 4)) (xs (er_add v3 5)) T q46.2).bind fun q52 =>
  if q46.1 = q52.1 then
  er_le (er_add v3 6) fun x54 =>
  self v1 v2 x54 T q52.2
  else
  none else none else none else none else none else none else none else none
  else if er_and (xs v3) 15 = 5 then
  if 0 ≤ er_add v3 1 ∧ er_add v3 1 < xn then
  if T v1 (-2) = 1 then
  (f_ER_sent v1 (xs (er_add v3 1)) T M).bind fun q57 =>
  if T v2 (-2) = 7 then
  (f_Mo_sent v2 (xs (er_add v3 1)) T q57.2).bind fun q59 =>
  if q57.1 = q59.1 then
  er_le (er_add v3 6) fun x61 =>
  self v1 v2 x61 T q59.2
  else
  none else none else none else none
  else if er_and (xs v3) 15 = 6 then
  if 0 ≤ er_add v3 1 ∧ er_add v3 1 < xn then
  if 0 ≤ er_add v3 2 ∧ er_add v3 2 < xn then
  if T v1 (-2) = 1 then
  (f_ER_message v1 (xs (er_add v3 1)) (xs (er_add v3 2)) T M).bind fun q65 =>
  if T v2 (-2) = 7 then
  (f_Mo_message v2 (xs (er_add v3 1)) (xs (er_add v3 2)) T q65.2).bind fun q68 =>
  if q65.1 = q68.1 then
  er_le (er_add v3 6) fun x70 =>
  self v1 v2 x70 T q68.2
  else
  none else none else none else none else none
  else if er_and (xs v3) 15 = 7 then
  if 0 ≤ er_add v3 1 ∧ er_add v3 1 < xn then
  if 0 ≤ er_add v3 2 ∧ er_add v3 2 < xn then
  if T v1 (-2) = 1 then
  (f_ER_waiting v1 (xs (er_add v3 1)) (xs (er_add v3 2)) T M).bind fun q74 =>
  if T v2 (-2) = 7 then
  (f_Mo_waiting v2 (xs (er_add v3 1)) (xs (er_add v3 2)) T q74.2).bind fun q77 =>
  if q74.1 = q77.1 then
  er_le (er_add v3 6) fun x79 =>
  self v1 v2 x79 T q77.2
  else
  none else none else none else none else none
  else if er_and (xs v3) 15 = 8 then
  if 0 ≤ er_add v3 1 ∧ er_add v3 1 < xn then
  if 0 ≤ er_add v3 2 ∧ er_add v3 2 < xn then
  if 0 ≤ er_add v3 3 ∧ er_add v3 3 < xn then
  if 0 ≤ er_add v3 4 ∧ er_add v3 4 < xn then
  if 0 ≤ er_add v3 5 ∧ er_add v3 5 < xn then
  if xs (er_add v3 5) = 0 then
  f_Law_law_430 xs xn self v1 v2 v3 v1 (xs (er_add v3 1)) (xs (er_add v3 2)) (xs (er_add v3 3)) (xs (er_add v3 4)) 0 T M
  else
  f_Law_law_430 xs xn self v1 v2 v3 v1 (xs (er_add v3 1)) (xs (er_add v3 2)) (xs (er_add v3 3)) (xs (er_add v3 4)) 1 T M else none else none else none else none else none
  else if er_and (xs v3) 15 = 9 then
  if 0 ≤ er_add v3 1 ∧ er_add v3 1 < xn then
  if 0 ≤ er_add v3 2 ∧ er_add v3 2 < xn then
  if 0 ≤ er_add v3 3 ∧ er_add v3 3 < xn then
  if T v1 (-2) = 1 then
  (f_ER_accepted v1 (xs (er_add v3 1)) (xs (er_add v3 2)) (xs (er_add v3 3)) T M).bind fun q91 =>
  if T v2 (-2) = 7 then
  (f_Mo_accepted v2 (xs (er_add v3 1)) (xs (er_add v3 2)) (xs (er_add v3 3)) T q91.2).bind fun q95 =>
  if q91.1 = q95.1 then
  er_le (er_add v3 6) fun x97 =>
  self v1 v2 x97 T q95.2
  else
  none else none else none else none else none else none
  else if er_and (xs v3) 15 = 10 then
  if 0 ≤ er_add v3 1 ∧ er_add v3 1 < xn then
  if 0 ≤ er_add v3 2 ∧ er_add v3 2 < xn then
  if 0 ≤ er_add v3 3 ∧ er_add v3 3 < xn then
  if T v1 (-2) = 1 then
  (f_ER_rowAt v1 (xs (er_add v3 1)) (xs (er_add v3 2)) (xs (er_add v3 3)) T M).bind fun q102 =>
  if T v2 (-2) = 7 then
  (f_Mo_rowAt v2 (xs (er_add v3 1)) (xs (er_add v3 2)) (xs (er_add v3 3)) T q102.2).bind fun q106 =>
  if q102.1 = q106.1 then
  er_le (er_add v3 6) fun x108 =>
  self v1 v2 x108 T q106.2
  else
  none else none else none else none else none else none
  else if er_and (xs v3) 15 = 11 then
  if 0 ≤ er_add v3 1 ∧ er_add v3 1 < xn then
  if T v1 (-2) = 1 then
  (f_ER_slot v1 (xs (er_add v3 1)) T M).bind fun q111 =>
  if T v2 (-2) = 7 then
  (f_Mo_slot v2 (xs (er_add v3 1)) T q111.2).bind fun q113 =>
  if q111.1 = q113.1 then
  er_le (er_add v3 6) fun x115 =>
  self v1 v2 x115 T q113.2
  else
  none else none else none else none
  else if er_and (xs v3) 15 = 12 then
  if 0 ≤ er_add v3 1 ∧ er_add v3 1 < xn then
  if T v1 (-2) = 1 then
  (f_ER_value v1 (xs (er_add v3 1)) T M).bind fun q118 =>
  if T v2 (-2) = 7 then
  (f_Mo_value v2 (xs (er_add v3 1)) T q118.2).bind fun q120 =>
  if q118.1 = q120.1 then
  er_le (er_add v3 6) fun x122 =>
  self v1 v2 x122 T q120.2
  else
  none else none else none else none
  else if er_and (xs v3) 15 = 13 then
  if 0 ≤ er_add v3 1 ∧ er_add v3 1 < xn then
  if T v1 (-2) = 1 then
  (f_ER_decided v1 (xs (er_add v3 1)) T M).bind fun q125 =>
  if T v2 (-2) = 7 then
  (f_Mo_decided v2 (xs (er_add v3 1)) T q125.2).bind fun q127 =>
  if q125.1 = q127.1 then
  er_le (er_add v3 6) fun x129 =>
  self v1 v2 x129 T q127.2
  else
  none else none else none else none
  else if er_and (xs v3) 15 < 0 ∨ 13 < er_and (xs v3) 15 then
  er_le (er_add v3 6) fun x131 =>
  self v1 v2 x131 T M else none else none
def f_Law_law_28 (xs : Int → Int) (xn : Int) : Nat → Int → Int → Int → er_Me → er_Me → Option (Unit)
  | 0 => fun _ _ _ _ _ => none
  | n + 1 => fun v1 v2 v3 T M => f_Law_law_28_b xs xn (f_Law_law_28 xs xn n) v1 v2 v3 T M
set_option maxHeartbeats 4000000 in
theorem w_Law_law_28_b {K : er_K} {l : Launch} {X : er_X} (cx : er_Cx K l X code "EchoedRoundsLaw" 4 room_1) {r : Unit} (rt : er_Lt K X) {self : Int → Int → Int → er_Me → er_Me → Option (Unit)} (hself : ∀ (v1 v2 v3 : Int) (T M : er_Me), self v1 v2 v3 T M = some r → er_G K 342 19608 T M 28 [(0, .inr 0), (1, .inr v1), (2, .inr v2), (3, .inl v3)] []) : ∀ (v1 v2 v3 : Int) (T M : er_Me), f_Law_law_28_b (er_xs X) (er_xn X) self v1 v2 v3 T M = some r → er_G K 342 19608 T M 28 [(0, .inr 0), (1, .inr v1), (2, .inr v2), (3, .inl v3)] [] := by
  intro v1 v2 v3 T M h
  unfold f_Law_law_28_b at h
  refine er_iload_n cx d_Law_law_28 3 rfl ?_
  refine er_aload_n cx d_Law_law_29 0 rfl ?_
  refine er_salen cx d_Law_law_30 ?_
  refine er_bipush (v := 6) cx d_Law_law_31 (by decide +kernel) (by decide) ?_
  refine er_isub cx d_Law_law_33 ?_
  refine er_ic_gt (tgt := 636) cx d_Law_law_34 (by decide) (fun b2 => ?_) (fun b2 => ?_)
  · have h := er_ift h b2
    refine er_iconst (v := 1) cx d_Law_law_636 rfl (by decide) ?_
    exact er_lret rt d_Law_law_637 (by decide) (by decide)
  · have h := er_iff h b2
    refine er_aload_n cx d_Law_law_37 0 rfl ?_
    refine er_iload_n cx d_Law_law_38 3 rfl ?_
    obtain ⟨c3, h⟩ := er_ck h
    refine er_sald cx d_Law_law_39 c3.1 c3.2 ?_
    refine er_bipush (v := 15) cx d_Law_law_40 (by decide +kernel) (by decide) ?_
    refine er_iand cx d_Law_law_42 ?_
    by_cases b4 : er_and ((er_xs X) v3) 15 = 0
    · have h := er_ift h b4
      refine er_tin (tgt := 112) cx d_Law_law_43 (by omega) (by omega) (by rw [b4]; rfl) (by decide) ?_
      refine er_aload_n cx d_Law_law_112 1 rfl ?_
      refine er_aload_n cx d_Law_law_113 0 rfl ?_
      refine er_iload_n cx d_Law_law_114 3 rfl ?_
      refine er_iconst (v := 1) cx d_Law_law_115 rfl (by decide) ?_
      refine er_iadd cx d_Law_law_116 ?_
      obtain ⟨c5, h⟩ := er_ck h
      refine er_sald cx d_Law_law_117 c5.1 c5.2 ?_
      obtain ⟨c6, h⟩ := er_ck h
      obtain ⟨q6, e6, h⟩ := er_bd h
      refine er_callV (b := v1) (As := [.inl ((er_xs X) (er_add v3 1))]) (st := []) cx (c_ER_corrupt e6) my_Law_21 c6 ⟨by decide, by decide⟩ rfl (Nat.le_of_ble_eq_true rfl) d_Law_law_118 ⟨(by decide), (by decide)⟩ rfl ?_
      refine er_aload_n cx d_Law_law_121 2 rfl ?_
      refine er_aload_n cx d_Law_law_122 0 rfl ?_
      refine er_iload_n cx d_Law_law_123 3 rfl ?_
      refine er_iconst (v := 1) cx d_Law_law_124 rfl (by decide) ?_
      refine er_iadd cx d_Law_law_125 ?_
      refine er_sald cx d_Law_law_126 c5.1 c5.2 ?_
      obtain ⟨c8, h⟩ := er_ck h
      obtain ⟨q8, e8, h⟩ := er_bd h
      refine er_callV (b := v2) (As := [.inl ((er_xs X) (er_add v3 1))]) (st := [.inl q6.1]) cx (c_Mo_corrupt e8) my_Law_25 c8 ⟨by decide, by decide⟩ rfl (Nat.le_of_ble_eq_true rfl) d_Law_law_127 ⟨(by decide), (by decide)⟩ rfl ?_
      refine er_ic_eq (tgt := 630) cx d_Law_law_130 (by decide) (fun b9 => ?_) (fun b9 => ?_)
      · have h := er_ift h b9
        obtain ⟨x10, e10, h⟩ := er_lel h
        refine er_iinc cx d_Law_law_630 (k := 3) rfl (by decide) e10 rfl ?_
        refine er_goto (tgt := 28) cx d_Law_law_633 (by decide) ?_
        refine er_sb cx [1, 2, 3, 0] rfl ?_
        exact hself _ _ _ _ _ h
      · have h := er_iff h b9
        refine er_iconst (v := 0) cx d_Law_law_133 rfl (by decide) ?_
        cases h
    · have h := er_iff h b4
      by_cases b11 : er_and ((er_xs X) v3) 15 = 1
      · have h := er_ift h b11
        refine er_tin (tgt := 135) cx d_Law_law_43 (by omega) (by omega) (by rw [b11]; rfl) (by decide) ?_
        refine er_aload_n cx d_Law_law_135 1 rfl ?_
        refine er_aload_n cx d_Law_law_136 0 rfl ?_
        refine er_iload_n cx d_Law_law_137 3 rfl ?_
        refine er_iconst (v := 1) cx d_Law_law_138 rfl (by decide) ?_
        refine er_iadd cx d_Law_law_139 ?_
        obtain ⟨c12, h⟩ := er_ck h
        refine er_sald cx d_Law_law_140 c12.1 c12.2 ?_
        refine er_aload_n cx d_Law_law_141 0 rfl ?_
        refine er_iload_n cx d_Law_law_142 3 rfl ?_
        refine er_iconst (v := 2) cx d_Law_law_143 rfl (by decide) ?_
        refine er_iadd cx d_Law_law_144 ?_
        obtain ⟨c13, h⟩ := er_ck h
        refine er_sald cx d_Law_law_145 c13.1 c13.2 ?_
        obtain ⟨c14, h⟩ := er_ck h
        obtain ⟨q14, e14, h⟩ := er_bd h
        refine er_callV (b := v1) (As := [.inl ((er_xs X) (er_add v3 1)), .inl ((er_xs X) (er_add v3 2))]) (st := []) cx (c_ER_tosses e14) my_Law_26 c14 ⟨by decide, by decide⟩ rfl (Nat.le_of_ble_eq_true rfl) d_Law_law_146 ⟨(by decide), (by decide)⟩ rfl ?_
        refine er_aload_n cx d_Law_law_149 2 rfl ?_
        refine er_aload_n cx d_Law_law_150 0 rfl ?_
        refine er_iload_n cx d_Law_law_151 3 rfl ?_
        refine er_iconst (v := 1) cx d_Law_law_152 rfl (by decide) ?_
        refine er_iadd cx d_Law_law_153 ?_
        refine er_sald cx d_Law_law_154 c12.1 c12.2 ?_
        refine er_aload_n cx d_Law_law_155 0 rfl ?_
        refine er_iload_n cx d_Law_law_156 3 rfl ?_
        refine er_iconst (v := 2) cx d_Law_law_157 rfl (by decide) ?_
        refine er_iadd cx d_Law_law_158 ?_
        refine er_sald cx d_Law_law_159 c13.1 c13.2 ?_
        obtain ⟨c17, h⟩ := er_ck h
        obtain ⟨q17, e17, h⟩ := er_bd h
        refine er_callV (b := v2) (As := [.inl ((er_xs X) (er_add v3 1)), .inl ((er_xs X) (er_add v3 2))]) (st := [.inl q14.1]) cx (c_Mo_tosses e17) my_Law_30 c17 ⟨by decide, by decide⟩ rfl (Nat.le_of_ble_eq_true rfl) d_Law_law_160 ⟨(by decide), (by decide)⟩ rfl ?_
        refine er_ic_eq (tgt := 630) cx d_Law_law_163 (by decide) (fun b18 => ?_) (fun b18 => ?_)
        · have h := er_ift h b18
          obtain ⟨x19, e19, h⟩ := er_lel h
          refine er_iinc cx d_Law_law_630 (k := 3) rfl (by decide) e19 rfl ?_
          refine er_goto (tgt := 28) cx d_Law_law_633 (by decide) ?_
          refine er_sb cx [1, 2, 3, 0] rfl ?_
          exact hself _ _ _ _ _ h
        · have h := er_iff h b18
          refine er_iconst (v := 0) cx d_Law_law_166 rfl (by decide) ?_
          cases h
      · have h := er_iff h b11
        by_cases b20 : er_and ((er_xs X) v3) 15 = 2
        · have h := er_ift h b20
          refine er_tin (tgt := 168) cx d_Law_law_43 (by omega) (by omega) (by rw [b20]; rfl) (by decide) ?_
          refine er_aload_n cx d_Law_law_168 1 rfl ?_
          refine er_aload_n cx d_Law_law_169 0 rfl ?_
          refine er_iload_n cx d_Law_law_170 3 rfl ?_
          refine er_iconst (v := 1) cx d_Law_law_171 rfl (by decide) ?_
          refine er_iadd cx d_Law_law_172 ?_
          obtain ⟨c21, h⟩ := er_ck h
          refine er_sald cx d_Law_law_173 c21.1 c21.2 ?_
          refine er_aload_n cx d_Law_law_174 0 rfl ?_
          refine er_iload_n cx d_Law_law_175 3 rfl ?_
          refine er_iconst (v := 2) cx d_Law_law_176 rfl (by decide) ?_
          refine er_iadd cx d_Law_law_177 ?_
          obtain ⟨c22, h⟩ := er_ck h
          refine er_sald cx d_Law_law_178 c22.1 c22.2 ?_
          obtain ⟨c23, h⟩ := er_ck h
          obtain ⟨q23, e23, h⟩ := er_bd h
          refine er_callV (b := v1) (As := [.inl ((er_xs X) (er_add v3 1)), .inl ((er_xs X) (er_add v3 2))]) (st := []) cx (c_ER_start e23) my_Law_31 c23 ⟨by decide, by decide⟩ rfl (Nat.le_of_ble_eq_true rfl) d_Law_law_179 ⟨(by decide), (by decide)⟩ rfl ?_
          refine er_aload_n cx d_Law_law_182 2 rfl ?_
          refine er_aload_n cx d_Law_law_183 0 rfl ?_
          refine er_iload_n cx d_Law_law_184 3 rfl ?_
          refine er_iconst (v := 1) cx d_Law_law_185 rfl (by decide) ?_
          refine er_iadd cx d_Law_law_186 ?_
          refine er_sald cx d_Law_law_187 c21.1 c21.2 ?_
          refine er_aload_n cx d_Law_law_188 0 rfl ?_
          refine er_iload_n cx d_Law_law_189 3 rfl ?_
          refine er_iconst (v := 2) cx d_Law_law_190 rfl (by decide) ?_
          refine er_iadd cx d_Law_law_191 ?_
          refine er_sald cx d_Law_law_192 c22.1 c22.2 ?_
          obtain ⟨c26, h⟩ := er_ck h
          obtain ⟨q26, e26, h⟩ := er_bd h
          refine er_callV (b := v2) (As := [.inl ((er_xs X) (er_add v3 1)), .inl ((er_xs X) (er_add v3 2))]) (st := [.inl q23.1]) cx (c_Mo_start e26) my_Law_34 c26 ⟨by decide, by decide⟩ rfl (Nat.le_of_ble_eq_true rfl) d_Law_law_193 ⟨(by decide), (by decide)⟩ rfl ?_
          refine er_ic_eq (tgt := 630) cx d_Law_law_196 (by decide) (fun b27 => ?_) (fun b27 => ?_)
          · have h := er_ift h b27
            obtain ⟨x28, e28, h⟩ := er_lel h
            refine er_iinc cx d_Law_law_630 (k := 3) rfl (by decide) e28 rfl ?_
            refine er_goto (tgt := 28) cx d_Law_law_633 (by decide) ?_
            refine er_sb cx [1, 2, 3, 0] rfl ?_
            exact hself _ _ _ _ _ h
          · have h := er_iff h b27
            refine er_iconst (v := 0) cx d_Law_law_199 rfl (by decide) ?_
            cases h
        · have h := er_iff h b20
          by_cases b29 : er_and ((er_xs X) v3) 15 = 3
          · have h := er_ift h b29
            refine er_tin (tgt := 201) cx d_Law_law_43 (by omega) (by omega) (by rw [b29]; rfl) (by decide) ?_
            refine er_aload_n cx d_Law_law_201 1 rfl ?_
            refine er_aload_n cx d_Law_law_202 0 rfl ?_
            refine er_iload_n cx d_Law_law_203 3 rfl ?_
            refine er_iconst (v := 1) cx d_Law_law_204 rfl (by decide) ?_
            refine er_iadd cx d_Law_law_205 ?_
            obtain ⟨c30, h⟩ := er_ck h
            refine er_sald cx d_Law_law_206 c30.1 c30.2 ?_
            refine er_aload_n cx d_Law_law_207 0 rfl ?_
            refine er_iload_n cx d_Law_law_208 3 rfl ?_
            refine er_iconst (v := 2) cx d_Law_law_209 rfl (by decide) ?_
            refine er_iadd cx d_Law_law_210 ?_
            obtain ⟨c31, h⟩ := er_ck h
            refine er_sald cx d_Law_law_211 c31.1 c31.2 ?_
            refine er_aload_n cx d_Law_law_212 0 rfl ?_
            refine er_iload_n cx d_Law_law_213 3 rfl ?_
            refine er_iconst (v := 3) cx d_Law_law_214 rfl (by decide) ?_
            refine er_iadd cx d_Law_law_215 ?_
            obtain ⟨c32, h⟩ := er_ck h
            refine er_sald cx d_Law_law_216 c32.1 c32.2 ?_
            obtain ⟨c33, h⟩ := er_ck h
            obtain ⟨q33, e33, h⟩ := er_bd h
            refine er_callV (b := v1) (As := [.inl ((er_xs X) (er_add v3 1)), .inl ((er_xs X) (er_add v3 2)), .inl ((er_xs X) (er_add v3 3))]) (st := []) cx (c_ER_pass e33) my_Law_35 c33 ⟨by decide, by decide⟩ rfl (Nat.le_of_ble_eq_true rfl) d_Law_law_217 ⟨(by decide), (by decide)⟩ rfl ?_
            refine er_aload_n cx d_Law_law_220 2 rfl ?_
            refine er_aload_n cx d_Law_law_221 0 rfl ?_
            refine er_iload_n cx d_Law_law_222 3 rfl ?_
            refine er_iconst (v := 1) cx d_Law_law_223 rfl (by decide) ?_
            refine er_iadd cx d_Law_law_224 ?_
            refine er_sald cx d_Law_law_225 c30.1 c30.2 ?_
            refine er_aload_n cx d_Law_law_226 0 rfl ?_
            refine er_iload_n cx d_Law_law_227 3 rfl ?_
            refine er_iconst (v := 2) cx d_Law_law_228 rfl (by decide) ?_
            refine er_iadd cx d_Law_law_229 ?_
            refine er_sald cx d_Law_law_230 c31.1 c31.2 ?_
            refine er_aload_n cx d_Law_law_231 0 rfl ?_
            refine er_iload_n cx d_Law_law_232 3 rfl ?_
            refine er_iconst (v := 3) cx d_Law_law_233 rfl (by decide) ?_
            refine er_iadd cx d_Law_law_234 ?_
            refine er_sald cx d_Law_law_235 c32.1 c32.2 ?_
            obtain ⟨c37, h⟩ := er_ck h
            obtain ⟨q37, e37, h⟩ := er_bd h
            refine er_callV (b := v2) (As := [.inl ((er_xs X) (er_add v3 1)), .inl ((er_xs X) (er_add v3 2)), .inl ((er_xs X) (er_add v3 3))]) (st := [.inl q33.1]) cx (c_Mo_pass e37) my_Law_39 c37 ⟨by decide, by decide⟩ rfl (Nat.le_of_ble_eq_true rfl) d_Law_law_236 ⟨(by decide), (by decide)⟩ rfl ?_
            refine er_ic_eq (tgt := 630) cx d_Law_law_239 (by decide) (fun b38 => ?_) (fun b38 => ?_)
            · have h := er_ift h b38
              obtain ⟨x39, e39, h⟩ := er_lel h
              refine er_iinc cx d_Law_law_630 (k := 3) rfl (by decide) e39 rfl ?_
              refine er_goto (tgt := 28) cx d_Law_law_633 (by decide) ?_
              refine er_sb cx [1, 2, 3, 0] rfl ?_
              exact hself _ _ _ _ _ h
            · have h := er_iff h b38
              refine er_iconst (v := 0) cx d_Law_law_242 rfl (by decide) ?_
              cases h
          · have h := er_iff h b29
            by_cases b40 : er_and ((er_xs X) v3) 15 = 4
            · have h := er_ift h b40
              refine er_tin (tgt := 244) cx d_Law_law_43 (by omega) (by omega) (by rw [b40]; rfl) (by decide) ?_
              refine er_aload_n cx d_Law_law_244 1 rfl ?_
              refine er_aload_n cx d_Law_law_245 0 rfl ?_
              refine er_iload_n cx d_Law_law_246 3 rfl ?_
              refine er_iconst (v := 1) cx d_Law_law_247 rfl (by decide) ?_
              refine er_iadd cx d_Law_law_248 ?_
              obtain ⟨c41, h⟩ := er_ck h
              refine er_sald cx d_Law_law_249 c41.1 c41.2 ?_
              refine er_aload_n cx d_Law_law_250 0 rfl ?_
              refine er_iload_n cx d_Law_law_251 3 rfl ?_
              refine er_iconst (v := 2) cx d_Law_law_252 rfl (by decide) ?_
              refine er_iadd cx d_Law_law_253 ?_
              obtain ⟨c42, h⟩ := er_ck h
              refine er_sald cx d_Law_law_254 c42.1 c42.2 ?_
              refine er_aload_n cx d_Law_law_255 0 rfl ?_
              refine er_iload_n cx d_Law_law_256 3 rfl ?_
              refine er_iconst (v := 3) cx d_Law_law_257 rfl (by decide) ?_
              refine er_iadd cx d_Law_law_258 ?_
              obtain ⟨c43, h⟩ := er_ck h
              refine er_sald cx d_Law_law_259 c43.1 c43.2 ?_
              refine er_aload_n cx d_Law_law_260 0 rfl ?_
              refine er_iload_n cx d_Law_law_261 3 rfl ?_
              refine er_iconst (v := 4) cx d_Law_law_262 rfl (by decide) ?_
              refine er_iadd cx d_Law_law_263 ?_
              obtain ⟨c44, h⟩ := er_ck h
              refine er_sald cx d_Law_law_264 c44.1 c44.2 ?_
              refine er_aload_n cx d_Law_law_265 0 rfl ?_
              refine er_iload_n cx d_Law_law_266 3 rfl ?_
              refine er_iconst (v := 5) cx d_Law_law_267 rfl (by decide) ?_
              refine er_iadd cx d_Law_law_268 ?_
              obtain ⟨c45, h⟩ := er_ck h
              refine er_sald cx d_Law_law_269 c45.1 c45.2 ?_
              obtain ⟨c46, h⟩ := er_ck h
              obtain ⟨q46, e46, h⟩ := er_bd h
              refine er_callV (b := v1) (As := [.inl ((er_xs X) (er_add v3 1)), .inl ((er_xs X) (er_add v3 2)), .inl ((er_xs X) (er_add v3 3)), .inl ((er_xs X) (er_add v3 4)), .inl ((er_xs X) (er_add v3 5))]) (st := []) cx (c_ER_forge e46) my_Law_40 c46 ⟨by decide, by decide⟩ rfl (Nat.le_of_ble_eq_true rfl) d_Law_law_270 ⟨(by decide), (by decide)⟩ rfl ?_
              refine er_aload_n cx d_Law_law_273 2 rfl ?_
              refine er_aload_n cx d_Law_law_274 0 rfl ?_
              refine er_iload_n cx d_Law_law_275 3 rfl ?_
              refine er_iconst (v := 1) cx d_Law_law_276 rfl (by decide) ?_
              refine er_iadd cx d_Law_law_277 ?_
              refine er_sald cx d_Law_law_278 c41.1 c41.2 ?_
              refine er_aload_n cx d_Law_law_279 0 rfl ?_
              refine er_iload_n cx d_Law_law_280 3 rfl ?_
              refine er_iconst (v := 2) cx d_Law_law_281 rfl (by decide) ?_
              refine er_iadd cx d_Law_law_282 ?_
              refine er_sald cx d_Law_law_283 c42.1 c42.2 ?_
              refine er_aload_n cx d_Law_law_284 0 rfl ?_
              refine er_iload_n cx d_Law_law_285 3 rfl ?_
              refine er_iconst (v := 3) cx d_Law_law_286 rfl (by decide) ?_
              refine er_iadd cx d_Law_law_287 ?_
              refine er_sald cx d_Law_law_288 c43.1 c43.2 ?_
              refine er_aload_n cx d_Law_law_289 0 rfl ?_
              refine er_iload_n cx d_Law_law_290 3 rfl ?_
              refine er_iconst (v := 4) cx d_Law_law_291 rfl (by decide) ?_
              refine er_iadd cx d_Law_law_292 ?_
              refine er_sald cx d_Law_law_293 c44.1 c44.2 ?_
              refine er_aload_n cx d_Law_law_294 0 rfl ?_
              refine er_iload_n cx d_Law_law_295 3 rfl ?_
              refine er_iconst (v := 5) cx d_Law_law_296 rfl (by decide) ?_
              refine er_iadd cx d_Law_law_297 ?_
              refine er_sald cx d_Law_law_298 c45.1 c45.2 ?_
              obtain ⟨c52, h⟩ := er_ck h
              obtain ⟨q52, e52, h⟩ := er_bd h
              refine er_callV (b := v2) (As := [.inl ((er_xs X) (er_add v3 1)), .inl ((er_xs X) (er_add v3 2)), .inl ((er_xs X) (er_add v3 3)), .inl ((er_xs X) (er_add v3 4)), .inl ((er_xs X) (er_add v3 5))]) (st := [.inl q46.1]) cx (c_Mo_forge e52) my_Law_44 c52 ⟨by decide, by decide⟩ rfl (Nat.le_of_ble_eq_true rfl) d_Law_law_299 ⟨(by decide), (by decide)⟩ rfl ?_
              refine er_ic_eq (tgt := 630) cx d_Law_law_302 (by decide) (fun b53 => ?_) (fun b53 => ?_)
              · have h := er_ift h b53
                obtain ⟨x54, e54, h⟩ := er_lel h
                refine er_iinc cx d_Law_law_630 (k := 3) rfl (by decide) e54 rfl ?_
                refine er_goto (tgt := 28) cx d_Law_law_633 (by decide) ?_
                refine er_sb cx [1, 2, 3, 0] rfl ?_
                exact hself _ _ _ _ _ h
              · have h := er_iff h b53
                refine er_iconst (v := 0) cx d_Law_law_305 rfl (by decide) ?_
                cases h
            · have h := er_iff h b40
              by_cases b55 : er_and ((er_xs X) v3) 15 = 5
              · have h := er_ift h b55
                refine er_tin (tgt := 307) cx d_Law_law_43 (by omega) (by omega) (by rw [b55]; rfl) (by decide) ?_
                refine er_aload_n cx d_Law_law_307 1 rfl ?_
                refine er_aload_n cx d_Law_law_308 0 rfl ?_
                refine er_iload_n cx d_Law_law_309 3 rfl ?_
                refine er_iconst (v := 1) cx d_Law_law_310 rfl (by decide) ?_
                refine er_iadd cx d_Law_law_311 ?_
                obtain ⟨c56, h⟩ := er_ck h
                refine er_sald cx d_Law_law_312 c56.1 c56.2 ?_
                obtain ⟨c57, h⟩ := er_ck h
                obtain ⟨q57, e57, h⟩ := er_bd h
                refine er_callV (b := v1) (As := [.inl ((er_xs X) (er_add v3 1))]) (st := []) cx (c_ER_sent e57) my_Law_45 c57 ⟨by decide, by decide⟩ rfl (Nat.le_of_ble_eq_true rfl) d_Law_law_313 ⟨(by decide), (by decide)⟩ rfl ?_
                refine er_aload_n cx d_Law_law_316 2 rfl ?_
                refine er_aload_n cx d_Law_law_317 0 rfl ?_
                refine er_iload_n cx d_Law_law_318 3 rfl ?_
                refine er_iconst (v := 1) cx d_Law_law_319 rfl (by decide) ?_
                refine er_iadd cx d_Law_law_320 ?_
                refine er_sald cx d_Law_law_321 c56.1 c56.2 ?_
                obtain ⟨c59, h⟩ := er_ck h
                obtain ⟨q59, e59, h⟩ := er_bd h
                refine er_callV (b := v2) (As := [.inl ((er_xs X) (er_add v3 1))]) (st := [.inl q57.1]) cx (c_Mo_sent e59) my_Law_49 c59 ⟨by decide, by decide⟩ rfl (Nat.le_of_ble_eq_true rfl) d_Law_law_322 ⟨(by decide), (by decide)⟩ rfl ?_
                refine er_ic_eq (tgt := 630) cx d_Law_law_325 (by decide) (fun b60 => ?_) (fun b60 => ?_)
                · have h := er_ift h b60
                  obtain ⟨x61, e61, h⟩ := er_lel h
                  refine er_iinc cx d_Law_law_630 (k := 3) rfl (by decide) e61 rfl ?_
                  refine er_goto (tgt := 28) cx d_Law_law_633 (by decide) ?_
                  refine er_sb cx [1, 2, 3, 0] rfl ?_
                  exact hself _ _ _ _ _ h
                · have h := er_iff h b60
                  refine er_iconst (v := 0) cx d_Law_law_328 rfl (by decide) ?_
                  cases h
              · have h := er_iff h b55
                by_cases b62 : er_and ((er_xs X) v3) 15 = 6
                · have h := er_ift h b62
                  refine er_tin (tgt := 330) cx d_Law_law_43 (by omega) (by omega) (by rw [b62]; rfl) (by decide) ?_
                  refine er_aload_n cx d_Law_law_330 1 rfl ?_
                  refine er_aload_n cx d_Law_law_331 0 rfl ?_
                  refine er_iload_n cx d_Law_law_332 3 rfl ?_
                  refine er_iconst (v := 1) cx d_Law_law_333 rfl (by decide) ?_
                  refine er_iadd cx d_Law_law_334 ?_
                  obtain ⟨c63, h⟩ := er_ck h
                  refine er_sald cx d_Law_law_335 c63.1 c63.2 ?_
                  refine er_aload_n cx d_Law_law_336 0 rfl ?_
                  refine er_iload_n cx d_Law_law_337 3 rfl ?_
                  refine er_iconst (v := 2) cx d_Law_law_338 rfl (by decide) ?_
                  refine er_iadd cx d_Law_law_339 ?_
                  obtain ⟨c64, h⟩ := er_ck h
                  refine er_sald cx d_Law_law_340 c64.1 c64.2 ?_
                  obtain ⟨c65, h⟩ := er_ck h
                  obtain ⟨q65, e65, h⟩ := er_bd h
                  refine er_callV (b := v1) (As := [.inl ((er_xs X) (er_add v3 1)), .inl ((er_xs X) (er_add v3 2))]) (st := []) cx (c_ER_message e65) my_Law_50 c65 ⟨by decide, by decide⟩ rfl (Nat.le_of_ble_eq_true rfl) d_Law_law_341 ⟨(by decide), (by decide)⟩ rfl ?_
                  refine er_aload_n cx d_Law_law_344 2 rfl ?_
                  refine er_aload_n cx d_Law_law_345 0 rfl ?_
                  refine er_iload_n cx d_Law_law_346 3 rfl ?_
                  refine er_iconst (v := 1) cx d_Law_law_347 rfl (by decide) ?_
                  refine er_iadd cx d_Law_law_348 ?_
                  refine er_sald cx d_Law_law_349 c63.1 c63.2 ?_
                  refine er_aload_n cx d_Law_law_350 0 rfl ?_
                  refine er_iload_n cx d_Law_law_351 3 rfl ?_
                  refine er_iconst (v := 2) cx d_Law_law_352 rfl (by decide) ?_
                  refine er_iadd cx d_Law_law_353 ?_
                  refine er_sald cx d_Law_law_354 c64.1 c64.2 ?_
                  obtain ⟨c68, h⟩ := er_ck h
                  obtain ⟨q68, e68, h⟩ := er_bd h
                  refine er_callV (b := v2) (As := [.inl ((er_xs X) (er_add v3 1)), .inl ((er_xs X) (er_add v3 2))]) (st := [.inl q65.1]) cx (c_Mo_message e68) my_Law_54 c68 ⟨by decide, by decide⟩ rfl (Nat.le_of_ble_eq_true rfl) d_Law_law_355 ⟨(by decide), (by decide)⟩ rfl ?_
                  refine er_ic_eq (tgt := 630) cx d_Law_law_358 (by decide) (fun b69 => ?_) (fun b69 => ?_)
                  · have h := er_ift h b69
                    obtain ⟨x70, e70, h⟩ := er_lel h
                    refine er_iinc cx d_Law_law_630 (k := 3) rfl (by decide) e70 rfl ?_
                    refine er_goto (tgt := 28) cx d_Law_law_633 (by decide) ?_
                    refine er_sb cx [1, 2, 3, 0] rfl ?_
                    exact hself _ _ _ _ _ h
                  · have h := er_iff h b69
                    refine er_iconst (v := 0) cx d_Law_law_361 rfl (by decide) ?_
                    cases h
                · have h := er_iff h b62
                  by_cases b71 : er_and ((er_xs X) v3) 15 = 7
                  · have h := er_ift h b71
                    refine er_tin (tgt := 363) cx d_Law_law_43 (by omega) (by omega) (by rw [b71]; rfl) (by decide) ?_
                    refine er_aload_n cx d_Law_law_363 1 rfl ?_
                    refine er_aload_n cx d_Law_law_364 0 rfl ?_
                    refine er_iload_n cx d_Law_law_365 3 rfl ?_
                    refine er_iconst (v := 1) cx d_Law_law_366 rfl (by decide) ?_
                    refine er_iadd cx d_Law_law_367 ?_
                    obtain ⟨c72, h⟩ := er_ck h
                    refine er_sald cx d_Law_law_368 c72.1 c72.2 ?_
                    refine er_aload_n cx d_Law_law_369 0 rfl ?_
                    refine er_iload_n cx d_Law_law_370 3 rfl ?_
                    refine er_iconst (v := 2) cx d_Law_law_371 rfl (by decide) ?_
                    refine er_iadd cx d_Law_law_372 ?_
                    obtain ⟨c73, h⟩ := er_ck h
                    refine er_sald cx d_Law_law_373 c73.1 c73.2 ?_
                    obtain ⟨c74, h⟩ := er_ck h
                    obtain ⟨q74, e74, h⟩ := er_bd h
                    refine er_callV (b := v1) (As := [.inl ((er_xs X) (er_add v3 1)), .inl ((er_xs X) (er_add v3 2))]) (st := []) cx (c_ER_waiting e74) my_Law_55 c74 ⟨by decide, by decide⟩ rfl (Nat.le_of_ble_eq_true rfl) d_Law_law_374 ⟨(by decide), (by decide)⟩ rfl ?_
                    refine er_aload_n cx d_Law_law_377 2 rfl ?_
                    refine er_aload_n cx d_Law_law_378 0 rfl ?_
                    refine er_iload_n cx d_Law_law_379 3 rfl ?_
                    refine er_iconst (v := 1) cx d_Law_law_380 rfl (by decide) ?_
                    refine er_iadd cx d_Law_law_381 ?_
                    refine er_sald cx d_Law_law_382 c72.1 c72.2 ?_
                    refine er_aload_n cx d_Law_law_383 0 rfl ?_
                    refine er_iload_n cx d_Law_law_384 3 rfl ?_
                    refine er_iconst (v := 2) cx d_Law_law_385 rfl (by decide) ?_
                    refine er_iadd cx d_Law_law_386 ?_
                    refine er_sald cx d_Law_law_387 c73.1 c73.2 ?_
                    obtain ⟨c77, h⟩ := er_ck h
                    obtain ⟨q77, e77, h⟩ := er_bd h
                    refine er_callV (b := v2) (As := [.inl ((er_xs X) (er_add v3 1)), .inl ((er_xs X) (er_add v3 2))]) (st := [.inl q74.1]) cx (c_Mo_waiting e77) my_Law_58 c77 ⟨by decide, by decide⟩ rfl (Nat.le_of_ble_eq_true rfl) d_Law_law_388 ⟨(by decide), (by decide)⟩ rfl ?_
                    refine er_ic_eq (tgt := 630) cx d_Law_law_391 (by decide) (fun b78 => ?_) (fun b78 => ?_)
                    · have h := er_ift h b78
                      obtain ⟨x79, e79, h⟩ := er_lel h
                      refine er_iinc cx d_Law_law_630 (k := 3) rfl (by decide) e79 rfl ?_
                      refine er_goto (tgt := 28) cx d_Law_law_633 (by decide) ?_
                      refine er_sb cx [1, 2, 3, 0] rfl ?_
                      exact hself _ _ _ _ _ h
                    · have h := er_iff h b78
                      refine er_iconst (v := 0) cx d_Law_law_394 rfl (by decide) ?_
                      cases h
                  · have h := er_iff h b71
                    by_cases b80 : er_and ((er_xs X) v3) 15 = 8
                    · have h := er_ift h b80
                      refine er_tin (tgt := 396) cx d_Law_law_43 (by omega) (by omega) (by rw [b80]; rfl) (by decide) ?_
                      refine er_aload_n cx d_Law_law_396 1 rfl ?_
                      refine er_aload_n cx d_Law_law_397 0 rfl ?_
                      refine er_iload_n cx d_Law_law_398 3 rfl ?_
                      refine er_iconst (v := 1) cx d_Law_law_399 rfl (by decide) ?_
                      refine er_iadd cx d_Law_law_400 ?_
                      obtain ⟨c81, h⟩ := er_ck h
                      refine er_sald cx d_Law_law_401 c81.1 c81.2 ?_
                      refine er_aload_n cx d_Law_law_402 0 rfl ?_
                      refine er_iload_n cx d_Law_law_403 3 rfl ?_
                      refine er_iconst (v := 2) cx d_Law_law_404 rfl (by decide) ?_
                      refine er_iadd cx d_Law_law_405 ?_
                      obtain ⟨c82, h⟩ := er_ck h
                      refine er_sald cx d_Law_law_406 c82.1 c82.2 ?_
                      refine er_aload_n cx d_Law_law_407 0 rfl ?_
                      refine er_iload_n cx d_Law_law_408 3 rfl ?_
                      refine er_iconst (v := 3) cx d_Law_law_409 rfl (by decide) ?_
                      refine er_iadd cx d_Law_law_410 ?_
                      obtain ⟨c83, h⟩ := er_ck h
                      refine er_sald cx d_Law_law_411 c83.1 c83.2 ?_
                      refine er_aload_n cx d_Law_law_412 0 rfl ?_
                      refine er_iload_n cx d_Law_law_413 3 rfl ?_
                      refine er_iconst (v := 4) cx d_Law_law_414 rfl (by decide) ?_
                      refine er_iadd cx d_Law_law_415 ?_
                      obtain ⟨c84, h⟩ := er_ck h
                      refine er_sald cx d_Law_law_416 c84.1 c84.2 ?_
                      refine er_aload_n cx d_Law_law_417 0 rfl ?_
                      refine er_iload_n cx d_Law_law_418 3 rfl ?_
                      refine er_iconst (v := 5) cx d_Law_law_419 rfl (by decide) ?_
                      refine er_iadd cx d_Law_law_420 ?_
                      obtain ⟨c85, h⟩ := er_ck h
                      refine er_sald cx d_Law_law_421 c85.1 c85.2 ?_
                      refine er_if_eq (tgt := 429) cx d_Law_law_422 (by decide) (fun b86 => ?_) (fun b86 => ?_)
                      · have h := er_ift h b86
                        refine er_iconst (v := 0) cx d_Law_law_429 rfl (by decide) ?_
                        exact w_Law_law_430 cx rt hself _ _ _ _ _ _ _ _ _ _ _ h
                      · have h := er_iff h b86
                        refine er_iconst (v := 1) cx d_Law_law_425 rfl (by decide) ?_
                        refine er_goto (tgt := 430) cx d_Law_law_426 (by decide) ?_
                        exact w_Law_law_430 cx rt hself _ _ _ _ _ _ _ _ _ _ _ h
                    · have h := er_iff h b80
                      by_cases b87 : er_and ((er_xs X) v3) 15 = 9
                      · have h := er_ift h b87
                        refine er_tin (tgt := 475) cx d_Law_law_43 (by omega) (by omega) (by rw [b87]; rfl) (by decide) ?_
                        refine er_aload_n cx d_Law_law_475 1 rfl ?_
                        refine er_aload_n cx d_Law_law_476 0 rfl ?_
                        refine er_iload_n cx d_Law_law_477 3 rfl ?_
                        refine er_iconst (v := 1) cx d_Law_law_478 rfl (by decide) ?_
                        refine er_iadd cx d_Law_law_479 ?_
                        obtain ⟨c88, h⟩ := er_ck h
                        refine er_sald cx d_Law_law_480 c88.1 c88.2 ?_
                        refine er_aload_n cx d_Law_law_481 0 rfl ?_
                        refine er_iload_n cx d_Law_law_482 3 rfl ?_
                        refine er_iconst (v := 2) cx d_Law_law_483 rfl (by decide) ?_
                        refine er_iadd cx d_Law_law_484 ?_
                        obtain ⟨c89, h⟩ := er_ck h
                        refine er_sald cx d_Law_law_485 c89.1 c89.2 ?_
                        refine er_aload_n cx d_Law_law_486 0 rfl ?_
                        refine er_iload_n cx d_Law_law_487 3 rfl ?_
                        refine er_iconst (v := 3) cx d_Law_law_488 rfl (by decide) ?_
                        refine er_iadd cx d_Law_law_489 ?_
                        obtain ⟨c90, h⟩ := er_ck h
                        refine er_sald cx d_Law_law_490 c90.1 c90.2 ?_
                        obtain ⟨c91, h⟩ := er_ck h
                        obtain ⟨q91, e91, h⟩ := er_bd h
                        refine er_callV (b := v1) (As := [.inl ((er_xs X) (er_add v3 1)), .inl ((er_xs X) (er_add v3 2)), .inl ((er_xs X) (er_add v3 3))]) (st := []) cx (c_ER_accepted e91) my_Law_64 c91 ⟨by decide, by decide⟩ rfl (Nat.le_of_ble_eq_true rfl) d_Law_law_491 ⟨(by decide), (by decide)⟩ rfl ?_
                        refine er_aload_n cx d_Law_law_494 2 rfl ?_
                        refine er_aload_n cx d_Law_law_495 0 rfl ?_
                        refine er_iload_n cx d_Law_law_496 3 rfl ?_
                        refine er_iconst (v := 1) cx d_Law_law_497 rfl (by decide) ?_
                        refine er_iadd cx d_Law_law_498 ?_
                        refine er_sald cx d_Law_law_499 c88.1 c88.2 ?_
                        refine er_aload_n cx d_Law_law_500 0 rfl ?_
                        refine er_iload_n cx d_Law_law_501 3 rfl ?_
                        refine er_iconst (v := 2) cx d_Law_law_502 rfl (by decide) ?_
                        refine er_iadd cx d_Law_law_503 ?_
                        refine er_sald cx d_Law_law_504 c89.1 c89.2 ?_
                        refine er_aload_n cx d_Law_law_505 0 rfl ?_
                        refine er_iload_n cx d_Law_law_506 3 rfl ?_
                        refine er_iconst (v := 3) cx d_Law_law_507 rfl (by decide) ?_
                        refine er_iadd cx d_Law_law_508 ?_
                        refine er_sald cx d_Law_law_509 c90.1 c90.2 ?_
                        obtain ⟨c95, h⟩ := er_ck h
                        obtain ⟨q95, e95, h⟩ := er_bd h
                        refine er_callV (b := v2) (As := [.inl ((er_xs X) (er_add v3 1)), .inl ((er_xs X) (er_add v3 2)), .inl ((er_xs X) (er_add v3 3))]) (st := [.inl q91.1]) cx (c_Mo_accepted e95) my_Law_67 c95 ⟨by decide, by decide⟩ rfl (Nat.le_of_ble_eq_true rfl) d_Law_law_510 ⟨(by decide), (by decide)⟩ rfl ?_
                        refine er_ic_eq (tgt := 630) cx d_Law_law_513 (by decide) (fun b96 => ?_) (fun b96 => ?_)
                        · have h := er_ift h b96
                          obtain ⟨x97, e97, h⟩ := er_lel h
                          refine er_iinc cx d_Law_law_630 (k := 3) rfl (by decide) e97 rfl ?_
                          refine er_goto (tgt := 28) cx d_Law_law_633 (by decide) ?_
                          refine er_sb cx [1, 2, 3, 0] rfl ?_
                          exact hself _ _ _ _ _ h
                        · have h := er_iff h b96
                          refine er_iconst (v := 0) cx d_Law_law_516 rfl (by decide) ?_
                          cases h
                      · have h := er_iff h b87
                        by_cases b98 : er_and ((er_xs X) v3) 15 = 10
                        · have h := er_ift h b98
                          refine er_tin (tgt := 518) cx d_Law_law_43 (by omega) (by omega) (by rw [b98]; rfl) (by decide) ?_
                          refine er_aload_n cx d_Law_law_518 1 rfl ?_
                          refine er_aload_n cx d_Law_law_519 0 rfl ?_
                          refine er_iload_n cx d_Law_law_520 3 rfl ?_
                          refine er_iconst (v := 1) cx d_Law_law_521 rfl (by decide) ?_
                          refine er_iadd cx d_Law_law_522 ?_
                          obtain ⟨c99, h⟩ := er_ck h
                          refine er_sald cx d_Law_law_523 c99.1 c99.2 ?_
                          refine er_aload_n cx d_Law_law_524 0 rfl ?_
                          refine er_iload_n cx d_Law_law_525 3 rfl ?_
                          refine er_iconst (v := 2) cx d_Law_law_526 rfl (by decide) ?_
                          refine er_iadd cx d_Law_law_527 ?_
                          obtain ⟨c100, h⟩ := er_ck h
                          refine er_sald cx d_Law_law_528 c100.1 c100.2 ?_
                          refine er_aload_n cx d_Law_law_529 0 rfl ?_
                          refine er_iload_n cx d_Law_law_530 3 rfl ?_
                          refine er_iconst (v := 3) cx d_Law_law_531 rfl (by decide) ?_
                          refine er_iadd cx d_Law_law_532 ?_
                          obtain ⟨c101, h⟩ := er_ck h
                          refine er_sald cx d_Law_law_533 c101.1 c101.2 ?_
                          obtain ⟨c102, h⟩ := er_ck h
                          obtain ⟨q102, e102, h⟩ := er_bd h
                          refine er_callV (b := v1) (As := [.inl ((er_xs X) (er_add v3 1)), .inl ((er_xs X) (er_add v3 2)), .inl ((er_xs X) (er_add v3 3))]) (st := []) cx (c_ER_rowAt e102) my_Law_68 c102 ⟨by decide, by decide⟩ rfl (Nat.le_of_ble_eq_true rfl) d_Law_law_534 ⟨(by decide), (by decide)⟩ rfl ?_
                          refine er_aload_n cx d_Law_law_537 2 rfl ?_
                          refine er_aload_n cx d_Law_law_538 0 rfl ?_
                          refine er_iload_n cx d_Law_law_539 3 rfl ?_
                          refine er_iconst (v := 1) cx d_Law_law_540 rfl (by decide) ?_
                          refine er_iadd cx d_Law_law_541 ?_
                          refine er_sald cx d_Law_law_542 c99.1 c99.2 ?_
                          refine er_aload_n cx d_Law_law_543 0 rfl ?_
                          refine er_iload_n cx d_Law_law_544 3 rfl ?_
                          refine er_iconst (v := 2) cx d_Law_law_545 rfl (by decide) ?_
                          refine er_iadd cx d_Law_law_546 ?_
                          refine er_sald cx d_Law_law_547 c100.1 c100.2 ?_
                          refine er_aload_n cx d_Law_law_548 0 rfl ?_
                          refine er_iload_n cx d_Law_law_549 3 rfl ?_
                          refine er_iconst (v := 3) cx d_Law_law_550 rfl (by decide) ?_
                          refine er_iadd cx d_Law_law_551 ?_
                          refine er_sald cx d_Law_law_552 c101.1 c101.2 ?_
                          obtain ⟨c106, h⟩ := er_ck h
                          obtain ⟨q106, e106, h⟩ := er_bd h
                          refine er_callV (b := v2) (As := [.inl ((er_xs X) (er_add v3 1)), .inl ((er_xs X) (er_add v3 2)), .inl ((er_xs X) (er_add v3 3))]) (st := [.inl q102.1]) cx (c_Mo_rowAt e106) my_Law_71 c106 ⟨by decide, by decide⟩ rfl (Nat.le_of_ble_eq_true rfl) d_Law_law_553 ⟨(by decide), (by decide)⟩ rfl ?_
                          refine er_ic_eq (tgt := 630) cx d_Law_law_556 (by decide) (fun b107 => ?_) (fun b107 => ?_)
                          · have h := er_ift h b107
                            obtain ⟨x108, e108, h⟩ := er_lel h
                            refine er_iinc cx d_Law_law_630 (k := 3) rfl (by decide) e108 rfl ?_
                            refine er_goto (tgt := 28) cx d_Law_law_633 (by decide) ?_
                            refine er_sb cx [1, 2, 3, 0] rfl ?_
                            exact hself _ _ _ _ _ h
                          · have h := er_iff h b107
                            refine er_iconst (v := 0) cx d_Law_law_559 rfl (by decide) ?_
                            cases h
                        · have h := er_iff h b98
                          by_cases b109 : er_and ((er_xs X) v3) 15 = 11
                          · have h := er_ift h b109
                            refine er_tin (tgt := 561) cx d_Law_law_43 (by omega) (by omega) (by rw [b109]; rfl) (by decide) ?_
                            refine er_aload_n cx d_Law_law_561 1 rfl ?_
                            refine er_aload_n cx d_Law_law_562 0 rfl ?_
                            refine er_iload_n cx d_Law_law_563 3 rfl ?_
                            refine er_iconst (v := 1) cx d_Law_law_564 rfl (by decide) ?_
                            refine er_iadd cx d_Law_law_565 ?_
                            obtain ⟨c110, h⟩ := er_ck h
                            refine er_sald cx d_Law_law_566 c110.1 c110.2 ?_
                            obtain ⟨c111, h⟩ := er_ck h
                            obtain ⟨q111, e111, h⟩ := er_bd h
                            refine er_callV (b := v1) (As := [.inl ((er_xs X) (er_add v3 1))]) (st := []) cx (c_ER_slot e111) my_Law_72 c111 ⟨by decide, by decide⟩ rfl (Nat.le_of_ble_eq_true rfl) d_Law_law_567 ⟨(by decide), (by decide)⟩ rfl ?_
                            refine er_aload_n cx d_Law_law_570 2 rfl ?_
                            refine er_aload_n cx d_Law_law_571 0 rfl ?_
                            refine er_iload_n cx d_Law_law_572 3 rfl ?_
                            refine er_iconst (v := 1) cx d_Law_law_573 rfl (by decide) ?_
                            refine er_iadd cx d_Law_law_574 ?_
                            refine er_sald cx d_Law_law_575 c110.1 c110.2 ?_
                            obtain ⟨c113, h⟩ := er_ck h
                            obtain ⟨q113, e113, h⟩ := er_bd h
                            refine er_callV (b := v2) (As := [.inl ((er_xs X) (er_add v3 1))]) (st := [.inl q111.1]) cx (c_Mo_slot e113) my_Law_75 c113 ⟨by decide, by decide⟩ rfl (Nat.le_of_ble_eq_true rfl) d_Law_law_576 ⟨(by decide), (by decide)⟩ rfl ?_
                            refine er_ic_eq (tgt := 630) cx d_Law_law_579 (by decide) (fun b114 => ?_) (fun b114 => ?_)
                            · have h := er_ift h b114
                              obtain ⟨x115, e115, h⟩ := er_lel h
                              refine er_iinc cx d_Law_law_630 (k := 3) rfl (by decide) e115 rfl ?_
                              refine er_goto (tgt := 28) cx d_Law_law_633 (by decide) ?_
                              refine er_sb cx [1, 2, 3, 0] rfl ?_
                              exact hself _ _ _ _ _ h
                            · have h := er_iff h b114
                              refine er_iconst (v := 0) cx d_Law_law_582 rfl (by decide) ?_
                              cases h
                          · have h := er_iff h b109
                            by_cases b116 : er_and ((er_xs X) v3) 15 = 12
                            · have h := er_ift h b116
                              refine er_tin (tgt := 584) cx d_Law_law_43 (by omega) (by omega) (by rw [b116]; rfl) (by decide) ?_
                              refine er_aload_n cx d_Law_law_584 1 rfl ?_
                              refine er_aload_n cx d_Law_law_585 0 rfl ?_
                              refine er_iload_n cx d_Law_law_586 3 rfl ?_
                              refine er_iconst (v := 1) cx d_Law_law_587 rfl (by decide) ?_
                              refine er_iadd cx d_Law_law_588 ?_
                              obtain ⟨c117, h⟩ := er_ck h
                              refine er_sald cx d_Law_law_589 c117.1 c117.2 ?_
                              obtain ⟨c118, h⟩ := er_ck h
                              obtain ⟨q118, e118, h⟩ := er_bd h
                              refine er_callV (b := v1) (As := [.inl ((er_xs X) (er_add v3 1))]) (st := []) cx (c_ER_value e118) my_Law_76 c118 ⟨by decide, by decide⟩ rfl (Nat.le_of_ble_eq_true rfl) d_Law_law_590 ⟨(by decide), (by decide)⟩ rfl ?_
                              refine er_aload_n cx d_Law_law_593 2 rfl ?_
                              refine er_aload_n cx d_Law_law_594 0 rfl ?_
                              refine er_iload_n cx d_Law_law_595 3 rfl ?_
                              refine er_iconst (v := 1) cx d_Law_law_596 rfl (by decide) ?_
                              refine er_iadd cx d_Law_law_597 ?_
                              refine er_sald cx d_Law_law_598 c117.1 c117.2 ?_
                              obtain ⟨c120, h⟩ := er_ck h
                              obtain ⟨q120, e120, h⟩ := er_bd h
                              refine er_callV (b := v2) (As := [.inl ((er_xs X) (er_add v3 1))]) (st := [.inl q118.1]) cx (c_Mo_value e120) my_Law_79 c120 ⟨by decide, by decide⟩ rfl (Nat.le_of_ble_eq_true rfl) d_Law_law_599 ⟨(by decide), (by decide)⟩ rfl ?_
                              refine er_ic_eq (tgt := 630) cx d_Law_law_602 (by decide) (fun b121 => ?_) (fun b121 => ?_)
                              · have h := er_ift h b121
                                obtain ⟨x122, e122, h⟩ := er_lel h
                                refine er_iinc cx d_Law_law_630 (k := 3) rfl (by decide) e122 rfl ?_
                                refine er_goto (tgt := 28) cx d_Law_law_633 (by decide) ?_
                                refine er_sb cx [1, 2, 3, 0] rfl ?_
                                exact hself _ _ _ _ _ h
                              · have h := er_iff h b121
                                refine er_iconst (v := 0) cx d_Law_law_605 rfl (by decide) ?_
                                cases h
                            · have h := er_iff h b116
                              by_cases b123 : er_and ((er_xs X) v3) 15 = 13
                              · have h := er_ift h b123
                                refine er_tin (tgt := 607) cx d_Law_law_43 (by omega) (by omega) (by rw [b123]; rfl) (by decide) ?_
                                refine er_aload_n cx d_Law_law_607 1 rfl ?_
                                refine er_aload_n cx d_Law_law_608 0 rfl ?_
                                refine er_iload_n cx d_Law_law_609 3 rfl ?_
                                refine er_iconst (v := 1) cx d_Law_law_610 rfl (by decide) ?_
                                refine er_iadd cx d_Law_law_611 ?_
                                obtain ⟨c124, h⟩ := er_ck h
                                refine er_sald cx d_Law_law_612 c124.1 c124.2 ?_
                                obtain ⟨c125, h⟩ := er_ck h
                                obtain ⟨q125, e125, h⟩ := er_bd h
                                refine er_callV (b := v1) (As := [.inl ((er_xs X) (er_add v3 1))]) (st := []) cx (c_ER_decided e125) my_Law_80 c125 ⟨by decide, by decide⟩ rfl (Nat.le_of_ble_eq_true rfl) d_Law_law_613 ⟨(by decide), (by decide)⟩ rfl ?_
                                refine er_aload_n cx d_Law_law_616 2 rfl ?_
                                refine er_aload_n cx d_Law_law_617 0 rfl ?_
                                refine er_iload_n cx d_Law_law_618 3 rfl ?_
                                refine er_iconst (v := 1) cx d_Law_law_619 rfl (by decide) ?_
                                refine er_iadd cx d_Law_law_620 ?_
                                refine er_sald cx d_Law_law_621 c124.1 c124.2 ?_
                                obtain ⟨c127, h⟩ := er_ck h
                                obtain ⟨q127, e127, h⟩ := er_bd h
                                refine er_callV (b := v2) (As := [.inl ((er_xs X) (er_add v3 1))]) (st := [.inl q125.1]) cx (c_Mo_decided e127) my_Law_83 c127 ⟨by decide, by decide⟩ rfl (Nat.le_of_ble_eq_true rfl) d_Law_law_622 ⟨(by decide), (by decide)⟩ rfl ?_
                                refine er_ic_eq (tgt := 630) cx d_Law_law_625 (by decide) (fun b128 => ?_) (fun b128 => ?_)
                                · have h := er_ift h b128
                                  obtain ⟨x129, e129, h⟩ := er_lel h
                                  refine er_iinc cx d_Law_law_630 (k := 3) rfl (by decide) e129 rfl ?_
                                  refine er_goto (tgt := 28) cx d_Law_law_633 (by decide) ?_
                                  refine er_sb cx [1, 2, 3, 0] rfl ?_
                                  exact hself _ _ _ _ _ h
                                · have h := er_iff h b128
                                  refine er_iconst (v := 0) cx d_Law_law_628 rfl (by decide) ?_
                                  cases h
                              · have h := er_iff h b123
                                obtain ⟨c130, h⟩ := er_ck h
                                refine er_tout (tgt := 630) cx d_Law_law_43 c130 (by decide) ?_
                                obtain ⟨x131, e131, h⟩ := er_lel h
                                refine er_iinc cx d_Law_law_630 (k := 3) rfl (by decide) e131 rfl ?_
                                refine er_goto (tgt := 28) cx d_Law_law_633 (by decide) ?_
                                refine er_sb cx [1, 2, 3, 0] rfl ?_
                                exact hself _ _ _ _ _ h
theorem w_Law_law_28 {K : er_K} {l : Launch} {X : er_X} (cx : er_Cx K l X code "EchoedRoundsLaw" 4 room_1) {r : Unit} (rt : er_Lt K X) : ∀ n : Nat, ∀ (v1 v2 v3 : Int) (T M : er_Me), f_Law_law_28 (er_xs X) (er_xn X) n v1 v2 v3 T M = some r → er_G K 342 19608 T M 28 [(0, .inr 0), (1, .inr v1), (2, .inr v2), (3, .inl v3)] [] := by
  intro n
  induction n with
  | zero =>
    intro v1 v2 v3 T M h
    cases h
  | succ n ih =>
    intro v1 v2 v3 T M h
    exact w_Law_law_28_b cx rt ih v1 v2 v3 T M h
def f_Law_law (xs : Int → Int) (xn : Int) (T M : er_Me) : Option (Unit) :=
  er_le (T 0 0 + 1) fun b1 =>
  er_le (er_nw T 1 0) fun T1 =>
  er_le (er_mw M b1) fun M1 =>
  (f_Law_cell xs xn 0 T1 M1).bind fun q2 =>
  (f_ER_init b1 q2.1 T1 q2.2).bind fun q3 =>
  er_le (q3.1 0 0 + 1) fun b4 =>
  er_le (er_nw q3.1 7 0) fun T4 =>
  er_le (er_mw q3.2 b4) fun M4 =>
  (f_Law_cell xs xn 0 T4 M4).bind fun q5 =>
  (f_Mo_init b4 q5.1 T4 q5.2).bind fun q6 =>
  f_Law_law_28 xs xn er_fu b1 b4 1 q6.1 q6.2
set_option maxHeartbeats 4000000 in
theorem w_Law_law {K : er_K} {l : Launch} {X : er_X} (cx : er_Cx K l X code "EchoedRoundsLaw" 4 room_1) {r : Unit} {T M : er_Me} (rt : er_Lt K X) (h : f_Law_law (er_xs X) (er_xn X)  T M = some r) : er_G K 0 0 T M 0 [(0, .inr 0)] [] := by
  unfold f_Law_law at h
  obtain ⟨b1, eb1, h⟩ := er_lel h
  obtain ⟨T1, eT1, h⟩ := er_lel h
  obtain ⟨M1, eM1, h⟩ := er_lel h
  refine er_new cx d_Law_law_0 (by decide) cl_ER wm_9 wm_10 wm_1 (by decide) (by decide) eT1 eb1 eM1 ?_
  refine er_dup cx d_Law_law_3 ?_
  refine er_aload_n cx d_Law_law_4 0 rfl ?_
  refine er_iconst (v := 0) cx d_Law_law_5 rfl (by decide) ?_
  obtain ⟨q2, e2, h⟩ := er_bd h
  refine er_callS (As := [.inr 0, .inl 0]) (st := [.inr b1, .inr b1]) cx (c_Law_cell e2) my_Law_9 ⟨by decide, by decide⟩ rfl (Nat.le_of_ble_eq_true rfl) d_Law_law_6 ⟨(by decide), (by decide)⟩ rfl ?_
  obtain ⟨q3, e3, h⟩ := er_bd h
  refine er_callI (b := b1) (As := [.inl q2.1]) (st := [.inr b1]) cx (c_ER_init e3) my_Law_15 ⟨by decide, by decide⟩ rfl (Nat.le_of_ble_eq_true rfl) d_Law_law_9 ⟨(by decide), (by decide)⟩ rfl ?_
  refine er_astore_n cx d_Law_law_12 rfl (by decide) rfl ?_
  obtain ⟨b4, eb4, h⟩ := er_lel h
  obtain ⟨T4, eT4, h⟩ := er_lel h
  obtain ⟨M4, eM4, h⟩ := er_lel h
  refine er_new cx d_Law_law_13 (by decide) cl_Mo wm_372 wm_373 wm_8 (by decide) (by decide) eT4 eb4 eM4 ?_
  refine er_dup cx d_Law_law_16 ?_
  refine er_aload_n cx d_Law_law_17 1 rfl ?_
  refine er_iconst (v := 0) cx d_Law_law_18 rfl (by decide) ?_
  obtain ⟨q5, e5, h⟩ := er_bd h
  refine er_callS (As := [.inr 0, .inl 0]) (st := [.inr b4, .inr b4]) cx (c_Law_cell e5) my_Law_9 ⟨by decide, by decide⟩ rfl (Nat.le_of_ble_eq_true rfl) d_Law_law_19 ⟨(by decide), (by decide)⟩ rfl ?_
  obtain ⟨q6, e6, h⟩ := er_bd h
  refine er_callI (b := b4) (As := [.inl q5.1]) (st := [.inr b4]) cx (c_Mo_init e6) my_Law_20 ⟨by decide, by decide⟩ rfl (Nat.le_of_ble_eq_true rfl) d_Law_law_22 ⟨(by decide), (by decide)⟩ rfl ?_
  refine er_astore_n cx d_Law_law_25 rfl (by decide) rfl ?_
  refine er_iconst (v := 1) cx d_Law_law_26 rfl (by decide) ?_
  refine er_istore_n cx d_Law_law_27 rfl (by decide) rfl ?_
  refine er_sb cx [3, 2, 1, 0] rfl ?_
  exact w_Law_law_28 cx rt er_fu _ _ _ _ _ h
