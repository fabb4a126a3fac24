/-! ER_isNode -/
abbrev rm_ER_isNode : Room := { frames := 0, cells := 0, slots := 0, locals := 0 }
def f_ER_isNode (p0 p1 : Int) (T M : er_Me) : Option (Int × er_Me) :=
  if p1 < 0 then
  some (0, M)
  else
  if T p0 (-2) = 1 ∧ 0 < T p0 0 then
  if T (T p0 0) (-2) = 103 then
  if T (T p0 0) (-1) ≤ p1 then
  some (0, M)
  else
  some (1, M) else none else none
set_option maxHeartbeats 4000000 in
theorem w_ER_isNode {K : er_K} {l : Launch} {X : er_X} (cx : er_Cx K l X b_ER_isNode "EchoedRounds" 2 rm_ER_isNode) {r : Int × er_Me} {p0 p1 : Int} {T M : er_Me} (rt : er_Rt K X b_ER_isNode (some .boolean) 0 0 (some (.inl r.1)) T r.2) (h : f_ER_isNode p0 p1 T M = some r) : er_G K 0 0 T M 0 [(0, .inr p0), (1, .inl p1)] [] := by
  unfold f_ER_isNode at h
  refine er_iload_n cx d_ER_isNode_0 1 rfl ?_
  refine er_if_lt (tgt := 17) cx d_ER_isNode_1 (by decide) (fun b1 => ?_) (fun b1 => ?_)
  · have h := er_ift h b1
    refine er_iconst (v := 0) cx d_ER_isNode_17 rfl (by decide) ?_
    obtain rfl := Option.some.inj h
    exact er_iret rt (Or.inr ⟨rfl, Or.inl rfl⟩) d_ER_isNode_18 (by decide) (by decide) ⟨rfl, rfl, rfl⟩
  · have h := er_iff h b1
    refine er_iload_n cx d_ER_isNode_4 1 rfl ?_
    refine er_aload_n cx d_ER_isNode_5 0 rfl ?_
    obtain ⟨c3, h⟩ := er_ck h
    refine er_getr cx d_ER_isNode_6 fd_ER_25 c3.1 c3.2 ?_
    obtain ⟨c4, h⟩ := er_ck h
    refine er_alen cx d_ER_isNode_9 c4 (by decide) ?_
    refine er_ic_ge (tgt := 17) cx d_ER_isNode_10 (by decide) (fun b5 => ?_) (fun b5 => ?_)
    · have h := er_ift h b5
      refine er_iconst (v := 0) cx d_ER_isNode_17 rfl (by decide) ?_
      obtain rfl := Option.some.inj h
      exact er_iret rt (Or.inr ⟨rfl, Or.inl rfl⟩) d_ER_isNode_18 (by decide) (by decide) ⟨rfl, rfl, rfl⟩
    · have h := er_iff h b5
      refine er_iconst (v := 1) cx d_ER_isNode_13 rfl (by decide) ?_
      refine er_goto (tgt := 18) cx d_ER_isNode_14 (by decide) ?_
      obtain rfl := Option.some.inj h
      exact er_iret rt (Or.inr ⟨rfl, Or.inr rfl⟩) d_ER_isNode_18 (by decide) (by decide) ⟨rfl, rfl, rfl⟩
theorem c_ER_isNode {l : Launch} {X : er_X} {r : Int × er_Me} {p0 p1 : Int} {T M : er_Me} (h : f_ER_isNode p0 p1 T M = some r) (hok : ∀ v ∈ ([.inr p0, .inl p1] : List er_V), er_ok v) : er_Ct l X y_ER_isNode b_ER_isNode 2 (some .boolean) rm_ER_isNode [.inr p0, .inl p1] T M (some (.inl r.1)) T r.2 :=
  er_ct rfl rfl (Nat.le_of_ble_eq_true rfl) hok (fun K cx rt hin => w_ER_isNode cx rt h)
/-! ER_isWellBehaved -/
abbrev rm_ER_isWellBehaved : Room := { frames := 1, cells := 0, slots := 0, locals := 21 }
def f_ER_isWellBehaved (p0 p1 : Int) (T M : er_Me) : Option (Int × er_Me) :=
  if T p0 (-2) = 1 then
  (f_ER_isNode p0 p1 T M).bind fun q1 =>
  if q1.1 = 0 then
  some (0, q1.2)
  else
  if 0 < T p0 0 then
  if T (T p0 0) (-2) = 103 ∧ 0 ≤ p1 ∧ p1 < T (T p0 0) (-1) ∧ 0 < T (T p0 0) p1 then
  if T (T (T p0 0) p1) (-2) = 3 then
  if q1.2 (T (T p0 0) p1) 8 = 0 then
  some (0, q1.2)
  else
  some (1, q1.2) else none else none else none else none
set_option maxHeartbeats 4000000 in
theorem w_ER_isWellBehaved {K : er_K} {l : Launch} {X : er_X} (cx : er_Cx K l X b_ER_isWellBehaved "EchoedRounds" 2 rm_ER_isWellBehaved) {r : Int × er_Me} {p0 p1 : Int} {T M : er_Me} (rt : er_Rt K X b_ER_isWellBehaved (some .boolean) 0 0 (some (.inl r.1)) T r.2) (h : f_ER_isWellBehaved p0 p1 T M = some r) : er_G K 0 0 T M 0 [(0, .inr p0), (1, .inl p1)] [] := by
  unfold f_ER_isWellBehaved at h
  refine er_aload_n cx d_ER_isWellBehaved_0 0 rfl ?_
  refine er_iload_n cx d_ER_isWellBehaved_1 1 rfl ?_
  obtain ⟨c1, h⟩ := er_ck h
  obtain ⟨q1, e1, h⟩ := er_bd h
  refine er_callV (b := p0) (As := [.inl p1]) (st := []) cx (c_ER_isNode e1) my_ER_57 c1 ⟨by decide, by decide⟩ rfl (Nat.le_of_ble_eq_true rfl) d_ER_isWellBehaved_2 ⟨Nat.zero_le _, Nat.zero_le _⟩ rfl ?_
  refine er_if_eq (tgt := 24) cx d_ER_isWellBehaved_5 (by decide) (fun b2 => ?_) (fun b2 => ?_)
  · have h := er_ift h b2
    refine er_iconst (v := 0) cx d_ER_isWellBehaved_24 rfl (by decide) ?_
    obtain rfl := Option.some.inj h
    exact er_iret rt (Or.inr ⟨rfl, Or.inl rfl⟩) d_ER_isWellBehaved_25 (by decide) (by decide) ⟨rfl, rfl, rfl⟩
  · have h := er_iff h b2
    refine er_aload_n cx d_ER_isWellBehaved_8 0 rfl ?_
    obtain ⟨c4, h⟩ := er_ck h
    refine er_getr cx d_ER_isWellBehaved_9 fd_ER_25 c1 c4 ?_
    refine er_iload_n cx d_ER_isWellBehaved_12 1 rfl ?_
    obtain ⟨c5, h⟩ := er_ck h
    refine er_aald cx d_ER_isWellBehaved_13 c5.1 (by decide) c5.2.1 c5.2.2.1 c5.2.2.2 ?_
    obtain ⟨c6, h⟩ := er_ck h
    refine er_geti cx d_ER_isWellBehaved_14 fd_ER_36 c6 ?_
    refine er_if_eq (tgt := 24) cx d_ER_isWellBehaved_17 (by decide) (fun b7 => ?_) (fun b7 => ?_)
    · have h := er_ift h b7
      refine er_iconst (v := 0) cx d_ER_isWellBehaved_24 rfl (by decide) ?_
      obtain rfl := Option.some.inj h
      exact er_iret rt (Or.inr ⟨rfl, Or.inl rfl⟩) d_ER_isWellBehaved_25 (by decide) (by decide) ⟨rfl, rfl, rfl⟩
    · have h := er_iff h b7
      refine er_iconst (v := 1) cx d_ER_isWellBehaved_20 rfl (by decide) ?_
      refine er_goto (tgt := 25) cx d_ER_isWellBehaved_21 (by decide) ?_
      obtain rfl := Option.some.inj h
      exact er_iret rt (Or.inr ⟨rfl, Or.inr rfl⟩) d_ER_isWellBehaved_25 (by decide) (by decide) ⟨rfl, rfl, rfl⟩
theorem c_ER_isWellBehaved {l : Launch} {X : er_X} {r : Int × er_Me} {p0 p1 : Int} {T M : er_Me} (h : f_ER_isWellBehaved p0 p1 T M = some r) (hok : ∀ v ∈ ([.inr p0, .inl p1] : List er_V), er_ok v) : er_Ct l X y_ER_isWellBehaved b_ER_isWellBehaved 2 (some .boolean) rm_ER_isWellBehaved [.inr p0, .inl p1] T M (some (.inl r.1)) T r.2 :=
  er_ct rfl rfl (Nat.le_of_ble_eq_true rfl) hok (fun K cx rt hin => w_ER_isWellBehaved cx rt h)
/-! ER_sent -/
abbrev rm_ER_sent : Room := { frames := 1, cells := 0, slots := 0, locals := 21 }
def f_ER_sent (p0 p1 : Int) (T M : er_Me) : Option (Int × er_Me) :=
  if T p0 (-2) = 1 then
  (f_ER_isNode p0 p1 T M).bind fun q1 =>
  if q1.1 = 0 then
  some ((-1), q1.2)
  else
  if 0 < T p0 0 then
  if T (T p0 0) (-2) = 103 ∧ 0 ≤ p1 ∧ p1 < T (T p0 0) (-1) ∧ 0 < T (T p0 0) p1 then
  if T (T (T p0 0) p1) (-2) = 3 ∧ 0 < T (T (T p0 0) p1) 2 then
  if T (T (T (T p0 0) p1) 2) (-2) = 4 then
  some (q1.2 (T (T (T p0 0) p1) 2) 1, q1.2) else none else none else none else none else none
set_option maxHeartbeats 4000000 in
theorem w_ER_sent {K : er_K} {l : Launch} {X : er_X} (cx : er_Cx K l X b_ER_sent "EchoedRounds" 2 rm_ER_sent) {r : Int × er_Me} {p0 p1 : Int} {T M : er_Me} (rt : er_Rt K X b_ER_sent (some .int) 0 0 (some (.inl r.1)) T r.2) (h : f_ER_sent p0 p1 T M = some r) : er_G K 0 0 T M 0 [(0, .inr p0), (1, .inl p1)] [] := by
  unfold f_ER_sent at h
  refine er_aload_n cx d_ER_sent_0 0 rfl ?_
  refine er_iload_n cx d_ER_sent_1 1 rfl ?_
  obtain ⟨c1, h⟩ := er_ck h
  obtain ⟨q1, e1, h⟩ := er_bd h
  refine er_callV (b := p0) (As := [.inl p1]) (st := []) cx (c_ER_isNode e1) my_ER_57 c1 ⟨by decide, by decide⟩ rfl (Nat.le_of_ble_eq_true rfl) d_ER_sent_2 ⟨Nat.zero_le _, Nat.zero_le _⟩ rfl ?_
  refine er_if_eq (tgt := 23) cx d_ER_sent_5 (by decide) (fun b2 => ?_) (fun b2 => ?_)
  · have h := er_ift h b2
    refine er_iconst (v := -1) cx d_ER_sent_23 rfl (by decide) ?_
    obtain rfl := Option.some.inj h
    exact er_iret rt (Or.inl rfl) d_ER_sent_24 (by decide) (by decide) ⟨rfl, rfl, rfl⟩
  · have h := er_iff h b2
    refine er_aload_n cx d_ER_sent_8 0 rfl ?_
    obtain ⟨c4, h⟩ := er_ck h
    refine er_getr cx d_ER_sent_9 fd_ER_25 c1 c4 ?_
    refine er_iload_n cx d_ER_sent_12 1 rfl ?_
    obtain ⟨c5, h⟩ := er_ck h
    refine er_aald cx d_ER_sent_13 c5.1 (by decide) c5.2.1 c5.2.2.1 c5.2.2.2 ?_
    obtain ⟨c6, h⟩ := er_ck h
    refine er_getr cx d_ER_sent_14 fd_ER_60 c6.1 c6.2 ?_
    obtain ⟨c7, h⟩ := er_ck h
    refine er_geti cx d_ER_sent_17 fd_ER_79 c7 ?_
    refine er_goto (tgt := 24) cx d_ER_sent_20 (by decide) ?_
    obtain rfl := Option.some.inj h
    exact er_iret rt (Or.inl rfl) d_ER_sent_24 (by decide) (by decide) ⟨rfl, rfl, rfl⟩
theorem c_ER_sent {l : Launch} {X : er_X} {r : Int × er_Me} {p0 p1 : Int} {T M : er_Me} (h : f_ER_sent p0 p1 T M = some r) (hok : ∀ v ∈ ([.inr p0, .inl p1] : List er_V), er_ok v) : er_Ct l X y_ER_sent b_ER_sent 2 (some .int) rm_ER_sent [.inr p0, .inl p1] T M (some (.inl r.1)) T r.2 :=
  er_ct rfl rfl (Nat.le_of_ble_eq_true rfl) hok (fun K cx rt hin => w_ER_sent cx rt h)
/-! ER_message -/
abbrev rm_ER_message : Room := { frames := 1, cells := 0, slots := 0, locals := 21 }
def f_ER_message (p0 p1 p2 : Int) (T M : er_Me) : Option (Int × er_Me) :=
  if T p0 (-2) = 1 then
  (f_ER_isNode p0 p1 T M).bind fun q1 =>
  if q1.1 = 0 then
  some ((-1), q1.2)
  else
  if 0 < T p0 0 then
  if T (T p0 0) (-2) = 103 ∧ 0 ≤ p1 ∧ p1 < T (T p0 0) (-1) ∧ 0 < T (T p0 0) p1 then
  if T (T (T p0 0) p1) (-2) = 3 ∧ 0 < T (T (T p0 0) p1) 2 then
  if T (T (T (T p0 0) p1) 2) (-2) = 4 then
  (f_Log_codeAt (T (T (T p0 0) p1) 2) p2 T q1.2).bind fun q7 =>
  some (q7.1, q7.2) else none else none else none else none else none
set_option maxHeartbeats 4000000 in
theorem w_ER_message {K : er_K} {l : Launch} {X : er_X} (cx : er_Cx K l X b_ER_message "EchoedRounds" 3 rm_ER_message) {r : Int × er_Me} {p0 p1 p2 : Int} {T M : er_Me} (rt : er_Rt K X b_ER_message (some .int) 0 0 (some (.inl r.1)) T r.2) (h : f_ER_message p0 p1 p2 T M = some r) : er_G K 0 0 T M 0 [(0, .inr p0), (1, .inl p1), (2, .inl p2)] [] := by
  unfold f_ER_message at h
  refine er_aload_n cx d_ER_message_0 0 rfl ?_
  refine er_iload_n cx d_ER_message_1 1 rfl ?_
  obtain ⟨c1, h⟩ := er_ck h
  obtain ⟨q1, e1, h⟩ := er_bd h
  refine er_callV (b := p0) (As := [.inl p1]) (st := []) cx (c_ER_isNode e1) my_ER_57 c1 ⟨by decide, by decide⟩ rfl (Nat.le_of_ble_eq_true rfl) d_ER_message_2 ⟨Nat.zero_le _, Nat.zero_le _⟩ rfl ?_
  refine er_if_eq (tgt := 24) cx d_ER_message_5 (by decide) (fun b2 => ?_) (fun b2 => ?_)
  · have h := er_ift h b2
    refine er_iconst (v := -1) cx d_ER_message_24 rfl (by decide) ?_
    obtain rfl := Option.some.inj h
    exact er_iret rt (Or.inl rfl) d_ER_message_25 (by decide) (by decide) ⟨rfl, rfl, rfl⟩
  · have h := er_iff h b2
    refine er_aload_n cx d_ER_message_8 0 rfl ?_
    obtain ⟨c4, h⟩ := er_ck h
    refine er_getr cx d_ER_message_9 fd_ER_25 c1 c4 ?_
    refine er_iload_n cx d_ER_message_12 1 rfl ?_
    obtain ⟨c5, h⟩ := er_ck h
    refine er_aald cx d_ER_message_13 c5.1 (by decide) c5.2.1 c5.2.2.1 c5.2.2.2 ?_
    obtain ⟨c6, h⟩ := er_ck h
    refine er_getr cx d_ER_message_14 fd_ER_60 c6.1 c6.2 ?_
    refine er_iload_n cx d_ER_message_17 2 rfl ?_
    obtain ⟨c7, h⟩ := er_ck h
    obtain ⟨q7, e7, h⟩ := er_bd h
    refine er_callV (b := T (T (T p0 0) p1) 2) (As := [.inl p2]) (st := []) cx (c_Log_codeAt e7) my_ER_84 c7 ⟨by decide, by decide⟩ rfl (Nat.le_of_ble_eq_true rfl) d_ER_message_18 ⟨Nat.zero_le _, Nat.zero_le _⟩ rfl ?_
    refine er_goto (tgt := 25) cx d_ER_message_21 (by decide) ?_
    obtain rfl := Option.some.inj h
    exact er_iret rt (Or.inl rfl) d_ER_message_25 (by decide) (by decide) ⟨rfl, rfl, rfl⟩
theorem c_ER_message {l : Launch} {X : er_X} {r : Int × er_Me} {p0 p1 p2 : Int} {T M : er_Me} (h : f_ER_message p0 p1 p2 T M = some r) (hok : ∀ v ∈ ([.inr p0, .inl p1, .inl p2] : List er_V), er_ok v) : er_Ct l X y_ER_message b_ER_message 3 (some .int) rm_ER_message [.inr p0, .inl p1, .inl p2] T M (some (.inl r.1)) T r.2 :=
  er_ct rfl rfl (Nat.le_of_ble_eq_true rfl) hok (fun K cx rt hin => w_ER_message cx rt h)
/-! ER_waiting -/
abbrev rm_ER_waiting : Room := { frames := 1, cells := 0, slots := 0, locals := 21 }
def f_ER_waiting (p0 p1 p2 : Int) (T M : er_Me) : Option (Int × er_Me) :=
  if T p0 (-2) = 1 then
  (f_ER_isNode p0 p1 T M).bind fun q1 =>
  if q1.1 = 0 then
  some ((-1), q1.2)
  else
  (f_ER_isNode p0 p2 T q1.2).bind fun q4 =>
  if q4.1 = 0 then
  some ((-1), q4.2)
  else
  if 0 < T p0 0 then
  if T (T p0 0) (-2) = 103 ∧ 0 ≤ p1 ∧ p1 < T (T p0 0) (-1) ∧ 0 < T (T p0 0) p1 then
  if T (T (T p0 0) p1) (-2) = 3 ∧ 0 < T (T (T p0 0) p1) 2 then
  if T (T (T (T p0 0) p1) 2) (-2) = 4 then
  if 0 ≤ p2 ∧ p2 < T (T p0 0) (-1) ∧ 0 < T (T p0 0) p2 then
  if T (T (T p0 0) p2) (-2) = 3 ∧ 0 < T (T (T p0 0) p2) 4 then
  if T (T (T (T p0 0) p2) 4) (-2) = 101 ∧ p1 < T (T (T (T p0 0) p2) 4) (-1) then
  some (er_sub (q4.2 (T (T (T p0 0) p1) 2) 1) (q4.2 (T (T (T p0 0) p2) 4) p1), q4.2) else none else none else none else none else none else none else none else none
set_option maxHeartbeats 4000000 in
theorem w_ER_waiting {K : er_K} {l : Launch} {X : er_X} (cx : er_Cx K l X b_ER_waiting "EchoedRounds" 3 rm_ER_waiting) {r : Int × er_Me} {p0 p1 p2 : Int} {T M : er_Me} (rt : er_Rt K X b_ER_waiting (some .int) 0 0 (some (.inl r.1)) T r.2) (h : f_ER_waiting p0 p1 p2 T M = some r) : er_G K 0 0 T M 0 [(0, .inr p0), (1, .inl p1), (2, .inl p2)] [] := by
  unfold f_ER_waiting at h
  refine er_aload_n cx d_ER_waiting_0 0 rfl ?_
  refine er_iload_n cx d_ER_waiting_1 1 rfl ?_
  obtain ⟨c1, h⟩ := er_ck h
  obtain ⟨q1, e1, h⟩ := er_bd h
  refine er_callV (b := p0) (As := [.inl p1]) (st := []) cx (c_ER_isNode e1) my_ER_57 c1 ⟨by decide, by decide⟩ rfl (Nat.le_of_ble_eq_true rfl) d_ER_waiting_2 ⟨Nat.zero_le _, Nat.zero_le _⟩ rfl ?_
  refine er_if_eq (tgt := 43) cx d_ER_waiting_5 (by decide) (fun b2 => ?_) (fun b2 => ?_)
  · have h := er_ift h b2
    refine er_iconst (v := -1) cx d_ER_waiting_43 rfl (by decide) ?_
    obtain rfl := Option.some.inj h
    exact er_iret rt (Or.inl rfl) d_ER_waiting_44 (by decide) (by decide) ⟨rfl, rfl, rfl⟩
  · have h := er_iff h b2
    refine er_aload_n cx d_ER_waiting_8 0 rfl ?_
    refine er_iload_n cx d_ER_waiting_9 2 rfl ?_
    obtain ⟨q4, e4, h⟩ := er_bd h
    refine er_callV (b := p0) (As := [.inl p2]) (st := []) cx (c_ER_isNode e4) my_ER_57 c1 ⟨by decide, by decide⟩ rfl (Nat.le_of_ble_eq_true rfl) d_ER_waiting_10 ⟨Nat.zero_le _, Nat.zero_le _⟩ rfl ?_
    refine er_if_eq (tgt := 43) cx d_ER_waiting_13 (by decide) (fun b5 => ?_) (fun b5 => ?_)
    · have h := er_ift h b5
      refine er_iconst (v := -1) cx d_ER_waiting_43 rfl (by decide) ?_
      obtain rfl := Option.some.inj h
      exact er_iret rt (Or.inl rfl) d_ER_waiting_44 (by decide) (by decide) ⟨rfl, rfl, rfl⟩
    · have h := er_iff h b5
      refine er_aload_n cx d_ER_waiting_16 0 rfl ?_
      obtain ⟨c7, h⟩ := er_ck h
      refine er_getr cx d_ER_waiting_17 fd_ER_25 c1 c7 ?_
      refine er_iload_n cx d_ER_waiting_20 1 rfl ?_
      obtain ⟨c8, h⟩ := er_ck h
      refine er_aald cx d_ER_waiting_21 c8.1 (by decide) c8.2.1 c8.2.2.1 c8.2.2.2 ?_
      obtain ⟨c9, h⟩ := er_ck h
      refine er_getr cx d_ER_waiting_22 fd_ER_60 c9.1 c9.2 ?_
      obtain ⟨c10, h⟩ := er_ck h
      refine er_geti cx d_ER_waiting_25 fd_ER_79 c10 ?_
      refine er_aload_n cx d_ER_waiting_28 0 rfl ?_
      refine er_getr cx d_ER_waiting_29 fd_ER_25 c1 c7 ?_
      refine er_iload_n cx d_ER_waiting_32 2 rfl ?_
      obtain ⟨c12, h⟩ := er_ck h
      refine er_aald cx d_ER_waiting_33 c8.1 (by decide) c12.1 c12.2.1 c12.2.2 ?_
      obtain ⟨c13, h⟩ := er_ck h
      refine er_getr cx d_ER_waiting_34 fd_ER_88 c13.1 c13.2 ?_
      refine er_iload_n cx d_ER_waiting_37 1 rfl ?_
      obtain ⟨c14, h⟩ := er_ck h
      refine er_iald cx d_ER_waiting_38 c14.1 c8.2.1 c14.2 ?_
      refine er_isub cx d_ER_waiting_39 ?_
      refine er_goto (tgt := 44) cx d_ER_waiting_40 (by decide) ?_
      obtain rfl := Option.some.inj h
      exact er_iret rt (Or.inl rfl) d_ER_waiting_44 (by decide) (by decide) ⟨rfl, rfl, rfl⟩
theorem c_ER_waiting {l : Launch} {X : er_X} {r : Int × er_Me} {p0 p1 p2 : Int} {T M : er_Me} (h : f_ER_waiting p0 p1 p2 T M = some r) (hok : ∀ v ∈ ([.inr p0, .inl p1, .inl p2] : List er_V), er_ok v) : er_Ct l X y_ER_waiting b_ER_waiting 3 (some .int) rm_ER_waiting [.inr p0, .inl p1, .inl p2] T M (some (.inl r.1)) T r.2 :=
  er_ct rfl rfl (Nat.le_of_ble_eq_true rfl) hok (fun K cx rt hin => w_ER_waiting cx rt h)
/-! ER_votes -/
abbrev rm_ER_votes : Room := { frames := 1, cells := 0, slots := 0, locals := 23 }
def f_ER_votes_55 (T : er_Me) (v0 v1 v2 v3 v4 v5 s0 s1 : Int) (M : er_Me) : Option (Int × er_Me) :=
  (f_ER_cellOf v2 v3 T M).bind fun q1 =>
  if T s0 (-2) = 5 then
  (f_Tally_count s0 s1 q1.1 v4 T q1.2).bind fun q2 =>
  some (q2.1, q2.2) else none
set_option maxHeartbeats 4000000 in
theorem w_ER_votes_55 {K : er_K} {l : Launch} {X : er_X} (cx : er_Cx K l X b_ER_votes "EchoedRounds" 6 rm_ER_votes) {r : Int × er_Me} {T : er_Me} (rt : er_Rt K X b_ER_votes (some .int) 0 0 (some (.inl r.1)) T r.2) : ∀ (v0 v1 v2 v3 v4 v5 s0 s1 : Int) (M : er_Me), f_ER_votes_55 T v0 v1 v2 v3 v4 v5 s0 s1 M = some r → er_G K 0 0 T M 55 [(0, .inr v0), (1, .inl v1), (2, .inl v2), (3, .inl v3), (4, .inl v4), (5, .inl v5)] [.inl s1, .inr s0] := by
  intro v0 v1 v2 v3 v4 v5 s0 s1 M h
  unfold f_ER_votes_55 at h
  refine er_iload_n cx d_ER_votes_55 2 rfl ?_
  refine er_iload_n cx d_ER_votes_56 3 rfl ?_
  obtain ⟨q1, e1, h⟩ := er_bd h
  refine er_callS (As := [.inl v2, .inl v3]) (st := [.inl s1, .inr s0]) cx (c_ER_cellOf e1) my_ER_96 ⟨by decide, by decide⟩ rfl (Nat.le_of_ble_eq_true rfl) d_ER_votes_57 ⟨Nat.zero_le _, Nat.zero_le _⟩ rfl ?_
  refine er_iload cx d_ER_votes_60 4 rfl ?_
  obtain ⟨c2, h⟩ := er_ck h
  obtain ⟨q2, e2, h⟩ := er_bd h
  refine er_callV (b := s0) (As := [.inl s1, .inl q1.1, .inl v4]) (st := []) cx (c_Tally_count e2) my_ER_99 c2 ⟨by decide, by decide⟩ rfl (Nat.le_of_ble_eq_true rfl) d_ER_votes_62 ⟨Nat.zero_le _, Nat.zero_le _⟩ rfl ?_
  obtain rfl := Option.some.inj h
  exact er_iret rt (Or.inl rfl) d_ER_votes_65 (by decide) (by decide) ⟨rfl, rfl, rfl⟩
def f_ER_votes (p0 p1 p2 p3 p4 p5 : Int) (T M : er_Me) : Option (Int × er_Me) :=
  if T p0 (-2) = 1 then
  (f_ER_isNode p0 p1 T M).bind fun q1 =>
  if q1.1 = 0 then
  some (0, q1.2)
  else
  (f_ER_isSlot p2 T q1.2).bind fun q4 =>
  if q4.1 = 0 then
  some (0, q4.2)
  else
  (f_ER_isNode p0 p3 T q4.2).bind fun q7 =>
  if q7.1 = 0 then
  some (0, q7.2)
  else
  if p4 < 0 then
  some (0, q7.2)
  else
  if p4 < 4 then
  if 0 < T p0 0 then
  if T (T p0 0) (-2) = 103 ∧ 0 ≤ p1 ∧ p1 < T (T p0 0) (-1) ∧ 0 < T (T p0 0) p1 then
  if T (T (T p0 0) p1) (-2) = 3 ∧ 0 < T (T (T p0 0) p1) 3 then
  if p5 = 0 then
  f_ER_votes_55 T p0 p1 p2 p3 p4 p5 (T (T (T p0 0) p1) 3) 1 q7.2
  else
  f_ER_votes_55 T p0 p1 p2 p3 p4 p5 (T (T (T p0 0) p1) 3) 2 q7.2 else none else none else none
  else
  some (0, q7.2) else none
set_option maxHeartbeats 4000000 in
theorem w_ER_votes {K : er_K} {l : Launch} {X : er_X} (cx : er_Cx K l X b_ER_votes "EchoedRounds" 6 rm_ER_votes) {r : Int × er_Me} {p0 p1 p2 p3 p4 p5 : Int} {T M : er_Me} (rt : er_Rt K X b_ER_votes (some .int) 0 0 (some (.inl r.1)) T r.2) (h : f_ER_votes p0 p1 p2 p3 p4 p5 T M = some r) : er_G K 0 0 T M 0 [(0, .inr p0), (1, .inl p1), (2, .inl p2), (3, .inl p3), (4, .inl p4), (5, .inl p5)] [] := by
  unfold f_ER_votes at h
  refine er_aload_n cx d_ER_votes_0 0 rfl ?_
  refine er_iload_n cx d_ER_votes_1 1 rfl ?_
  obtain ⟨c1, h⟩ := er_ck h
  obtain ⟨q1, e1, h⟩ := er_bd h
  refine er_callV (b := p0) (As := [.inl p1]) (st := []) cx (c_ER_isNode e1) my_ER_57 c1 ⟨by decide, by decide⟩ rfl (Nat.le_of_ble_eq_true rfl) d_ER_votes_2 ⟨Nat.zero_le _, Nat.zero_le _⟩ rfl ?_
  refine er_if_eq (tgt := 34) cx d_ER_votes_5 (by decide) (fun b2 => ?_) (fun b2 => ?_)
  · have h := er_ift h b2
    refine er_iconst (v := 0) cx d_ER_votes_34 rfl (by decide) ?_
    obtain rfl := Option.some.inj h
    exact er_iret rt (Or.inl rfl) d_ER_votes_35 (by decide) (by decide) ⟨rfl, rfl, rfl⟩
  · have h := er_iff h b2
    refine er_iload_n cx d_ER_votes_8 2 rfl ?_
    obtain ⟨q4, e4, h⟩ := er_bd h
    refine er_callS (As := [.inl p2]) (st := []) cx (c_ER_isSlot e4) my_ER_68 ⟨by decide, by decide⟩ rfl (Nat.le_of_ble_eq_true rfl) d_ER_votes_9 ⟨Nat.zero_le _, Nat.zero_le _⟩ rfl ?_
    refine er_if_eq (tgt := 34) cx d_ER_votes_12 (by decide) (fun b5 => ?_) (fun b5 => ?_)
    · have h := er_ift h b5
      refine er_iconst (v := 0) cx d_ER_votes_34 rfl (by decide) ?_
      obtain rfl := Option.some.inj h
      exact er_iret rt (Or.inl rfl) d_ER_votes_35 (by decide) (by decide) ⟨rfl, rfl, rfl⟩
    · have h := er_iff h b5
      refine er_aload_n cx d_ER_votes_15 0 rfl ?_
      refine er_iload_n cx d_ER_votes_16 3 rfl ?_
      obtain ⟨q7, e7, h⟩ := er_bd h
      refine er_callV (b := p0) (As := [.inl p3]) (st := []) cx (c_ER_isNode e7) my_ER_57 c1 ⟨by decide, by decide⟩ rfl (Nat.le_of_ble_eq_true rfl) d_ER_votes_17 ⟨Nat.zero_le _, Nat.zero_le _⟩ rfl ?_
      refine er_if_eq (tgt := 34) cx d_ER_votes_20 (by decide) (fun b8 => ?_) (fun b8 => ?_)
      · have h := er_ift h b8
        refine er_iconst (v := 0) cx d_ER_votes_34 rfl (by decide) ?_
        obtain rfl := Option.some.inj h
        exact er_iret rt (Or.inl rfl) d_ER_votes_35 (by decide) (by decide) ⟨rfl, rfl, rfl⟩
      · have h := er_iff h b8
        refine er_iload cx d_ER_votes_23 4 rfl ?_
        refine er_if_lt (tgt := 34) cx d_ER_votes_25 (by decide) (fun b10 => ?_) (fun b10 => ?_)
        · have h := er_ift h b10
          refine er_iconst (v := 0) cx d_ER_votes_34 rfl (by decide) ?_
          obtain rfl := Option.some.inj h
          exact er_iret rt (Or.inl rfl) d_ER_votes_35 (by decide) (by decide) ⟨rfl, rfl, rfl⟩
        · have h := er_iff h b10
          refine er_iload cx d_ER_votes_28 4 rfl ?_
          refine er_iconst (v := 4) cx d_ER_votes_30 rfl (by decide) ?_
          refine er_ic_lt (tgt := 36) cx d_ER_votes_31 (by decide) (fun b12 => ?_) (fun b12 => ?_)
          · have h := er_ift h b12
            refine er_aload_n cx d_ER_votes_36 0 rfl ?_
            obtain ⟨c13, h⟩ := er_ck h
            refine er_getr cx d_ER_votes_37 fd_ER_25 c1 c13 ?_
            refine er_iload_n cx d_ER_votes_40 1 rfl ?_
            obtain ⟨c14, h⟩ := er_ck h
            refine er_aald cx d_ER_votes_41 c14.1 (by decide) c14.2.1 c14.2.2.1 c14.2.2.2 ?_
            obtain ⟨c15, h⟩ := er_ck h
            refine er_getr cx d_ER_votes_42 fd_ER_92 c15.1 c15.2 ?_
            refine er_iload cx d_ER_votes_45 5 rfl ?_
            refine er_if_eq (tgt := 54) cx d_ER_votes_47 (by decide) (fun b16 => ?_) (fun b16 => ?_)
            · have h := er_ift h b16
              refine er_iconst (v := 1) cx d_ER_votes_54 rfl (by decide) ?_
              exact w_ER_votes_55 cx rt _ _ _ _ _ _ _ _ _ h
            · have h := er_iff h b16
              refine er_iconst (v := 2) cx d_ER_votes_50 rfl (by decide) ?_
              refine er_goto (tgt := 55) cx d_ER_votes_51 (by decide) ?_
              exact w_ER_votes_55 cx rt _ _ _ _ _ _ _ _ _ h
          · have h := er_iff h b12
            refine er_iconst (v := 0) cx d_ER_votes_34 rfl (by decide) ?_
            obtain rfl := Option.some.inj h
            exact er_iret rt (Or.inl rfl) d_ER_votes_35 (by decide) (by decide) ⟨rfl, rfl, rfl⟩
theorem c_ER_votes {l : Launch} {X : er_X} {r : Int × er_Me} {p0 p1 p2 p3 p4 p5 : Int} {T M : er_Me} (h : f_ER_votes p0 p1 p2 p3 p4 p5 T M = some r) (hok : ∀ v ∈ ([.inr p0, .inl p1, .inl p2, .inl p3, .inl p4, .inl p5] : List er_V), er_ok v) : er_Ct l X y_ER_votes b_ER_votes 6 (some .int) rm_ER_votes [.inr p0, .inl p1, .inl p2, .inl p3, .inl p4, .inl p5] T M (some (.inl r.1)) T r.2 :=
  er_ct rfl rfl (Nat.le_of_ble_eq_true rfl) hok (fun K cx rt hin => w_ER_votes cx rt h)
/-! ER_accepted -/
abbrev rm_ER_accepted : Room := { frames := 1, cells := 0, slots := 0, locals := 21 }
def f_ER_accepted (p0 p1 p2 p3 : Int) (T M : er_Me) : Option (Int × er_Me) :=
  if T p0 (-2) = 1 then
  (f_ER_isNode p0 p1 T M).bind fun q1 =>
  if q1.1 = 0 then
  some ((-1), q1.2)
  else
  (f_ER_isSlot p2 T q1.2).bind fun q4 =>
  if q4.1 = 0 then
  some ((-1), q4.2)
  else
  (f_ER_isNode p0 p3 T q4.2).bind fun q7 =>
  if q7.1 = 0 then
  some ((-1), q7.2)
  else
  if 0 < T p0 0 then
  if T (T p0 0) (-2) = 103 ∧ 0 ≤ p1 ∧ p1 < T (T p0 0) (-1) ∧ 0 < T (T p0 0) p1 then
  if T (T (T p0 0) p1) (-2) = 3 ∧ 0 < T (T (T p0 0) p1) 6 then
  (f_ER_cellOf p2 p3 T q7.2).bind fun q12 =>
  if T (T (T (T p0 0) p1) 6) (-2) = 101 ∧ 0 ≤ q12.1 ∧ q12.1 < T (T (T (T p0 0) p1) 6) (-1) then
  some (q12.2 (T (T (T p0 0) p1) 6) q12.1, q12.2) else none else none else none else none else none
set_option maxHeartbeats 4000000 in
theorem w_ER_accepted {K : er_K} {l : Launch} {X : er_X} (cx : er_Cx K l X b_ER_accepted "EchoedRounds" 4 rm_ER_accepted) {r : Int × er_Me} {p0 p1 p2 p3 : Int} {T M : er_Me} (rt : er_Rt K X b_ER_accepted (some .int) 0 0 (some (.inl r.1)) T r.2) (h : f_ER_accepted p0 p1 p2 p3 T M = some r) : er_G K 0 0 T M 0 [(0, .inr p0), (1, .inl p1), (2, .inl p2), (3, .inl p3)] [] := by
  unfold f_ER_accepted at h
  refine er_aload_n cx d_ER_accepted_0 0 rfl ?_
  refine er_iload_n cx d_ER_accepted_1 1 rfl ?_
  obtain ⟨c1, h⟩ := er_ck h
  obtain ⟨q1, e1, h⟩ := er_bd h
  refine er_callV (b := p0) (As := [.inl p1]) (st := []) cx (c_ER_isNode e1) my_ER_57 c1 ⟨by decide, by decide⟩ rfl (Nat.le_of_ble_eq_true rfl) d_ER_accepted_2 ⟨Nat.zero_le _, Nat.zero_le _⟩ rfl ?_
  refine er_if_eq (tgt := 23) cx d_ER_accepted_5 (by decide) (fun b2 => ?_) (fun b2 => ?_)
  · have h := er_ift h b2
    refine er_iconst (v := -1) cx d_ER_accepted_23 rfl (by decide) ?_
    obtain rfl := Option.some.inj h
    exact er_iret rt (Or.inl rfl) d_ER_accepted_24 (by decide) (by decide) ⟨rfl, rfl, rfl⟩
  · have h := er_iff h b2
    refine er_iload_n cx d_ER_accepted_8 2 rfl ?_
    obtain ⟨q4, e4, h⟩ := er_bd h
    refine er_callS (As := [.inl p2]) (st := []) cx (c_ER_isSlot e4) my_ER_68 ⟨by decide, by decide⟩ rfl (Nat.le_of_ble_eq_true rfl) d_ER_accepted_9 ⟨Nat.zero_le _, Nat.zero_le _⟩ rfl ?_
    refine er_if_eq (tgt := 23) cx d_ER_accepted_12 (by decide) (fun b5 => ?_) (fun b5 => ?_)
    · have h := er_ift h b5
      refine er_iconst (v := -1) cx d_ER_accepted_23 rfl (by decide) ?_
      obtain rfl := Option.some.inj h
      exact er_iret rt (Or.inl rfl) d_ER_accepted_24 (by decide) (by decide) ⟨rfl, rfl, rfl⟩
    · have h := er_iff h b5
      refine er_aload_n cx d_ER_accepted_15 0 rfl ?_
      refine er_iload_n cx d_ER_accepted_16 3 rfl ?_
      obtain ⟨q7, e7, h⟩ := er_bd h
      refine er_callV (b := p0) (As := [.inl p3]) (st := []) cx (c_ER_isNode e7) my_ER_57 c1 ⟨by decide, by decide⟩ rfl (Nat.le_of_ble_eq_true rfl) d_ER_accepted_17 ⟨Nat.zero_le _, Nat.zero_le _⟩ rfl ?_
      refine er_if_ne (tgt := 25) cx d_ER_accepted_20 (by decide) (fun b8 => ?_) (fun b8 => ?_)
      · have h := er_iff h b8
        refine er_aload_n cx d_ER_accepted_25 0 rfl ?_
        obtain ⟨c9, h⟩ := er_ck h
        refine er_getr cx d_ER_accepted_26 fd_ER_25 c1 c9 ?_
        refine er_iload_n cx d_ER_accepted_29 1 rfl ?_
        obtain ⟨c10, h⟩ := er_ck h
        refine er_aald cx d_ER_accepted_30 c10.1 (by decide) c10.2.1 c10.2.2.1 c10.2.2.2 ?_
        obtain ⟨c11, h⟩ := er_ck h
        refine er_getr cx d_ER_accepted_31 fd_ER_105 c11.1 c11.2 ?_
        refine er_iload_n cx d_ER_accepted_34 2 rfl ?_
        refine er_iload_n cx d_ER_accepted_35 3 rfl ?_
        obtain ⟨q12, e12, h⟩ := er_bd h
        refine er_callS (As := [.inl p2, .inl p3]) (st := [.inr (T (T (T p0 0) p1) 6)]) cx (c_ER_cellOf e12) my_ER_96 ⟨by decide, by decide⟩ rfl (Nat.le_of_ble_eq_true rfl) d_ER_accepted_36 ⟨Nat.zero_le _, Nat.zero_le _⟩ rfl ?_
        obtain ⟨c13, h⟩ := er_ck h
        refine er_iald cx d_ER_accepted_39 c13.1 c13.2.1 c13.2.2 ?_
        obtain rfl := Option.some.inj h
        exact er_iret rt (Or.inl rfl) d_ER_accepted_40 (by decide) (by decide) ⟨rfl, rfl, rfl⟩
      · have h := er_ift h b8
        refine er_iconst (v := -1) cx d_ER_accepted_23 rfl (by decide) ?_
        obtain rfl := Option.some.inj h
        exact er_iret rt (Or.inl rfl) d_ER_accepted_24 (by decide) (by decide) ⟨rfl, rfl, rfl⟩
theorem c_ER_accepted {l : Launch} {X : er_X} {r : Int × er_Me} {p0 p1 p2 p3 : Int} {T M : er_Me} (h : f_ER_accepted p0 p1 p2 p3 T M = some r) (hok : ∀ v ∈ ([.inr p0, .inl p1, .inl p2, .inl p3] : List er_V), er_ok v) : er_Ct l X y_ER_accepted b_ER_accepted 4 (some .int) rm_ER_accepted [.inr p0, .inl p1, .inl p2, .inl p3] T M (some (.inl r.1)) T r.2 :=
  er_ct rfl rfl (Nat.le_of_ble_eq_true rfl) hok (fun K cx rt hin => w_ER_accepted cx rt h)
/-! ER_rowAt -/
abbrev rm_ER_rowAt : Room := { frames := 1, cells := 0, slots := 0, locals := 21 }
def f_ER_rowAt (p0 p1 p2 p3 : Int) (T M : er_Me) : Option (Int × er_Me) :=
  if T p0 (-2) = 1 then
  (f_ER_isNode p0 p1 T M).bind fun q1 =>
  if q1.1 = 0 then
  some ((-1), q1.2)
  else
  (f_ER_isSlot p2 T q1.2).bind fun q4 =>
  if q4.1 = 0 then
  some ((-1), q4.2)
  else
  if 0 < T p0 0 then
  if T (T p0 0) (-2) = 103 ∧ 0 ≤ p1 ∧ p1 < T (T p0 0) (-1) ∧ 0 < T (T p0 0) p1 then
  if T (T (T p0 0) p1) (-2) = 3 ∧ 0 < T (T (T p0 0) p1) 7 then
  if T (T (T (T p0 0) p1) 7) (-2) = 104 ∧ 0 ≤ p2 ∧ p2 < T (T (T (T p0 0) p1) 7) (-1) ∧ 0 < T (T (T (T p0 0) p1) 7) p2 then
  if T (T (T (T (T p0 0) p1) 7) p2) (-2) = 6 then
  (f_Row_speakerAt (T (T (T (T p0 0) p1) 7) p2) p3 T q4.2).bind fun q11 =>
  some (q11.1, q11.2) else none else none else none else none else none else none
set_option maxHeartbeats 4000000 in
theorem w_ER_rowAt {K : er_K} {l : Launch} {X : er_X} (cx : er_Cx K l X b_ER_rowAt "EchoedRounds" 4 rm_ER_rowAt) {r : Int × er_Me} {p0 p1 p2 p3 : Int} {T M : er_Me} (rt : er_Rt K X b_ER_rowAt (some .int) 0 0 (some (.inl r.1)) T r.2) (h : f_ER_rowAt p0 p1 p2 p3 T M = some r) : er_G K 0 0 T M 0 [(0, .inr p0), (1, .inl p1), (2, .inl p2), (3, .inl p3)] [] := by
  unfold f_ER_rowAt at h
  refine er_aload_n cx d_ER_rowAt_0 0 rfl ?_
  refine er_iload_n cx d_ER_rowAt_1 1 rfl ?_
  obtain ⟨c1, h⟩ := er_ck h
  obtain ⟨q1, e1, h⟩ := er_bd h
  refine er_callV (b := p0) (As := [.inl p1]) (st := []) cx (c_ER_isNode e1) my_ER_57 c1 ⟨by decide, by decide⟩ rfl (Nat.le_of_ble_eq_true rfl) d_ER_rowAt_2 ⟨Nat.zero_le _, Nat.zero_le _⟩ rfl ?_
  refine er_if_eq (tgt := 33) cx d_ER_rowAt_5 (by decide) (fun b2 => ?_) (fun b2 => ?_)
  · have h := er_ift h b2
    refine er_iconst (v := -1) cx d_ER_rowAt_33 rfl (by decide) ?_
    obtain rfl := Option.some.inj h
    exact er_iret rt (Or.inl rfl) d_ER_rowAt_34 (by decide) (by decide) ⟨rfl, rfl, rfl⟩
  · have h := er_iff h b2
    refine er_iload_n cx d_ER_rowAt_8 2 rfl ?_
    obtain ⟨q4, e4, h⟩ := er_bd h
    refine er_callS (As := [.inl p2]) (st := []) cx (c_ER_isSlot e4) my_ER_68 ⟨by decide, by decide⟩ rfl (Nat.le_of_ble_eq_true rfl) d_ER_rowAt_9 ⟨Nat.zero_le _, Nat.zero_le _⟩ rfl ?_
    refine er_if_eq (tgt := 33) cx d_ER_rowAt_12 (by decide) (fun b5 => ?_) (fun b5 => ?_)
    · have h := er_ift h b5
      refine er_iconst (v := -1) cx d_ER_rowAt_33 rfl (by decide) ?_
      obtain rfl := Option.some.inj h
      exact er_iret rt (Or.inl rfl) d_ER_rowAt_34 (by decide) (by decide) ⟨rfl, rfl, rfl⟩
    · have h := er_iff h b5
      refine er_aload_n cx d_ER_rowAt_15 0 rfl ?_
      obtain ⟨c7, h⟩ := er_ck h
      refine er_getr cx d_ER_rowAt_16 fd_ER_25 c1 c7 ?_
      refine er_iload_n cx d_ER_rowAt_19 1 rfl ?_
      obtain ⟨c8, h⟩ := er_ck h
      refine er_aald cx d_ER_rowAt_20 c8.1 (by decide) c8.2.1 c8.2.2.1 c8.2.2.2 ?_
      obtain ⟨c9, h⟩ := er_ck h
      refine er_getr cx d_ER_rowAt_21 fd_ER_108 c9.1 c9.2 ?_
      refine er_iload_n cx d_ER_rowAt_24 2 rfl ?_
      obtain ⟨c10, h⟩ := er_ck h
      refine er_aald cx d_ER_rowAt_25 c10.1 (by decide) c10.2.1 c10.2.2.1 c10.2.2.2 ?_
      refine er_iload_n cx d_ER_rowAt_26 3 rfl ?_
      obtain ⟨c11, h⟩ := er_ck h
      obtain ⟨q11, e11, h⟩ := er_bd h
      refine er_callV (b := T (T (T (T p0 0) p1) 7) p2) (As := [.inl p3]) (st := []) cx (c_Row_speakerAt e11) my_ER_112 c11 ⟨by decide, by decide⟩ rfl (Nat.le_of_ble_eq_true rfl) d_ER_rowAt_27 ⟨Nat.zero_le _, Nat.zero_le _⟩ rfl ?_
      refine er_goto (tgt := 34) cx d_ER_rowAt_30 (by decide) ?_
      obtain rfl := Option.some.inj h
      exact er_iret rt (Or.inl rfl) d_ER_rowAt_34 (by decide) (by decide) ⟨rfl, rfl, rfl⟩
theorem c_ER_rowAt {l : Launch} {X : er_X} {r : Int × er_Me} {p0 p1 p2 p3 : Int} {T M : er_Me} (h : f_ER_rowAt p0 p1 p2 p3 T M = some r) (hok : ∀ v ∈ ([.inr p0, .inl p1, .inl p2, .inl p3] : List er_V), er_ok v) : er_Ct l X y_ER_rowAt b_ER_rowAt 4 (some .int) rm_ER_rowAt [.inr p0, .inl p1, .inl p2, .inl p3] T M (some (.inl r.1)) T r.2 :=
  er_ct rfl rfl (Nat.le_of_ble_eq_true rfl) hok (fun K cx rt hin => w_ER_rowAt cx rt h)
/-! ER_slot -/
abbrev rm_ER_slot : Room := { frames := 1, cells := 0, slots := 0, locals := 21 }
def f_ER_slot (p0 p1 : Int) (T M : er_Me) : Option (Int × er_Me) :=
  if T p0 (-2) = 1 then
  (f_ER_isNode p0 p1 T M).bind fun q1 =>
  if q1.1 = 0 then
  some ((-1), q1.2)
  else
  if 0 < T p0 0 then
  if T (T p0 0) (-2) = 103 ∧ 0 ≤ p1 ∧ p1 < T (T p0 0) (-1) ∧ 0 < T (T p0 0) p1 then
  if T (T (T p0 0) p1) (-2) = 3 then
  some (q1.2 (T (T p0 0) p1) 10, q1.2) else none else none else none else none
set_option maxHeartbeats 4000000 in
theorem w_ER_slot {K : er_K} {l : Launch} {X : er_X} (cx : er_Cx K l X b_ER_slot "EchoedRounds" 2 rm_ER_slot) {r : Int × er_Me} {p0 p1 : Int} {T M : er_Me} (rt : er_Rt K X b_ER_slot (some .int) 0 0 (some (.inl r.1)) T r.2) (h : f_ER_slot p0 p1 T M = some r) : er_G K 0 0 T M 0 [(0, .inr p0), (1, .inl p1)] [] := by
  unfold f_ER_slot at h
  refine er_aload_n cx d_ER_slot_0 0 rfl ?_
  refine er_iload_n cx d_ER_slot_1 1 rfl ?_
  obtain ⟨c1, h⟩ := er_ck h
  obtain ⟨q1, e1, h⟩ := er_bd h
  refine er_callV (b := p0) (As := [.inl p1]) (st := []) cx (c_ER_isNode e1) my_ER_57 c1 ⟨by decide, by decide⟩ rfl (Nat.le_of_ble_eq_true rfl) d_ER_slot_2 ⟨Nat.zero_le _, Nat.zero_le _⟩ rfl ?_
  refine er_if_eq (tgt := 20) cx d_ER_slot_5 (by decide) (fun b2 => ?_) (fun b2 => ?_)
  · have h := er_ift h b2
    refine er_iconst (v := -1) cx d_ER_slot_20 rfl (by decide) ?_
    obtain rfl := Option.some.inj h
    exact er_iret rt (Or.inl rfl) d_ER_slot_21 (by decide) (by decide) ⟨rfl, rfl, rfl⟩
  · have h := er_iff h b2
    refine er_aload_n cx d_ER_slot_8 0 rfl ?_
    obtain ⟨c4, h⟩ := er_ck h
    refine er_getr cx d_ER_slot_9 fd_ER_25 c1 c4 ?_
    refine er_iload_n cx d_ER_slot_12 1 rfl ?_
    obtain ⟨c5, h⟩ := er_ck h
    refine er_aald cx d_ER_slot_13 c5.1 (by decide) c5.2.1 c5.2.2.1 c5.2.2.2 ?_
    obtain ⟨c6, h⟩ := er_ck h
    refine er_geti cx d_ER_slot_14 fd_ER_44 c6 ?_
    refine er_goto (tgt := 21) cx d_ER_slot_17 (by decide) ?_
    obtain rfl := Option.some.inj h
    exact er_iret rt (Or.inl rfl) d_ER_slot_21 (by decide) (by decide) ⟨rfl, rfl, rfl⟩
theorem c_ER_slot {l : Launch} {X : er_X} {r : Int × er_Me} {p0 p1 : Int} {T M : er_Me} (h : f_ER_slot p0 p1 T M = some r) (hok : ∀ v ∈ ([.inr p0, .inl p1] : List er_V), er_ok v) : er_Ct l X y_ER_slot b_ER_slot 2 (some .int) rm_ER_slot [.inr p0, .inl p1] T M (some (.inl r.1)) T r.2 :=
  er_ct rfl rfl (Nat.le_of_ble_eq_true rfl) hok (fun K cx rt hin => w_ER_slot cx rt h)
/-! ER_value -/
abbrev rm_ER_value : Room := { frames := 1, cells := 0, slots := 0, locals := 21 }
def f_ER_value (p0 p1 : Int) (T M : er_Me) : Option (Int × er_Me) :=
  if T p0 (-2) = 1 then
  (f_ER_isNode p0 p1 T M).bind fun q1 =>
  if q1.1 = 0 then
  some ((-1), q1.2)
  else
  if 0 < T p0 0 then
  if T (T p0 0) (-2) = 103 ∧ 0 ≤ p1 ∧ p1 < T (T p0 0) (-1) ∧ 0 < T (T p0 0) p1 then
  if T (T (T p0 0) p1) (-2) = 3 then
  some (q1.2 (T (T p0 0) p1) 11, q1.2) else none else none else none else none
set_option maxHeartbeats 4000000 in
theorem w_ER_value {K : er_K} {l : Launch} {X : er_X} (cx : er_Cx K l X b_ER_value "EchoedRounds" 2 rm_ER_value) {r : Int × er_Me} {p0 p1 : Int} {T M : er_Me} (rt : er_Rt K X b_ER_value (some .int) 0 0 (some (.inl r.1)) T r.2) (h : f_ER_value p0 p1 T M = some r) : er_G K 0 0 T M 0 [(0, .inr p0), (1, .inl p1)] [] := by
  unfold f_ER_value at h
  refine er_aload_n cx d_ER_value_0 0 rfl ?_
  refine er_iload_n cx d_ER_value_1 1 rfl ?_
  obtain ⟨c1, h⟩ := er_ck h
  obtain ⟨q1, e1, h⟩ := er_bd h
  refine er_callV (b := p0) (As := [.inl p1]) (st := []) cx (c_ER_isNode e1) my_ER_57 c1 ⟨by decide, by decide⟩ rfl (Nat.le_of_ble_eq_true rfl) d_ER_value_2 ⟨Nat.zero_le _, Nat.zero_le _⟩ rfl ?_
  refine er_if_eq (tgt := 20) cx d_ER_value_5 (by decide) (fun b2 => ?_) (fun b2 => ?_)
  · have h := er_ift h b2
    refine er_iconst (v := -1) cx d_ER_value_20 rfl (by decide) ?_
    obtain rfl := Option.some.inj h
    exact er_iret rt (Or.inl rfl) d_ER_value_21 (by decide) (by decide) ⟨rfl, rfl, rfl⟩
  · have h := er_iff h b2
    refine er_aload_n cx d_ER_value_8 0 rfl ?_
    obtain ⟨c4, h⟩ := er_ck h
    refine er_getr cx d_ER_value_9 fd_ER_25 c1 c4 ?_
    refine er_iload_n cx d_ER_value_12 1 rfl ?_
    obtain ⟨c5, h⟩ := er_ck h
    refine er_aald cx d_ER_value_13 c5.1 (by decide) c5.2.1 c5.2.2.1 c5.2.2.2 ?_
    obtain ⟨c6, h⟩ := er_ck h
    refine er_geti cx d_ER_value_14 fd_ER_117 c6 ?_
    refine er_goto (tgt := 21) cx d_ER_value_17 (by decide) ?_
    obtain rfl := Option.some.inj h
    exact er_iret rt (Or.inl rfl) d_ER_value_21 (by decide) (by decide) ⟨rfl, rfl, rfl⟩
theorem c_ER_value {l : Launch} {X : er_X} {r : Int × er_Me} {p0 p1 : Int} {T M : er_Me} (h : f_ER_value p0 p1 T M = some r) (hok : ∀ v ∈ ([.inr p0, .inl p1] : List er_V), er_ok v) : er_Ct l X y_ER_value b_ER_value 2 (some .int) rm_ER_value [.inr p0, .inl p1] T M (some (.inl r.1)) T r.2 :=
  er_ct rfl rfl (Nat.le_of_ble_eq_true rfl) hok (fun K cx rt hin => w_ER_value cx rt h)
/-! ER_decided -/
abbrev rm_ER_decided : Room := { frames := 1, cells := 0, slots := 0, locals := 21 }
def f_ER_decided (p0 p1 : Int) (T M : er_Me) : Option (Int × er_Me) :=
  if T p0 (-2) = 1 then
  (f_ER_isNode p0 p1 T M).bind fun q1 =>
  if q1.1 = 0 then
  some ((-1), q1.2)
  else
  if 0 < T p0 0 then
  if T (T p0 0) (-2) = 103 ∧ 0 ≤ p1 ∧ p1 < T (T p0 0) (-1) ∧ 0 < T (T p0 0) p1 then
  if T (T (T p0 0) p1) (-2) = 3 then
  some (q1.2 (T (T p0 0) p1) 12, q1.2) else none else none else none else none
set_option maxHeartbeats 4000000 in
theorem w_ER_decided {K : er_K} {l : Launch} {X : er_X} (cx : er_Cx K l X b_ER_decided "EchoedRounds" 2 rm_ER_decided) {r : Int × er_Me} {p0 p1 : Int} {T M : er_Me} (rt : er_Rt K X b_ER_decided (some .int) 0 0 (some (.inl r.1)) T r.2) (h : f_ER_decided p0 p1 T M = some r) : er_G K 0 0 T M 0 [(0, .inr p0), (1, .inl p1)] [] := by
  unfold f_ER_decided at h
  refine er_aload_n cx d_ER_decided_0 0 rfl ?_
  refine er_iload_n cx d_ER_decided_1 1 rfl ?_
  obtain ⟨c1, h⟩ := er_ck h
  obtain ⟨q1, e1, h⟩ := er_bd h
  refine er_callV (b := p0) (As := [.inl p1]) (st := []) cx (c_ER_isNode e1) my_ER_57 c1 ⟨by decide, by decide⟩ rfl (Nat.le_of_ble_eq_true rfl) d_ER_decided_2 ⟨Nat.zero_le _, Nat.zero_le _⟩ rfl ?_
  refine er_if_eq (tgt := 20) cx d_ER_decided_5 (by decide) (fun b2 => ?_) (fun b2 => ?_)
  · have h := er_ift h b2
    refine er_iconst (v := -1) cx d_ER_decided_20 rfl (by decide) ?_
    obtain rfl := Option.some.inj h
    exact er_iret rt (Or.inl rfl) d_ER_decided_21 (by decide) (by decide) ⟨rfl, rfl, rfl⟩
  · have h := er_iff h b2
    refine er_aload_n cx d_ER_decided_8 0 rfl ?_
    obtain ⟨c4, h⟩ := er_ck h
    refine er_getr cx d_ER_decided_9 fd_ER_25 c1 c4 ?_
    refine er_iload_n cx d_ER_decided_12 1 rfl ?_
    obtain ⟨c5, h⟩ := er_ck h
    refine er_aald cx d_ER_decided_13 c5.1 (by decide) c5.2.1 c5.2.2.1 c5.2.2.2 ?_
    obtain ⟨c6, h⟩ := er_ck h
    refine er_geti cx d_ER_decided_14 fd_ER_120 c6 ?_
    refine er_goto (tgt := 21) cx d_ER_decided_17 (by decide) ?_
    obtain rfl := Option.some.inj h
    exact er_iret rt (Or.inl rfl) d_ER_decided_21 (by decide) (by decide) ⟨rfl, rfl, rfl⟩
theorem c_ER_decided {l : Launch} {X : er_X} {r : Int × er_Me} {p0 p1 : Int} {T M : er_Me} (h : f_ER_decided p0 p1 T M = some r) (hok : ∀ v ∈ ([.inr p0, .inl p1] : List er_V), er_ok v) : er_Ct l X y_ER_decided b_ER_decided 2 (some .int) rm_ER_decided [.inr p0, .inl p1] T M (some (.inl r.1)) T r.2 :=
  er_ct rfl rfl (Nat.le_of_ble_eq_true rfl) hok (fun K cx rt hin => w_ER_decided cx rt h)
/-! ER_init -/
abbrev rm_ER_init : Room := { frames := 3, cells := 324, slots := 10072, locals := 63 }
def f_ER_init_35_b (self : Int → Int → Int → Int → Int → er_Me → er_Me → Option (er_Me × er_Me)) (v0 v1 v2 v3 v4 : Int) (T M : er_Me) : Option (er_Me × er_Me) :=
  if 0 ≤ v4 ∧ v2 ≤ 7 ∧ v4 ≤ 7 then
  if v2 ≤ v4 then
  some (T, M)
  else
  if T v0 (-2) = 1 ∧ 0 < T v0 0 then
  er_le (T 0 0 + 1) fun b3 =>
  er_le (er_nw T 3 0) fun T3 =>
  er_le (er_mw M b3) fun M3 =>
  (f_Node_init b3 v4 v3 T3 M3).bind fun q4 =>
  if q4.1 (T v0 0) (-2) = 103 ∧ q4.1 b3 (-2) = 3 ∧ 0 ≤ v4 ∧ v4 < q4.1 (T v0 0) (-1) then
  er_le (er_up q4.1 (T v0 0) v4 b3) fun T5 =>
  er_le (er_add v4 1) fun x6 =>
  self v0 v1 v2 v3 x6 T5 q4.2 else none else none else none
def f_ER_init_35 : Nat → Int → Int → Int → Int → Int → er_Me → er_Me → Option (er_Me × er_Me)
  | 0 => fun _ _ _ _ _ _ _ => none
  | n + 1 => fun v0 v1 v2 v3 v4 T M => f_ER_init_35_b (f_ER_init_35 n) v0 v1 v2 v3 v4 T M
set_option maxHeartbeats 4000000 in
theorem w_ER_init_35_b {K : er_K} {l : Launch} {X : er_X} (cx : er_Cx K l X b_ER_init "EchoedRounds" 5 rm_ER_init) (hin : er_In K) {r : er_Me × er_Me} (rt : er_Rt K X b_ER_init (none) 324 10072 none r.1 r.2) {self : Int → Int → Int → Int → Int → er_Me → er_Me → Option (er_Me × er_Me)} (hself : ∀ (v0 v1 v2 v3 v4 : Int) (T M : er_Me) (cells slots : Nat), cells + 46 * (7 - v4).toNat ≤ 324 ∧ slots + 1437 * (7 - v4).toNat ≤ 10072 → self v0 v1 v2 v3 v4 T M = some r → er_G K cells slots T M 35 [(0, .inr v0), (1, .inl v1), (2, .inl v2), (3, .inr v3), (4, .inl v4)] []) : ∀ (v0 v1 v2 v3 v4 : Int) (T M : er_Me) (cells slots : Nat), cells + 46 * (7 - v4).toNat ≤ 324 ∧ slots + 1437 * (7 - v4).toNat ≤ 10072 → f_ER_init_35_b self v0 v1 v2 v3 v4 T M = some r → er_G K cells slots T M 35 [(0, .inr v0), (1, .inl v1), (2, .inl v2), (3, .inr v3), (4, .inl v4)] [] := by
  intro v0 v1 v2 v3 v4 T M cells slots hcs h
  unfold f_ER_init_35_b at h
  obtain ⟨c0, h⟩ := er_ck h
  refine er_iload cx d_ER_init_35 4 rfl ?_
  refine er_iload_n cx d_ER_init_37 2 rfl ?_
  refine er_ic_ge (tgt := 64) cx d_ER_init_38 (by decide) (fun b1 => ?_) (fun b1 => ?_)
  · have h := er_ift h b1
    obtain rfl := Option.some.inj h
    exact er_vret rt d_ER_init_64 (by omega) (by omega) ⟨rfl, rfl, rfl⟩
  · have h := er_iff h b1
    refine er_aload_n cx d_ER_init_41 0 rfl ?_
    obtain ⟨c2, h⟩ := er_ck h
    refine er_getr cx d_ER_init_42 fd_ER_25 c2.1 c2.2 ?_
    refine er_iload cx d_ER_init_45 4 rfl ?_
    obtain ⟨b3, eb3, h⟩ := er_lel h
    obtain ⟨T3, eT3, h⟩ := er_lel h
    obtain ⟨M3, eM3, h⟩ := er_lel h
    refine er_new cx d_ER_init_47 (by decide) cl_Node wm_45 wm_47 wm_4 (by show cells + 1 ≤ 324; omega) (by show slots + 13 ≤ 10072; omega) eT3 eb3 eM3 ?_
    refine er_dup cx d_ER_init_50 ?_
    refine er_iload cx d_ER_init_51 4 rfl ?_
    refine er_aload_n cx d_ER_init_53 3 rfl ?_
    obtain ⟨q4, e4, h⟩ := er_bd h
    refine er_callI (b := b3) (As := [.inl v4, .inr v3]) (st := [.inr b3, .inl v4, .inr (T v0 0)]) cx (c_Node_init e4) my_ER_29 ⟨by decide, by decide⟩ rfl (Nat.le_of_ble_eq_true rfl) d_ER_init_54 ⟨(by show cells + 1 + 45 ≤ 324; omega), (by show slots + 13 + 1424 ≤ 10072; omega)⟩ rfl ?_
    obtain ⟨c5, h⟩ := er_ck h
    obtain ⟨T5, e5, h⟩ := er_lel h
    refine er_aast cx d_ER_init_57 c5.1 c5.2.1 cl_Node (by decide) (by decide) (Or.inl ⟨rfl, rfl⟩) c5.2.2.1 c5.2.2.2 e5 ?_
    obtain ⟨x6, e6, h⟩ := er_lel h
    have ea6 := er_addE (x := v4) (y := 1) (by constructor <;> omega)
    refine er_iinc cx d_ER_init_58 (k := 4) rfl (by decide) e6 rfl ?_
    refine er_goto (tgt := 35) cx d_ER_init_61 (by decide) ?_
    refine er_sb cx [1, 2, 3, 4, 0] rfl ?_
    refine er_wd (k := cells + 46) (n := slots + 1437) (by show cells + 1 + 45 ≤ _; omega) (by show slots + 13 + 1424 ≤ _; omega) ?_
    exact hself _ _ _ _ _ _ _ _ _ (by omega) h
theorem w_ER_init_35 {K : er_K} {l : Launch} {X : er_X} (cx : er_Cx K l X b_ER_init "EchoedRounds" 5 rm_ER_init) (hin : er_In K) {r : er_Me × er_Me} (rt : er_Rt K X b_ER_init (none) 324 10072 none r.1 r.2) : ∀ n : Nat, ∀ (v0 v1 v2 v3 v4 : Int) (T M : er_Me) (cells slots : Nat), cells + 46 * (7 - v4).toNat ≤ 324 ∧ slots + 1437 * (7 - v4).toNat ≤ 10072 → f_ER_init_35 n v0 v1 v2 v3 v4 T M = some r → er_G K cells slots T M 35 [(0, .inr v0), (1, .inl v1), (2, .inl v2), (3, .inr v3), (4, .inl v4)] [] := by
  intro n
  induction n with
  | zero =>
    intro v0 v1 v2 v3 v4 T M cells slots hcs h
    cases h
  | succ n ih =>
    intro v0 v1 v2 v3 v4 T M cells slots hcs h
    exact w_ER_init_35_b cx hin rt ih v0 v1 v2 v3 v4 T M cells slots hcs h
def f_ER_init (p0 p1 : Int) (T M : er_Me) : Option (er_Me × er_Me) :=
  er_le (er_max 4 (er_min 7 p1)) fun x4 =>
  er_le (T 0 0 + 1) fun b5 =>
  er_le (er_nw T 2 0) fun T5 =>
  er_le (er_mw M b5) fun M5 =>
  (f_Rules_init b5 x4 T5 M5).bind fun q6 =>
  if 0 ≤ x4 ∧ x4 ≤ 9 then
  er_le (q6.1 0 0 + 1) fun b7 =>
  er_le (er_nw q6.1 103 x4) fun T7 =>
  er_le (er_mw q6.2 b7) fun M7 =>
  if T7 p0 (-2) = 1 ∧ 0 < b7 then
  er_le (er_up T7 p0 0 b7) fun T8 =>
  f_ER_init_35 er_fu p0 p1 x4 b5 0 T8 M7 else none else none
set_option maxHeartbeats 4000000 in
theorem w_ER_init {K : er_K} {l : Launch} {X : er_X} (cx : er_Cx K l X b_ER_init "EchoedRounds" 5 rm_ER_init) (hin : er_In K) {r : er_Me × er_Me} {p0 p1 : Int} {T M : er_Me} (rt : er_Rt K X b_ER_init (none) 324 10072 none r.1 r.2) (h : f_ER_init p0 p1 T M = some r) : er_G K 0 0 T M 0 [(0, .inr p0), (1, .inl p1)] [] := by
  unfold f_ER_init at h
  refine er_aload_n cx d_ER_init_0 0 rfl ?_
  refine er_obj cx d_ER_init_1 wm_14 wm_15 wm_16 (by decide) (Nat.le_of_ble_eq_true rfl) ?_
  refine er_iconst (v := 4) cx d_ER_init_4 rfl (by decide) ?_
  refine er_bipush (v := 7) cx d_ER_init_5 (by decide +kernel) (by decide) ?_
  refine er_iload_n cx d_ER_init_7 1 rfl ?_
  refine er_mmin cx d_ER_init_8 wm_17 wm_18 wm_2 wm_19 (by decide) (Nat.le_of_ble_eq_true rfl) (by decide) (by decide) ?_
  refine er_mmax cx d_ER_init_11 wm_20 wm_21 wm_2 wm_22 (by decide) (Nat.le_of_ble_eq_true rfl) (by decide) (by decide) ?_
  obtain ⟨x4, e4, h⟩ := er_lel h
  refine er_nm e4 ?_
  refine er_istore_n cx d_ER_init_14 rfl (by decide) rfl ?_
  obtain ⟨b5, eb5, h⟩ := er_lel h
  obtain ⟨T5, eT5, h⟩ := er_lel h
  obtain ⟨M5, eM5, h⟩ := er_lel h
  refine er_new cx d_ER_init_15 (by decide) cl_Rules wm_23 wm_24 wm_3 (by decide) (by decide) eT5 eb5 eM5 ?_
  refine er_dup cx d_ER_init_18 ?_
  refine er_iload_n cx d_ER_init_19 0 rfl ?_
  obtain ⟨q6, e6, h⟩ := er_bd h
  refine er_callI (b := b5) (As := [.inl x4]) (st := [.inr b5]) cx (c_Rules_init e6) my_ER_20 ⟨by decide, by decide⟩ rfl (Nat.le_of_ble_eq_true rfl) d_ER_init_20 ⟨(by decide), (by decide)⟩ rfl ?_
  refine er_astore_n cx d_ER_init_23 rfl (by decide) rfl ?_
  refine er_aload_n cx d_ER_init_24 2 rfl ?_
  refine er_iload_n cx d_ER_init_25 1 rfl ?_
  obtain ⟨c7, h⟩ := er_ck h
  obtain ⟨b7, eb7, h⟩ := er_lel h
  obtain ⟨T7, eT7, h⟩ := er_lel h
  obtain ⟨M7, eM7, h⟩ := er_lel h
  refine er_newq (t := 2) cx d_ER_init_26 wm_45 (by decide) (Or.inl ⟨rfl, rfl⟩) (by decide) c7.1 c7.2 (by decide) (by decide) eT7 eb7 eM7 ?_
  obtain ⟨c8, h⟩ := er_ck h
  obtain ⟨T8, e8, h⟩ := er_lel h
  refine er_putr cx d_ER_init_29 fd_ER_25 c8.1 (fun _ => ⟨hin, rfl, rfl⟩) (fun _ => rfl) (fun _ => rfl) c8.2 e8 ?_
  refine er_iconst (v := 0) cx d_ER_init_32 rfl (by decide) ?_
  refine er_istore cx d_ER_init_33 (by decide) rfl ?_
  refine er_sb cx [3, 4, 2, 1, 0] rfl ?_
  exact w_ER_init_35 cx hin rt er_fu _ _ _ _ _ _ _ _ _ (by decide) h
theorem c_ER_init {l : Launch} {X : er_X} {r : er_Me × er_Me} {p0 p1 : Int} {T M : er_Me} (h : f_ER_init p0 p1 T M = some r) (hok : ∀ v ∈ ([.inr p0, .inl p1] : List er_V), er_ok v) : er_Ct l X y_ER_init b_ER_init 5 (none) rm_ER_init [.inr p0, .inl p1] T M none r.1 r.2 :=
  er_ct rfl rfl (Nat.le_of_ble_eq_true rfl) hok (fun K cx rt hin => w_ER_init cx (hin rfl) rt h)
/-! ER_corrupt -/
abbrev rm_ER_corrupt : Room := { frames := 2, cells := 0, slots := 0, locals := 42 }
def f_ER_corrupt (p0 p1 : Int) (T M : er_Me) : Option (Int × er_Me) :=
  if T p0 (-2) = 1 then
  (f_ER_isWellBehaved p0 p1 T M).bind fun q1 =>
  if q1.1 = 0 then
  some (0, q1.2)
  else
  if 0 < T p0 0 then
  if T (T p0 0) (-2) = 103 ∧ 0 ≤ p1 ∧ p1 < T (T p0 0) (-1) ∧ 0 < T (T p0 0) p1 then
  if T (T (T p0 0) p1) (-2) = 3 then
  er_le (er_up q1.2 (T (T p0 0) p1) 8 0) fun M5 =>
  some (1, M5) else none else none else none else none
set_option maxHeartbeats 4000000 in
theorem w_ER_corrupt {K : er_K} {l : Launch} {X : er_X} (cx : er_Cx K l X b_ER_corrupt "EchoedRounds" 2 rm_ER_corrupt) {r : Int × er_Me} {p0 p1 : Int} {T M : er_Me} (rt : er_Rt K X b_ER_corrupt (some .boolean) 0 0 (some (.inl r.1)) T r.2) (h : f_ER_corrupt p0 p1 T M = some r) : er_G K 0 0 T M 0 [(0, .inr p0), (1, .inl p1)] [] := by
  unfold f_ER_corrupt at h
  refine er_aload_n cx d_ER_corrupt_0 0 rfl ?_
  refine er_iload_n cx d_ER_corrupt_1 1 rfl ?_
  obtain ⟨c1, h⟩ := er_ck h
  obtain ⟨q1, e1, h⟩ := er_bd h
  refine er_callV (b := p0) (As := [.inl p1]) (st := []) cx (c_ER_isWellBehaved e1) my_ER_32 c1 ⟨by decide, by decide⟩ rfl (Nat.le_of_ble_eq_true rfl) d_ER_corrupt_2 ⟨Nat.zero_le _, Nat.zero_le _⟩ rfl ?_
  refine er_if_ne (tgt := 10) cx d_ER_corrupt_5 (by decide) (fun b2 => ?_) (fun b2 => ?_)
  · have h := er_iff h b2
    refine er_aload_n cx d_ER_corrupt_10 0 rfl ?_
    obtain ⟨c3, h⟩ := er_ck h
    refine er_getr cx d_ER_corrupt_11 fd_ER_25 c1 c3 ?_
    refine er_iload_n cx d_ER_corrupt_14 1 rfl ?_
    obtain ⟨c4, h⟩ := er_ck h
    refine er_aald cx d_ER_corrupt_15 c4.1 (by decide) c4.2.1 c4.2.2.1 c4.2.2.2 ?_
    refine er_iconst (v := 0) cx d_ER_corrupt_16 rfl (by decide) ?_
    obtain ⟨c5, h⟩ := er_ck h
    obtain ⟨M5, e5, h⟩ := er_lel h
    refine er_putz cx d_ER_corrupt_17 fd_ER_36 c5 (fun q => by cases q) (Or.inl rfl) e5 ?_
    refine er_iconst (v := 1) cx d_ER_corrupt_20 rfl (by decide) ?_
    obtain rfl := Option.some.inj h
    exact er_iret rt (Or.inr ⟨rfl, Or.inr rfl⟩) d_ER_corrupt_21 (by decide) (by decide) ⟨rfl, rfl, rfl⟩
  · have h := er_ift h b2
    refine er_iconst (v := 0) cx d_ER_corrupt_8 rfl (by decide) ?_
    obtain rfl := Option.some.inj h
    exact er_iret rt (Or.inr ⟨rfl, Or.inl rfl⟩) d_ER_corrupt_9 (by decide) (by decide) ⟨rfl, rfl, rfl⟩
theorem c_ER_corrupt {l : Launch} {X : er_X} {r : Int × er_Me} {p0 p1 : Int} {T M : er_Me} (h : f_ER_corrupt p0 p1 T M = some r) (hok : ∀ v ∈ ([.inr p0, .inl p1] : List er_V), er_ok v) : er_Ct l X y_ER_corrupt b_ER_corrupt 2 (some .boolean) rm_ER_corrupt [.inr p0, .inl p1] T M (some (.inl r.1)) T r.2 :=
  er_ct rfl rfl (Nat.le_of_ble_eq_true rfl) hok (fun K cx rt hin => w_ER_corrupt cx rt h)
/-! ER_tosses -/
abbrev rm_ER_tosses : Room := { frames := 2, cells := 0, slots := 0, locals := 42 }
def f_ER_tosses (p0 p1 p2 : Int) (T M : er_Me) : Option (Int × er_Me) :=
  if T p0 (-2) = 1 then
  (f_ER_isWellBehaved p0 p1 T M).bind fun q1 =>
  if q1.1 = 0 then
  some (0, q1.2)
  else
  if 0 < T p0 0 then
  if T (T p0 0) (-2) = 103 ∧ 0 ≤ p1 ∧ p1 < T (T p0 0) (-1) ∧ 0 < T (T p0 0) p1 then
  if T (T (T p0 0) p1) (-2) = 3 then
  er_le (er_up q1.2 (T (T p0 0) p1) 9 (er_and p2 7)) fun M5 =>
  some (1, M5) else none else none else none else none
set_option maxHeartbeats 4000000 in
theorem w_ER_tosses {K : er_K} {l : Launch} {X : er_X} (cx : er_Cx K l X b_ER_tosses "EchoedRounds" 3 rm_ER_tosses) {r : Int × er_Me} {p0 p1 p2 : Int} {T M : er_Me} (rt : er_Rt K X b_ER_tosses (some .boolean) 0 0 (some (.inl r.1)) T r.2) (h : f_ER_tosses p0 p1 p2 T M = some r) : er_G K 0 0 T M 0 [(0, .inr p0), (1, .inl p1), (2, .inl p2)] [] := by
  unfold f_ER_tosses at h
  refine er_aload_n cx d_ER_tosses_0 0 rfl ?_
  refine er_iload_n cx d_ER_tosses_1 1 rfl ?_
  obtain ⟨c1, h⟩ := er_ck h
  obtain ⟨q1, e1, h⟩ := er_bd h
  refine er_callV (b := p0) (As := [.inl p1]) (st := []) cx (c_ER_isWellBehaved e1) my_ER_32 c1 ⟨by decide, by decide⟩ rfl (Nat.le_of_ble_eq_true rfl) d_ER_tosses_2 ⟨Nat.zero_le _, Nat.zero_le _⟩ rfl ?_
  refine er_if_ne (tgt := 10) cx d_ER_tosses_5 (by decide) (fun b2 => ?_) (fun b2 => ?_)
  · have h := er_iff h b2
    refine er_aload_n cx d_ER_tosses_10 0 rfl ?_
    obtain ⟨c3, h⟩ := er_ck h
    refine er_getr cx d_ER_tosses_11 fd_ER_25 c1 c3 ?_
    refine er_iload_n cx d_ER_tosses_14 1 rfl ?_
    obtain ⟨c4, h⟩ := er_ck h
    refine er_aald cx d_ER_tosses_15 c4.1 (by decide) c4.2.1 c4.2.2.1 c4.2.2.2 ?_
    refine er_iload_n cx d_ER_tosses_16 2 rfl ?_
    refine er_bipush (v := 7) cx d_ER_tosses_17 (by decide +kernel) (by decide) ?_
    refine er_iand cx d_ER_tosses_19 ?_
    obtain ⟨c5, h⟩ := er_ck h
    obtain ⟨M5, e5, h⟩ := er_lel h
    refine er_puti cx d_ER_tosses_20 fd_ER_40 c5 (fun q => by cases q) e5 ?_
    refine er_iconst (v := 1) cx d_ER_tosses_23 rfl (by decide) ?_
    obtain rfl := Option.some.inj h
    exact er_iret rt (Or.inr ⟨rfl, Or.inr rfl⟩) d_ER_tosses_24 (by decide) (by decide) ⟨rfl, rfl, rfl⟩
  · have h := er_ift h b2
    refine er_iconst (v := 0) cx d_ER_tosses_8 rfl (by decide) ?_
    obtain rfl := Option.some.inj h
    exact er_iret rt (Or.inr ⟨rfl, Or.inl rfl⟩) d_ER_tosses_9 (by decide) (by decide) ⟨rfl, rfl, rfl⟩
theorem c_ER_tosses {l : Launch} {X : er_X} {r : Int × er_Me} {p0 p1 p2 : Int} {T M : er_Me} (h : f_ER_tosses p0 p1 p2 T M = some r) (hok : ∀ v ∈ ([.inr p0, .inl p1, .inl p2] : List er_V), er_ok v) : er_Ct l X y_ER_tosses b_ER_tosses 3 (some .boolean) rm_ER_tosses [.inr p0, .inl p1, .inl p2] T M (some (.inl r.1)) T r.2 :=
  er_ct rfl rfl (Nat.le_of_ble_eq_true rfl) hok (fun K cx rt hin => w_ER_tosses cx rt h)
/-! ER_start -/
abbrev rm_ER_start : Room := { frames := 7, cells := 0, slots := 0, locals := 157 }
def f_ER_start (p0 p1 p2 : Int) (T M : er_Me) : Option (Int × er_Me) :=
  if T p0 (-2) = 1 then
  (f_ER_isWellBehaved p0 p1 T M).bind fun q1 =>
  if q1.1 = 0 then
  some (0, q1.2)
  else
  if 0 < T p0 0 then
  if T (T p0 0) (-2) = 103 ∧ 0 ≤ p1 ∧ p1 < T (T p0 0) (-1) ∧ 0 < T (T p0 0) p1 then
  if T (T (T p0 0) p1) (-2) = 3 then
  if q1.2 (T (T p0 0) p1) 10 = (-1) then
  (f_ER_isPlain p2 T q1.2).bind fun q9 =>
  if q9.1 = 0 then
  some (0, q9.2)
  else
  (f_Node_enter (T (T p0 0) p1) 0 p2 T q9.2).bind fun q13 =>
  (f_Node_settle (T (T p0 0) p1) T q13).bind fun q16 =>
  some (1, q16)
  else
  some (0, q1.2) else none else none else none else none
set_option maxHeartbeats 4000000 in
theorem w_ER_start {K : er_K} {l : Launch} {X : er_X} (cx : er_Cx K l X b_ER_start "EchoedRounds" 3 rm_ER_start) {r : Int × er_Me} {p0 p1 p2 : Int} {T M : er_Me} (rt : er_Rt K X b_ER_start (some .boolean) 0 0 (some (.inl r.1)) T r.2) (h : f_ER_start p0 p1 p2 T M = some r) : er_G K 0 0 T M 0 [(0, .inr p0), (1, .inl p1), (2, .inl p2)] [] := by
  unfold f_ER_start at h
  refine er_aload_n cx d_ER_start_0 0 rfl ?_
  refine er_iload_n cx d_ER_start_1 1 rfl ?_
  obtain ⟨c1, h⟩ := er_ck h
  obtain ⟨q1, e1, h⟩ := er_bd h
  refine er_callV (b := p0) (As := [.inl p1]) (st := []) cx (c_ER_isWellBehaved e1) my_ER_32 c1 ⟨by decide, by decide⟩ rfl (Nat.le_of_ble_eq_true rfl) d_ER_start_2 ⟨Nat.zero_le _, Nat.zero_le _⟩ rfl ?_
  refine er_if_eq (tgt := 28) cx d_ER_start_5 (by decide) (fun b2 => ?_) (fun b2 => ?_)
  · have h := er_ift h b2
    refine er_iconst (v := 0) cx d_ER_start_28 rfl (by decide) ?_
    obtain rfl := Option.some.inj h
    exact er_iret rt (Or.inr ⟨rfl, Or.inl rfl⟩) d_ER_start_29 (by decide) (by decide) ⟨rfl, rfl, rfl⟩
  · have h := er_iff h b2
    refine er_aload_n cx d_ER_start_8 0 rfl ?_
    obtain ⟨c4, h⟩ := er_ck h
    refine er_getr cx d_ER_start_9 fd_ER_25 c1 c4 ?_
    refine er_iload_n cx d_ER_start_12 1 rfl ?_
    obtain ⟨c5, h⟩ := er_ck h
    refine er_aald cx d_ER_start_13 c5.1 (by decide) c5.2.1 c5.2.2.1 c5.2.2.2 ?_
    obtain ⟨c6, h⟩ := er_ck h
    refine er_geti cx d_ER_start_14 fd_ER_44 c6 ?_
    refine er_iconst (v := -1) cx d_ER_start_17 rfl (by decide) ?_
    refine er_ic_ne (tgt := 28) cx d_ER_start_18 (by decide) (fun b7 => ?_) (fun b7 => ?_)
    · have h := er_iff h b7
      refine er_iconst (v := 0) cx d_ER_start_28 rfl (by decide) ?_
      obtain rfl := Option.some.inj h
      exact er_iret rt (Or.inr ⟨rfl, Or.inl rfl⟩) d_ER_start_29 (by decide) (by decide) ⟨rfl, rfl, rfl⟩
    · have h := er_ift h b7
      refine er_iload_n cx d_ER_start_21 2 rfl ?_
      obtain ⟨q9, e9, h⟩ := er_bd h
      refine er_callS (As := [.inl p2]) (st := []) cx (c_ER_isPlain e9) my_ER_47 ⟨by decide, by decide⟩ rfl (Nat.le_of_ble_eq_true rfl) d_ER_start_22 ⟨Nat.zero_le _, Nat.zero_le _⟩ rfl ?_
      refine er_if_ne (tgt := 30) cx d_ER_start_25 (by decide) (fun b10 => ?_) (fun b10 => ?_)
      · have h := er_iff h b10
        refine er_aload_n cx d_ER_start_30 0 rfl ?_
        refine er_getr cx d_ER_start_31 fd_ER_25 c1 c4 ?_
        refine er_iload_n cx d_ER_start_34 1 rfl ?_
        refine er_aald cx d_ER_start_35 c5.1 (by decide) c5.2.1 c5.2.2.1 c5.2.2.2 ?_
        refine er_iconst (v := 0) cx d_ER_start_36 rfl (by decide) ?_
        refine er_iload_n cx d_ER_start_37 2 rfl ?_
        obtain ⟨q13, e13, h⟩ := er_bd h
        refine er_callV (b := T (T p0 0) p1) (As := [.inl 0, .inl p2]) (st := []) cx (c_Node_enter e13) my_ER_50 c6 ⟨by decide, by decide⟩ rfl (Nat.le_of_ble_eq_true rfl) d_ER_start_38 ⟨Nat.zero_le _, Nat.zero_le _⟩ rfl ?_
        refine er_aload_n cx d_ER_start_41 0 rfl ?_
        refine er_getr cx d_ER_start_42 fd_ER_25 c1 c4 ?_
        refine er_iload_n cx d_ER_start_45 1 rfl ?_
        refine er_aald cx d_ER_start_46 c5.1 (by decide) c5.2.1 c5.2.2.1 c5.2.2.2 ?_
        obtain ⟨q16, e16, h⟩ := er_bd h
        refine er_callV (b := T (T p0 0) p1) (As := []) (st := []) cx (c_Node_settle e16) my_ER_54 c6 ⟨by decide, by decide⟩ rfl (Nat.le_of_ble_eq_true rfl) d_ER_start_47 ⟨Nat.zero_le _, Nat.zero_le _⟩ rfl ?_
        refine er_iconst (v := 1) cx d_ER_start_50 rfl (by decide) ?_
        obtain rfl := Option.some.inj h
        exact er_iret rt (Or.inr ⟨rfl, Or.inr rfl⟩) d_ER_start_51 (by decide) (by decide) ⟨rfl, rfl, rfl⟩
      · have h := er_ift h b10
        refine er_iconst (v := 0) cx d_ER_start_28 rfl (by decide) ?_
        obtain rfl := Option.some.inj h
        exact er_iret rt (Or.inr ⟨rfl, Or.inl rfl⟩) d_ER_start_29 (by decide) (by decide) ⟨rfl, rfl, rfl⟩
theorem c_ER_start {l : Launch} {X : er_X} {r : Int × er_Me} {p0 p1 p2 : Int} {T M : er_Me} (h : f_ER_start p0 p1 p2 T M = some r) (hok : ∀ v ∈ ([.inr p0, .inl p1, .inl p2] : List er_V), er_ok v) : er_Ct l X y_ER_start b_ER_start 3 (some .boolean) rm_ER_start [.inr p0, .inl p1, .inl p2] T M (some (.inl r.1)) T r.2 :=
  er_ct rfl rfl (Nat.le_of_ble_eq_true rfl) hok (fun K cx rt hin => w_ER_start cx rt h)
/-! ER_pass -/
abbrev rm_ER_pass : Room := { frames := 7, cells := 0, slots := 0, locals := 157 }
def f_ER_pass_37_b (self : Int → Int → Int → Int → Int → er_Me → Option (Int × er_Me)) (v0 v1 v2 v3 v4 : Int) (T M : er_Me) : Option (Int × er_Me) :=
  if v3 ≤ v4 then
  some (v4, M)
  else
  if T v0 (-2) = 1 ∧ 0 < T v0 0 then
  if T (T v0 0) (-2) = 103 ∧ 0 ≤ v2 ∧ v2 < T (T v0 0) (-1) ∧ 0 < T (T v0 0) v2 then
  if 0 ≤ v1 ∧ v1 < T (T v0 0) (-1) ∧ 0 < T (T v0 0) v1 then
  if T (T (T v0 0) v1) (-2) = 3 ∧ 0 < T (T (T v0 0) v1) 2 then
  if T (T (T v0 0) v2) (-2) = 3 then
  (f_Node_hearNextOf (T (T v0 0) v2) v1 (T (T (T v0 0) v1) 2) T M).bind fun q8 =>
  if q8.1 = 0 then
  some (v4, q8.2)
  else
  (f_Node_settle (T (T v0 0) v2) T q8.2).bind fun q13 =>
  er_le (er_add v4 1) fun x14 =>
  self v0 v1 v2 v3 x14 q13 else none else none else none else none else none
def f_ER_pass_37 : Nat → er_Me → Int → Int → Int → Int → Int → er_Me → Option (Int × er_Me)
  | 0, _ => fun _ _ _ _ _ _ => none
  | n + 1, T => fun v0 v1 v2 v3 v4 M => f_ER_pass_37_b (f_ER_pass_37 n T) v0 v1 v2 v3 v4 T M
set_option maxHeartbeats 4000000 in
theorem w_ER_pass_37_b {K : er_K} {l : Launch} {X : er_X} (cx : er_Cx K l X b_ER_pass "EchoedRounds" 5 rm_ER_pass) {r : Int × er_Me} {T : er_Me} (rt : er_Rt K X b_ER_pass (some .int) 0 0 (some (.inl r.1)) T r.2) {self : Int → Int → Int → Int → Int → er_Me → Option (Int × er_Me)} (hself : ∀ (v0 v1 v2 v3 v4 : Int) (M : er_Me), self v0 v1 v2 v3 v4 M = some r → er_G K 0 0 T M 37 [(0, .inr v0), (1, .inl v1), (2, .inl v2), (3, .inl v3), (4, .inl v4)] []) : ∀ (v0 v1 v2 v3 v4 : Int) (M : er_Me), f_ER_pass_37_b self v0 v1 v2 v3 v4 T M = some r → er_G K 0 0 T M 37 [(0, .inr v0), (1, .inl v1), (2, .inl v2), (3, .inl v3), (4, .inl v4)] [] := by
  intro v0 v1 v2 v3 v4 M h
  unfold f_ER_pass_37_b at h
  refine er_iload cx d_ER_pass_37 4 rfl ?_
  refine er_iload_n cx d_ER_pass_39 3 rfl ?_
  refine er_ic_ge (tgt := 80) cx d_ER_pass_40 (by decide) (fun b1 => ?_) (fun b1 => ?_)
  · have h := er_ift h b1
    refine er_iload cx d_ER_pass_80 4 rfl ?_
    obtain rfl := Option.some.inj h
    exact er_iret rt (Or.inl rfl) d_ER_pass_82 (by decide) (by decide) ⟨rfl, rfl, rfl⟩
  · have h := er_iff h b1
    refine er_aload_n cx d_ER_pass_43 0 rfl ?_
    obtain ⟨c3, h⟩ := er_ck h
    refine er_getr cx d_ER_pass_44 fd_ER_25 c3.1 c3.2 ?_
    refine er_iload_n cx d_ER_pass_47 2 rfl ?_
    obtain ⟨c4, h⟩ := er_ck h
    refine er_aald cx d_ER_pass_48 c4.1 (by decide) c4.2.1 c4.2.2.1 c4.2.2.2 ?_
    refine er_iload_n cx d_ER_pass_49 1 rfl ?_
    refine er_aload_n cx d_ER_pass_50 0 rfl ?_
    refine er_getr cx d_ER_pass_51 fd_ER_25 c3.1 c3.2 ?_
    refine er_iload_n cx d_ER_pass_54 1 rfl ?_
    obtain ⟨c6, h⟩ := er_ck h
    refine er_aald cx d_ER_pass_55 c4.1 (by decide) c6.1 c6.2.1 c6.2.2 ?_
    obtain ⟨c7, h⟩ := er_ck h
    refine er_getr cx d_ER_pass_56 fd_ER_60 c7.1 c7.2 ?_
    obtain ⟨c8, h⟩ := er_ck h
    obtain ⟨q8, e8, h⟩ := er_bd h
    refine er_callV (b := T (T v0 0) v2) (As := [.inl v1, .inr (T (T (T v0 0) v1) 2)]) (st := []) cx (c_Node_hearNextOf e8) my_ER_64 c8 ⟨by decide, by decide⟩ rfl (Nat.le_of_ble_eq_true rfl) d_ER_pass_59 ⟨Nat.zero_le _, Nat.zero_le _⟩ rfl ?_
    refine er_if_eq (tgt := 80) cx d_ER_pass_62 (by decide) (fun b9 => ?_) (fun b9 => ?_)
    · have h := er_ift h b9
      refine er_iload cx d_ER_pass_80 4 rfl ?_
      obtain rfl := Option.some.inj h
      exact er_iret rt (Or.inl rfl) d_ER_pass_82 (by decide) (by decide) ⟨rfl, rfl, rfl⟩
    · have h := er_iff h b9
      refine er_aload_n cx d_ER_pass_65 0 rfl ?_
      refine er_getr cx d_ER_pass_66 fd_ER_25 c3.1 c3.2 ?_
      refine er_iload_n cx d_ER_pass_69 2 rfl ?_
      refine er_aald cx d_ER_pass_70 c4.1 (by decide) c4.2.1 c4.2.2.1 c4.2.2.2 ?_
      obtain ⟨q13, e13, h⟩ := er_bd h
      refine er_callV (b := T (T v0 0) v2) (As := []) (st := []) cx (c_Node_settle e13) my_ER_54 c8 ⟨by decide, by decide⟩ rfl (Nat.le_of_ble_eq_true rfl) d_ER_pass_71 ⟨Nat.zero_le _, Nat.zero_le _⟩ rfl ?_
      obtain ⟨x14, e14, h⟩ := er_lel h
      refine er_iinc cx d_ER_pass_74 (k := 4) rfl (by decide) e14 rfl ?_
      refine er_goto (tgt := 37) cx d_ER_pass_77 (by decide) ?_
      refine er_sb cx [1, 2, 3, 4, 0] rfl ?_
      exact hself _ _ _ _ _ _ h
theorem w_ER_pass_37 {K : er_K} {l : Launch} {X : er_X} (cx : er_Cx K l X b_ER_pass "EchoedRounds" 5 rm_ER_pass) {r : Int × er_Me} {T : er_Me} (rt : er_Rt K X b_ER_pass (some .int) 0 0 (some (.inl r.1)) T r.2) : ∀ n : Nat, ∀ (v0 v1 v2 v3 v4 : Int) (M : er_Me), f_ER_pass_37 n T v0 v1 v2 v3 v4 M = some r → er_G K 0 0 T M 37 [(0, .inr v0), (1, .inl v1), (2, .inl v2), (3, .inl v3), (4, .inl v4)] [] := by
  intro n
  induction n with
  | zero =>
    intro v0 v1 v2 v3 v4 M h
    cases h
  | succ n ih =>
    intro v0 v1 v2 v3 v4 M h
    exact w_ER_pass_37_b cx rt ih v0 v1 v2 v3 v4 M h
def f_ER_pass (p0 p1 p2 p3 : Int) (T M : er_Me) : Option (Int × er_Me) :=
  if T p0 (-2) = 1 then
  (f_ER_isNode p0 p1 T M).bind fun q1 =>
  if q1.1 = 0 then
  some ((-1), q1.2)
  else
  (f_ER_isWellBehaved p0 p2 T q1.2).bind fun q4 =>
  if q4.1 = 0 then
  some ((-1), q4.2)
  else
  if p1 = p2 then
  some ((-1), q4.2)
  else
  if p3 < 1 then
  some ((-1), q4.2)
  else
  if p3 ≤ 100 then
  f_ER_pass_37 er_fu T p0 p1 p2 p3 0 q4.2
  else
  some ((-1), q4.2) else none
set_option maxHeartbeats 4000000 in
theorem w_ER_pass {K : er_K} {l : Launch} {X : er_X} (cx : er_Cx K l X b_ER_pass "EchoedRounds" 5 rm_ER_pass) {r : Int × er_Me} {p0 p1 p2 p3 : Int} {T M : er_Me} (rt : er_Rt K X b_ER_pass (some .int) 0 0 (some (.inl r.1)) T r.2) (h : f_ER_pass p0 p1 p2 p3 T M = some r) : er_G K 0 0 T M 0 [(0, .inr p0), (1, .inl p1), (2, .inl p2), (3, .inl p3)] [] := by
  unfold f_ER_pass at h
  refine er_aload_n cx d_ER_pass_0 0 rfl ?_
  refine er_iload_n cx d_ER_pass_1 1 rfl ?_
  obtain ⟨c1, h⟩ := er_ck h
  obtain ⟨q1, e1, h⟩ := er_bd h
  refine er_callV (b := p0) (As := [.inl p1]) (st := []) cx (c_ER_isNode e1) my_ER_57 c1 ⟨by decide, by decide⟩ rfl (Nat.le_of_ble_eq_true rfl) d_ER_pass_2 ⟨Nat.zero_le _, Nat.zero_le _⟩ rfl ?_
  refine er_if_eq (tgt := 32) cx d_ER_pass_5 (by decide) (fun b2 => ?_) (fun b2 => ?_)
  · have h := er_ift h b2
    refine er_iconst (v := -1) cx d_ER_pass_32 rfl (by decide) ?_
    obtain rfl := Option.some.inj h
    exact er_iret rt (Or.inl rfl) d_ER_pass_33 (by decide) (by decide) ⟨rfl, rfl, rfl⟩
  · have h := er_iff h b2
    refine er_aload_n cx d_ER_pass_8 0 rfl ?_
    refine er_iload_n cx d_ER_pass_9 2 rfl ?_
    obtain ⟨q4, e4, h⟩ := er_bd h
    refine er_callV (b := p0) (As := [.inl p2]) (st := []) cx (c_ER_isWellBehaved e4) my_ER_32 c1 ⟨by decide, by decide⟩ rfl (Nat.le_of_ble_eq_true rfl) d_ER_pass_10 ⟨Nat.zero_le _, Nat.zero_le _⟩ rfl ?_
    refine er_if_eq (tgt := 32) cx d_ER_pass_13 (by decide) (fun b5 => ?_) (fun b5 => ?_)
    · have h := er_ift h b5
      refine er_iconst (v := -1) cx d_ER_pass_32 rfl (by decide) ?_
      obtain rfl := Option.some.inj h
      exact er_iret rt (Or.inl rfl) d_ER_pass_33 (by decide) (by decide) ⟨rfl, rfl, rfl⟩
    · have h := er_iff h b5
      refine er_iload_n cx d_ER_pass_16 1 rfl ?_
      refine er_iload_n cx d_ER_pass_17 2 rfl ?_
      refine er_ic_eq (tgt := 32) cx d_ER_pass_18 (by decide) (fun b7 => ?_) (fun b7 => ?_)
      · have h := er_ift h b7
        refine er_iconst (v := -1) cx d_ER_pass_32 rfl (by decide) ?_
        obtain rfl := Option.some.inj h
        exact er_iret rt (Or.inl rfl) d_ER_pass_33 (by decide) (by decide) ⟨rfl, rfl, rfl⟩
      · have h := er_iff h b7
        refine er_iload_n cx d_ER_pass_21 3 rfl ?_
        refine er_iconst (v := 1) cx d_ER_pass_22 rfl (by decide) ?_
        refine er_ic_lt (tgt := 32) cx d_ER_pass_23 (by decide) (fun b9 => ?_) (fun b9 => ?_)
        · have h := er_ift h b9
          refine er_iconst (v := -1) cx d_ER_pass_32 rfl (by decide) ?_
          obtain rfl := Option.some.inj h
          exact er_iret rt (Or.inl rfl) d_ER_pass_33 (by decide) (by decide) ⟨rfl, rfl, rfl⟩
        · have h := er_iff h b9
          refine er_iload_n cx d_ER_pass_26 3 rfl ?_
          refine er_bipush (v := 100) cx d_ER_pass_27 (by decide +kernel) (by decide) ?_
          refine er_ic_le (tgt := 34) cx d_ER_pass_29 (by decide) (fun b11 => ?_) (fun b11 => ?_)
          · have h := er_ift h b11
            refine er_iconst (v := 0) cx d_ER_pass_34 rfl (by decide) ?_
            refine er_istore cx d_ER_pass_35 (by decide) rfl ?_
            refine er_sb cx [1, 2, 3, 4, 0] rfl ?_
            exact w_ER_pass_37 cx rt er_fu _ _ _ _ _ _ h
          · have h := er_iff h b11
            refine er_iconst (v := -1) cx d_ER_pass_32 rfl (by decide) ?_
            obtain rfl := Option.some.inj h
            exact er_iret rt (Or.inl rfl) d_ER_pass_33 (by decide) (by decide) ⟨rfl, rfl, rfl⟩
theorem c_ER_pass {l : Launch} {X : er_X} {r : Int × er_Me} {p0 p1 p2 p3 : Int} {T M : er_Me} (h : f_ER_pass p0 p1 p2 p3 T M = some r) (hok : ∀ v ∈ ([.inr p0, .inl p1, .inl p2, .inl p3] : List er_V), er_ok v) : er_Ct l X y_ER_pass b_ER_pass 5 (some .int) rm_ER_pass [.inr p0, .inl p1, .inl p2, .inl p3] T M (some (.inl r.1)) T r.2 :=
  er_ct rfl rfl (Nat.le_of_ble_eq_true rfl) hok (fun K cx rt hin => w_ER_pass cx rt h)
/-! ER_forge -/
abbrev rm_ER_forge : Room := { frames := 7, cells := 0, slots := 0, locals := 157 }
def f_ER_forge (p0 p1 p2 p3 p4 p5 : Int) (T M : er_Me) : Option (Int × er_Me) :=
  if T p0 (-2) = 1 then
  (f_ER_isNode p0 p1 T M).bind fun q1 =>
  if q1.1 = 0 then
  some (0, q1.2)
  else
  if 0 < T p0 0 then
  if T (T p0 0) (-2) = 103 ∧ 0 ≤ p1 ∧ p1 < T (T p0 0) (-1) ∧ 0 < T (T p0 0) p1 then
  if T (T (T p0 0) p1) (-2) = 3 then
  if q1.2 (T (T p0 0) p1) 8 = 0 then
  (f_ER_isWellBehaved p0 p2 T q1.2).bind fun q9 =>
  if q9.1 = 0 then
  some (0, q9.2)
  else
  (f_ER_isSlot p3 T q9.2).bind fun q11 =>
  if q11.1 = 0 then
  some (0, q11.2)
  else
  (f_ER_isNode p0 p4 T q11.2).bind fun q14 =>
  if q14.1 = 0 then
  some (0, q14.2)
  else
  if p5 < 0 then
  some (0, q14.2)
  else
  if p5 < 12 then
  if 0 ≤ p2 ∧ p2 < T (T p0 0) (-1) ∧ 0 < T (T p0 0) p2 then
  (f_ER_codeOf (er_div p5 4) p3 p4 (er_rem p5 4) T q14.2).bind fun q22 =>
  if T (T (T p0 0) p2) (-2) = 3 then
  (f_Node_hear (T (T p0 0) p2) p1 q22.1 T q22.2).bind fun q23 =>
  (f_Node_settle (T (T p0 0) p2) T q23.2).bind fun q26 =>
  if q23.1 = 0 ∨ q23.1 = 1 then some (q23.1, q26) else none else none else none
  else
  some (0, q14.2)
  else
  some (0, q1.2) else none else none else none else none
set_option maxHeartbeats 4000000 in
theorem w_ER_forge {K : er_K} {l : Launch} {X : er_X} (cx : er_Cx K l X b_ER_forge "EchoedRounds" 7 rm_ER_forge) {r : Int × er_Me} {p0 p1 p2 p3 p4 p5 : Int} {T M : er_Me} (rt : er_Rt K X b_ER_forge (some .boolean) 0 0 (some (.inl r.1)) T r.2) (h : f_ER_forge p0 p1 p2 p3 p4 p5 T M = some r) : er_G K 0 0 T M 0 [(0, .inr p0), (1, .inl p1), (2, .inl p2), (3, .inl p3), (4, .inl p4), (5, .inl p5)] [] := by
  unfold f_ER_forge at h
  refine er_aload_n cx d_ER_forge_0 0 rfl ?_
  refine er_iload_n cx d_ER_forge_1 1 rfl ?_
  obtain ⟨c1, h⟩ := er_ck h
  obtain ⟨q1, e1, h⟩ := er_bd h
  refine er_callV (b := p0) (As := [.inl p1]) (st := []) cx (c_ER_isNode e1) my_ER_57 c1 ⟨by decide, by decide⟩ rfl (Nat.le_of_ble_eq_true rfl) d_ER_forge_2 ⟨Nat.zero_le _, Nat.zero_le _⟩ rfl ?_
  refine er_if_eq (tgt := 28) cx d_ER_forge_5 (by decide) (fun b2 => ?_) (fun b2 => ?_)
  · have h := er_ift h b2
    refine er_iconst (v := 0) cx d_ER_forge_28 rfl (by decide) ?_
    obtain rfl := Option.some.inj h
    exact er_iret rt (Or.inr ⟨rfl, Or.inl rfl⟩) d_ER_forge_29 (by decide) (by decide) ⟨rfl, rfl, rfl⟩
  · have h := er_iff h b2
    refine er_aload_n cx d_ER_forge_8 0 rfl ?_
    obtain ⟨c4, h⟩ := er_ck h
    refine er_getr cx d_ER_forge_9 fd_ER_25 c1 c4 ?_
    refine er_iload_n cx d_ER_forge_12 1 rfl ?_
    obtain ⟨c5, h⟩ := er_ck h
    refine er_aald cx d_ER_forge_13 c5.1 (by decide) c5.2.1 c5.2.2.1 c5.2.2.2 ?_
    obtain ⟨c6, h⟩ := er_ck h
    refine er_geti cx d_ER_forge_14 fd_ER_36 c6 ?_
    refine er_if_ne (tgt := 28) cx d_ER_forge_17 (by decide) (fun b7 => ?_) (fun b7 => ?_)
    · have h := er_iff h b7
      refine er_iconst (v := 0) cx d_ER_forge_28 rfl (by decide) ?_
      obtain rfl := Option.some.inj h
      exact er_iret rt (Or.inr ⟨rfl, Or.inl rfl⟩) d_ER_forge_29 (by decide) (by decide) ⟨rfl, rfl, rfl⟩
    · have h := er_ift h b7
      refine er_aload_n cx d_ER_forge_20 0 rfl ?_
      refine er_iload_n cx d_ER_forge_21 2 rfl ?_
      obtain ⟨q9, e9, h⟩ := er_bd h
      refine er_callV (b := p0) (As := [.inl p2]) (st := []) cx (c_ER_isWellBehaved e9) my_ER_32 c1 ⟨by decide, by decide⟩ rfl (Nat.le_of_ble_eq_true rfl) d_ER_forge_22 ⟨Nat.zero_le _, Nat.zero_le _⟩ rfl ?_
      refine er_if_ne (tgt := 30) cx d_ER_forge_25 (by decide) (fun b10 => ?_) (fun b10 => ?_)
      · have h := er_iff h b10
        refine er_iload_n cx d_ER_forge_30 3 rfl ?_
        obtain ⟨q11, e11, h⟩ := er_bd h
        refine er_callS (As := [.inl p3]) (st := []) cx (c_ER_isSlot e11) my_ER_68 ⟨by decide, by decide⟩ rfl (Nat.le_of_ble_eq_true rfl) d_ER_forge_31 ⟨Nat.zero_le _, Nat.zero_le _⟩ rfl ?_
        refine er_if_eq (tgt := 58) cx d_ER_forge_34 (by decide) (fun b12 => ?_) (fun b12 => ?_)
        · have h := er_ift h b12
          refine er_iconst (v := 0) cx d_ER_forge_58 rfl (by decide) ?_
          obtain rfl := Option.some.inj h
          exact er_iret rt (Or.inr ⟨rfl, Or.inl rfl⟩) d_ER_forge_59 (by decide) (by decide) ⟨rfl, rfl, rfl⟩
        · have h := er_iff h b12
          refine er_aload_n cx d_ER_forge_37 0 rfl ?_
          refine er_iload cx d_ER_forge_38 4 rfl ?_
          obtain ⟨q14, e14, h⟩ := er_bd h
          refine er_callV (b := p0) (As := [.inl p4]) (st := []) cx (c_ER_isNode e14) my_ER_57 c1 ⟨by decide, by decide⟩ rfl (Nat.le_of_ble_eq_true rfl) d_ER_forge_40 ⟨Nat.zero_le _, Nat.zero_le _⟩ rfl ?_
          refine er_if_eq (tgt := 58) cx d_ER_forge_43 (by decide) (fun b15 => ?_) (fun b15 => ?_)
          · have h := er_ift h b15
            refine er_iconst (v := 0) cx d_ER_forge_58 rfl (by decide) ?_
            obtain rfl := Option.some.inj h
            exact er_iret rt (Or.inr ⟨rfl, Or.inl rfl⟩) d_ER_forge_59 (by decide) (by decide) ⟨rfl, rfl, rfl⟩
          · have h := er_iff h b15
            refine er_iload cx d_ER_forge_46 5 rfl ?_
            refine er_if_lt (tgt := 58) cx d_ER_forge_48 (by decide) (fun b17 => ?_) (fun b17 => ?_)
            · have h := er_ift h b17
              refine er_iconst (v := 0) cx d_ER_forge_58 rfl (by decide) ?_
              obtain rfl := Option.some.inj h
              exact er_iret rt (Or.inr ⟨rfl, Or.inl rfl⟩) d_ER_forge_59 (by decide) (by decide) ⟨rfl, rfl, rfl⟩
            · have h := er_iff h b17
              refine er_iload cx d_ER_forge_51 5 rfl ?_
              refine er_bipush (v := 12) cx d_ER_forge_53 (by decide +kernel) (by decide) ?_
              refine er_ic_lt (tgt := 60) cx d_ER_forge_55 (by decide) (fun b19 => ?_) (fun b19 => ?_)
              · have h := er_ift h b19
                refine er_aload_n cx d_ER_forge_60 0 rfl ?_
                refine er_getr cx d_ER_forge_61 fd_ER_25 c1 c4 ?_
                refine er_iload_n cx d_ER_forge_64 2 rfl ?_
                obtain ⟨c21, h⟩ := er_ck h
                refine er_aald cx d_ER_forge_65 c5.1 (by decide) c21.1 c21.2.1 c21.2.2 ?_
                refine er_iload_n cx d_ER_forge_66 1 rfl ?_
                refine er_iload cx d_ER_forge_67 5 rfl ?_
                refine er_iconst (v := 4) cx d_ER_forge_69 rfl (by decide) ?_
                refine er_idiv cx d_ER_forge_70 (by decide) ?_
                refine er_iload_n cx d_ER_forge_71 3 rfl ?_
                refine er_iload cx d_ER_forge_72 4 rfl ?_
                refine er_iload cx d_ER_forge_74 5 rfl ?_
                refine er_iconst (v := 4) cx d_ER_forge_76 rfl (by decide) ?_
                refine er_irem cx d_ER_forge_77 (by decide) ?_
                obtain ⟨q22, e22, h⟩ := er_bd h
                refine er_callS (As := [.inl (er_div p5 4), .inl p3, .inl p4, .inl (er_rem p5 4)]) (st := [.inl p1, .inr (T (T p0 0) p2)]) cx (c_ER_codeOf e22) my_ER_71 ⟨by decide, by decide⟩ rfl (Nat.le_of_ble_eq_true rfl) d_ER_forge_78 ⟨Nat.zero_le _, Nat.zero_le _⟩ rfl ?_
                obtain ⟨c23, h⟩ := er_ck h
                obtain ⟨q23, e23, h⟩ := er_bd h
                refine er_callV (b := T (T p0 0) p2) (As := [.inl p1, .inl q22.1]) (st := []) cx (c_Node_hear e23) my_ER_75 c23 ⟨by decide, by decide⟩ rfl (Nat.le_of_ble_eq_true rfl) d_ER_forge_81 ⟨Nat.zero_le _, Nat.zero_le _⟩ rfl ?_
                refine er_istore cx d_ER_forge_84 (by decide) rfl ?_
                refine er_aload_n cx d_ER_forge_86 1 rfl ?_
                refine er_getr cx d_ER_forge_87 fd_ER_25 c1 c4 ?_
                refine er_iload_n cx d_ER_forge_90 3 rfl ?_
                refine er_aald cx d_ER_forge_91 c5.1 (by decide) c21.1 c21.2.1 c21.2.2 ?_
                obtain ⟨q26, e26, h⟩ := er_bd h
                refine er_callV (b := T (T p0 0) p2) (As := []) (st := []) cx (c_Node_settle e26) my_ER_54 c23 ⟨by decide, by decide⟩ rfl (Nat.le_of_ble_eq_true rfl) d_ER_forge_92 ⟨Nat.zero_le _, Nat.zero_le _⟩ rfl ?_
                refine er_iload cx d_ER_forge_95 0 rfl ?_
                obtain ⟨c27, h⟩ := er_ck h
                obtain rfl := Option.some.inj h
                exact er_iret rt (Or.inr ⟨rfl, c27⟩) d_ER_forge_97 (by decide) (by decide) ⟨rfl, rfl, rfl⟩
              · have h := er_iff h b19
                refine er_iconst (v := 0) cx d_ER_forge_58 rfl (by decide) ?_
                obtain rfl := Option.some.inj h
                exact er_iret rt (Or.inr ⟨rfl, Or.inl rfl⟩) d_ER_forge_59 (by decide) (by decide) ⟨rfl, rfl, rfl⟩
      · have h := er_ift h b10
        refine er_iconst (v := 0) cx d_ER_forge_28 rfl (by decide) ?_
        obtain rfl := Option.some.inj h
        exact er_iret rt (Or.inr ⟨rfl, Or.inl rfl⟩) d_ER_forge_29 (by decide) (by decide) ⟨rfl, rfl, rfl⟩
theorem c_ER_forge {l : Launch} {X : er_X} {r : Int × er_Me} {p0 p1 p2 p3 p4 p5 : Int} {T M : er_Me} (h : f_ER_forge p0 p1 p2 p3 p4 p5 T M = some r) (hok : ∀ v ∈ ([.inr p0, .inl p1, .inl p2, .inl p3, .inl p4, .inl p5] : List er_V), er_ok v) : er_Ct l X y_ER_forge b_ER_forge 7 (some .boolean) rm_ER_forge [.inr p0, .inl p1, .inl p2, .inl p3, .inl p4, .inl p5] T M (some (.inl r.1)) T r.2 :=
  er_ct rfl rfl (Nat.le_of_ble_eq_true rfl) hok (fun K cx rt hin => w_ER_forge cx rt h)
