/-! Rules_init -/
abbrev rm_Rules_init : Room := { frames := 1, cells := 0, slots := 0, locals := 20 }
def f_Rules_init (p0 p1 : Int) (T M : er_Me) : Option (er_Me × er_Me) :=
  if T p0 (-2) = 2 then
  er_le (er_up M p0 0 p1) fun M2 =>
  er_le (er_up M2 p0 1 (er_div (er_sub p1 1) 3)) fun M3 =>
  er_le (er_up M3 p0 2 (er_sub p1 (M3 p0 1))) fun M5 =>
  er_le (er_up M5 p0 3 (er_add (er_div (er_add p1 (M5 p0 1)) 2) 1)) fun M7 =>
  some (T, M7) else none
set_option maxHeartbeats 4000000 in
theorem w_Rules_init {K : er_K} {l : Launch} {X : er_X} (cx : er_Cx K l X b_Rules_init "EchoedRounds$Rules" 2 rm_Rules_init) (hin : er_In K) {r : er_Me × er_Me} {p0 p1 : Int} {T M : er_Me} (rt : er_Rt K X b_Rules_init (none) 0 0 none r.1 r.2) (h : f_Rules_init p0 p1 T M = some r) : er_G K 0 0 T M 0 [(0, .inr p0), (1, .inl p1)] [] := by
  unfold f_Rules_init at h
  refine er_aload_n cx d_Rules_init_0 0 rfl ?_
  refine er_obj cx d_Rules_init_1 wm_28 wm_15 wm_16 (by decide) (Nat.le_of_ble_eq_true rfl) ?_
  refine er_aload_n cx d_Rules_init_4 0 rfl ?_
  refine er_iload_n cx d_Rules_init_5 1 rfl ?_
  obtain ⟨c2, h⟩ := er_ck h
  obtain ⟨M2, e2, h⟩ := er_lel h
  refine er_puti cx d_Rules_init_6 fd_Rules_9 c2 (fun _ => ⟨hin, rfl, rfl⟩) e2 ?_
  refine er_aload_n cx d_Rules_init_9 0 rfl ?_
  refine er_iload_n cx d_Rules_init_10 1 rfl ?_
  refine er_iconst (v := 1) cx d_Rules_init_11 rfl (by decide) ?_
  refine er_isub cx d_Rules_init_12 ?_
  refine er_iconst (v := 3) cx d_Rules_init_13 rfl (by decide) ?_
  refine er_idiv cx d_Rules_init_14 (by decide) ?_
  obtain ⟨M3, e3, h⟩ := er_lel h
  refine er_puti cx d_Rules_init_15 fd_Rules_15 c2 (fun _ => ⟨hin, rfl, rfl⟩) e3 ?_
  refine er_aload_n cx d_Rules_init_18 0 rfl ?_
  refine er_iload_n cx d_Rules_init_19 1 rfl ?_
  refine er_aload_n cx d_Rules_init_20 0 rfl ?_
  refine er_geti cx d_Rules_init_21 fd_Rules_15 c2 ?_
  refine er_isub cx d_Rules_init_24 ?_
  obtain ⟨M5, e5, h⟩ := er_lel h
  refine er_puti cx d_Rules_init_25 fd_Rules_18 c2 (fun _ => ⟨hin, rfl, rfl⟩) e5 ?_
  refine er_aload_n cx d_Rules_init_28 0 rfl ?_
  refine er_iload_n cx d_Rules_init_29 1 rfl ?_
  refine er_aload_n cx d_Rules_init_30 0 rfl ?_
  refine er_geti cx d_Rules_init_31 fd_Rules_15 c2 ?_
  refine er_iadd cx d_Rules_init_34 ?_
  refine er_iconst (v := 2) cx d_Rules_init_35 rfl (by decide) ?_
  refine er_idiv cx d_Rules_init_36 (by decide) ?_
  refine er_iconst (v := 1) cx d_Rules_init_37 rfl (by decide) ?_
  refine er_iadd cx d_Rules_init_38 ?_
  obtain ⟨M7, e7, h⟩ := er_lel h
  refine er_puti cx d_Rules_init_39 fd_Rules_21 c2 (fun _ => ⟨hin, rfl, rfl⟩) e7 ?_
  obtain rfl := Option.some.inj h
  exact er_vret rt d_Rules_init_42 (by decide) (by decide) ⟨rfl, rfl, rfl⟩
theorem c_Rules_init {l : Launch} {X : er_X} {r : er_Me × er_Me} {p0 p1 : Int} {T M : er_Me} (h : f_Rules_init p0 p1 T M = some r) (hok : ∀ v ∈ ([.inr p0, .inl p1] : List er_V), er_ok v) : er_Ct l X y_Rules_init b_Rules_init 2 (none) rm_Rules_init [.inr p0, .inl p1] T M none r.1 r.2 :=
  er_ct rfl rfl (Nat.le_of_ble_eq_true rfl) hok (fun K cx rt hin => w_Rules_init cx (hin rfl) rt h)
/-! Log_init -/
abbrev rm_Log_init : Room := { frames := 1, cells := 1, slots := 135, locals := 20 }
def f_Log_init (p0 : Int) (T M : er_Me) : Option (er_Me × er_Me) :=
  er_le (T 0 0 + 1) fun b2 =>
  er_le (er_nw T 101 135) fun T2 =>
  er_le (er_mw M b2) fun M2 =>
  if T2 p0 (-2) = 4 ∧ 0 < b2 then
  er_le (er_up T2 p0 0 b2) fun T3 =>
  if T3 p0 (-2) = 4 then
  er_le (er_up M2 p0 1 0) fun M4 =>
  some (T3, M4) else none else none
set_option maxHeartbeats 4000000 in
theorem w_Log_init {K : er_K} {l : Launch} {X : er_X} (cx : er_Cx K l X b_Log_init "EchoedRounds$Log" 1 rm_Log_init) (hin : er_In K) {r : er_Me × er_Me} {p0 : Int} {T M : er_Me} (rt : er_Rt K X b_Log_init (none) 1 135 none r.1 r.2) (h : f_Log_init p0 T M = some r) : er_G K 0 0 T M 0 [(0, .inr p0)] [] := by
  unfold f_Log_init at h
  refine er_aload_n cx d_Log_init_0 0 rfl ?_
  refine er_obj cx d_Log_init_1 wm_57 wm_15 wm_16 (by decide) (Nat.le_of_ble_eq_true rfl) ?_
  refine er_aload_n cx d_Log_init_4 0 rfl ?_
  refine er_sipush (v := 135) cx d_Log_init_5 (by decide +kernel) (by decide) ?_
  obtain ⟨b2, eb2, h⟩ := er_lel h
  obtain ⟨T2, eT2, h⟩ := er_lel h
  obtain ⟨M2, eM2, h⟩ := er_lel h
  refine er_newa (t := 0) (N := 135) cx d_Log_init_8 wm_66 (by decide) rfl (by decide) rfl (by decide) (by decide) (by decide) eT2 eb2 eM2 ?_
  obtain ⟨c3, h⟩ := er_ck h
  obtain ⟨T3, e3, h⟩ := er_lel h
  refine er_putr cx d_Log_init_10 fd_Log_9 c3.1 (fun _ => ⟨hin, rfl, rfl⟩) (fun _ => rfl) (fun _ => rfl) c3.2 e3 ?_
  refine er_aload_n cx d_Log_init_13 0 rfl ?_
  refine er_iconst (v := 0) cx d_Log_init_14 rfl (by decide) ?_
  obtain ⟨c4, h⟩ := er_ck h
  obtain ⟨M4, e4, h⟩ := er_lel h
  refine er_puti cx d_Log_init_15 fd_Log_15 c4 (fun q => by cases q) e4 ?_
  obtain rfl := Option.some.inj h
  exact er_vret rt d_Log_init_18 (by decide) (by decide) ⟨rfl, rfl, rfl⟩
theorem c_Log_init {l : Launch} {X : er_X} {r : er_Me × er_Me} {p0 : Int} {T M : er_Me} (h : f_Log_init p0 T M = some r) (hok : ∀ v ∈ ([.inr p0] : List er_V), er_ok v) : er_Ct l X y_Log_init b_Log_init 1 (none) rm_Log_init [.inr p0] T M none r.1 r.2 :=
  er_ct rfl rfl (Nat.le_of_ble_eq_true rfl) hok (fun K cx rt hin => w_Log_init cx (hin rfl) rt h)
/-! Tally_init -/
abbrev rm_Tally_init : Room := { frames := 1, cells := 2, slots := 945, locals := 20 }
def f_Tally_init (p0 : Int) (T M : er_Me) : Option (er_Me × er_Me) :=
  er_le (T 0 0 + 1) fun b2 =>
  er_le (er_nw T 101 189) fun T2 =>
  er_le (er_mw M b2) fun M2 =>
  if T2 p0 (-2) = 5 ∧ 0 < b2 then
  er_le (er_up T2 p0 0 b2) fun T3 =>
  er_le (T3 0 0 + 1) fun b4 =>
  er_le (er_nw T3 101 756) fun T4 =>
  er_le (er_mw M2 b4) fun M4 =>
  if T4 p0 (-2) = 5 ∧ 0 < b4 then
  er_le (er_up T4 p0 1 b4) fun T5 =>
  some (T5, M4) else none else none
set_option maxHeartbeats 4000000 in
theorem w_Tally_init {K : er_K} {l : Launch} {X : er_X} (cx : er_Cx K l X b_Tally_init "EchoedRounds$Tally" 1 rm_Tally_init) (hin : er_In K) {r : er_Me × er_Me} {p0 : Int} {T M : er_Me} (rt : er_Rt K X b_Tally_init (none) 2 945 none r.1 r.2) (h : f_Tally_init p0 T M = some r) : er_G K 0 0 T M 0 [(0, .inr p0)] [] := by
  unfold f_Tally_init at h
  refine er_aload_n cx d_Tally_init_0 0 rfl ?_
  refine er_obj cx d_Tally_init_1 wm_72 wm_15 wm_16 (by decide) (Nat.le_of_ble_eq_true rfl) ?_
  refine er_aload_n cx d_Tally_init_4 0 rfl ?_
  refine er_sipush (v := 189) cx d_Tally_init_5 (by decide +kernel) (by decide) ?_
  obtain ⟨b2, eb2, h⟩ := er_lel h
  obtain ⟨T2, eT2, h⟩ := er_lel h
  obtain ⟨M2, eM2, h⟩ := er_lel h
  refine er_newa (t := 0) (N := 189) cx d_Tally_init_8 wm_66 (by decide) rfl (by decide) rfl (by decide) (by decide) (by decide) eT2 eb2 eM2 ?_
  obtain ⟨c3, h⟩ := er_ck h
  obtain ⟨T3, e3, h⟩ := er_lel h
  refine er_putr cx d_Tally_init_10 fd_Tally_9 c3.1 (fun _ => ⟨hin, rfl, rfl⟩) (fun _ => rfl) (fun _ => rfl) c3.2 e3 ?_
  refine er_aload_n cx d_Tally_init_13 0 rfl ?_
  refine er_sipush (v := 756) cx d_Tally_init_14 (by decide +kernel) (by decide) ?_
  obtain ⟨b4, eb4, h⟩ := er_lel h
  obtain ⟨T4, eT4, h⟩ := er_lel h
  obtain ⟨M4, eM4, h⟩ := er_lel h
  refine er_newa (t := 0) (N := 756) cx d_Tally_init_17 wm_66 (by decide) rfl (by decide) rfl (by decide) (by decide) (by decide) eT4 eb4 eM4 ?_
  obtain ⟨c5, h⟩ := er_ck h
  obtain ⟨T5, e5, h⟩ := er_lel h
  refine er_putr cx d_Tally_init_19 fd_Tally_15 c5.1 (fun _ => ⟨hin, rfl, rfl⟩) (fun _ => rfl) (fun _ => rfl) c5.2 e5 ?_
  obtain rfl := Option.some.inj h
  exact er_vret rt d_Tally_init_22 (by decide) (by decide) ⟨rfl, rfl, rfl⟩
theorem c_Tally_init {l : Launch} {X : er_X} {r : er_Me × er_Me} {p0 : Int} {T M : er_Me} (h : f_Tally_init p0 T M = some r) (hok : ∀ v ∈ ([.inr p0] : List er_V), er_ok v) : er_Ct l X y_Tally_init b_Tally_init 1 (none) rm_Tally_init [.inr p0] T M none r.1 r.2 :=
  er_ct rfl rfl (Nat.le_of_ble_eq_true rfl) hok (fun K cx rt hin => w_Tally_init cx (hin rfl) rt h)
/-! Row_init -/
abbrev rm_Row_init : Room := { frames := 1, cells := 3, slots := 18, locals := 20 }
def f_Row_init (p0 : Int) (T M : er_Me) : Option (er_Me × er_Me) :=
  er_le (T 0 0 + 1) fun b2 =>
  er_le (er_nw T 101 7) fun T2 =>
  er_le (er_mw M b2) fun M2 =>
  if T2 p0 (-2) = 6 ∧ 0 < b2 then
  er_le (er_up T2 p0 0 b2) fun T3 =>
  er_le (T3 0 0 + 1) fun b4 =>
  er_le (er_nw T3 101 7) fun T4 =>
  er_le (er_mw M2 b4) fun M4 =>
  if T4 p0 (-2) = 6 ∧ 0 < b4 then
  er_le (er_up T4 p0 1 b4) fun T5 =>
  er_le (T5 0 0 + 1) fun b6 =>
  er_le (er_nw T5 101 4) fun T6 =>
  er_le (er_mw M4 b6) fun M6 =>
  if T6 p0 (-2) = 6 ∧ 0 < b6 then
  er_le (er_up T6 p0 2 b6) fun T7 =>
  if T7 p0 (-2) = 6 then
  er_le (er_up M6 p0 3 0) fun M8 =>
  some (T7, M8) else none else none else none else none
set_option maxHeartbeats 4000000 in
theorem w_Row_init {K : er_K} {l : Launch} {X : er_X} (cx : er_Cx K l X b_Row_init "EchoedRounds$Row" 1 rm_Row_init) (hin : er_In K) {r : er_Me × er_Me} {p0 : Int} {T M : er_Me} (rt : er_Rt K X b_Row_init (none) 3 18 none r.1 r.2) (h : f_Row_init p0 T M = some r) : er_G K 0 0 T M 0 [(0, .inr p0)] [] := by
  unfold f_Row_init at h
  refine er_aload_n cx d_Row_init_0 0 rfl ?_
  refine er_obj cx d_Row_init_1 wm_86 wm_15 wm_16 (by decide) (Nat.le_of_ble_eq_true rfl) ?_
  refine er_aload_n cx d_Row_init_4 0 rfl ?_
  refine er_bipush (v := 7) cx d_Row_init_5 (by decide +kernel) (by decide) ?_
  obtain ⟨b2, eb2, h⟩ := er_lel h
  obtain ⟨T2, eT2, h⟩ := er_lel h
  obtain ⟨M2, eM2, h⟩ := er_lel h
  refine er_newa (t := 0) (N := 7) cx d_Row_init_7 wm_66 (by decide) rfl (by decide) rfl (by decide) (by decide) (by decide) eT2 eb2 eM2 ?_
  obtain ⟨c3, h⟩ := er_ck h
  obtain ⟨T3, e3, h⟩ := er_lel h
  refine er_putr cx d_Row_init_9 fd_Row_9 c3.1 (fun _ => ⟨hin, rfl, rfl⟩) (fun _ => rfl) (fun _ => rfl) c3.2 e3 ?_
  refine er_aload_n cx d_Row_init_12 0 rfl ?_
  refine er_bipush (v := 7) cx d_Row_init_13 (by decide +kernel) (by decide) ?_
  obtain ⟨b4, eb4, h⟩ := er_lel h
  obtain ⟨T4, eT4, h⟩ := er_lel h
  obtain ⟨M4, eM4, h⟩ := er_lel h
  refine er_newa (t := 0) (N := 7) cx d_Row_init_15 wm_66 (by decide) rfl (by decide) rfl (by decide) (by decide) (by decide) eT4 eb4 eM4 ?_
  obtain ⟨c5, h⟩ := er_ck h
  obtain ⟨T5, e5, h⟩ := er_lel h
  refine er_putr cx d_Row_init_17 fd_Row_15 c5.1 (fun _ => ⟨hin, rfl, rfl⟩) (fun _ => rfl) (fun _ => rfl) c5.2 e5 ?_
  refine er_aload_n cx d_Row_init_20 0 rfl ?_
  refine er_iconst (v := 4) cx d_Row_init_21 rfl (by decide) ?_
  obtain ⟨b6, eb6, h⟩ := er_lel h
  obtain ⟨T6, eT6, h⟩ := er_lel h
  obtain ⟨M6, eM6, h⟩ := er_lel h
  refine er_newa (t := 0) (N := 4) cx d_Row_init_22 wm_66 (by decide) rfl (by decide) rfl (by decide) (by decide) (by decide) eT6 eb6 eM6 ?_
  obtain ⟨c7, h⟩ := er_ck h
  obtain ⟨T7, e7, h⟩ := er_lel h
  refine er_putr cx d_Row_init_24 fd_Row_18 c7.1 (fun _ => ⟨hin, rfl, rfl⟩) (fun _ => rfl) (fun _ => rfl) c7.2 e7 ?_
  refine er_aload_n cx d_Row_init_27 0 rfl ?_
  refine er_iconst (v := 0) cx d_Row_init_28 rfl (by decide) ?_
  obtain ⟨c8, h⟩ := er_ck h
  obtain ⟨M8, e8, h⟩ := er_lel h
  refine er_puti cx d_Row_init_29 fd_Row_21 c8 (fun q => by cases q) e8 ?_
  obtain rfl := Option.some.inj h
  exact er_vret rt d_Row_init_32 (by decide) (by decide) ⟨rfl, rfl, rfl⟩
theorem c_Row_init {l : Launch} {X : er_X} {r : er_Me × er_Me} {p0 : Int} {T M : er_Me} (h : f_Row_init p0 T M = some r) (hok : ∀ v ∈ ([.inr p0] : List er_V), er_ok v) : er_Ct l X y_Row_init b_Row_init 1 (none) rm_Row_init [.inr p0] T M none r.1 r.2 :=
  er_ct rfl rfl (Nat.le_of_ble_eq_true rfl) hok (fun K cx rt hin => w_Row_init cx (hin rfl) rt h)
/-! ER_isPlain -/
abbrev rm_ER_isPlain : Room := { frames := 0, cells := 0, slots := 0, locals := 0 }
def f_ER_isPlain (p0 : Int) (T M : er_Me) : Option (Int × er_Me) :=
  if p0 = 0 then
  some (1, M)
  else
  if p0 = 1 then
  some (1, M)
  else
  some (0, M)
set_option maxHeartbeats 4000000 in
theorem w_ER_isPlain {K : er_K} {l : Launch} {X : er_X} (cx : er_Cx K l X b_ER_isPlain "EchoedRounds" 1 rm_ER_isPlain) {r : Int × er_Me} {p0 : Int} {T M : er_Me} (rt : er_Rt K X b_ER_isPlain (some .boolean) 0 0 (some (.inl r.1)) T r.2) (h : f_ER_isPlain p0 T M = some r) : er_G K 0 0 T M 0 [(0, .inl p0)] [] := by
  unfold f_ER_isPlain at h
  refine er_iload_n cx d_ER_isPlain_0 0 rfl ?_
  refine er_if_eq (tgt := 9) cx d_ER_isPlain_1 (by decide) (fun b1 => ?_) (fun b1 => ?_)
  · have h := er_ift h b1
    refine er_iconst (v := 1) cx d_ER_isPlain_9 rfl (by decide) ?_
    refine er_goto (tgt := 14) cx d_ER_isPlain_10 (by decide) ?_
    obtain rfl := Option.some.inj h
    exact er_iret rt (Or.inr ⟨rfl, Or.inr rfl⟩) d_ER_isPlain_14 (by decide) (by decide) ⟨rfl, rfl, rfl⟩
  · have h := er_iff h b1
    refine er_iload_n cx d_ER_isPlain_4 0 rfl ?_
    refine er_iconst (v := 1) cx d_ER_isPlain_5 rfl (by decide) ?_
    refine er_ic_ne (tgt := 13) cx d_ER_isPlain_6 (by decide) (fun b3 => ?_) (fun b3 => ?_)
    · have h := er_iff h b3
      refine er_iconst (v := 0) cx d_ER_isPlain_13 rfl (by decide) ?_
      obtain rfl := Option.some.inj h
      exact er_iret rt (Or.inr ⟨rfl, Or.inl rfl⟩) d_ER_isPlain_14 (by decide) (by decide) ⟨rfl, rfl, rfl⟩
    · have h := er_ift h b3
      refine er_iconst (v := 1) cx d_ER_isPlain_9 rfl (by decide) ?_
      refine er_goto (tgt := 14) cx d_ER_isPlain_10 (by decide) ?_
      obtain rfl := Option.some.inj h
      exact er_iret rt (Or.inr ⟨rfl, Or.inr rfl⟩) d_ER_isPlain_14 (by decide) (by decide) ⟨rfl, rfl, rfl⟩
theorem c_ER_isPlain {l : Launch} {X : er_X} {r : Int × er_Me} {p0 : Int} {T M : er_Me} (h : f_ER_isPlain p0 T M = some r) (hok : ∀ v ∈ ([.inl p0] : List er_V), er_ok v) : er_Ct l X y_ER_isPlain b_ER_isPlain 1 (some .boolean) rm_ER_isPlain [.inl p0] T M (some (.inl r.1)) T r.2 :=
  er_ct rfl rfl (Nat.le_of_ble_eq_true rfl) hok (fun K cx rt hin => w_ER_isPlain cx rt h)
/-! ER_codeOf -/
abbrev rm_ER_codeOf : Room := { frames := 0, cells := 0, slots := 0, locals := 0 }
def f_ER_codeOf (p0 p1 p2 p3 : Int) (T M : er_Me) : Option (Int × er_Me) :=
  some (er_add (er_add (er_add (er_mul 1000 p1) (er_mul 100 p2)) (er_mul 10 p0)) p3, M)
set_option maxHeartbeats 4000000 in
theorem w_ER_codeOf {K : er_K} {l : Launch} {X : er_X} (cx : er_Cx K l X b_ER_codeOf "EchoedRounds" 4 rm_ER_codeOf) {r : Int × er_Me} {p0 p1 p2 p3 : Int} {T M : er_Me} (rt : er_Rt K X b_ER_codeOf (some .int) 0 0 (some (.inl r.1)) T r.2) (h : f_ER_codeOf p0 p1 p2 p3 T M = some r) : er_G K 0 0 T M 0 [(0, .inl p0), (1, .inl p1), (2, .inl p2), (3, .inl p3)] [] := by
  unfold f_ER_codeOf at h
  refine er_sipush (v := 1000) cx d_ER_codeOf_0 (by decide +kernel) (by decide) ?_
  refine er_iload_n cx d_ER_codeOf_3 1 rfl ?_
  refine er_imul cx d_ER_codeOf_4 ?_
  refine er_bipush (v := 100) cx d_ER_codeOf_5 (by decide +kernel) (by decide) ?_
  refine er_iload_n cx d_ER_codeOf_7 2 rfl ?_
  refine er_imul cx d_ER_codeOf_8 ?_
  refine er_iadd cx d_ER_codeOf_9 ?_
  refine er_bipush (v := 10) cx d_ER_codeOf_10 (by decide +kernel) (by decide) ?_
  refine er_iload_n cx d_ER_codeOf_12 0 rfl ?_
  refine er_imul cx d_ER_codeOf_13 ?_
  refine er_iadd cx d_ER_codeOf_14 ?_
  refine er_iload_n cx d_ER_codeOf_15 3 rfl ?_
  refine er_iadd cx d_ER_codeOf_16 ?_
  obtain rfl := Option.some.inj h
  exact er_iret rt (Or.inl rfl) d_ER_codeOf_17 (by decide) (by decide) ⟨rfl, rfl, rfl⟩
theorem c_ER_codeOf {l : Launch} {X : er_X} {r : Int × er_Me} {p0 p1 p2 p3 : Int} {T M : er_Me} (h : f_ER_codeOf p0 p1 p2 p3 T M = some r) (hok : ∀ v ∈ ([.inl p0, .inl p1, .inl p2, .inl p3] : List er_V), er_ok v) : er_Ct l X y_ER_codeOf b_ER_codeOf 4 (some .int) rm_ER_codeOf [.inl p0, .inl p1, .inl p2, .inl p3] T M (some (.inl r.1)) T r.2 :=
  er_ct rfl rfl (Nat.le_of_ble_eq_true rfl) hok (fun K cx rt hin => w_ER_codeOf cx rt h)
/-! Log_append -/
abbrev rm_Log_append : Room := { frames := 0, cells := 0, slots := 0, locals := 0 }
def f_Log_append (p0 p1 : Int) (T M : er_Me) : Option (er_Me) :=
  if T p0 (-2) = 4 then
  if 0 < T p0 0 then
  if T (T p0 0) (-2) = 101 then
  if T (T p0 0) (-1) ≤ M p0 1 then
  some M
  else
  if 0 ≤ M p0 1 ∧ M p0 1 < T (T p0 0) (-1) then
  er_le (er_up M (T p0 0) (M p0 1) p1) fun M7 =>
  er_le (er_up M7 p0 1 (er_add (M7 p0 1) 1)) fun M9 =>
  some M9 else none else none else none else none
set_option maxHeartbeats 4000000 in
theorem w_Log_append {K : er_K} {l : Launch} {X : er_X} (cx : er_Cx K l X b_Log_append "EchoedRounds$Log" 2 rm_Log_append) {r : er_Me} {p0 p1 : Int} {T M : er_Me} (rt : er_Rt K X b_Log_append (none) 0 0 none T r) (h : f_Log_append p0 p1 T M = some r) : er_G K 0 0 T M 0 [(0, .inr p0), (1, .inl p1)] [] := by
  unfold f_Log_append at h
  refine er_aload_n cx d_Log_append_0 0 rfl ?_
  obtain ⟨c1, h⟩ := er_ck h
  refine er_geti cx d_Log_append_1 fd_Log_15 c1 ?_
  refine er_aload_n cx d_Log_append_4 0 rfl ?_
  obtain ⟨c2, h⟩ := er_ck h
  refine er_getr cx d_Log_append_5 fd_Log_9 c1 c2 ?_
  obtain ⟨c3, h⟩ := er_ck h
  refine er_alen cx d_Log_append_8 c3 (by decide) ?_
  refine er_ic_ge (tgt := 32) cx d_Log_append_9 (by decide) (fun b4 => ?_) (fun b4 => ?_)
  · have h := er_ift h b4
    obtain rfl := Option.some.inj h
    exact er_vret rt d_Log_append_32 (by decide) (by decide) ⟨rfl, rfl, rfl⟩
  · have h := er_iff h b4
    refine er_aload_n cx d_Log_append_12 0 rfl ?_
    refine er_getr cx d_Log_append_13 fd_Log_9 c1 c2 ?_
    refine er_aload_n cx d_Log_append_16 0 rfl ?_
    refine er_geti cx d_Log_append_17 fd_Log_15 c1 ?_
    refine er_iload_n cx d_Log_append_20 1 rfl ?_
    obtain ⟨c7, h⟩ := er_ck h
    obtain ⟨M7, e7, h⟩ := er_lel h
    refine er_iast cx d_Log_append_21 c3 c7.1 c7.2 e7 ?_
    refine er_aload_n cx d_Log_append_22 0 rfl ?_
    refine er_dup cx d_Log_append_23 ?_
    refine er_geti cx d_Log_append_24 fd_Log_15 c1 ?_
    refine er_iconst (v := 1) cx d_Log_append_27 rfl (by decide) ?_
    refine er_iadd cx d_Log_append_28 ?_
    obtain ⟨M9, e9, h⟩ := er_lel h
    refine er_puti cx d_Log_append_29 fd_Log_15 c1 (fun q => by cases q) e9 ?_
    obtain rfl := Option.some.inj h
    exact er_vret rt d_Log_append_32 (by decide) (by decide) ⟨rfl, rfl, rfl⟩
theorem c_Log_append {l : Launch} {X : er_X} {r : er_Me} {p0 p1 : Int} {T M : er_Me} (h : f_Log_append p0 p1 T M = some r) (hok : ∀ v ∈ ([.inr p0, .inl p1] : List er_V), er_ok v) : er_Ct l X y_Log_append b_Log_append 2 (none) rm_Log_append [.inr p0, .inl p1] T M none T r :=
  er_ct rfl rfl (Nat.le_of_ble_eq_true rfl) hok (fun K cx rt hin => w_Log_append cx rt h)
/-! Log_codeAt -/
abbrev rm_Log_codeAt : Room := { frames := 0, cells := 0, slots := 0, locals := 0 }
def f_Log_codeAt (p0 p1 : Int) (T M : er_Me) : Option (Int × er_Me) :=
  if p1 < 0 then
  some ((-1), M)
  else
  if T p0 (-2) = 4 then
  if M p0 1 ≤ p1 then
  some ((-1), M)
  else
  if 0 < T p0 0 then
  if T (T p0 0) (-2) = 101 ∧ 0 ≤ p1 ∧ p1 < T (T p0 0) (-1) then
  some (M (T p0 0) p1, M) else none else none else none
set_option maxHeartbeats 4000000 in
theorem w_Log_codeAt {K : er_K} {l : Launch} {X : er_X} (cx : er_Cx K l X b_Log_codeAt "EchoedRounds$Log" 2 rm_Log_codeAt) {r : Int × er_Me} {p0 p1 : Int} {T M : er_Me} (rt : er_Rt K X b_Log_codeAt (some .int) 0 0 (some (.inl r.1)) T r.2) (h : f_Log_codeAt p0 p1 T M = some r) : er_G K 0 0 T M 0 [(0, .inr p0), (1, .inl p1)] [] := by
  unfold f_Log_codeAt at h
  refine er_iload_n cx d_Log_codeAt_0 1 rfl ?_
  refine er_if_lt (tgt := 21) cx d_Log_codeAt_1 (by decide) (fun b1 => ?_) (fun b1 => ?_)
  · have h := er_ift h b1
    refine er_iconst (v := -1) cx d_Log_codeAt_21 rfl (by decide) ?_
    obtain rfl := Option.some.inj h
    exact er_iret rt (Or.inl rfl) d_Log_codeAt_22 (by decide) (by decide) ⟨rfl, rfl, rfl⟩
  · have h := er_iff h b1
    refine er_iload_n cx d_Log_codeAt_4 1 rfl ?_
    refine er_aload_n cx d_Log_codeAt_5 0 rfl ?_
    obtain ⟨c3, h⟩ := er_ck h
    refine er_geti cx d_Log_codeAt_6 fd_Log_15 c3 ?_
    refine er_ic_ge (tgt := 21) cx d_Log_codeAt_9 (by decide) (fun b4 => ?_) (fun b4 => ?_)
    · have h := er_ift h b4
      refine er_iconst (v := -1) cx d_Log_codeAt_21 rfl (by decide) ?_
      obtain rfl := Option.some.inj h
      exact er_iret rt (Or.inl rfl) d_Log_codeAt_22 (by decide) (by decide) ⟨rfl, rfl, rfl⟩
    · have h := er_iff h b4
      refine er_aload_n cx d_Log_codeAt_12 0 rfl ?_
      obtain ⟨c6, h⟩ := er_ck h
      refine er_getr cx d_Log_codeAt_13 fd_Log_9 c3 c6 ?_
      refine er_iload_n cx d_Log_codeAt_16 1 rfl ?_
      obtain ⟨c7, h⟩ := er_ck h
      refine er_iald cx d_Log_codeAt_17 c7.1 c7.2.1 c7.2.2 ?_
      refine er_goto (tgt := 22) cx d_Log_codeAt_18 (by decide) ?_
      obtain rfl := Option.some.inj h
      exact er_iret rt (Or.inl rfl) d_Log_codeAt_22 (by decide) (by decide) ⟨rfl, rfl, rfl⟩
theorem c_Log_codeAt {l : Launch} {X : er_X} {r : Int × er_Me} {p0 p1 : Int} {T M : er_Me} (h : f_Log_codeAt p0 p1 T M = some r) (hok : ∀ v ∈ ([.inr p0, .inl p1] : List er_V), er_ok v) : er_Ct l X y_Log_codeAt b_Log_codeAt 2 (some .int) rm_Log_codeAt [.inr p0, .inl p1] T M (some (.inl r.1)) T r.2 :=
  er_ct rfl rfl (Nat.le_of_ble_eq_true rfl) hok (fun K cx rt hin => w_Log_codeAt cx rt h)
/-! ER_cellOf -/
abbrev rm_ER_cellOf : Room := { frames := 0, cells := 0, slots := 0, locals := 0 }
def f_ER_cellOf (p0 p1 : Int) (T M : er_Me) : Option (Int × er_Me) :=
  some (er_add (er_mul p0 7) p1, M)
set_option maxHeartbeats 4000000 in
theorem w_ER_cellOf {K : er_K} {l : Launch} {X : er_X} (cx : er_Cx K l X b_ER_cellOf "EchoedRounds" 2 rm_ER_cellOf) {r : Int × er_Me} {p0 p1 : Int} {T M : er_Me} (rt : er_Rt K X b_ER_cellOf (some .int) 0 0 (some (.inl r.1)) T r.2) (h : f_ER_cellOf p0 p1 T M = some r) : er_G K 0 0 T M 0 [(0, .inl p0), (1, .inl p1)] [] := by
  unfold f_ER_cellOf at h
  refine er_iload_n cx d_ER_cellOf_0 0 rfl ?_
  refine er_bipush (v := 7) cx d_ER_cellOf_1 (by decide +kernel) (by decide) ?_
  refine er_imul cx d_ER_cellOf_3 ?_
  refine er_iload_n cx d_ER_cellOf_4 1 rfl ?_
  refine er_iadd cx d_ER_cellOf_5 ?_
  obtain rfl := Option.some.inj h
  exact er_iret rt (Or.inl rfl) d_ER_cellOf_6 (by decide) (by decide) ⟨rfl, rfl, rfl⟩
theorem c_ER_cellOf {l : Launch} {X : er_X} {r : Int × er_Me} {p0 p1 : Int} {T M : er_Me} (h : f_ER_cellOf p0 p1 T M = some r) (hok : ∀ v ∈ ([.inl p0, .inl p1] : List er_V), er_ok v) : er_Ct l X y_ER_cellOf b_ER_cellOf 2 (some .int) rm_ER_cellOf [.inl p0, .inl p1] T M (some (.inl r.1)) T r.2 :=
  er_ct rfl rfl (Nat.le_of_ble_eq_true rfl) hok (fun K cx rt hin => w_ER_cellOf cx rt h)
/-! Tally_countIn -/
abbrev rm_Tally_countIn : Room := { frames := 0, cells := 0, slots := 0, locals := 0 }
def f_Tally_countIn (p0 p1 p2 p3 p4 : Int) (T M : er_Me) : Option (Int × er_Me) :=
  er_le (er_add (er_mul p2 63) p3) fun x1 =>
  if T p0 (-2) = 5 ∧ 0 < T p0 0 then
  if T (T p0 0) (-2) = 101 ∧ 0 ≤ x1 ∧ x1 < T (T p0 0) (-1) then
  if er_and (er_shr (M (T p0 0) x1) p1) 1 = 0 then
  er_le (er_up M (T p0 0) x1 (er_or (M (T p0 0) x1) (er_shl 1 p1))) fun M7 =>
  if 0 < T p0 1 then
  if T (T p0 1) (-2) = 101 ∧ 0 ≤ er_add (er_mul x1 4) p4 ∧ er_add (er_mul x1 4) p4 < T (T p0 1) (-1) then
  er_le (er_up M7 (T p0 1) (er_add (er_mul x1 4) p4) (er_add (M7 (T p0 1) (er_add (er_mul x1 4) p4)) 1)) fun M10 =>
  some (1, M10) else none else none
  else
  some (0, M) else none else none
set_option maxHeartbeats 4000000 in
theorem w_Tally_countIn {K : er_K} {l : Launch} {X : er_X} (cx : er_Cx K l X b_Tally_countIn "EchoedRounds$Tally" 6 rm_Tally_countIn) {r : Int × er_Me} {p0 p1 p2 p3 p4 : Int} {T M : er_Me} (rt : er_Rt K X b_Tally_countIn (some .boolean) 0 0 (some (.inl r.1)) T r.2) (h : f_Tally_countIn p0 p1 p2 p3 p4 T M = some r) : er_G K 0 0 T M 0 [(0, .inr p0), (1, .inl p1), (2, .inl p2), (3, .inl p3), (4, .inl p4)] [] := by
  unfold f_Tally_countIn at h
  refine er_iload_n cx d_Tally_countIn_0 2 rfl ?_
  refine er_bipush (v := 63) cx d_Tally_countIn_1 (by decide +kernel) (by decide) ?_
  refine er_imul cx d_Tally_countIn_3 ?_
  refine er_iload_n cx d_Tally_countIn_4 3 rfl ?_
  refine er_iadd cx d_Tally_countIn_5 ?_
  obtain ⟨x1, e1, h⟩ := er_lel h
  refine er_nm e1 ?_
  refine er_istore cx d_Tally_countIn_6 (by decide) rfl ?_
  refine er_aload_n cx d_Tally_countIn_8 1 rfl ?_
  obtain ⟨c2, h⟩ := er_ck h
  refine er_getr cx d_Tally_countIn_9 fd_Tally_9 c2.1 c2.2 ?_
  refine er_iload cx d_Tally_countIn_12 0 rfl ?_
  obtain ⟨c3, h⟩ := er_ck h
  refine er_iald cx d_Tally_countIn_14 c3.1 c3.2.1 c3.2.2 ?_
  refine er_iload_n cx d_Tally_countIn_15 2 rfl ?_
  refine er_ishr cx d_Tally_countIn_16 ?_
  refine er_iconst (v := 1) cx d_Tally_countIn_17 rfl (by decide) ?_
  refine er_iand cx d_Tally_countIn_18 ?_
  refine er_if_eq (tgt := 24) cx d_Tally_countIn_19 (by decide) (fun b4 => ?_) (fun b4 => ?_)
  · have h := er_ift h b4
    refine er_aload_n cx d_Tally_countIn_24 1 rfl ?_
    refine er_getr cx d_Tally_countIn_25 fd_Tally_9 c2.1 c2.2 ?_
    refine er_iload cx d_Tally_countIn_28 0 rfl ?_
    refine er_dup2 cx d_Tally_countIn_30 ?_
    refine er_iald cx d_Tally_countIn_31 c3.1 c3.2.1 c3.2.2 ?_
    refine er_iconst (v := 1) cx d_Tally_countIn_32 rfl (by decide) ?_
    refine er_iload_n cx d_Tally_countIn_33 2 rfl ?_
    refine er_ishl cx d_Tally_countIn_34 ?_
    refine er_ior cx d_Tally_countIn_35 ?_
    obtain ⟨M7, e7, h⟩ := er_lel h
    refine er_iast cx d_Tally_countIn_36 c3.1 c3.2.1 c3.2.2 e7 ?_
    refine er_aload_n cx d_Tally_countIn_37 1 rfl ?_
    obtain ⟨c8, h⟩ := er_ck h
    refine er_getr cx d_Tally_countIn_38 fd_Tally_15 c2.1 c8 ?_
    refine er_iload cx d_Tally_countIn_41 0 rfl ?_
    refine er_iconst (v := 4) cx d_Tally_countIn_43 rfl (by decide) ?_
    refine er_imul cx d_Tally_countIn_44 ?_
    refine er_iload cx d_Tally_countIn_45 5 rfl ?_
    refine er_iadd cx d_Tally_countIn_47 ?_
    refine er_dup2 cx d_Tally_countIn_48 ?_
    obtain ⟨c9, h⟩ := er_ck h
    refine er_iald cx d_Tally_countIn_49 c9.1 c9.2.1 c9.2.2 ?_
    refine er_iconst (v := 1) cx d_Tally_countIn_50 rfl (by decide) ?_
    refine er_iadd cx d_Tally_countIn_51 ?_
    obtain ⟨M10, e10, h⟩ := er_lel h
    refine er_iast cx d_Tally_countIn_52 c9.1 c9.2.1 c9.2.2 e10 ?_
    refine er_iconst (v := 1) cx d_Tally_countIn_53 rfl (by decide) ?_
    obtain rfl := Option.some.inj h
    exact er_iret rt (Or.inr ⟨rfl, Or.inr rfl⟩) d_Tally_countIn_54 (by decide) (by decide) ⟨rfl, rfl, rfl⟩
  · have h := er_iff h b4
    refine er_iconst (v := 0) cx d_Tally_countIn_22 rfl (by decide) ?_
    obtain rfl := Option.some.inj h
    exact er_iret rt (Or.inr ⟨rfl, Or.inl rfl⟩) d_Tally_countIn_23 (by decide) (by decide) ⟨rfl, rfl, rfl⟩
theorem c_Tally_countIn {l : Launch} {X : er_X} {r : Int × er_Me} {p0 p1 p2 p3 p4 : Int} {T M : er_Me} (h : f_Tally_countIn p0 p1 p2 p3 p4 T M = some r) (hok : ∀ v ∈ ([.inr p0, .inl p1, .inl p2, .inl p3, .inl p4] : List er_V), er_ok v) : er_Ct l X y_Tally_countIn b_Tally_countIn 6 (some .boolean) rm_Tally_countIn [.inr p0, .inl p1, .inl p2, .inl p3, .inl p4] T M (some (.inl r.1)) T r.2 :=
  er_ct rfl rfl (Nat.le_of_ble_eq_true rfl) hok (fun K cx rt hin => w_Tally_countIn cx rt h)
/-! Tally_count -/
abbrev rm_Tally_count : Room := { frames := 0, cells := 0, slots := 0, locals := 0 }
def f_Tally_count (p0 p1 p2 p3 : Int) (T M : er_Me) : Option (Int × er_Me) :=
  if T p0 (-2) = 5 ∧ 0 < T p0 1 then
  if T (T p0 1) (-2) = 101 ∧ 0 ≤ er_add (er_mul (er_add (er_mul p1 63) p2) 4) p3 ∧ er_add (er_mul (er_add (er_mul p1 63) p2) 4) p3 < T (T p0 1) (-1) then
  some (M (T p0 1) (er_add (er_mul (er_add (er_mul p1 63) p2) 4) p3), M) else none else none
set_option maxHeartbeats 4000000 in
theorem w_Tally_count {K : er_K} {l : Launch} {X : er_X} (cx : er_Cx K l X b_Tally_count "EchoedRounds$Tally" 4 rm_Tally_count) {r : Int × er_Me} {p0 p1 p2 p3 : Int} {T M : er_Me} (rt : er_Rt K X b_Tally_count (some .int) 0 0 (some (.inl r.1)) T r.2) (h : f_Tally_count p0 p1 p2 p3 T M = some r) : er_G K 0 0 T M 0 [(0, .inr p0), (1, .inl p1), (2, .inl p2), (3, .inl p3)] [] := by
  unfold f_Tally_count at h
  refine er_aload_n cx d_Tally_count_0 0 rfl ?_
  obtain ⟨c1, h⟩ := er_ck h
  refine er_getr cx d_Tally_count_1 fd_Tally_15 c1.1 c1.2 ?_
  refine er_iload_n cx d_Tally_count_4 1 rfl ?_
  refine er_bipush (v := 63) cx d_Tally_count_5 (by decide +kernel) (by decide) ?_
  refine er_imul cx d_Tally_count_7 ?_
  refine er_iload_n cx d_Tally_count_8 2 rfl ?_
  refine er_iadd cx d_Tally_count_9 ?_
  refine er_iconst (v := 4) cx d_Tally_count_10 rfl (by decide) ?_
  refine er_imul cx d_Tally_count_11 ?_
  refine er_iload_n cx d_Tally_count_12 3 rfl ?_
  refine er_iadd cx d_Tally_count_13 ?_
  obtain ⟨c2, h⟩ := er_ck h
  refine er_iald cx d_Tally_count_14 c2.1 c2.2.1 c2.2.2 ?_
  obtain rfl := Option.some.inj h
  exact er_iret rt (Or.inl rfl) d_Tally_count_15 (by decide) (by decide) ⟨rfl, rfl, rfl⟩
theorem c_Tally_count {l : Launch} {X : er_X} {r : Int × er_Me} {p0 p1 p2 p3 : Int} {T M : er_Me} (h : f_Tally_count p0 p1 p2 p3 T M = some r) (hok : ∀ v ∈ ([.inr p0, .inl p1, .inl p2, .inl p3] : List er_V), er_ok v) : er_Ct l X y_Tally_count b_Tally_count 4 (some .int) rm_Tally_count [.inr p0, .inl p1, .inl p2, .inl p3] T M (some (.inl r.1)) T r.2 :=
  er_ct rfl rfl (Nat.le_of_ble_eq_true rfl) hok (fun K cx rt hin => w_Tally_count cx rt h)
/-! Row_holds -/
abbrev rm_Row_holds : Room := { frames := 0, cells := 0, slots := 0, locals := 0 }
def f_Row_holds_2_b (self : Int → Int → Int → er_Me → Option (Int × er_Me)) (v0 v1 v2 : Int) (T M : er_Me) : Option (Int × er_Me) :=
  if T v0 (-2) = 6 then
  if M v0 3 ≤ v2 then
  some (0, M)
  else
  if 0 < T v0 0 then
  if T (T v0 0) (-2) = 101 ∧ 0 ≤ v2 ∧ v2 < T (T v0 0) (-1) then
  if M (T v0 0) v2 = v1 then
  some (1, M)
  else
  er_le (er_add v2 1) fun x7 =>
  self v0 v1 x7 M else none else none else none
def f_Row_holds_2 : Nat → er_Me → Int → Int → Int → er_Me → Option (Int × er_Me)
  | 0, _ => fun _ _ _ _ => none
  | n + 1, T => fun v0 v1 v2 M => f_Row_holds_2_b (f_Row_holds_2 n T) v0 v1 v2 T M
set_option maxHeartbeats 4000000 in
theorem w_Row_holds_2_b {K : er_K} {l : Launch} {X : er_X} (cx : er_Cx K l X b_Row_holds "EchoedRounds$Row" 3 rm_Row_holds) {r : Int × er_Me} {T : er_Me} (rt : er_Rt K X b_Row_holds (some .boolean) 0 0 (some (.inl r.1)) T r.2) {self : Int → Int → Int → er_Me → Option (Int × er_Me)} (hself : ∀ (v0 v1 v2 : Int) (M : er_Me), self v0 v1 v2 M = some r → er_G K 0 0 T M 2 [(0, .inr v0), (1, .inl v1), (2, .inl v2)] []) : ∀ (v0 v1 v2 : Int) (M : er_Me), f_Row_holds_2_b self v0 v1 v2 T M = some r → er_G K 0 0 T M 2 [(0, .inr v0), (1, .inl v1), (2, .inl v2)] [] := by
  intro v0 v1 v2 M h
  unfold f_Row_holds_2_b at h
  refine er_iload_n cx d_Row_holds_2 2 rfl ?_
  refine er_aload_n cx d_Row_holds_3 0 rfl ?_
  obtain ⟨c1, h⟩ := er_ck h
  refine er_geti cx d_Row_holds_4 fd_Row_21 c1 ?_
  refine er_ic_ge (tgt := 28) cx d_Row_holds_7 (by decide) (fun b2 => ?_) (fun b2 => ?_)
  · have h := er_ift h b2
    refine er_iconst (v := 0) cx d_Row_holds_28 rfl (by decide) ?_
    obtain rfl := Option.some.inj h
    exact er_iret rt (Or.inr ⟨rfl, Or.inl rfl⟩) d_Row_holds_29 (by decide) (by decide) ⟨rfl, rfl, rfl⟩
  · have h := er_iff h b2
    refine er_aload_n cx d_Row_holds_10 0 rfl ?_
    obtain ⟨c4, h⟩ := er_ck h
    refine er_getr cx d_Row_holds_11 fd_Row_9 c1 c4 ?_
    refine er_iload_n cx d_Row_holds_14 2 rfl ?_
    obtain ⟨c5, h⟩ := er_ck h
    refine er_iald cx d_Row_holds_15 c5.1 c5.2.1 c5.2.2 ?_
    refine er_iload_n cx d_Row_holds_16 1 rfl ?_
    refine er_ic_ne (tgt := 22) cx d_Row_holds_17 (by decide) (fun b6 => ?_) (fun b6 => ?_)
    · have h := er_iff h b6
      obtain ⟨x7, e7, h⟩ := er_lel h
      refine er_iinc cx d_Row_holds_22 (k := 2) rfl (by decide) e7 rfl ?_
      refine er_goto (tgt := 2) cx d_Row_holds_25 (by decide) ?_
      refine er_sb cx [1, 2, 0] rfl ?_
      exact hself _ _ _ _ h
    · have h := er_ift h b6
      refine er_iconst (v := 1) cx d_Row_holds_20 rfl (by decide) ?_
      obtain rfl := Option.some.inj h
      exact er_iret rt (Or.inr ⟨rfl, Or.inr rfl⟩) d_Row_holds_21 (by decide) (by decide) ⟨rfl, rfl, rfl⟩
theorem w_Row_holds_2 {K : er_K} {l : Launch} {X : er_X} (cx : er_Cx K l X b_Row_holds "EchoedRounds$Row" 3 rm_Row_holds) {r : Int × er_Me} {T : er_Me} (rt : er_Rt K X b_Row_holds (some .boolean) 0 0 (some (.inl r.1)) T r.2) : ∀ n : Nat, ∀ (v0 v1 v2 : Int) (M : er_Me), f_Row_holds_2 n T v0 v1 v2 M = some r → er_G K 0 0 T M 2 [(0, .inr v0), (1, .inl v1), (2, .inl v2)] [] := by
  intro n
  induction n with
  | zero =>
    intro v0 v1 v2 M h
    cases h
  | succ n ih =>
    intro v0 v1 v2 M h
    exact w_Row_holds_2_b cx rt ih v0 v1 v2 M h
def f_Row_holds (p0 p1 : Int) (T M : er_Me) : Option (Int × er_Me) :=
  f_Row_holds_2 er_fu T p0 p1 0 M
set_option maxHeartbeats 4000000 in
theorem w_Row_holds {K : er_K} {l : Launch} {X : er_X} (cx : er_Cx K l X b_Row_holds "EchoedRounds$Row" 3 rm_Row_holds) {r : Int × er_Me} {p0 p1 : Int} {T M : er_Me} (rt : er_Rt K X b_Row_holds (some .boolean) 0 0 (some (.inl r.1)) T r.2) (h : f_Row_holds p0 p1 T M = some r) : er_G K 0 0 T M 0 [(0, .inr p0), (1, .inl p1)] [] := by
  unfold f_Row_holds at h
  refine er_iconst (v := 0) cx d_Row_holds_0 rfl (by decide) ?_
  refine er_istore_n cx d_Row_holds_1 rfl (by decide) rfl ?_
  refine er_sb cx [1, 2, 0] rfl ?_
  exact w_Row_holds_2 cx rt er_fu _ _ _ _ h
theorem c_Row_holds {l : Launch} {X : er_X} {r : Int × er_Me} {p0 p1 : Int} {T M : er_Me} (h : f_Row_holds p0 p1 T M = some r) (hok : ∀ v ∈ ([.inr p0, .inl p1] : List er_V), er_ok v) : er_Ct l X y_Row_holds b_Row_holds 3 (some .boolean) rm_Row_holds [.inr p0, .inl p1] T M (some (.inl r.1)) T r.2 :=
  er_ct rfl rfl (Nat.le_of_ble_eq_true rfl) hok (fun K cx rt hin => w_Row_holds cx rt h)
/-! Rules_isFull -/
abbrev rm_Rules_isFull : Room := { frames := 0, cells := 0, slots := 0, locals := 0 }
def f_Rules_isFull (p0 p1 : Int) (T M : er_Me) : Option (Int × er_Me) :=
  if T p1 (-2) = 6 then
  if T p0 (-2) = 2 then
  if M p1 3 < M p0 2 then
  some (0, M)
  else
  some (1, M) else none else none
set_option maxHeartbeats 4000000 in
theorem w_Rules_isFull {K : er_K} {l : Launch} {X : er_X} (cx : er_Cx K l X b_Rules_isFull "EchoedRounds$Rules" 2 rm_Rules_isFull) {r : Int × er_Me} {p0 p1 : Int} {T M : er_Me} (rt : er_Rt K X b_Rules_isFull (some .boolean) 0 0 (some (.inl r.1)) T r.2) (h : f_Rules_isFull p0 p1 T M = some r) : er_G K 0 0 T M 0 [(0, .inr p0), (1, .inr p1)] [] := by
  unfold f_Rules_isFull at h
  refine er_aload_n cx d_Rules_isFull_0 1 rfl ?_
  obtain ⟨c1, h⟩ := er_ck h
  refine er_geti cx d_Rules_isFull_1 fd_Rules_24 c1 ?_
  refine er_aload_n cx d_Rules_isFull_4 0 rfl ?_
  obtain ⟨c2, h⟩ := er_ck h
  refine er_geti cx d_Rules_isFull_5 fd_Rules_18 c2 ?_
  refine er_ic_lt (tgt := 15) cx d_Rules_isFull_8 (by decide) (fun b3 => ?_) (fun b3 => ?_)
  · have h := er_ift h b3
    refine er_iconst (v := 0) cx d_Rules_isFull_15 rfl (by decide) ?_
    obtain rfl := Option.some.inj h
    exact er_iret rt (Or.inr ⟨rfl, Or.inl rfl⟩) d_Rules_isFull_16 (by decide) (by decide) ⟨rfl, rfl, rfl⟩
  · have h := er_iff h b3
    refine er_iconst (v := 1) cx d_Rules_isFull_11 rfl (by decide) ?_
    refine er_goto (tgt := 16) cx d_Rules_isFull_12 (by decide) ?_
    obtain rfl := Option.some.inj h
    exact er_iret rt (Or.inr ⟨rfl, Or.inr rfl⟩) d_Rules_isFull_16 (by decide) (by decide) ⟨rfl, rfl, rfl⟩
theorem c_Rules_isFull {l : Launch} {X : er_X} {r : Int × er_Me} {p0 p1 : Int} {T M : er_Me} (h : f_Rules_isFull p0 p1 T M = some r) (hok : ∀ v ∈ ([.inr p0, .inr p1] : List er_V), er_ok v) : er_Ct l X y_Rules_isFull b_Rules_isFull 2 (some .boolean) rm_Rules_isFull [.inr p0, .inr p1] T M (some (.inl r.1)) T r.2 :=
  er_ct rfl rfl (Nat.le_of_ble_eq_true rfl) hok (fun K cx rt hin => w_Rules_isFull cx rt h)
/-! Rules_mostChosen -/
abbrev rm_Rules_mostChosen : Room := { frames := 1, cells := 0, slots := 0, locals := 21 }
def f_Rules_mostChosen (p0 p1 p2 : Int) (T M : er_Me) : Option (Int × er_Me) :=
  if T p1 (-2) = 6 ∧ 0 < T p1 2 then
  if T (T p1 2) (-2) = 101 ∧ 0 ≤ p2 ∧ p2 < T (T p1 2) (-1) then
  if T p0 (-2) = 2 then
  some (er_min (M (T p1 2) p2) (M p0 2), M) else none else none else none
set_option maxHeartbeats 4000000 in
theorem w_Rules_mostChosen {K : er_K} {l : Launch} {X : er_X} (cx : er_Cx K l X b_Rules_mostChosen "EchoedRounds$Rules" 3 rm_Rules_mostChosen) {r : Int × er_Me} {p0 p1 p2 : Int} {T M : er_Me} (rt : er_Rt K X b_Rules_mostChosen (some .int) 0 0 (some (.inl r.1)) T r.2) (h : f_Rules_mostChosen p0 p1 p2 T M = some r) : er_G K 0 0 T M 0 [(0, .inr p0), (1, .inr p1), (2, .inl p2)] [] := by
  unfold f_Rules_mostChosen at h
  refine er_aload_n cx d_Rules_mostChosen_0 1 rfl ?_
  obtain ⟨c1, h⟩ := er_ck h
  refine er_getr cx d_Rules_mostChosen_1 fd_Rules_58 c1.1 c1.2 ?_
  refine er_iload_n cx d_Rules_mostChosen_4 2 rfl ?_
  obtain ⟨c2, h⟩ := er_ck h
  refine er_iald cx d_Rules_mostChosen_5 c2.1 c2.2.1 c2.2.2 ?_
  refine er_aload_n cx d_Rules_mostChosen_6 0 rfl ?_
  obtain ⟨c3, h⟩ := er_ck h
  refine er_geti cx d_Rules_mostChosen_7 fd_Rules_18 c3 ?_
  refine er_mmin cx d_Rules_mostChosen_10 wm_255 wm_18 wm_2 wm_19 (by decide) (Nat.le_of_ble_eq_true rfl) (by decide) (by decide) ?_
  obtain rfl := Option.some.inj h
  exact er_iret rt (Or.inl rfl) d_Rules_mostChosen_13 (by decide) (by decide) ⟨rfl, rfl, rfl⟩
theorem c_Rules_mostChosen {l : Launch} {X : er_X} {r : Int × er_Me} {p0 p1 p2 : Int} {T M : er_Me} (h : f_Rules_mostChosen p0 p1 p2 T M = some r) (hok : ∀ v ∈ ([.inr p0, .inr p1, .inl p2] : List er_V), er_ok v) : er_Ct l X y_Rules_mostChosen b_Rules_mostChosen 3 (some .int) rm_Rules_mostChosen [.inr p0, .inr p1, .inl p2] T M (some (.inl r.1)) T r.2 :=
  er_ct rfl rfl (Nat.le_of_ble_eq_true rfl) hok (fun K cx rt hin => w_Rules_mostChosen cx rt h)
/-! Rules_isMajority -/
abbrev rm_Rules_isMajority : Room := { frames := 0, cells := 0, slots := 0, locals := 0 }
def f_Rules_isMajority (p0 p1 : Int) (T M : er_Me) : Option (Int × er_Me) :=
  if T p0 (-2) = 2 then
  if er_mul 2 p1 ≤ M p0 0 then
  some (0, M)
  else
  some (1, M) else none
set_option maxHeartbeats 4000000 in
theorem w_Rules_isMajority {K : er_K} {l : Launch} {X : er_X} (cx : er_Cx K l X b_Rules_isMajority "EchoedRounds$Rules" 2 rm_Rules_isMajority) {r : Int × er_Me} {p0 p1 : Int} {T M : er_Me} (rt : er_Rt K X b_Rules_isMajority (some .boolean) 0 0 (some (.inl r.1)) T r.2) (h : f_Rules_isMajority p0 p1 T M = some r) : er_G K 0 0 T M 0 [(0, .inr p0), (1, .inl p1)] [] := by
  unfold f_Rules_isMajority at h
  refine er_iconst (v := 2) cx d_Rules_isMajority_0 rfl (by decide) ?_
  refine er_iload_n cx d_Rules_isMajority_1 1 rfl ?_
  refine er_imul cx d_Rules_isMajority_2 ?_
  refine er_aload_n cx d_Rules_isMajority_3 0 rfl ?_
  obtain ⟨c1, h⟩ := er_ck h
  refine er_geti cx d_Rules_isMajority_4 fd_Rules_9 c1 ?_
  refine er_ic_le (tgt := 14) cx d_Rules_isMajority_7 (by decide) (fun b2 => ?_) (fun b2 => ?_)
  · have h := er_ift h b2
    refine er_iconst (v := 0) cx d_Rules_isMajority_14 rfl (by decide) ?_
    obtain rfl := Option.some.inj h
    exact er_iret rt (Or.inr ⟨rfl, Or.inl rfl⟩) d_Rules_isMajority_15 (by decide) (by decide) ⟨rfl, rfl, rfl⟩
  · have h := er_iff h b2
    refine er_iconst (v := 1) cx d_Rules_isMajority_10 rfl (by decide) ?_
    refine er_goto (tgt := 15) cx d_Rules_isMajority_11 (by decide) ?_
    obtain rfl := Option.some.inj h
    exact er_iret rt (Or.inr ⟨rfl, Or.inr rfl⟩) d_Rules_isMajority_15 (by decide) (by decide) ⟨rfl, rfl, rfl⟩
theorem c_Rules_isMajority {l : Launch} {X : er_X} {r : Int × er_Me} {p0 p1 : Int} {T M : er_Me} (h : f_Rules_isMajority p0 p1 T M = some r) (hok : ∀ v ∈ ([.inr p0, .inl p1] : List er_V), er_ok v) : er_Ct l X y_Rules_isMajority b_Rules_isMajority 2 (some .boolean) rm_Rules_isMajority [.inr p0, .inl p1] T M (some (.inl r.1)) T r.2 :=
  er_ct rfl rfl (Nat.le_of_ble_eq_true rfl) hok (fun K cx rt hin => w_Rules_isMajority cx rt h)
/-! Row_holdsWith -/
abbrev rm_Row_holdsWith : Room := { frames := 0, cells := 0, slots := 0, locals := 0 }
def f_Row_holdsWith_2_b (self : Int → Int → Int → Int → er_Me → Option (Int × er_Me)) (v0 v1 v2 v3 : Int) (T M : er_Me) : Option (Int × er_Me) :=
  if T v0 (-2) = 6 then
  if M v0 3 ≤ v3 then
  some (0, M)
  else
  if 0 < T v0 0 then
  if T (T v0 0) (-2) = 101 ∧ 0 ≤ v3 ∧ v3 < T (T v0 0) (-1) then
  if M (T v0 0) v3 = v1 then
  if 0 < T v0 1 then
  if T (T v0 1) (-2) = 101 ∧ v3 < T (T v0 1) (-1) then
  if M (T v0 1) v3 = v2 then
  some (1, M)
  else
  some (0, M) else none else none
  else
  er_le (er_add v3 1) fun x7 =>
  self v0 v1 v2 x7 M else none else none else none
def f_Row_holdsWith_2 : Nat → er_Me → Int → Int → Int → Int → er_Me → Option (Int × er_Me)
  | 0, _ => fun _ _ _ _ _ => none
  | n + 1, T => fun v0 v1 v2 v3 M => f_Row_holdsWith_2_b (f_Row_holdsWith_2 n T) v0 v1 v2 v3 T M
set_option maxHeartbeats 4000000 in
theorem w_Row_holdsWith_2_b {K : er_K} {l : Launch} {X : er_X} (cx : er_Cx K l X b_Row_holdsWith "EchoedRounds$Row" 4 rm_Row_holdsWith) {r : Int × er_Me} {T : er_Me} (rt : er_Rt K X b_Row_holdsWith (some .boolean) 0 0 (some (.inl r.1)) T r.2) {self : Int → Int → Int → Int → er_Me → Option (Int × er_Me)} (hself : ∀ (v0 v1 v2 v3 : Int) (M : er_Me), self v0 v1 v2 v3 M = some r → er_G K 0 0 T M 2 [(0, .inr v0), (1, .inl v1), (2, .inl v2), (3, .inl v3)] []) : ∀ (v0 v1 v2 v3 : Int) (M : er_Me), f_Row_holdsWith_2_b self v0 v1 v2 v3 T M = some r → er_G K 0 0 T M 2 [(0, .inr v0), (1, .inl v1), (2, .inl v2), (3, .inl v3)] [] := by
  intro v0 v1 v2 v3 M h
  unfold f_Row_holdsWith_2_b at h
  refine er_iload_n cx d_Row_holdsWith_2 3 rfl ?_
  refine er_aload_n cx d_Row_holdsWith_3 0 rfl ?_
  obtain ⟨c1, h⟩ := er_ck h
  refine er_geti cx d_Row_holdsWith_4 fd_Row_21 c1 ?_
  refine er_ic_ge (tgt := 42) cx d_Row_holdsWith_7 (by decide) (fun b2 => ?_) (fun b2 => ?_)
  · have h := er_ift h b2
    refine er_iconst (v := 0) cx d_Row_holdsWith_42 rfl (by decide) ?_
    obtain rfl := Option.some.inj h
    exact er_iret rt (Or.inr ⟨rfl, Or.inl rfl⟩) d_Row_holdsWith_43 (by decide) (by decide) ⟨rfl, rfl, rfl⟩
  · have h := er_iff h b2
    refine er_aload_n cx d_Row_holdsWith_10 0 rfl ?_
    obtain ⟨c4, h⟩ := er_ck h
    refine er_getr cx d_Row_holdsWith_11 fd_Row_9 c1 c4 ?_
    refine er_iload_n cx d_Row_holdsWith_14 3 rfl ?_
    obtain ⟨c5, h⟩ := er_ck h
    refine er_iald cx d_Row_holdsWith_15 c5.1 c5.2.1 c5.2.2 ?_
    refine er_iload_n cx d_Row_holdsWith_16 1 rfl ?_
    refine er_ic_ne (tgt := 36) cx d_Row_holdsWith_17 (by decide) (fun b6 => ?_) (fun b6 => ?_)
    · have h := er_iff h b6
      obtain ⟨x7, e7, h⟩ := er_lel h
      refine er_iinc cx d_Row_holdsWith_36 (k := 3) rfl (by decide) e7 rfl ?_
      refine er_goto (tgt := 2) cx d_Row_holdsWith_39 (by decide) ?_
      refine er_sb cx [1, 2, 3, 0] rfl ?_
      exact hself _ _ _ _ _ h
    · have h := er_ift h b6
      refine er_aload_n cx d_Row_holdsWith_20 0 rfl ?_
      obtain ⟨c8, h⟩ := er_ck h
      refine er_getr cx d_Row_holdsWith_21 fd_Row_15 c1 c8 ?_
      refine er_iload_n cx d_Row_holdsWith_24 3 rfl ?_
      obtain ⟨c9, h⟩ := er_ck h
      refine er_iald cx d_Row_holdsWith_25 c9.1 c5.2.1 c9.2 ?_
      refine er_iload_n cx d_Row_holdsWith_26 2 rfl ?_
      refine er_ic_ne (tgt := 34) cx d_Row_holdsWith_27 (by decide) (fun b10 => ?_) (fun b10 => ?_)
      · have h := er_iff h b10
        refine er_iconst (v := 0) cx d_Row_holdsWith_34 rfl (by decide) ?_
        obtain rfl := Option.some.inj h
        exact er_iret rt (Or.inr ⟨rfl, Or.inl rfl⟩) d_Row_holdsWith_35 (by decide) (by decide) ⟨rfl, rfl, rfl⟩
      · have h := er_ift h b10
        refine er_iconst (v := 1) cx d_Row_holdsWith_30 rfl (by decide) ?_
        refine er_goto (tgt := 35) cx d_Row_holdsWith_31 (by decide) ?_
        obtain rfl := Option.some.inj h
        exact er_iret rt (Or.inr ⟨rfl, Or.inr rfl⟩) d_Row_holdsWith_35 (by decide) (by decide) ⟨rfl, rfl, rfl⟩
theorem w_Row_holdsWith_2 {K : er_K} {l : Launch} {X : er_X} (cx : er_Cx K l X b_Row_holdsWith "EchoedRounds$Row" 4 rm_Row_holdsWith) {r : Int × er_Me} {T : er_Me} (rt : er_Rt K X b_Row_holdsWith (some .boolean) 0 0 (some (.inl r.1)) T r.2) : ∀ n : Nat, ∀ (v0 v1 v2 v3 : Int) (M : er_Me), f_Row_holdsWith_2 n T v0 v1 v2 v3 M = some r → er_G K 0 0 T M 2 [(0, .inr v0), (1, .inl v1), (2, .inl v2), (3, .inl v3)] [] := by
  intro n
  induction n with
  | zero =>
    intro v0 v1 v2 v3 M h
    cases h
  | succ n ih =>
    intro v0 v1 v2 v3 M h
    exact w_Row_holdsWith_2_b cx rt ih v0 v1 v2 v3 M h
def f_Row_holdsWith (p0 p1 p2 : Int) (T M : er_Me) : Option (Int × er_Me) :=
  f_Row_holdsWith_2 er_fu T p0 p1 p2 0 M
set_option maxHeartbeats 4000000 in
theorem w_Row_holdsWith {K : er_K} {l : Launch} {X : er_X} (cx : er_Cx K l X b_Row_holdsWith "EchoedRounds$Row" 4 rm_Row_holdsWith) {r : Int × er_Me} {p0 p1 p2 : Int} {T M : er_Me} (rt : er_Rt K X b_Row_holdsWith (some .boolean) 0 0 (some (.inl r.1)) T r.2) (h : f_Row_holdsWith p0 p1 p2 T M = some r) : er_G K 0 0 T M 0 [(0, .inr p0), (1, .inl p1), (2, .inl p2)] [] := by
  unfold f_Row_holdsWith at h
  refine er_iconst (v := 0) cx d_Row_holdsWith_0 rfl (by decide) ?_
  refine er_istore_n cx d_Row_holdsWith_1 rfl (by decide) rfl ?_
  refine er_sb cx [1, 2, 3, 0] rfl ?_
  exact w_Row_holdsWith_2 cx rt er_fu _ _ _ _ _ h
theorem c_Row_holdsWith {l : Launch} {X : er_X} {r : Int × er_Me} {p0 p1 p2 : Int} {T M : er_Me} (h : f_Row_holdsWith p0 p1 p2 T M = some r) (hok : ∀ v ∈ ([.inr p0, .inl p1, .inl p2] : List er_V), er_ok v) : er_Ct l X y_Row_holdsWith b_Row_holdsWith 4 (some .boolean) rm_Row_holdsWith [.inr p0, .inl p1, .inl p2] T M (some (.inl r.1)) T r.2 :=
  er_ct rfl rfl (Nat.le_of_ble_eq_true rfl) hok (fun K cx rt hin => w_Row_holdsWith cx rt h)
/-! Rules_canStayDivided -/
abbrev rm_Rules_canStayDivided : Room := { frames := 1, cells := 0, slots := 0, locals := 21 }
def f_Rules_canStayDivided (p0 p1 : Int) (T M : er_Me) : Option (Int × er_Me) :=
  if T p1 (-2) = 6 ∧ 0 < T p1 2 then
  if T (T p1 2) (-2) = 101 ∧ 0 < T (T p1 2) (-1) then
  if T p0 (-2) = 2 then
  er_le (er_min (M (T p1 2) 0) (er_div (M p0 0) 2)) fun x5 =>
  if 1 < T (T p1 2) (-1) then
  er_le (er_min (M (T p1 2) 1) (er_div (M p0 0) 2)) fun x10 =>
  if er_add x5 x10 < M p0 2 then
  some (0, M)
  else
  some (1, M) else none else none else none else none
set_option maxHeartbeats 4000000 in
theorem w_Rules_canStayDivided {K : er_K} {l : Launch} {X : er_X} (cx : er_Cx K l X b_Rules_canStayDivided "EchoedRounds$Rules" 4 rm_Rules_canStayDivided) {r : Int × er_Me} {p0 p1 : Int} {T M : er_Me} (rt : er_Rt K X b_Rules_canStayDivided (some .boolean) 0 0 (some (.inl r.1)) T r.2) (h : f_Rules_canStayDivided p0 p1 T M = some r) : er_G K 0 0 T M 0 [(0, .inr p0), (1, .inr p1)] [] := by
  unfold f_Rules_canStayDivided at h
  refine er_aload_n cx d_Rules_canStayDivided_0 1 rfl ?_
  obtain ⟨c1, h⟩ := er_ck h
  refine er_getr cx d_Rules_canStayDivided_1 fd_Rules_58 c1.1 c1.2 ?_
  refine er_iconst (v := 0) cx d_Rules_canStayDivided_4 rfl (by decide) ?_
  obtain ⟨c2, h⟩ := er_ck h
  refine er_iald cx d_Rules_canStayDivided_5 c2.1 (by decide) c2.2 ?_
  refine er_aload_n cx d_Rules_canStayDivided_6 0 rfl ?_
  obtain ⟨c3, h⟩ := er_ck h
  refine er_geti cx d_Rules_canStayDivided_7 fd_Rules_9 c3 ?_
  refine er_iconst (v := 2) cx d_Rules_canStayDivided_10 rfl (by decide) ?_
  refine er_idiv cx d_Rules_canStayDivided_11 (by decide) ?_
  refine er_mmin cx d_Rules_canStayDivided_12 wm_255 wm_18 wm_2 wm_19 (by decide) (Nat.le_of_ble_eq_true rfl) (by decide) (by decide) ?_
  obtain ⟨x5, e5, h⟩ := er_lel h
  refine er_nm e5 ?_
  refine er_istore_n cx d_Rules_canStayDivided_15 rfl (by decide) rfl ?_
  refine er_aload_n cx d_Rules_canStayDivided_16 2 rfl ?_
  refine er_getr cx d_Rules_canStayDivided_17 fd_Rules_58 c1.1 c1.2 ?_
  refine er_iconst (v := 1) cx d_Rules_canStayDivided_20 rfl (by decide) ?_
  obtain ⟨c7, h⟩ := er_ck h
  refine er_iald cx d_Rules_canStayDivided_21 c2.1 (by decide) c7 ?_
  refine er_aload_n cx d_Rules_canStayDivided_22 1 rfl ?_
  refine er_geti cx d_Rules_canStayDivided_23 fd_Rules_9 c3 ?_
  refine er_iconst (v := 2) cx d_Rules_canStayDivided_26 rfl (by decide) ?_
  refine er_idiv cx d_Rules_canStayDivided_27 (by decide) ?_
  refine er_mmin cx d_Rules_canStayDivided_28 wm_255 wm_18 wm_2 wm_19 (by decide) (Nat.le_of_ble_eq_true rfl) (by decide) (by decide) ?_
  obtain ⟨x10, e10, h⟩ := er_lel h
  refine er_nm e10 ?_
  refine er_istore_n cx d_Rules_canStayDivided_31 rfl (by decide) rfl ?_
  refine er_iload_n cx d_Rules_canStayDivided_32 1 rfl ?_
  refine er_iload_n cx d_Rules_canStayDivided_33 0 rfl ?_
  refine er_iadd cx d_Rules_canStayDivided_34 ?_
  refine er_aload_n cx d_Rules_canStayDivided_35 2 rfl ?_
  refine er_geti cx d_Rules_canStayDivided_36 fd_Rules_18 c3 ?_
  refine er_ic_lt (tgt := 46) cx d_Rules_canStayDivided_39 (by decide) (fun b12 => ?_) (fun b12 => ?_)
  · have h := er_ift h b12
    refine er_iconst (v := 0) cx d_Rules_canStayDivided_46 rfl (by decide) ?_
    obtain rfl := Option.some.inj h
    exact er_iret rt (Or.inr ⟨rfl, Or.inl rfl⟩) d_Rules_canStayDivided_47 (by decide) (by decide) ⟨rfl, rfl, rfl⟩
  · have h := er_iff h b12
    refine er_iconst (v := 1) cx d_Rules_canStayDivided_42 rfl (by decide) ?_
    refine er_goto (tgt := 47) cx d_Rules_canStayDivided_43 (by decide) ?_
    obtain rfl := Option.some.inj h
    exact er_iret rt (Or.inr ⟨rfl, Or.inr rfl⟩) d_Rules_canStayDivided_47 (by decide) (by decide) ⟨rfl, rfl, rfl⟩
theorem c_Rules_canStayDivided {l : Launch} {X : er_X} {r : Int × er_Me} {p0 p1 : Int} {T M : er_Me} (h : f_Rules_canStayDivided p0 p1 T M = some r) (hok : ∀ v ∈ ([.inr p0, .inr p1] : List er_V), er_ok v) : er_Ct l X y_Rules_canStayDivided b_Rules_canStayDivided 4 (some .boolean) rm_Rules_canStayDivided [.inr p0, .inr p1] T M (some (.inl r.1)) T r.2 :=
  er_ct rfl rfl (Nat.le_of_ble_eq_true rfl) hok (fun K cx rt hin => w_Rules_canStayDivided cx rt h)
/-! Rules_canNeedToss -/
abbrev rm_Rules_canNeedToss : Room := { frames := 1, cells := 0, slots := 0, locals := 21 }
def f_Rules_canNeedToss (p0 p1 : Int) (T M : er_Me) : Option (Int × er_Me) :=
  if T p1 (-2) = 6 ∧ 0 < T p1 2 then
  if T (T p1 2) (-2) = 101 ∧ 2 < T (T p1 2) (-1) then
  if T p0 (-2) = 2 then
  er_le (er_min (M (T p1 2) 2) (M p0 1)) fun x5 =>
  if 3 < T (T p1 2) (-1) then
  er_le (er_min (M (T p1 2) 3) (M p0 1)) fun x10 =>
  if 0 < T (T p1 2) (-1) then
  if 1 < T (T p1 2) (-1) then
  if er_add (er_add (er_add (M (T p1 2) 0) (M (T p1 2) 1)) x5) x10 < M p0 2 then
  some (0, M)
  else
  some (1, M) else none else none else none else none else none else none
set_option maxHeartbeats 4000000 in
theorem w_Rules_canNeedToss {K : er_K} {l : Launch} {X : er_X} (cx : er_Cx K l X b_Rules_canNeedToss "EchoedRounds$Rules" 4 rm_Rules_canNeedToss) {r : Int × er_Me} {p0 p1 : Int} {T M : er_Me} (rt : er_Rt K X b_Rules_canNeedToss (some .boolean) 0 0 (some (.inl r.1)) T r.2) (h : f_Rules_canNeedToss p0 p1 T M = some r) : er_G K 0 0 T M 0 [(0, .inr p0), (1, .inr p1)] [] := by
  unfold f_Rules_canNeedToss at h
  refine er_aload_n cx d_Rules_canNeedToss_0 1 rfl ?_
  obtain ⟨c1, h⟩ := er_ck h
  refine er_getr cx d_Rules_canNeedToss_1 fd_Rules_58 c1.1 c1.2 ?_
  refine er_iconst (v := 2) cx d_Rules_canNeedToss_4 rfl (by decide) ?_
  obtain ⟨c2, h⟩ := er_ck h
  refine er_iald cx d_Rules_canNeedToss_5 c2.1 (by decide) c2.2 ?_
  refine er_aload_n cx d_Rules_canNeedToss_6 0 rfl ?_
  obtain ⟨c3, h⟩ := er_ck h
  refine er_geti cx d_Rules_canNeedToss_7 fd_Rules_15 c3 ?_
  refine er_mmin cx d_Rules_canNeedToss_10 wm_255 wm_18 wm_2 wm_19 (by decide) (Nat.le_of_ble_eq_true rfl) (by decide) (by decide) ?_
  obtain ⟨x5, e5, h⟩ := er_lel h
  refine er_nm e5 ?_
  refine er_istore_n cx d_Rules_canNeedToss_13 rfl (by decide) rfl ?_
  refine er_aload_n cx d_Rules_canNeedToss_14 2 rfl ?_
  refine er_getr cx d_Rules_canNeedToss_15 fd_Rules_58 c1.1 c1.2 ?_
  refine er_iconst (v := 3) cx d_Rules_canNeedToss_18 rfl (by decide) ?_
  obtain ⟨c7, h⟩ := er_ck h
  refine er_iald cx d_Rules_canNeedToss_19 c2.1 (by decide) c7 ?_
  refine er_aload_n cx d_Rules_canNeedToss_20 1 rfl ?_
  refine er_geti cx d_Rules_canNeedToss_21 fd_Rules_15 c3 ?_
  refine er_mmin cx d_Rules_canNeedToss_24 wm_255 wm_18 wm_2 wm_19 (by decide) (Nat.le_of_ble_eq_true rfl) (by decide) (by decide) ?_
  obtain ⟨x10, e10, h⟩ := er_lel h
  refine er_nm e10 ?_
  refine er_istore_n cx d_Rules_canNeedToss_27 rfl (by decide) rfl ?_
  refine er_aload_n cx d_Rules_canNeedToss_28 3 rfl ?_
  refine er_getr cx d_Rules_canNeedToss_29 fd_Rules_58 c1.1 c1.2 ?_
  refine er_iconst (v := 0) cx d_Rules_canNeedToss_32 rfl (by decide) ?_
  obtain ⟨c12, h⟩ := er_ck h
  refine er_iald cx d_Rules_canNeedToss_33 c2.1 (by decide) c12 ?_
  refine er_aload_n cx d_Rules_canNeedToss_34 3 rfl ?_
  refine er_getr cx d_Rules_canNeedToss_35 fd_Rules_58 c1.1 c1.2 ?_
  refine er_iconst (v := 1) cx d_Rules_canNeedToss_38 rfl (by decide) ?_
  obtain ⟨c14, h⟩ := er_ck h
  refine er_iald cx d_Rules_canNeedToss_39 c2.1 (by decide) c14 ?_
  refine er_iadd cx d_Rules_canNeedToss_40 ?_
  refine er_iload_n cx d_Rules_canNeedToss_41 1 rfl ?_
  refine er_iadd cx d_Rules_canNeedToss_42 ?_
  refine er_iload_n cx d_Rules_canNeedToss_43 0 rfl ?_
  refine er_iadd cx d_Rules_canNeedToss_44 ?_
  refine er_aload_n cx d_Rules_canNeedToss_45 2 rfl ?_
  refine er_geti cx d_Rules_canNeedToss_46 fd_Rules_18 c3 ?_
  refine er_ic_lt (tgt := 56) cx d_Rules_canNeedToss_49 (by decide) (fun b16 => ?_) (fun b16 => ?_)
  · have h := er_ift h b16
    refine er_iconst (v := 0) cx d_Rules_canNeedToss_56 rfl (by decide) ?_
    obtain rfl := Option.some.inj h
    exact er_iret rt (Or.inr ⟨rfl, Or.inl rfl⟩) d_Rules_canNeedToss_57 (by decide) (by decide) ⟨rfl, rfl, rfl⟩
  · have h := er_iff h b16
    refine er_iconst (v := 1) cx d_Rules_canNeedToss_52 rfl (by decide) ?_
    refine er_goto (tgt := 57) cx d_Rules_canNeedToss_53 (by decide) ?_
    obtain rfl := Option.some.inj h
    exact er_iret rt (Or.inr ⟨rfl, Or.inr rfl⟩) d_Rules_canNeedToss_57 (by decide) (by decide) ⟨rfl, rfl, rfl⟩
theorem c_Rules_canNeedToss {l : Launch} {X : er_X} {r : Int × er_Me} {p0 p1 : Int} {T M : er_Me} (h : f_Rules_canNeedToss p0 p1 T M = some r) (hok : ∀ v ∈ ([.inr p0, .inr p1] : List er_V), er_ok v) : er_Ct l X y_Rules_canNeedToss b_Rules_canNeedToss 4 (some .boolean) rm_Rules_canNeedToss [.inr p0, .inr p1] T M (some (.inl r.1)) T r.2 :=
  er_ct rfl rfl (Nat.le_of_ble_eq_true rfl) hok (fun K cx rt hin => w_Rules_canNeedToss cx rt h)
/-! Row_append -/
abbrev rm_Row_append : Room := { frames := 0, cells := 0, slots := 0, locals := 0 }
def f_Row_append (p0 p1 p2 : Int) (T M : er_Me) : Option (er_Me) :=
  if T p0 (-2) = 6 then
  if 0 < T p0 0 then
  if T (T p0 0) (-2) = 101 then
  if T (T p0 0) (-1) ≤ M p0 3 then
  some M
  else
  if 0 ≤ M p0 3 ∧ M p0 3 < T (T p0 0) (-1) then
  er_le (er_up M (T p0 0) (M p0 3) p1) fun M7 =>
  if 0 < T p0 1 then
  if T (T p0 1) (-2) = 101 ∧ 0 ≤ M7 p0 3 ∧ M7 p0 3 < T (T p0 1) (-1) then
  er_le (er_up M7 (T p0 1) (M7 p0 3) p2) fun M10 =>
  if 0 < T p0 2 then
  if T (T p0 2) (-2) = 101 ∧ 0 ≤ p2 ∧ p2 < T (T p0 2) (-1) then
  er_le (er_up M10 (T p0 2) p2 (er_add (M10 (T p0 2) p2) 1)) fun M13 =>
  er_le (er_up M13 p0 3 (er_add (M13 p0 3) 1)) fun M15 =>
  some M15 else none else none else none else none else none else none else none else none
set_option maxHeartbeats 4000000 in
theorem w_Row_append {K : er_K} {l : Launch} {X : er_X} (cx : er_Cx K l X b_Row_append "EchoedRounds$Row" 3 rm_Row_append) {r : er_Me} {p0 p1 p2 : Int} {T M : er_Me} (rt : er_Rt K X b_Row_append (none) 0 0 none T r) (h : f_Row_append p0 p1 p2 T M = some r) : er_G K 0 0 T M 0 [(0, .inr p0), (1, .inl p1), (2, .inl p2)] [] := by
  unfold f_Row_append at h
  refine er_aload_n cx d_Row_append_0 0 rfl ?_
  obtain ⟨c1, h⟩ := er_ck h
  refine er_geti cx d_Row_append_1 fd_Row_21 c1 ?_
  refine er_aload_n cx d_Row_append_4 0 rfl ?_
  obtain ⟨c2, h⟩ := er_ck h
  refine er_getr cx d_Row_append_5 fd_Row_9 c1 c2 ?_
  obtain ⟨c3, h⟩ := er_ck h
  refine er_alen cx d_Row_append_8 c3 (by decide) ?_
  refine er_ic_ge (tgt := 52) cx d_Row_append_9 (by decide) (fun b4 => ?_) (fun b4 => ?_)
  · have h := er_ift h b4
    obtain rfl := Option.some.inj h
    exact er_vret rt d_Row_append_52 (by decide) (by decide) ⟨rfl, rfl, rfl⟩
  · have h := er_iff h b4
    refine er_aload_n cx d_Row_append_12 0 rfl ?_
    refine er_getr cx d_Row_append_13 fd_Row_9 c1 c2 ?_
    refine er_aload_n cx d_Row_append_16 0 rfl ?_
    refine er_geti cx d_Row_append_17 fd_Row_21 c1 ?_
    refine er_iload_n cx d_Row_append_20 1 rfl ?_
    obtain ⟨c7, h⟩ := er_ck h
    obtain ⟨M7, e7, h⟩ := er_lel h
    refine er_iast cx d_Row_append_21 c3 c7.1 c7.2 e7 ?_
    refine er_aload_n cx d_Row_append_22 0 rfl ?_
    obtain ⟨c8, h⟩ := er_ck h
    refine er_getr cx d_Row_append_23 fd_Row_15 c1 c8 ?_
    refine er_aload_n cx d_Row_append_26 0 rfl ?_
    refine er_geti cx d_Row_append_27 fd_Row_21 c1 ?_
    refine er_iload_n cx d_Row_append_30 2 rfl ?_
    obtain ⟨c10, h⟩ := er_ck h
    obtain ⟨M10, e10, h⟩ := er_lel h
    refine er_iast cx d_Row_append_31 c10.1 c10.2.1 c10.2.2 e10 ?_
    refine er_aload_n cx d_Row_append_32 0 rfl ?_
    obtain ⟨c11, h⟩ := er_ck h
    refine er_getr cx d_Row_append_33 fd_Row_18 c1 c11 ?_
    refine er_iload_n cx d_Row_append_36 2 rfl ?_
    refine er_dup2 cx d_Row_append_37 ?_
    obtain ⟨c12, h⟩ := er_ck h
    refine er_iald cx d_Row_append_38 c12.1 c12.2.1 c12.2.2 ?_
    refine er_iconst (v := 1) cx d_Row_append_39 rfl (by decide) ?_
    refine er_iadd cx d_Row_append_40 ?_
    obtain ⟨M13, e13, h⟩ := er_lel h
    refine er_iast cx d_Row_append_41 c12.1 c12.2.1 c12.2.2 e13 ?_
    refine er_aload_n cx d_Row_append_42 0 rfl ?_
    refine er_dup cx d_Row_append_43 ?_
    refine er_geti cx d_Row_append_44 fd_Row_21 c1 ?_
    refine er_iconst (v := 1) cx d_Row_append_47 rfl (by decide) ?_
    refine er_iadd cx d_Row_append_48 ?_
    obtain ⟨M15, e15, h⟩ := er_lel h
    refine er_puti cx d_Row_append_49 fd_Row_21 c1 (fun q => by cases q) e15 ?_
    obtain rfl := Option.some.inj h
    exact er_vret rt d_Row_append_52 (by decide) (by decide) ⟨rfl, rfl, rfl⟩
theorem c_Row_append {l : Launch} {X : er_X} {r : er_Me} {p0 p1 p2 : Int} {T M : er_Me} (h : f_Row_append p0 p1 p2 T M = some r) (hok : ∀ v ∈ ([.inr p0, .inl p1, .inl p2] : List er_V), er_ok v) : er_Ct l X y_Row_append b_Row_append 3 (none) rm_Row_append [.inr p0, .inl p1, .inl p2] T M none T r :=
  er_ct rfl rfl (Nat.le_of_ble_eq_true rfl) hok (fun K cx rt hin => w_Row_append cx rt h)
/-! ER_isSlot -/
abbrev rm_ER_isSlot : Room := { frames := 0, cells := 0, slots := 0, locals := 0 }
def f_ER_isSlot (p0 : Int) (T M : er_Me) : Option (Int × er_Me) :=
  if p0 < 0 then
  some (0, M)
  else
  if 9 ≤ p0 then
  some (0, M)
  else
  some (1, M)
set_option maxHeartbeats 4000000 in
theorem w_ER_isSlot {K : er_K} {l : Launch} {X : er_X} (cx : er_Cx K l X b_ER_isSlot "EchoedRounds" 1 rm_ER_isSlot) {r : Int × er_Me} {p0 : Int} {T M : er_Me} (rt : er_Rt K X b_ER_isSlot (some .boolean) 0 0 (some (.inl r.1)) T r.2) (h : f_ER_isSlot p0 T M = some r) : er_G K 0 0 T M 0 [(0, .inl p0)] [] := by
  unfold f_ER_isSlot at h
  refine er_iload_n cx d_ER_isSlot_0 0 rfl ?_
  refine er_if_lt (tgt := 14) cx d_ER_isSlot_1 (by decide) (fun b1 => ?_) (fun b1 => ?_)
  · have h := er_ift h b1
    refine er_iconst (v := 0) cx d_ER_isSlot_14 rfl (by decide) ?_
    obtain rfl := Option.some.inj h
    exact er_iret rt (Or.inr ⟨rfl, Or.inl rfl⟩) d_ER_isSlot_15 (by decide) (by decide) ⟨rfl, rfl, rfl⟩
  · have h := er_iff h b1
    refine er_iload_n cx d_ER_isSlot_4 0 rfl ?_
    refine er_bipush (v := 9) cx d_ER_isSlot_5 (by decide +kernel) (by decide) ?_
    refine er_ic_ge (tgt := 14) cx d_ER_isSlot_7 (by decide) (fun b3 => ?_) (fun b3 => ?_)
    · have h := er_ift h b3
      refine er_iconst (v := 0) cx d_ER_isSlot_14 rfl (by decide) ?_
      obtain rfl := Option.some.inj h
      exact er_iret rt (Or.inr ⟨rfl, Or.inl rfl⟩) d_ER_isSlot_15 (by decide) (by decide) ⟨rfl, rfl, rfl⟩
    · have h := er_iff h b3
      refine er_iconst (v := 1) cx d_ER_isSlot_10 rfl (by decide) ?_
      refine er_goto (tgt := 15) cx d_ER_isSlot_11 (by decide) ?_
      obtain rfl := Option.some.inj h
      exact er_iret rt (Or.inr ⟨rfl, Or.inr rfl⟩) d_ER_isSlot_15 (by decide) (by decide) ⟨rfl, rfl, rfl⟩
theorem c_ER_isSlot {l : Launch} {X : er_X} {r : Int × er_Me} {p0 : Int} {T M : er_Me} (h : f_ER_isSlot p0 T M = some r) (hok : ∀ v ∈ ([.inl p0] : List er_V), er_ok v) : er_Ct l X y_ER_isSlot b_ER_isSlot 1 (some .boolean) rm_ER_isSlot [.inl p0] T M (some (.inl r.1)) T r.2 :=
  er_ct rfl rfl (Nat.le_of_ble_eq_true rfl) hok (fun K cx rt hin => w_ER_isSlot cx rt h)
/-! Row_countInFirst -/
abbrev rm_Row_countInFirst : Room := { frames := 0, cells := 0, slots := 0, locals := 0 }
def f_Row_countInFirst_5_b (self : Int → Int → Int → Int → Int → er_Me → Option (Int × er_Me)) (v0 v1 v2 v3 v4 : Int) (T M : er_Me) : Option (Int × er_Me) :=
  if v1 ≤ v4 then
  some (v3, M)
  else
  if T v0 (-2) = 6 then
  if M v0 3 ≤ v4 then
  some (v3, M)
  else
  if 0 < T v0 1 then
  if T (T v0 1) (-2) = 101 ∧ 0 ≤ v4 ∧ v4 < T (T v0 1) (-1) then
  if M (T v0 1) v4 = v2 then
  er_le (er_add v3 1) fun x10 =>
  er_le (er_add v4 1) fun x11 =>
  self v0 v1 v2 x10 x11 M
  else
  er_le (er_add v4 1) fun x9 =>
  self v0 v1 v2 v3 x9 M else none else none else none
def f_Row_countInFirst_5 : Nat → er_Me → Int → Int → Int → Int → Int → er_Me → Option (Int × er_Me)
  | 0, _ => fun _ _ _ _ _ _ => none
  | n + 1, T => fun v0 v1 v2 v3 v4 M => f_Row_countInFirst_5_b (f_Row_countInFirst_5 n T) v0 v1 v2 v3 v4 T M
set_option maxHeartbeats 4000000 in
theorem w_Row_countInFirst_5_b {K : er_K} {l : Launch} {X : er_X} (cx : er_Cx K l X b_Row_countInFirst "EchoedRounds$Row" 5 rm_Row_countInFirst) {r : Int × er_Me} {T : er_Me} (rt : er_Rt K X b_Row_countInFirst (some .int) 0 0 (some (.inl r.1)) T r.2) {self : Int → Int → Int → Int → Int → er_Me → Option (Int × er_Me)} (hself : ∀ (v0 v1 v2 v3 v4 : Int) (M : er_Me), self v0 v1 v2 v3 v4 M = some r → er_G K 0 0 T M 5 [(0, .inr v0), (1, .inl v1), (2, .inl v2), (3, .inl v3), (4, .inl v4)] []) : ∀ (v0 v1 v2 v3 v4 : Int) (M : er_Me), f_Row_countInFirst_5_b self v0 v1 v2 v3 v4 T M = some r → er_G K 0 0 T M 5 [(0, .inr v0), (1, .inl v1), (2, .inl v2), (3, .inl v3), (4, .inl v4)] [] := by
  intro v0 v1 v2 v3 v4 M h
  unfold f_Row_countInFirst_5_b at h
  refine er_iload cx d_Row_countInFirst_5 4 rfl ?_
  refine er_iload_n cx d_Row_countInFirst_7 1 rfl ?_
  refine er_ic_ge (tgt := 40) cx d_Row_countInFirst_8 (by decide) (fun b1 => ?_) (fun b1 => ?_)
  · have h := er_ift h b1
    refine er_iload_n cx d_Row_countInFirst_40 3 rfl ?_
    obtain rfl := Option.some.inj h
    exact er_iret rt (Or.inl rfl) d_Row_countInFirst_41 (by decide) (by decide) ⟨rfl, rfl, rfl⟩
  · have h := er_iff h b1
    refine er_iload cx d_Row_countInFirst_11 4 rfl ?_
    refine er_aload_n cx d_Row_countInFirst_13 0 rfl ?_
    obtain ⟨c3, h⟩ := er_ck h
    refine er_geti cx d_Row_countInFirst_14 fd_Row_21 c3 ?_
    refine er_ic_ge (tgt := 40) cx d_Row_countInFirst_17 (by decide) (fun b4 => ?_) (fun b4 => ?_)
    · have h := er_ift h b4
      refine er_iload_n cx d_Row_countInFirst_40 3 rfl ?_
      obtain rfl := Option.some.inj h
      exact er_iret rt (Or.inl rfl) d_Row_countInFirst_41 (by decide) (by decide) ⟨rfl, rfl, rfl⟩
    · have h := er_iff h b4
      refine er_aload_n cx d_Row_countInFirst_20 0 rfl ?_
      obtain ⟨c6, h⟩ := er_ck h
      refine er_getr cx d_Row_countInFirst_21 fd_Row_15 c3 c6 ?_
      refine er_iload cx d_Row_countInFirst_24 4 rfl ?_
      obtain ⟨c7, h⟩ := er_ck h
      refine er_iald cx d_Row_countInFirst_26 c7.1 c7.2.1 c7.2.2 ?_
      refine er_iload_n cx d_Row_countInFirst_27 2 rfl ?_
      refine er_ic_ne (tgt := 34) cx d_Row_countInFirst_28 (by decide) (fun b8 => ?_) (fun b8 => ?_)
      · have h := er_iff h b8
        obtain ⟨x9, e9, h⟩ := er_lel h
        refine er_iinc cx d_Row_countInFirst_34 (k := 4) rfl (by decide) e9 rfl ?_
        refine er_goto (tgt := 5) cx d_Row_countInFirst_37 (by decide) ?_
        refine er_sb cx [1, 2, 3, 4, 0] rfl ?_
        exact hself _ _ _ _ _ _ h
      · have h := er_ift h b8
        obtain ⟨x10, e10, h⟩ := er_lel h
        refine er_iinc cx d_Row_countInFirst_31 (k := 3) rfl (by decide) e10 rfl ?_
        obtain ⟨x11, e11, h⟩ := er_lel h
        refine er_iinc cx d_Row_countInFirst_34 (k := 4) rfl (by decide) e11 rfl ?_
        refine er_goto (tgt := 5) cx d_Row_countInFirst_37 (by decide) ?_
        refine er_sb cx [2, 3, 4, 1, 0] rfl ?_
        exact hself _ _ _ _ _ _ h
theorem w_Row_countInFirst_5 {K : er_K} {l : Launch} {X : er_X} (cx : er_Cx K l X b_Row_countInFirst "EchoedRounds$Row" 5 rm_Row_countInFirst) {r : Int × er_Me} {T : er_Me} (rt : er_Rt K X b_Row_countInFirst (some .int) 0 0 (some (.inl r.1)) T r.2) : ∀ n : Nat, ∀ (v0 v1 v2 v3 v4 : Int) (M : er_Me), f_Row_countInFirst_5 n T v0 v1 v2 v3 v4 M = some r → er_G K 0 0 T M 5 [(0, .inr v0), (1, .inl v1), (2, .inl v2), (3, .inl v3), (4, .inl v4)] [] := by
  intro n
  induction n with
  | zero =>
    intro v0 v1 v2 v3 v4 M h
    cases h
  | succ n ih =>
    intro v0 v1 v2 v3 v4 M h
    exact w_Row_countInFirst_5_b cx rt ih v0 v1 v2 v3 v4 M h
def f_Row_countInFirst (p0 p1 p2 : Int) (T M : er_Me) : Option (Int × er_Me) :=
  f_Row_countInFirst_5 er_fu T p0 p1 p2 0 0 M
set_option maxHeartbeats 4000000 in
theorem w_Row_countInFirst {K : er_K} {l : Launch} {X : er_X} (cx : er_Cx K l X b_Row_countInFirst "EchoedRounds$Row" 5 rm_Row_countInFirst) {r : Int × er_Me} {p0 p1 p2 : Int} {T M : er_Me} (rt : er_Rt K X b_Row_countInFirst (some .int) 0 0 (some (.inl r.1)) T r.2) (h : f_Row_countInFirst p0 p1 p2 T M = some r) : er_G K 0 0 T M 0 [(0, .inr p0), (1, .inl p1), (2, .inl p2)] [] := by
  unfold f_Row_countInFirst at h
  refine er_iconst (v := 0) cx d_Row_countInFirst_0 rfl (by decide) ?_
  refine er_istore_n cx d_Row_countInFirst_1 rfl (by decide) rfl ?_
  refine er_iconst (v := 0) cx d_Row_countInFirst_2 rfl (by decide) ?_
  refine er_istore cx d_Row_countInFirst_3 (by decide) rfl ?_
  refine er_sb cx [2, 3, 4, 1, 0] rfl ?_
  exact w_Row_countInFirst_5 cx rt er_fu _ _ _ _ _ _ h
theorem c_Row_countInFirst {l : Launch} {X : er_X} {r : Int × er_Me} {p0 p1 p2 : Int} {T M : er_Me} (h : f_Row_countInFirst p0 p1 p2 T M = some r) (hok : ∀ v ∈ ([.inr p0, .inl p1, .inl p2] : List er_V), er_ok v) : er_Ct l X y_Row_countInFirst b_Row_countInFirst 5 (some .int) rm_Row_countInFirst [.inr p0, .inl p1, .inl p2] T M (some (.inl r.1)) T r.2 :=
  er_ct rfl rfl (Nat.le_of_ble_eq_true rfl) hok (fun K cx rt hin => w_Row_countInFirst cx rt h)
/-! Row_speakerAt -/
abbrev rm_Row_speakerAt : Room := { frames := 0, cells := 0, slots := 0, locals := 0 }
def f_Row_speakerAt (p0 p1 : Int) (T M : er_Me) : Option (Int × er_Me) :=
  if p1 < 0 then
  some ((-1), M)
  else
  if T p0 (-2) = 6 then
  if M p0 3 ≤ p1 then
  some ((-1), M)
  else
  if 0 < T p0 0 then
  if T (T p0 0) (-2) = 101 ∧ 0 ≤ p1 ∧ p1 < T (T p0 0) (-1) then
  some (M (T p0 0) p1, M) else none else none else none
set_option maxHeartbeats 4000000 in
theorem w_Row_speakerAt {K : er_K} {l : Launch} {X : er_X} (cx : er_Cx K l X b_Row_speakerAt "EchoedRounds$Row" 2 rm_Row_speakerAt) {r : Int × er_Me} {p0 p1 : Int} {T M : er_Me} (rt : er_Rt K X b_Row_speakerAt (some .int) 0 0 (some (.inl r.1)) T r.2) (h : f_Row_speakerAt p0 p1 T M = some r) : er_G K 0 0 T M 0 [(0, .inr p0), (1, .inl p1)] [] := by
  unfold f_Row_speakerAt at h
  refine er_iload_n cx d_Row_speakerAt_0 1 rfl ?_
  refine er_if_lt (tgt := 21) cx d_Row_speakerAt_1 (by decide) (fun b1 => ?_) (fun b1 => ?_)
  · have h := er_ift h b1
    refine er_iconst (v := -1) cx d_Row_speakerAt_21 rfl (by decide) ?_
    obtain rfl := Option.some.inj h
    exact er_iret rt (Or.inl rfl) d_Row_speakerAt_22 (by decide) (by decide) ⟨rfl, rfl, rfl⟩
  · have h := er_iff h b1
    refine er_iload_n cx d_Row_speakerAt_4 1 rfl ?_
    refine er_aload_n cx d_Row_speakerAt_5 0 rfl ?_
    obtain ⟨c3, h⟩ := er_ck h
    refine er_geti cx d_Row_speakerAt_6 fd_Row_21 c3 ?_
    refine er_ic_ge (tgt := 21) cx d_Row_speakerAt_9 (by decide) (fun b4 => ?_) (fun b4 => ?_)
    · have h := er_ift h b4
      refine er_iconst (v := -1) cx d_Row_speakerAt_21 rfl (by decide) ?_
      obtain rfl := Option.some.inj h
      exact er_iret rt (Or.inl rfl) d_Row_speakerAt_22 (by decide) (by decide) ⟨rfl, rfl, rfl⟩
    · have h := er_iff h b4
      refine er_aload_n cx d_Row_speakerAt_12 0 rfl ?_
      obtain ⟨c6, h⟩ := er_ck h
      refine er_getr cx d_Row_speakerAt_13 fd_Row_9 c3 c6 ?_
      refine er_iload_n cx d_Row_speakerAt_16 1 rfl ?_
      obtain ⟨c7, h⟩ := er_ck h
      refine er_iald cx d_Row_speakerAt_17 c7.1 c7.2.1 c7.2.2 ?_
      refine er_goto (tgt := 22) cx d_Row_speakerAt_18 (by decide) ?_
      obtain rfl := Option.some.inj h
      exact er_iret rt (Or.inl rfl) d_Row_speakerAt_22 (by decide) (by decide) ⟨rfl, rfl, rfl⟩
theorem c_Row_speakerAt {l : Launch} {X : er_X} {r : Int × er_Me} {p0 p1 : Int} {T M : er_Me} (h : f_Row_speakerAt p0 p1 T M = some r) (hok : ∀ v ∈ ([.inr p0, .inl p1] : List er_V), er_ok v) : er_Ct l X y_Row_speakerAt b_Row_speakerAt 2 (some .int) rm_Row_speakerAt [.inr p0, .inl p1] T M (some (.inl r.1)) T r.2 :=
  er_ct rfl rfl (Nat.le_of_ble_eq_true rfl) hok (fun K cx rt hin => w_Row_speakerAt cx rt h)
/-! Rules_canPrevail -/
abbrev rm_Rules_canPrevail : Room := { frames := 2, cells := 0, slots := 0, locals := 43 }
def f_Rules_canPrevail (p0 p1 p2 : Int) (T M : er_Me) : Option (Int × er_Me) :=
  if T p0 (-2) = 2 then
  (f_Rules_mostChosen p0 p1 p2 T M).bind fun q1 =>
  er_le (er_mul 2 q1.1) fun x2 =>
  if q1.2 p0 2 < x2 then
  some (1, q1.2)
  else
  if p2 = 0 then
  if x2 = q1.2 p0 2 then
  some (1, q1.2)
  else
  some (0, q1.2)
  else
  some (0, q1.2) else none
set_option maxHeartbeats 4000000 in
theorem w_Rules_canPrevail {K : er_K} {l : Launch} {X : er_X} (cx : er_Cx K l X b_Rules_canPrevail "EchoedRounds$Rules" 4 rm_Rules_canPrevail) {r : Int × er_Me} {p0 p1 p2 : Int} {T M : er_Me} (rt : er_Rt K X b_Rules_canPrevail (some .boolean) 0 0 (some (.inl r.1)) T r.2) (h : f_Rules_canPrevail p0 p1 p2 T M = some r) : er_G K 0 0 T M 0 [(0, .inr p0), (1, .inr p1), (2, .inl p2)] [] := by
  unfold f_Rules_canPrevail at h
  refine er_iconst (v := 2) cx d_Rules_canPrevail_0 rfl (by decide) ?_
  refine er_aload_n cx d_Rules_canPrevail_1 0 rfl ?_
  refine er_aload_n cx d_Rules_canPrevail_2 1 rfl ?_
  refine er_iload_n cx d_Rules_canPrevail_3 2 rfl ?_
  obtain ⟨c1, h⟩ := er_ck h
  obtain ⟨q1, e1, h⟩ := er_bd h
  refine er_callV (b := p0) (As := [.inr p1, .inl p2]) (st := [.inl 2]) cx (c_Rules_mostChosen e1) my_Rules_33 c1 ⟨by decide, by decide⟩ rfl (Nat.le_of_ble_eq_true rfl) d_Rules_canPrevail_4 ⟨Nat.zero_le _, Nat.zero_le _⟩ rfl ?_
  refine er_imul cx d_Rules_canPrevail_7 ?_
  obtain ⟨x2, e2, h⟩ := er_lel h
  refine er_nm e2 ?_
  refine er_istore_n cx d_Rules_canPrevail_8 rfl (by decide) rfl ?_
  refine er_iload_n cx d_Rules_canPrevail_9 0 rfl ?_
  refine er_aload_n cx d_Rules_canPrevail_10 1 rfl ?_
  refine er_geti cx d_Rules_canPrevail_11 fd_Rules_18 c1 ?_
  refine er_ic_gt (tgt := 29) cx d_Rules_canPrevail_14 (by decide) (fun b4 => ?_) (fun b4 => ?_)
  · have h := er_ift h b4
    refine er_iconst (v := 1) cx d_Rules_canPrevail_29 rfl (by decide) ?_
    refine er_goto (tgt := 34) cx d_Rules_canPrevail_30 (by decide) ?_
    obtain rfl := Option.some.inj h
    exact er_iret rt (Or.inr ⟨rfl, Or.inr rfl⟩) d_Rules_canPrevail_34 (by decide) (by decide) ⟨rfl, rfl, rfl⟩
  · have h := er_iff h b4
    refine er_iload_n cx d_Rules_canPrevail_17 3 rfl ?_
    refine er_if_ne (tgt := 33) cx d_Rules_canPrevail_18 (by decide) (fun b6 => ?_) (fun b6 => ?_)
    · have h := er_iff h b6
      refine er_iconst (v := 0) cx d_Rules_canPrevail_33 rfl (by decide) ?_
      obtain rfl := Option.some.inj h
      exact er_iret rt (Or.inr ⟨rfl, Or.inl rfl⟩) d_Rules_canPrevail_34 (by decide) (by decide) ⟨rfl, rfl, rfl⟩
    · have h := er_ift h b6
      refine er_iload_n cx d_Rules_canPrevail_21 0 rfl ?_
      refine er_aload_n cx d_Rules_canPrevail_22 1 rfl ?_
      refine er_geti cx d_Rules_canPrevail_23 fd_Rules_18 c1 ?_
      refine er_ic_ne (tgt := 33) cx d_Rules_canPrevail_26 (by decide) (fun b9 => ?_) (fun b9 => ?_)
      · have h := er_iff h b9
        refine er_iconst (v := 0) cx d_Rules_canPrevail_33 rfl (by decide) ?_
        obtain rfl := Option.some.inj h
        exact er_iret rt (Or.inr ⟨rfl, Or.inl rfl⟩) d_Rules_canPrevail_34 (by decide) (by decide) ⟨rfl, rfl, rfl⟩
      · have h := er_ift h b9
        refine er_iconst (v := 1) cx d_Rules_canPrevail_29 rfl (by decide) ?_
        refine er_goto (tgt := 34) cx d_Rules_canPrevail_30 (by decide) ?_
        obtain rfl := Option.some.inj h
        exact er_iret rt (Or.inr ⟨rfl, Or.inr rfl⟩) d_Rules_canPrevail_34 (by decide) (by decide) ⟨rfl, rfl, rfl⟩
theorem c_Rules_canPrevail {l : Launch} {X : er_X} {r : Int × er_Me} {p0 p1 p2 : Int} {T M : er_Me} (h : f_Rules_canPrevail p0 p1 p2 T M = some r) (hok : ∀ v ∈ ([.inr p0, .inr p1, .inl p2] : List er_V), er_ok v) : er_Ct l X y_Rules_canPrevail b_Rules_canPrevail 4 (some .boolean) rm_Rules_canPrevail [.inr p0, .inr p1, .inl p2] T M (some (.inl r.1)) T r.2 :=
  er_ct rfl rfl (Nat.le_of_ble_eq_true rfl) hok (fun K cx rt hin => w_Rules_canPrevail cx rt h)
/-! Rules_prevailing -/
abbrev rm_Rules_prevailing : Room := { frames := 1, cells := 0, slots := 0, locals := 24 }
def f_Rules_prevailing (p0 p1 : Int) (T M : er_Me) : Option (Int × er_Me) :=
  if T p0 (-2) = 2 then
  if T p1 (-2) = 6 then
  (f_Row_countInFirst p1 (M p0 2) 1 T M).bind fun q2 =>
  (f_Row_countInFirst p1 (q2.2 p0 2) 0 T q2.2).bind fun q4 =>
  if q2.1 ≤ q4.1 then
  some (0, q4.2)
  else
  some (1, q4.2) else none else none
set_option maxHeartbeats 4000000 in
theorem w_Rules_prevailing {K : er_K} {l : Launch} {X : er_X} (cx : er_Cx K l X b_Rules_prevailing "EchoedRounds$Rules" 2 rm_Rules_prevailing) {r : Int × er_Me} {p0 p1 : Int} {T M : er_Me} (rt : er_Rt K X b_Rules_prevailing (some .int) 0 0 (some (.inl r.1)) T r.2) (h : f_Rules_prevailing p0 p1 T M = some r) : er_G K 0 0 T M 0 [(0, .inr p0), (1, .inr p1)] [] := by
  unfold f_Rules_prevailing at h
  refine er_aload_n cx d_Rules_prevailing_0 1 rfl ?_
  refine er_aload_n cx d_Rules_prevailing_1 0 rfl ?_
  obtain ⟨c1, h⟩ := er_ck h
  refine er_geti cx d_Rules_prevailing_2 fd_Rules_18 c1 ?_
  refine er_iconst (v := 1) cx d_Rules_prevailing_5 rfl (by decide) ?_
  obtain ⟨c2, h⟩ := er_ck h
  obtain ⟨q2, e2, h⟩ := er_bd h
  refine er_callV (b := p1) (As := [.inl (M p0 2), .inl 1]) (st := []) cx (c_Row_countInFirst e2) my_Rules_68 c2 ⟨by decide, by decide⟩ rfl (Nat.le_of_ble_eq_true rfl) d_Rules_prevailing_6 ⟨Nat.zero_le _, Nat.zero_le _⟩ rfl ?_
  refine er_aload_n cx d_Rules_prevailing_9 1 rfl ?_
  refine er_aload_n cx d_Rules_prevailing_10 0 rfl ?_
  refine er_geti cx d_Rules_prevailing_11 fd_Rules_18 c1 ?_
  refine er_iconst (v := 0) cx d_Rules_prevailing_14 rfl (by decide) ?_
  obtain ⟨q4, e4, h⟩ := er_bd h
  refine er_callV (b := p1) (As := [.inl (q2.2 p0 2), .inl 0]) (st := [.inl q2.1]) cx (c_Row_countInFirst e4) my_Rules_68 c2 ⟨by decide, by decide⟩ rfl (Nat.le_of_ble_eq_true rfl) d_Rules_prevailing_15 ⟨Nat.zero_le _, Nat.zero_le _⟩ rfl ?_
  refine er_ic_le (tgt := 25) cx d_Rules_prevailing_18 (by decide) (fun b5 => ?_) (fun b5 => ?_)
  · have h := er_ift h b5
    refine er_iconst (v := 0) cx d_Rules_prevailing_25 rfl (by decide) ?_
    obtain rfl := Option.some.inj h
    exact er_iret rt (Or.inl rfl) d_Rules_prevailing_26 (by decide) (by decide) ⟨rfl, rfl, rfl⟩
  · have h := er_iff h b5
    refine er_iconst (v := 1) cx d_Rules_prevailing_21 rfl (by decide) ?_
    refine er_goto (tgt := 26) cx d_Rules_prevailing_22 (by decide) ?_
    obtain rfl := Option.some.inj h
    exact er_iret rt (Or.inl rfl) d_Rules_prevailing_26 (by decide) (by decide) ⟨rfl, rfl, rfl⟩
theorem c_Rules_prevailing {l : Launch} {X : er_X} {r : Int × er_Me} {p0 p1 : Int} {T M : er_Me} (h : f_Rules_prevailing p0 p1 T M = some r) (hok : ∀ v ∈ ([.inr p0, .inr p1] : List er_V), er_ok v) : er_Ct l X y_Rules_prevailing b_Rules_prevailing 2 (some .int) rm_Rules_prevailing [.inr p0, .inr p1] T M (some (.inl r.1)) T r.2 :=
  er_ct rfl rfl (Nat.le_of_ble_eq_true rfl) hok (fun K cx rt hin => w_Rules_prevailing cx rt h)
/-! Rules_firmOr -/
abbrev rm_Rules_firmOr : Room := { frames := 1, cells := 0, slots := 0, locals := 24 }
def f_Rules_firmOr_2_b (self : Int → Int → Int → Int → er_Me → Option (Int × er_Me)) (v0 v1 v2 v3 : Int) (T M : er_Me) : Option (Int × er_Me) :=
  if 1 < v3 then
  some (v2, M)
  else
  if T v0 (-2) = 2 then
  if T v1 (-2) = 6 then
  (f_Row_countInFirst v1 (M v0 2) v3 T M).bind fun q4 =>
  (f_Rules_isMajority v0 q4.1 T q4.2).bind fun q5 =>
  if q5.1 = 0 then
  er_le (er_add v3 1) fun x7 =>
  self v0 v1 v2 x7 q5.2
  else
  some (er_add v3 2, q5.2) else none else none
def f_Rules_firmOr_2 : Nat → er_Me → Int → Int → Int → Int → er_Me → Option (Int × er_Me)
  | 0, _ => fun _ _ _ _ _ => none
  | n + 1, T => fun v0 v1 v2 v3 M => f_Rules_firmOr_2_b (f_Rules_firmOr_2 n T) v0 v1 v2 v3 T M
set_option maxHeartbeats 4000000 in
theorem w_Rules_firmOr_2_b {K : er_K} {l : Launch} {X : er_X} (cx : er_Cx K l X b_Rules_firmOr "EchoedRounds$Rules" 4 rm_Rules_firmOr) {r : Int × er_Me} {T : er_Me} (rt : er_Rt K X b_Rules_firmOr (some .int) 0 0 (some (.inl r.1)) T r.2) {self : Int → Int → Int → Int → er_Me → Option (Int × er_Me)} (hself : ∀ (v0 v1 v2 v3 : Int) (M : er_Me), self v0 v1 v2 v3 M = some r → er_G K 0 0 T M 2 [(0, .inr v0), (1, .inr v1), (2, .inl v2), (3, .inl v3)] []) : ∀ (v0 v1 v2 v3 : Int) (M : er_Me), f_Rules_firmOr_2_b self v0 v1 v2 v3 T M = some r → er_G K 0 0 T M 2 [(0, .inr v0), (1, .inr v1), (2, .inl v2), (3, .inl v3)] [] := by
  intro v0 v1 v2 v3 M h
  unfold f_Rules_firmOr_2_b at h
  refine er_iload_n cx d_Rules_firmOr_2 3 rfl ?_
  refine er_iconst (v := 1) cx d_Rules_firmOr_3 rfl (by decide) ?_
  refine er_ic_gt (tgt := 33) cx d_Rules_firmOr_4 (by decide) (fun b1 => ?_) (fun b1 => ?_)
  · have h := er_ift h b1
    refine er_iload_n cx d_Rules_firmOr_33 2 rfl ?_
    obtain rfl := Option.some.inj h
    exact er_iret rt (Or.inl rfl) d_Rules_firmOr_34 (by decide) (by decide) ⟨rfl, rfl, rfl⟩
  · have h := er_iff h b1
    refine er_aload_n cx d_Rules_firmOr_7 0 rfl ?_
    refine er_aload_n cx d_Rules_firmOr_8 1 rfl ?_
    refine er_aload_n cx d_Rules_firmOr_9 0 rfl ?_
    obtain ⟨c3, h⟩ := er_ck h
    refine er_geti cx d_Rules_firmOr_10 fd_Rules_18 c3 ?_
    refine er_iload_n cx d_Rules_firmOr_13 3 rfl ?_
    obtain ⟨c4, h⟩ := er_ck h
    obtain ⟨q4, e4, h⟩ := er_bd h
    refine er_callV (b := v1) (As := [.inl (M v0 2), .inl v3]) (st := [.inr v0]) cx (c_Row_countInFirst e4) my_Rules_68 c4 ⟨by decide, by decide⟩ rfl (Nat.le_of_ble_eq_true rfl) d_Rules_firmOr_14 ⟨Nat.zero_le _, Nat.zero_le _⟩ rfl ?_
    obtain ⟨q5, e5, h⟩ := er_bd h
    refine er_callV (b := v0) (As := [.inl q4.1]) (st := []) cx (c_Rules_isMajority e5) my_Rules_37 c3 ⟨by decide, by decide⟩ rfl (Nat.le_of_ble_eq_true rfl) d_Rules_firmOr_17 ⟨Nat.zero_le _, Nat.zero_le _⟩ rfl ?_
    refine er_if_eq (tgt := 27) cx d_Rules_firmOr_20 (by decide) (fun b6 => ?_) (fun b6 => ?_)
    · have h := er_ift h b6
      obtain ⟨x7, e7, h⟩ := er_lel h
      refine er_iinc cx d_Rules_firmOr_27 (k := 3) rfl (by decide) e7 rfl ?_
      refine er_goto (tgt := 2) cx d_Rules_firmOr_30 (by decide) ?_
      refine er_sb cx [1, 2, 3, 0] rfl ?_
      exact hself _ _ _ _ _ h
    · have h := er_iff h b6
      refine er_iload_n cx d_Rules_firmOr_23 3 rfl ?_
      refine er_iconst (v := 2) cx d_Rules_firmOr_24 rfl (by decide) ?_
      refine er_iadd cx d_Rules_firmOr_25 ?_
      obtain rfl := Option.some.inj h
      exact er_iret rt (Or.inl rfl) d_Rules_firmOr_26 (by decide) (by decide) ⟨rfl, rfl, rfl⟩
theorem w_Rules_firmOr_2 {K : er_K} {l : Launch} {X : er_X} (cx : er_Cx K l X b_Rules_firmOr "EchoedRounds$Rules" 4 rm_Rules_firmOr) {r : Int × er_Me} {T : er_Me} (rt : er_Rt K X b_Rules_firmOr (some .int) 0 0 (some (.inl r.1)) T r.2) : ∀ n : Nat, ∀ (v0 v1 v2 v3 : Int) (M : er_Me), f_Rules_firmOr_2 n T v0 v1 v2 v3 M = some r → er_G K 0 0 T M 2 [(0, .inr v0), (1, .inr v1), (2, .inl v2), (3, .inl v3)] [] := by
  intro n
  induction n with
  | zero =>
    intro v0 v1 v2 v3 M h
    cases h
  | succ n ih =>
    intro v0 v1 v2 v3 M h
    exact w_Rules_firmOr_2_b cx rt ih v0 v1 v2 v3 M h
def f_Rules_firmOr (p0 p1 p2 : Int) (T M : er_Me) : Option (Int × er_Me) :=
  f_Rules_firmOr_2 er_fu T p0 p1 p2 0 M
set_option maxHeartbeats 4000000 in
theorem w_Rules_firmOr {K : er_K} {l : Launch} {X : er_X} (cx : er_Cx K l X b_Rules_firmOr "EchoedRounds$Rules" 4 rm_Rules_firmOr) {r : Int × er_Me} {p0 p1 p2 : Int} {T M : er_Me} (rt : er_Rt K X b_Rules_firmOr (some .int) 0 0 (some (.inl r.1)) T r.2) (h : f_Rules_firmOr p0 p1 p2 T M = some r) : er_G K 0 0 T M 0 [(0, .inr p0), (1, .inr p1), (2, .inl p2)] [] := by
  unfold f_Rules_firmOr at h
  refine er_iconst (v := 0) cx d_Rules_firmOr_0 rfl (by decide) ?_
  refine er_istore_n cx d_Rules_firmOr_1 rfl (by decide) rfl ?_
  refine er_sb cx [1, 2, 3, 0] rfl ?_
  exact w_Rules_firmOr_2 cx rt er_fu _ _ _ _ _ h
theorem c_Rules_firmOr {l : Launch} {X : er_X} {r : Int × er_Me} {p0 p1 p2 : Int} {T M : er_Me} (h : f_Rules_firmOr p0 p1 p2 T M = some r) (hok : ∀ v ∈ ([.inr p0, .inr p1, .inl p2] : List er_V), er_ok v) : er_Ct l X y_Rules_firmOr b_Rules_firmOr 4 (some .int) rm_Rules_firmOr [.inr p0, .inr p1, .inl p2] T M (some (.inl r.1)) T r.2 :=
  er_ct rfl rfl (Nat.le_of_ble_eq_true rfl) hok (fun K cx rt hin => w_Rules_firmOr cx rt h)
/-! Rules_heldFirm -/
abbrev rm_Rules_heldFirm : Room := { frames := 1, cells := 0, slots := 0, locals := 24 }
def f_Rules_heldFirm_2_b (self : Int → Int → Int → Int → er_Me → Option (Int × er_Me)) (v0 v1 v2 v3 : Int) (T M : er_Me) : Option (Int × er_Me) :=
  if 1 < v3 then
  some ((-1), M)
  else
  if T v0 (-2) = 2 then
  if T v1 (-2) = 6 then
  (f_Row_countInFirst v1 (M v0 2) (er_add v3 2) T M).bind fun q4 =>
  if q4.1 < v2 then
  er_le (er_add v3 1) fun x6 =>
  self v0 v1 v2 x6 q4.2
  else
  some (v3, q4.2) else none else none
def f_Rules_heldFirm_2 : Nat → er_Me → Int → Int → Int → Int → er_Me → Option (Int × er_Me)
  | 0, _ => fun _ _ _ _ _ => none
  | n + 1, T => fun v0 v1 v2 v3 M => f_Rules_heldFirm_2_b (f_Rules_heldFirm_2 n T) v0 v1 v2 v3 T M
set_option maxHeartbeats 4000000 in
theorem w_Rules_heldFirm_2_b {K : er_K} {l : Launch} {X : er_X} (cx : er_Cx K l X b_Rules_heldFirm "EchoedRounds$Rules" 4 rm_Rules_heldFirm) {r : Int × er_Me} {T : er_Me} (rt : er_Rt K X b_Rules_heldFirm (some .int) 0 0 (some (.inl r.1)) T r.2) {self : Int → Int → Int → Int → er_Me → Option (Int × er_Me)} (hself : ∀ (v0 v1 v2 v3 : Int) (M : er_Me), self v0 v1 v2 v3 M = some r → er_G K 0 0 T M 2 [(0, .inr v0), (1, .inr v1), (2, .inl v2), (3, .inl v3)] []) : ∀ (v0 v1 v2 v3 : Int) (M : er_Me), f_Rules_heldFirm_2_b self v0 v1 v2 v3 T M = some r → er_G K 0 0 T M 2 [(0, .inr v0), (1, .inr v1), (2, .inl v2), (3, .inl v3)] [] := by
  intro v0 v1 v2 v3 M h
  unfold f_Rules_heldFirm_2_b at h
  refine er_iload_n cx d_Rules_heldFirm_2 3 rfl ?_
  refine er_iconst (v := 1) cx d_Rules_heldFirm_3 rfl (by decide) ?_
  refine er_ic_gt (tgt := 30) cx d_Rules_heldFirm_4 (by decide) (fun b1 => ?_) (fun b1 => ?_)
  · have h := er_ift h b1
    refine er_iconst (v := -1) cx d_Rules_heldFirm_30 rfl (by decide) ?_
    obtain rfl := Option.some.inj h
    exact er_iret rt (Or.inl rfl) d_Rules_heldFirm_31 (by decide) (by decide) ⟨rfl, rfl, rfl⟩
  · have h := er_iff h b1
    refine er_aload_n cx d_Rules_heldFirm_7 1 rfl ?_
    refine er_aload_n cx d_Rules_heldFirm_8 0 rfl ?_
    obtain ⟨c3, h⟩ := er_ck h
    refine er_geti cx d_Rules_heldFirm_9 fd_Rules_18 c3 ?_
    refine er_iload_n cx d_Rules_heldFirm_12 3 rfl ?_
    refine er_iconst (v := 2) cx d_Rules_heldFirm_13 rfl (by decide) ?_
    refine er_iadd cx d_Rules_heldFirm_14 ?_
    obtain ⟨c4, h⟩ := er_ck h
    obtain ⟨q4, e4, h⟩ := er_bd h
    refine er_callV (b := v1) (As := [.inl (M v0 2), .inl (er_add v3 2)]) (st := []) cx (c_Row_countInFirst e4) my_Rules_68 c4 ⟨by decide, by decide⟩ rfl (Nat.le_of_ble_eq_true rfl) d_Rules_heldFirm_15 ⟨Nat.zero_le _, Nat.zero_le _⟩ rfl ?_
    refine er_iload_n cx d_Rules_heldFirm_18 2 rfl ?_
    refine er_ic_lt (tgt := 24) cx d_Rules_heldFirm_19 (by decide) (fun b5 => ?_) (fun b5 => ?_)
    · have h := er_ift h b5
      obtain ⟨x6, e6, h⟩ := er_lel h
      refine er_iinc cx d_Rules_heldFirm_24 (k := 3) rfl (by decide) e6 rfl ?_
      refine er_goto (tgt := 2) cx d_Rules_heldFirm_27 (by decide) ?_
      refine er_sb cx [1, 2, 3, 0] rfl ?_
      exact hself _ _ _ _ _ h
    · have h := er_iff h b5
      refine er_iload_n cx d_Rules_heldFirm_22 3 rfl ?_
      obtain rfl := Option.some.inj h
      exact er_iret rt (Or.inl rfl) d_Rules_heldFirm_23 (by decide) (by decide) ⟨rfl, rfl, rfl⟩
theorem w_Rules_heldFirm_2 {K : er_K} {l : Launch} {X : er_X} (cx : er_Cx K l X b_Rules_heldFirm "EchoedRounds$Rules" 4 rm_Rules_heldFirm) {r : Int × er_Me} {T : er_Me} (rt : er_Rt K X b_Rules_heldFirm (some .int) 0 0 (some (.inl r.1)) T r.2) : ∀ n : Nat, ∀ (v0 v1 v2 v3 : Int) (M : er_Me), f_Rules_heldFirm_2 n T v0 v1 v2 v3 M = some r → er_G K 0 0 T M 2 [(0, .inr v0), (1, .inr v1), (2, .inl v2), (3, .inl v3)] [] := by
  intro n
  induction n with
  | zero =>
    intro v0 v1 v2 v3 M h
    cases h
  | succ n ih =>
    intro v0 v1 v2 v3 M h
    exact w_Rules_heldFirm_2_b cx rt ih v0 v1 v2 v3 M h
def f_Rules_heldFirm (p0 p1 p2 : Int) (T M : er_Me) : Option (Int × er_Me) :=
  f_Rules_heldFirm_2 er_fu T p0 p1 p2 0 M
set_option maxHeartbeats 4000000 in
theorem w_Rules_heldFirm {K : er_K} {l : Launch} {X : er_X} (cx : er_Cx K l X b_Rules_heldFirm "EchoedRounds$Rules" 4 rm_Rules_heldFirm) {r : Int × er_Me} {p0 p1 p2 : Int} {T M : er_Me} (rt : er_Rt K X b_Rules_heldFirm (some .int) 0 0 (some (.inl r.1)) T r.2) (h : f_Rules_heldFirm p0 p1 p2 T M = some r) : er_G K 0 0 T M 0 [(0, .inr p0), (1, .inr p1), (2, .inl p2)] [] := by
  unfold f_Rules_heldFirm at h
  refine er_iconst (v := 0) cx d_Rules_heldFirm_0 rfl (by decide) ?_
  refine er_istore_n cx d_Rules_heldFirm_1 rfl (by decide) rfl ?_
  refine er_sb cx [1, 2, 3, 0] rfl ?_
  exact w_Rules_heldFirm_2 cx rt er_fu _ _ _ _ _ h
theorem c_Rules_heldFirm {l : Launch} {X : er_X} {r : Int × er_Me} {p0 p1 p2 : Int} {T M : er_Me} (h : f_Rules_heldFirm p0 p1 p2 T M = some r) (hok : ∀ v ∈ ([.inr p0, .inr p1, .inl p2] : List er_V), er_ok v) : er_Ct l X y_Rules_heldFirm b_Rules_heldFirm 4 (some .int) rm_Rules_heldFirm [.inr p0, .inr p1, .inl p2] T M (some (.inl r.1)) T r.2 :=
  er_ct rfl rfl (Nat.le_of_ble_eq_true rfl) hok (fun K cx rt hin => w_Rules_heldFirm cx rt h)
/-! Rules_follows -/
abbrev rm_Rules_follows : Room := { frames := 3, cells := 0, slots := 0, locals := 66 }
def f_Rules_follows (p0 p1 p2 p3 p4 : Int) (T M : er_Me) : Option (Int × er_Me) :=
  if T p0 (-2) = 2 then
  (f_Rules_isFull p0 p4 T M).bind fun q1 =>
  if q1.1 = 0 then
  some (0, q1.2)
  else
  if er_rem p1 3 = 2 then
  if p3 < 2 then
  if T p4 (-2) = 6 then
  (f_Row_holdsWith p4 p2 p3 T q1.2).bind fun q19 =>
  if q19.1 = 0 then
  some (0, q19.2)
  else
  (f_Rules_canStayDivided p0 p4 T q19.2).bind fun q22 =>
  if q22.1 = 0 then
  some (0, q22.2)
  else
  some (1, q22.2) else none
  else
  (f_Rules_mostChosen p0 p4 (er_sub p3 2) T q1.2).bind fun q26 =>
  (f_Rules_isMajority p0 q26.1 T q26.2).bind fun q27 =>
  if q27.1 = 0 ∨ q27.1 = 1 then some (q27.1, q27.2) else none
  else
  (f_ER_isPlain p3 T q1.2).bind fun q4 =>
  if q4.1 = 0 then
  some (0, q4.2)
  else
  if er_rem p1 3 = 1 then
  (f_Rules_canPrevail p0 p4 p3 T q4.2).bind fun q15 =>
  if q15.1 = 0 ∨ q15.1 = 1 then some (q15.1, q15.2) else none
  else
  (f_Rules_mostChosen p0 p4 (er_add p3 2) T q4.2).bind fun q7 =>
  if q7.2 p0 1 < q7.1 then
  some (1, q7.2)
  else
  (f_Rules_canNeedToss p0 p4 T q7.2).bind fun q11 =>
  if q11.1 = 0 then
  some (0, q11.2)
  else
  some (1, q11.2) else none
set_option maxHeartbeats 4000000 in
theorem w_Rules_follows {K : er_K} {l : Launch} {X : er_X} (cx : er_Cx K l X b_Rules_follows "EchoedRounds$Rules" 6 rm_Rules_follows) {r : Int × er_Me} {p0 p1 p2 p3 p4 : Int} {T M : er_Me} (rt : er_Rt K X b_Rules_follows (some .boolean) 0 0 (some (.inl r.1)) T r.2) (h : f_Rules_follows p0 p1 p2 p3 p4 T M = some r) : er_G K 0 0 T M 0 [(0, .inr p0), (1, .inl p1), (2, .inl p2), (3, .inl p3), (4, .inr p4)] [] := by
  unfold f_Rules_follows at h
  refine er_aload_n cx d_Rules_follows_0 0 rfl ?_
  refine er_aload cx d_Rules_follows_1 4 rfl ?_
  obtain ⟨c1, h⟩ := er_ck h
  obtain ⟨q1, e1, h⟩ := er_bd h
  refine er_callV (b := p0) (As := [.inr p4]) (st := []) cx (c_Rules_isFull e1) my_Rules_29 c1 ⟨by decide, by decide⟩ rfl (Nat.le_of_ble_eq_true rfl) d_Rules_follows_3 ⟨Nat.zero_le _, Nat.zero_le _⟩ rfl ?_
  refine er_if_ne (tgt := 11) cx d_Rules_follows_6 (by decide) (fun b2 => ?_) (fun b2 => ?_)
  · have h := er_iff h b2
    refine er_iload_n cx d_Rules_follows_11 1 rfl ?_
    refine er_iconst (v := 3) cx d_Rules_follows_12 rfl (by decide) ?_
    refine er_irem cx d_Rules_follows_13 (by decide) ?_
    refine er_istore cx d_Rules_follows_14 (by decide) rfl ?_
    refine er_iload cx d_Rules_follows_16 0 rfl ?_
    refine er_iconst (v := 2) cx d_Rules_follows_18 rfl (by decide) ?_
    refine er_ic_ne (tgt := 68) cx d_Rules_follows_19 (by decide) (fun b3 => ?_) (fun b3 => ?_)
    · have h := er_iff h b3
      refine er_iload_n cx d_Rules_follows_68 4 rfl ?_
      obtain ⟨q4, e4, h⟩ := er_bd h
      refine er_callS (As := [.inl p3]) (st := []) cx (c_ER_isPlain e4) my_Rules_48 ⟨by decide, by decide⟩ rfl (Nat.le_of_ble_eq_true rfl) d_Rules_follows_69 ⟨Nat.zero_le _, Nat.zero_le _⟩ rfl ?_
      refine er_if_ne (tgt := 77) cx d_Rules_follows_72 (by decide) (fun b5 => ?_) (fun b5 => ?_)
      · have h := er_iff h b5
        refine er_iload cx d_Rules_follows_77 0 rfl ?_
        refine er_iconst (v := 1) cx d_Rules_follows_79 rfl (by decide) ?_
        refine er_ic_ne (tgt := 93) cx d_Rules_follows_80 (by decide) (fun b6 => ?_) (fun b6 => ?_)
        · have h := er_iff h b6
          refine er_aload_n cx d_Rules_follows_93 1 rfl ?_
          refine er_aload cx d_Rules_follows_94 5 rfl ?_
          refine er_iload_n cx d_Rules_follows_96 4 rfl ?_
          refine er_iconst (v := 2) cx d_Rules_follows_97 rfl (by decide) ?_
          refine er_iadd cx d_Rules_follows_98 ?_
          obtain ⟨q7, e7, h⟩ := er_bd h
          refine er_callV (b := p0) (As := [.inr p4, .inl (er_add p3 2)]) (st := []) cx (c_Rules_mostChosen e7) my_Rules_33 c1 ⟨by decide, by decide⟩ rfl (Nat.le_of_ble_eq_true rfl) d_Rules_follows_99 ⟨Nat.zero_le _, Nat.zero_le _⟩ rfl ?_
          refine er_aload_n cx d_Rules_follows_102 1 rfl ?_
          refine er_geti cx d_Rules_follows_103 fd_Rules_15 c1 ?_
          refine er_ic_gt (tgt := 118) cx d_Rules_follows_106 (by decide) (fun b9 => ?_) (fun b9 => ?_)
          · have h := er_ift h b9
            refine er_iconst (v := 1) cx d_Rules_follows_118 rfl (by decide) ?_
            refine er_goto (tgt := 123) cx d_Rules_follows_119 (by decide) ?_
            obtain rfl := Option.some.inj h
            exact er_iret rt (Or.inr ⟨rfl, Or.inr rfl⟩) d_Rules_follows_123 (by decide) (by decide) ⟨rfl, rfl, rfl⟩
          · have h := er_iff h b9
            refine er_aload_n cx d_Rules_follows_109 1 rfl ?_
            refine er_aload cx d_Rules_follows_110 5 rfl ?_
            obtain ⟨q11, e11, h⟩ := er_bd h
            refine er_callV (b := p0) (As := [.inr p4]) (st := []) cx (c_Rules_canNeedToss e11) my_Rules_55 c1 ⟨by decide, by decide⟩ rfl (Nat.le_of_ble_eq_true rfl) d_Rules_follows_112 ⟨Nat.zero_le _, Nat.zero_le _⟩ rfl ?_
            refine er_if_eq (tgt := 122) cx d_Rules_follows_115 (by decide) (fun b12 => ?_) (fun b12 => ?_)
            · have h := er_ift h b12
              refine er_iconst (v := 0) cx d_Rules_follows_122 rfl (by decide) ?_
              obtain rfl := Option.some.inj h
              exact er_iret rt (Or.inr ⟨rfl, Or.inl rfl⟩) d_Rules_follows_123 (by decide) (by decide) ⟨rfl, rfl, rfl⟩
            · have h := er_iff h b12
              refine er_iconst (v := 1) cx d_Rules_follows_118 rfl (by decide) ?_
              refine er_goto (tgt := 123) cx d_Rules_follows_119 (by decide) ?_
              obtain rfl := Option.some.inj h
              exact er_iret rt (Or.inr ⟨rfl, Or.inr rfl⟩) d_Rules_follows_123 (by decide) (by decide) ⟨rfl, rfl, rfl⟩
        · have h := er_ift h b6
          refine er_aload_n cx d_Rules_follows_83 1 rfl ?_
          refine er_aload cx d_Rules_follows_84 5 rfl ?_
          refine er_iload_n cx d_Rules_follows_86 4 rfl ?_
          obtain ⟨q15, e15, h⟩ := er_bd h
          refine er_callV (b := p0) (As := [.inr p4, .inl p3]) (st := []) cx (c_Rules_canPrevail e15) my_Rules_51 c1 ⟨by decide, by decide⟩ rfl (Nat.le_of_ble_eq_true rfl) d_Rules_follows_87 ⟨Nat.zero_le _, Nat.zero_le _⟩ rfl ?_
          refine er_goto (tgt := 123) cx d_Rules_follows_90 (by decide) ?_
          obtain ⟨c16, h⟩ := er_ck h
          obtain rfl := Option.some.inj h
          exact er_iret rt (Or.inr ⟨rfl, c16⟩) d_Rules_follows_123 (by decide) (by decide) ⟨rfl, rfl, rfl⟩
      · have h := er_ift h b5
        refine er_iconst (v := 0) cx d_Rules_follows_75 rfl (by decide) ?_
        obtain rfl := Option.some.inj h
        exact er_iret rt (Or.inr ⟨rfl, Or.inl rfl⟩) d_Rules_follows_76 (by decide) (by decide) ⟨rfl, rfl, rfl⟩
    · have h := er_ift h b3
      refine er_iload_n cx d_Rules_follows_22 4 rfl ?_
      refine er_iconst (v := 2) cx d_Rules_follows_23 rfl (by decide) ?_
      refine er_ic_lt (tgt := 43) cx d_Rules_follows_24 (by decide) (fun b18 => ?_) (fun b18 => ?_)
      · have h := er_ift h b18
        refine er_aload cx d_Rules_follows_43 5 rfl ?_
        refine er_iload_n cx d_Rules_follows_45 3 rfl ?_
        refine er_iload_n cx d_Rules_follows_46 4 rfl ?_
        obtain ⟨c19, h⟩ := er_ck h
        obtain ⟨q19, e19, h⟩ := er_bd h
        refine er_callV (b := p4) (As := [.inl p2, .inl p3]) (st := []) cx (c_Row_holdsWith e19) my_Rules_41 c19 ⟨by decide, by decide⟩ rfl (Nat.le_of_ble_eq_true rfl) d_Rules_follows_47 ⟨Nat.zero_le _, Nat.zero_le _⟩ rfl ?_
        refine er_if_eq (tgt := 66) cx d_Rules_follows_50 (by decide) (fun b20 => ?_) (fun b20 => ?_)
        · have h := er_ift h b20
          refine er_iconst (v := 0) cx d_Rules_follows_66 rfl (by decide) ?_
          obtain rfl := Option.some.inj h
          exact er_iret rt (Or.inr ⟨rfl, Or.inl rfl⟩) d_Rules_follows_67 (by decide) (by decide) ⟨rfl, rfl, rfl⟩
        · have h := er_iff h b20
          refine er_aload_n cx d_Rules_follows_53 1 rfl ?_
          refine er_aload cx d_Rules_follows_54 5 rfl ?_
          obtain ⟨q22, e22, h⟩ := er_bd h
          refine er_callV (b := p0) (As := [.inr p4]) (st := []) cx (c_Rules_canStayDivided e22) my_Rules_45 c1 ⟨by decide, by decide⟩ rfl (Nat.le_of_ble_eq_true rfl) d_Rules_follows_56 ⟨Nat.zero_le _, Nat.zero_le _⟩ rfl ?_
          refine er_if_eq (tgt := 66) cx d_Rules_follows_59 (by decide) (fun b23 => ?_) (fun b23 => ?_)
          · have h := er_ift h b23
            refine er_iconst (v := 0) cx d_Rules_follows_66 rfl (by decide) ?_
            obtain rfl := Option.some.inj h
            exact er_iret rt (Or.inr ⟨rfl, Or.inl rfl⟩) d_Rules_follows_67 (by decide) (by decide) ⟨rfl, rfl, rfl⟩
          · have h := er_iff h b23
            refine er_iconst (v := 1) cx d_Rules_follows_62 rfl (by decide) ?_
            refine er_goto (tgt := 67) cx d_Rules_follows_63 (by decide) ?_
            obtain rfl := Option.some.inj h
            exact er_iret rt (Or.inr ⟨rfl, Or.inr rfl⟩) d_Rules_follows_67 (by decide) (by decide) ⟨rfl, rfl, rfl⟩
      · have h := er_iff h b18
        refine er_aload_n cx d_Rules_follows_27 1 rfl ?_
        refine er_aload_n cx d_Rules_follows_28 1 rfl ?_
        refine er_aload cx d_Rules_follows_29 5 rfl ?_
        refine er_iload_n cx d_Rules_follows_31 4 rfl ?_
        refine er_iconst (v := 2) cx d_Rules_follows_32 rfl (by decide) ?_
        refine er_isub cx d_Rules_follows_33 ?_
        obtain ⟨q26, e26, h⟩ := er_bd h
        refine er_callV (b := p0) (As := [.inr p4, .inl (er_sub p3 2)]) (st := [.inr p0]) cx (c_Rules_mostChosen e26) my_Rules_33 c1 ⟨by decide, by decide⟩ rfl (Nat.le_of_ble_eq_true rfl) d_Rules_follows_34 ⟨Nat.zero_le _, Nat.zero_le _⟩ rfl ?_
        obtain ⟨q27, e27, h⟩ := er_bd h
        refine er_callV (b := p0) (As := [.inl q26.1]) (st := []) cx (c_Rules_isMajority e27) my_Rules_37 c1 ⟨by decide, by decide⟩ rfl (Nat.le_of_ble_eq_true rfl) d_Rules_follows_37 ⟨Nat.zero_le _, Nat.zero_le _⟩ rfl ?_
        refine er_goto (tgt := 67) cx d_Rules_follows_40 (by decide) ?_
        obtain ⟨c28, h⟩ := er_ck h
        obtain rfl := Option.some.inj h
        exact er_iret rt (Or.inr ⟨rfl, c28⟩) d_Rules_follows_67 (by decide) (by decide) ⟨rfl, rfl, rfl⟩
  · have h := er_ift h b2
    refine er_iconst (v := 0) cx d_Rules_follows_9 rfl (by decide) ?_
    obtain rfl := Option.some.inj h
    exact er_iret rt (Or.inr ⟨rfl, Or.inl rfl⟩) d_Rules_follows_10 (by decide) (by decide) ⟨rfl, rfl, rfl⟩
theorem c_Rules_follows {l : Launch} {X : er_X} {r : Int × er_Me} {p0 p1 p2 p3 p4 : Int} {T M : er_Me} (h : f_Rules_follows p0 p1 p2 p3 p4 T M = some r) (hok : ∀ v ∈ ([.inr p0, .inl p1, .inl p2, .inl p3, .inr p4] : List er_V), er_ok v) : er_Ct l X y_Rules_follows b_Rules_follows 6 (some .boolean) rm_Rules_follows [.inr p0, .inl p1, .inl p2, .inl p3, .inr p4] T M (some (.inl r.1)) T r.2 :=
  er_ct rfl rfl (Nat.le_of_ble_eq_true rfl) hok (fun K cx rt hin => w_Rules_follows cx rt h)
