/-! Node_init -/
abbrev rm_Node_init : Room := { frames := 2, cells := 45, slots := 1424, locals := 40 }
def f_Node_init_117_b (self : Int → Int → Int → Int → er_Me → er_Me → Option (er_Me × er_Me)) (v0 v1 v2 v3 : Int) (T M : er_Me) : Option (er_Me × er_Me) :=
  if 0 ≤ v3 ∧ v3 ≤ 9 then
  if 9 ≤ v3 then
  some (T, M)
  else
  if T v0 (-2) = 3 ∧ 0 < T v0 7 then
  er_le (T 0 0 + 1) fun b3 =>
  er_le (er_nw T 6 0) fun T3 =>
  er_le (er_mw M b3) fun M3 =>
  (f_Row_init b3 T3 M3).bind fun q4 =>
  if q4.1 (T v0 7) (-2) = 104 ∧ q4.1 b3 (-2) = 6 ∧ 0 ≤ v3 ∧ v3 < q4.1 (T v0 7) (-1) then
  er_le (er_up q4.1 (T v0 7) v3 b3) fun T5 =>
  er_le (er_add v3 1) fun x6 =>
  self v0 v1 v2 x6 T5 q4.2 else none else none else none
def f_Node_init_117 : Nat → Int → Int → Int → Int → er_Me → er_Me → Option (er_Me × er_Me)
  | 0 => fun _ _ _ _ _ _ => none
  | n + 1 => fun v0 v1 v2 v3 T M => f_Node_init_117_b (f_Node_init_117 n) v0 v1 v2 v3 T M
set_option maxHeartbeats 4000000 in
theorem w_Node_init_117_b {K : er_K} {l : Launch} {X : er_X} (cx : er_Cx K l X b_Node_init "EchoedRounds$Node" 4 rm_Node_init) (hin : er_In K) {r : er_Me × er_Me} (rt : er_Rt K X b_Node_init (none) 45 1424 none r.1 r.2) {self : Int → Int → Int → Int → er_Me → er_Me → Option (er_Me × er_Me)} (hself : ∀ (v0 v1 v2 v3 : Int) (T M : er_Me) (cells slots : Nat), cells + 4 * (9 - v3).toNat ≤ 45 ∧ slots + 22 * (9 - v3).toNat ≤ 1424 → self v0 v1 v2 v3 T M = some r → er_G K cells slots T M 117 [(0, .inr v0), (1, .inl v1), (2, .inr v2), (3, .inl v3)] []) : ∀ (v0 v1 v2 v3 : Int) (T M : er_Me) (cells slots : Nat), cells + 4 * (9 - v3).toNat ≤ 45 ∧ slots + 22 * (9 - v3).toNat ≤ 1424 → f_Node_init_117_b self v0 v1 v2 v3 T M = some r → er_G K cells slots T M 117 [(0, .inr v0), (1, .inl v1), (2, .inr v2), (3, .inl v3)] [] := by
  intro v0 v1 v2 v3 T M cells slots hcs h
  unfold f_Node_init_117_b at h
  obtain ⟨c0, h⟩ := er_ck h
  refine er_iload_n cx d_Node_init_117 3 rfl ?_
  refine er_bipush (v := 9) cx d_Node_init_118 (by decide +kernel) (by decide) ?_
  refine er_ic_ge (tgt := 142) cx d_Node_init_120 (by decide) (fun b1 => ?_) (fun b1 => ?_)
  · have h := er_ift h b1
    obtain rfl := Option.some.inj h
    exact er_vret rt d_Node_init_142 (by omega) (by omega) ⟨rfl, rfl, rfl⟩
  · have h := er_iff h b1
    refine er_aload_n cx d_Node_init_123 0 rfl ?_
    obtain ⟨c2, h⟩ := er_ck h
    refine er_getr cx d_Node_init_124 fd_Node_38 c2.1 c2.2 ?_
    refine er_iload_n cx d_Node_init_127 3 rfl ?_
    obtain ⟨b3, eb3, h⟩ := er_lel h
    obtain ⟨T3, eT3, h⟩ := er_lel h
    obtain ⟨M3, eM3, h⟩ := er_lel h
    refine er_new cx d_Node_init_128 (by decide) cl_Row wm_80 wm_82 wm_7 (by show cells + 1 ≤ 45; omega) (by show slots + 4 ≤ 1424; omega) eT3 eb3 eM3 ?_
    refine er_dup cx d_Node_init_131 ?_
    obtain ⟨q4, e4, h⟩ := er_bd h
    refine er_callI (b := b3) (As := []) (st := [.inr b3, .inl v3, .inr (T v0 7)]) cx (c_Row_init e4) my_Node_66 ⟨by decide, by decide⟩ rfl (Nat.le_of_ble_eq_true rfl) d_Node_init_132 ⟨(by show cells + 1 + 3 ≤ 45; omega), (by show slots + 4 + 18 ≤ 1424; omega)⟩ rfl ?_
    obtain ⟨c5, h⟩ := er_ck h
    obtain ⟨T5, e5, h⟩ := er_lel h
    refine er_aast cx d_Node_init_135 c5.1 c5.2.1 cl_Row (by decide) (by decide) (Or.inr ⟨rfl, rfl⟩) c5.2.2.1 c5.2.2.2 e5 ?_
    obtain ⟨x6, e6, h⟩ := er_lel h
    have ea6 := er_addE (x := v3) (y := 1) (by constructor <;> omega)
    refine er_iinc cx d_Node_init_136 (k := 3) rfl (by decide) e6 rfl ?_
    refine er_goto (tgt := 117) cx d_Node_init_139 (by decide) ?_
    refine er_sb cx [1, 2, 3, 0] rfl ?_
    refine er_wd (k := cells + 4) (n := slots + 22) (by show cells + 1 + 3 ≤ _; omega) (by show slots + 4 + 18 ≤ _; omega) ?_
    exact hself _ _ _ _ _ _ _ _ (by omega) h
theorem w_Node_init_117 {K : er_K} {l : Launch} {X : er_X} (cx : er_Cx K l X b_Node_init "EchoedRounds$Node" 4 rm_Node_init) (hin : er_In K) {r : er_Me × er_Me} (rt : er_Rt K X b_Node_init (none) 45 1424 none r.1 r.2) : ∀ n : Nat, ∀ (v0 v1 v2 v3 : Int) (T M : er_Me) (cells slots : Nat), cells + 4 * (9 - v3).toNat ≤ 45 ∧ slots + 22 * (9 - v3).toNat ≤ 1424 → f_Node_init_117 n v0 v1 v2 v3 T M = some r → er_G K cells slots T M 117 [(0, .inr v0), (1, .inl v1), (2, .inr v2), (3, .inl v3)] [] := by
  intro n
  induction n with
  | zero =>
    intro v0 v1 v2 v3 T M cells slots hcs h
    cases h
  | succ n ih =>
    intro v0 v1 v2 v3 T M cells slots hcs h
    exact w_Node_init_117_b cx hin rt ih v0 v1 v2 v3 T M cells slots hcs h
def f_Node_init_96_b (self : Int → Int → Int → Int → er_Me → er_Me → Option (er_Me × er_Me)) (v0 v1 v2 v3 : Int) (T M : er_Me) : Option (er_Me × er_Me) :=
  if 63 ≤ v3 then
  f_Node_init_117 er_fu v0 v1 v2 0 T M
  else
  if T v0 (-2) = 3 ∧ 0 < T v0 6 then
  if T (T v0 6) (-2) = 101 ∧ 0 ≤ v3 ∧ v3 < T (T v0 6) (-1) then
  er_le (er_up M (T v0 6) v3 (-1)) fun M3 =>
  er_le (er_add v3 1) fun x4 =>
  self v0 v1 v2 x4 T M3 else none else none
def f_Node_init_96 : Nat → Int → Int → Int → Int → er_Me → er_Me → Option (er_Me × er_Me)
  | 0 => fun _ _ _ _ _ _ => none
  | n + 1 => fun v0 v1 v2 v3 T M => f_Node_init_96_b (f_Node_init_96 n) v0 v1 v2 v3 T M
set_option maxHeartbeats 4000000 in
theorem w_Node_init_96_b {K : er_K} {l : Launch} {X : er_X} (cx : er_Cx K l X b_Node_init "EchoedRounds$Node" 4 rm_Node_init) (hin : er_In K) {r : er_Me × er_Me} (rt : er_Rt K X b_Node_init (none) 45 1424 none r.1 r.2) {self : Int → Int → Int → Int → er_Me → er_Me → Option (er_Me × er_Me)} (hself : ∀ (v0 v1 v2 v3 : Int) (T M : er_Me), self v0 v1 v2 v3 T M = some r → er_G K 9 1226 T M 96 [(0, .inr v0), (1, .inl v1), (2, .inr v2), (3, .inl v3)] []) : ∀ (v0 v1 v2 v3 : Int) (T M : er_Me), f_Node_init_96_b self v0 v1 v2 v3 T M = some r → er_G K 9 1226 T M 96 [(0, .inr v0), (1, .inl v1), (2, .inr v2), (3, .inl v3)] [] := by
  intro v0 v1 v2 v3 T M h
  unfold f_Node_init_96_b at h
  refine er_iload_n cx d_Node_init_96 3 rfl ?_
  refine er_bipush (v := 63) cx d_Node_init_97 (by decide +kernel) (by decide) ?_
  refine er_ic_ge (tgt := 115) cx d_Node_init_99 (by decide) (fun b1 => ?_) (fun b1 => ?_)
  · have h := er_ift h b1
    refine er_iconst (v := 0) cx d_Node_init_115 rfl (by decide) ?_
    refine er_istore_n cx d_Node_init_116 rfl (by decide) rfl ?_
    refine er_sb cx [1, 2, 3, 0] rfl ?_
    exact w_Node_init_117 cx hin rt er_fu _ _ _ _ _ _ _ _ (by decide) h
  · have h := er_iff h b1
    refine er_aload_n cx d_Node_init_102 0 rfl ?_
    obtain ⟨c2, h⟩ := er_ck h
    refine er_getr cx d_Node_init_103 fd_Node_33 c2.1 c2.2 ?_
    refine er_iload_n cx d_Node_init_106 3 rfl ?_
    refine er_iconst (v := -1) cx d_Node_init_107 rfl (by decide) ?_
    obtain ⟨c3, h⟩ := er_ck h
    obtain ⟨M3, e3, h⟩ := er_lel h
    refine er_iast cx d_Node_init_108 c3.1 c3.2.1 c3.2.2 e3 ?_
    obtain ⟨x4, e4, h⟩ := er_lel h
    refine er_iinc cx d_Node_init_109 (k := 3) rfl (by decide) e4 rfl ?_
    refine er_goto (tgt := 96) cx d_Node_init_112 (by decide) ?_
    refine er_sb cx [1, 2, 3, 0] rfl ?_
    exact hself _ _ _ _ _ _ h
theorem w_Node_init_96 {K : er_K} {l : Launch} {X : er_X} (cx : er_Cx K l X b_Node_init "EchoedRounds$Node" 4 rm_Node_init) (hin : er_In K) {r : er_Me × er_Me} (rt : er_Rt K X b_Node_init (none) 45 1424 none r.1 r.2) : ∀ n : Nat, ∀ (v0 v1 v2 v3 : Int) (T M : er_Me), f_Node_init_96 n v0 v1 v2 v3 T M = some r → er_G K 9 1226 T M 96 [(0, .inr v0), (1, .inl v1), (2, .inr v2), (3, .inl v3)] [] := by
  intro n
  induction n with
  | zero =>
    intro v0 v1 v2 v3 T M h
    cases h
  | succ n ih =>
    intro v0 v1 v2 v3 T M h
    exact w_Node_init_96_b cx hin rt ih v0 v1 v2 v3 T M h
def f_Node_init (p0 p1 p2 : Int) (T M : er_Me) : Option (er_Me × er_Me) :=
  er_le (T 0 0 + 1) fun b2 =>
  er_le (er_nw T 4 0) fun T2 =>
  er_le (er_mw M b2) fun M2 =>
  (f_Log_init b2 T2 M2).bind fun q3 =>
  if q3.1 p0 (-2) = 3 ∧ 0 < b2 then
  er_le (er_up q3.1 p0 2 b2) fun T4 =>
  er_le (T4 0 0 + 1) fun b5 =>
  er_le (er_nw T4 5 0) fun T5 =>
  er_le (er_mw q3.2 b5) fun M5 =>
  (f_Tally_init b5 T5 M5).bind fun q6 =>
  if q6.1 p0 (-2) = 3 ∧ 0 < b5 then
  er_le (er_up q6.1 p0 3 b5) fun T7 =>
  er_le (T7 0 0 + 1) fun b8 =>
  er_le (er_nw T7 101 7) fun T8 =>
  er_le (er_mw q6.2 b8) fun M8 =>
  if T8 p0 (-2) = 3 ∧ 0 < b8 then
  er_le (er_up T8 p0 4 b8) fun T9 =>
  er_le (T9 0 0 + 1) fun b10 =>
  er_le (er_nw T9 102 63) fun T10 =>
  er_le (er_mw M8 b10) fun M10 =>
  if T10 p0 (-2) = 3 ∧ 0 < b10 then
  er_le (er_up T10 p0 5 b10) fun T11 =>
  er_le (T11 0 0 + 1) fun b12 =>
  er_le (er_nw T11 101 63) fun T12 =>
  er_le (er_mw M10 b12) fun M12 =>
  if T12 p0 (-2) = 3 ∧ 0 < b12 then
  er_le (er_up T12 p0 6 b12) fun T13 =>
  er_le (T13 0 0 + 1) fun b14 =>
  er_le (er_nw T13 104 9) fun T14 =>
  er_le (er_mw M12 b14) fun M14 =>
  if T14 p0 (-2) = 3 ∧ 0 < b14 then
  er_le (er_up T14 p0 7 b14) fun T15 =>
  if T15 p0 (-2) = 3 then
  er_le (er_up M14 p0 8 1) fun M16 =>
  er_le (er_up M16 p0 9 0) fun M17 =>
  er_le (er_up M17 p0 10 (-1)) fun M18 =>
  er_le (er_up M18 p0 11 (-1)) fun M19 =>
  er_le (er_up M19 p0 12 (-1)) fun M20 =>
  er_le (er_up M20 p0 0 p1) fun M21 =>
  if 0 < p2 then
  er_le (er_up T15 p0 1 p2) fun T22 =>
  f_Node_init_96 er_fu p0 p1 p2 0 T22 M21 else none else none else none else none else none else none else none else none
set_option maxHeartbeats 4000000 in
theorem w_Node_init {K : er_K} {l : Launch} {X : er_X} (cx : er_Cx K l X b_Node_init "EchoedRounds$Node" 4 rm_Node_init) (hin : er_In K) {r : er_Me × er_Me} {p0 p1 p2 : Int} {T M : er_Me} (rt : er_Rt K X b_Node_init (none) 45 1424 none r.1 r.2) (h : f_Node_init p0 p1 p2 T M = some r) : er_G K 0 0 T M 0 [(0, .inr p0), (1, .inl p1), (2, .inr p2)] [] := by
  unfold f_Node_init at h
  refine er_aload_n cx d_Node_init_0 0 rfl ?_
  refine er_obj cx d_Node_init_1 wm_51 wm_15 wm_16 (by decide) (Nat.le_of_ble_eq_true rfl) ?_
  refine er_aload_n cx d_Node_init_4 0 rfl ?_
  obtain ⟨b2, eb2, h⟩ := er_lel h
  obtain ⟨T2, eT2, h⟩ := er_lel h
  obtain ⟨M2, eM2, h⟩ := er_lel h
  refine er_new cx d_Node_init_5 (by decide) cl_Log wm_52 wm_53 wm_5 (by decide) (by decide) eT2 eb2 eM2 ?_
  refine er_dup cx d_Node_init_8 ?_
  obtain ⟨q3, e3, h⟩ := er_bd h
  refine er_callI (b := b2) (As := []) (st := [.inr b2, .inr p0]) cx (c_Log_init e3) my_Node_11 ⟨by decide, by decide⟩ rfl (Nat.le_of_ble_eq_true rfl) d_Node_init_9 ⟨(by decide), (by decide)⟩ rfl ?_
  obtain ⟨c4, h⟩ := er_ck h
  obtain ⟨T4, e4, h⟩ := er_lel h
  refine er_putr cx d_Node_init_12 fd_Node_12 c4.1 (fun _ => ⟨hin, rfl, rfl⟩) (fun _ => rfl) (fun _ => rfl) c4.2 e4 ?_
  refine er_aload_n cx d_Node_init_15 0 rfl ?_
  obtain ⟨b5, eb5, h⟩ := er_lel h
  obtain ⟨T5, eT5, h⟩ := er_lel h
  obtain ⟨M5, eM5, h⟩ := er_lel h
  refine er_new cx d_Node_init_16 (by decide) cl_Tally wm_67 wm_68 wm_6 (by decide) (by decide) eT5 eb5 eM5 ?_
  refine er_dup cx d_Node_init_19 ?_
  obtain ⟨q6, e6, h⟩ := er_bd h
  refine er_callI (b := b5) (As := []) (st := [.inr b5, .inr p0]) cx (c_Tally_init e6) my_Node_20 ⟨by decide, by decide⟩ rfl (Nat.le_of_ble_eq_true rfl) d_Node_init_20 ⟨(by decide), (by decide)⟩ rfl ?_
  obtain ⟨c7, h⟩ := er_ck h
  obtain ⟨T7, e7, h⟩ := er_lel h
  refine er_putr cx d_Node_init_23 fd_Node_21 c7.1 (fun _ => ⟨hin, rfl, rfl⟩) (fun _ => rfl) (fun _ => rfl) c7.2 e7 ?_
  refine er_aload_n cx d_Node_init_26 0 rfl ?_
  refine er_bipush (v := 7) cx d_Node_init_27 (by decide +kernel) (by decide) ?_
  obtain ⟨b8, eb8, h⟩ := er_lel h
  obtain ⟨T8, eT8, h⟩ := er_lel h
  obtain ⟨M8, eM8, h⟩ := er_lel h
  refine er_newa (t := 0) (N := 7) cx d_Node_init_29 wm_66 (by decide) rfl (by decide) rfl (by decide) (by decide) (by decide) eT8 eb8 eM8 ?_
  obtain ⟨c9, h⟩ := er_ck h
  obtain ⟨T9, e9, h⟩ := er_lel h
  refine er_putr cx d_Node_init_31 fd_Node_25 c9.1 (fun _ => ⟨hin, rfl, rfl⟩) (fun _ => rfl) (fun _ => rfl) c9.2 e9 ?_
  refine er_aload_n cx d_Node_init_34 0 rfl ?_
  refine er_bipush (v := 63) cx d_Node_init_35 (by decide +kernel) (by decide) ?_
  obtain ⟨b10, eb10, h⟩ := er_lel h
  obtain ⟨T10, eT10, h⟩ := er_lel h
  obtain ⟨M10, eM10, h⟩ := er_lel h
  refine er_newa (t := 1) (N := 63) cx d_Node_init_37 wm_102 (by decide) rfl (by decide) rfl (by decide) (by decide) (by decide) eT10 eb10 eM10 ?_
  obtain ⟨c11, h⟩ := er_ck h
  obtain ⟨T11, e11, h⟩ := er_lel h
  refine er_putr cx d_Node_init_39 fd_Node_29 c11.1 (fun _ => ⟨hin, rfl, rfl⟩) (fun _ => rfl) (fun _ => rfl) c11.2 e11 ?_
  refine er_aload_n cx d_Node_init_42 0 rfl ?_
  refine er_bipush (v := 63) cx d_Node_init_43 (by decide +kernel) (by decide) ?_
  obtain ⟨b12, eb12, h⟩ := er_lel h
  obtain ⟨T12, eT12, h⟩ := er_lel h
  obtain ⟨M12, eM12, h⟩ := er_lel h
  refine er_newa (t := 0) (N := 63) cx d_Node_init_45 wm_66 (by decide) rfl (by decide) rfl (by decide) (by decide) (by decide) eT12 eb12 eM12 ?_
  obtain ⟨c13, h⟩ := er_ck h
  obtain ⟨T13, e13, h⟩ := er_lel h
  refine er_putr cx d_Node_init_47 fd_Node_33 c13.1 (fun _ => ⟨hin, rfl, rfl⟩) (fun _ => rfl) (fun _ => rfl) c13.2 e13 ?_
  refine er_aload_n cx d_Node_init_50 0 rfl ?_
  refine er_bipush (v := 9) cx d_Node_init_51 (by decide +kernel) (by decide) ?_
  obtain ⟨b14, eb14, h⟩ := er_lel h
  obtain ⟨T14, eT14, h⟩ := er_lel h
  obtain ⟨M14, eM14, h⟩ := er_lel h
  refine er_newq (t := 3) cx d_Node_init_53 wm_80 (by decide) (Or.inr ⟨rfl, rfl⟩) (by decide) (by decide) (by decide) (by decide) (by decide) eT14 eb14 eM14 ?_
  obtain ⟨c15, h⟩ := er_ck h
  obtain ⟨T15, e15, h⟩ := er_lel h
  refine er_putr cx d_Node_init_56 fd_Node_38 c15.1 (fun _ => ⟨hin, rfl, rfl⟩) (fun _ => rfl) (fun _ => rfl) c15.2 e15 ?_
  refine er_aload_n cx d_Node_init_59 0 rfl ?_
  refine er_iconst (v := 1) cx d_Node_init_60 rfl (by decide) ?_
  obtain ⟨c16, h⟩ := er_ck h
  obtain ⟨M16, e16, h⟩ := er_lel h
  refine er_putz cx d_Node_init_61 fd_Node_42 c16 (fun q => by cases q) (Or.inr rfl) e16 ?_
  refine er_aload_n cx d_Node_init_64 0 rfl ?_
  refine er_iconst (v := 0) cx d_Node_init_65 rfl (by decide) ?_
  obtain ⟨M17, e17, h⟩ := er_lel h
  refine er_puti cx d_Node_init_66 fd_Node_46 c16 (fun q => by cases q) e17 ?_
  refine er_aload_n cx d_Node_init_69 0 rfl ?_
  refine er_iconst (v := -1) cx d_Node_init_70 rfl (by decide) ?_
  obtain ⟨M18, e18, h⟩ := er_lel h
  refine er_puti cx d_Node_init_71 fd_Node_50 c16 (fun q => by cases q) e18 ?_
  refine er_aload_n cx d_Node_init_74 0 rfl ?_
  refine er_iconst (v := -1) cx d_Node_init_75 rfl (by decide) ?_
  obtain ⟨M19, e19, h⟩ := er_lel h
  refine er_puti cx d_Node_init_76 fd_Node_53 c16 (fun q => by cases q) e19 ?_
  refine er_aload_n cx d_Node_init_79 0 rfl ?_
  refine er_iconst (v := -1) cx d_Node_init_80 rfl (by decide) ?_
  obtain ⟨M20, e20, h⟩ := er_lel h
  refine er_puti cx d_Node_init_81 fd_Node_56 c16 (fun q => by cases q) e20 ?_
  refine er_aload_n cx d_Node_init_84 0 rfl ?_
  refine er_iload_n cx d_Node_init_85 1 rfl ?_
  obtain ⟨M21, e21, h⟩ := er_lel h
  refine er_puti cx d_Node_init_86 fd_Node_59 c16 (fun _ => ⟨hin, rfl, rfl⟩) e21 ?_
  refine er_aload_n cx d_Node_init_89 0 rfl ?_
  refine er_aload_n cx d_Node_init_90 2 rfl ?_
  obtain ⟨c22, h⟩ := er_ck h
  obtain ⟨T22, e22, h⟩ := er_lel h
  refine er_putr cx d_Node_init_91 fd_Node_62 c16 (fun _ => ⟨hin, rfl, rfl⟩) (fun _ => rfl) (fun _ => rfl) c22 e22 ?_
  refine er_iconst (v := 0) cx d_Node_init_94 rfl (by decide) ?_
  refine er_istore_n cx d_Node_init_95 rfl (by decide) rfl ?_
  refine er_sb cx [1, 2, 3, 0] rfl ?_
  exact w_Node_init_96 cx hin rt er_fu _ _ _ _ _ _ h
theorem c_Node_init {l : Launch} {X : er_X} {r : er_Me × er_Me} {p0 p1 p2 : Int} {T M : er_Me} (h : f_Node_init p0 p1 p2 T M = some r) (hok : ∀ v ∈ ([.inr p0, .inl p1, .inr p2] : List er_V), er_ok v) : er_Ct l X y_Node_init b_Node_init 4 (none) rm_Node_init [.inr p0, .inl p1, .inr p2] T M none r.1 r.2 :=
  er_ct rfl rfl (Nat.le_of_ble_eq_true rfl) hok (fun K cx rt hin => w_Node_init cx (hin rfl) rt h)
/-! Node_enter -/
abbrev rm_Node_enter : Room := { frames := 1, cells := 0, slots := 0, locals := 23 }
def f_Node_enter (p0 p1 p2 : Int) (T M : er_Me) : Option (er_Me) :=
  if T p0 (-2) = 3 then
  er_le (er_up M p0 10 p1) fun M1 =>
  er_le (er_up M1 p0 11 p2) fun M2 =>
  if 9 ≤ p1 then
  some M2
  else
  if 0 < T p0 2 then
  (f_ER_codeOf 0 p1 (M2 p0 0) p2 T M2).bind fun q6 =>
  if T (T p0 2) (-2) = 4 then
  (f_Log_append (T p0 2) q6.1 T q6.2).bind fun q7 =>
  some q7 else none else none else none
set_option maxHeartbeats 4000000 in
theorem w_Node_enter {K : er_K} {l : Launch} {X : er_X} (cx : er_Cx K l X b_Node_enter "EchoedRounds$Node" 3 rm_Node_enter) {r : er_Me} {p0 p1 p2 : Int} {T M : er_Me} (rt : er_Rt K X b_Node_enter (none) 0 0 none T r) (h : f_Node_enter p0 p1 p2 T M = some r) : er_G K 0 0 T M 0 [(0, .inr p0), (1, .inl p1), (2, .inl p2)] [] := by
  unfold f_Node_enter at h
  refine er_aload_n cx d_Node_enter_0 0 rfl ?_
  refine er_iload_n cx d_Node_enter_1 1 rfl ?_
  obtain ⟨c1, h⟩ := er_ck h
  obtain ⟨M1, e1, h⟩ := er_lel h
  refine er_puti cx d_Node_enter_2 fd_Node_50 c1 (fun q => by cases q) e1 ?_
  refine er_aload_n cx d_Node_enter_5 0 rfl ?_
  refine er_iload_n cx d_Node_enter_6 2 rfl ?_
  obtain ⟨M2, e2, h⟩ := er_lel h
  refine er_puti cx d_Node_enter_7 fd_Node_53 c1 (fun q => by cases q) e2 ?_
  refine er_iload_n cx d_Node_enter_10 1 rfl ?_
  refine er_bipush (v := 9) cx d_Node_enter_11 (by decide +kernel) (by decide) ?_
  refine er_ic_ge (tgt := 33) cx d_Node_enter_13 (by decide) (fun b3 => ?_) (fun b3 => ?_)
  · have h := er_ift h b3
    obtain rfl := Option.some.inj h
    exact er_vret rt d_Node_enter_33 (by decide) (by decide) ⟨rfl, rfl, rfl⟩
  · have h := er_iff h b3
    refine er_aload_n cx d_Node_enter_16 0 rfl ?_
    obtain ⟨c4, h⟩ := er_ck h
    refine er_getr cx d_Node_enter_17 fd_Node_12 c1 c4 ?_
    refine er_iconst (v := 0) cx d_Node_enter_20 rfl (by decide) ?_
    refine er_iload_n cx d_Node_enter_21 1 rfl ?_
    refine er_aload_n cx d_Node_enter_22 0 rfl ?_
    refine er_geti cx d_Node_enter_23 fd_Node_59 c1 ?_
    refine er_iload_n cx d_Node_enter_26 2 rfl ?_
    obtain ⟨q6, e6, h⟩ := er_bd h
    refine er_callS (As := [.inl 0, .inl p1, .inl (M2 p0 0), .inl p2]) (st := [.inr (T p0 2)]) cx (c_ER_codeOf e6) my_Node_67 ⟨by decide, by decide⟩ rfl (Nat.le_of_ble_eq_true rfl) d_Node_enter_27 ⟨Nat.zero_le _, Nat.zero_le _⟩ rfl ?_
    obtain ⟨c7, h⟩ := er_ck h
    obtain ⟨q7, e7, h⟩ := er_bd h
    refine er_callV (b := T p0 2) (As := [.inl q6.1]) (st := []) cx (c_Log_append e7) my_Node_71 c7 ⟨by decide, by decide⟩ rfl (Nat.le_of_ble_eq_true rfl) d_Node_enter_30 ⟨Nat.zero_le _, Nat.zero_le _⟩ rfl ?_
    obtain rfl := Option.some.inj h
    exact er_vret rt d_Node_enter_33 (by decide) (by decide) ⟨rfl, rfl, rfl⟩
theorem c_Node_enter {l : Launch} {X : er_X} {r : er_Me} {p0 p1 p2 : Int} {T M : er_Me} (h : f_Node_enter p0 p1 p2 T M = some r) (hok : ∀ v ∈ ([.inr p0, .inl p1, .inl p2] : List er_V), er_ok v) : er_Ct l X y_Node_enter b_Node_enter 3 (none) rm_Node_enter [.inr p0, .inl p1, .inl p2] T M none T r :=
  er_ct rfl rfl (Nat.le_of_ble_eq_true rfl) hok (fun K cx rt hin => w_Node_enter cx rt h)
/-! Node_sendReadyOnce -/
abbrev rm_Node_sendReadyOnce : Room := { frames := 1, cells := 0, slots := 0, locals := 23 }
def f_Node_sendReadyOnce (p0 p1 p2 p3 : Int) (T M : er_Me) : Option (er_Me) :=
  (f_ER_cellOf p1 p2 T M).bind fun q1 =>
  if T p0 (-2) = 3 ∧ 0 < T p0 5 then
  if T (T p0 5) (-2) = 102 ∧ 0 ≤ q1.1 ∧ q1.1 < T (T p0 5) (-1) then
  if q1.2 (T p0 5) q1.1 = 0 then
  er_le (er_up q1.2 (T p0 5) q1.1 1) fun M6 =>
  if 0 < T p0 2 then
  (f_ER_codeOf 2 p1 p2 p3 T M6).bind fun q8 =>
  if T (T p0 2) (-2) = 4 then
  (f_Log_append (T p0 2) q8.1 T q8.2).bind fun q9 =>
  some q9 else none else none
  else
  some q1.2 else none else none
set_option maxHeartbeats 4000000 in
theorem w_Node_sendReadyOnce {K : er_K} {l : Launch} {X : er_X} (cx : er_Cx K l X b_Node_sendReadyOnce "EchoedRounds$Node" 5 rm_Node_sendReadyOnce) {r : er_Me} {p0 p1 p2 p3 : Int} {T M : er_Me} (rt : er_Rt K X b_Node_sendReadyOnce (none) 0 0 none T r) (h : f_Node_sendReadyOnce p0 p1 p2 p3 T M = some r) : er_G K 0 0 T M 0 [(0, .inr p0), (1, .inl p1), (2, .inl p2), (3, .inl p3)] [] := by
  unfold f_Node_sendReadyOnce at h
  refine er_iload_n cx d_Node_sendReadyOnce_0 1 rfl ?_
  refine er_iload_n cx d_Node_sendReadyOnce_1 2 rfl ?_
  obtain ⟨q1, e1, h⟩ := er_bd h
  refine er_callS (As := [.inl p1, .inl p2]) (st := []) cx (c_ER_cellOf e1) my_Node_83 ⟨by decide, by decide⟩ rfl (Nat.le_of_ble_eq_true rfl) d_Node_sendReadyOnce_2 ⟨Nat.zero_le _, Nat.zero_le _⟩ rfl ?_
  refine er_istore cx d_Node_sendReadyOnce_5 (by decide) rfl ?_
  refine er_aload_n cx d_Node_sendReadyOnce_7 1 rfl ?_
  obtain ⟨c2, h⟩ := er_ck h
  refine er_getr cx d_Node_sendReadyOnce_8 fd_Node_29 c2.1 c2.2 ?_
  refine er_iload cx d_Node_sendReadyOnce_11 0 rfl ?_
  obtain ⟨c3, h⟩ := er_ck h
  refine er_zald cx d_Node_sendReadyOnce_13 c3.1 c3.2.1 c3.2.2 ?_
  refine er_if_ne (tgt := 39) cx d_Node_sendReadyOnce_14 (by decide) (fun b4 => ?_) (fun b4 => ?_)
  · have h := er_iff h b4
    obtain rfl := Option.some.inj h
    exact er_vret rt d_Node_sendReadyOnce_39 (by decide) (by decide) ⟨rfl, rfl, rfl⟩
  · have h := er_ift h b4
    refine er_aload_n cx d_Node_sendReadyOnce_17 1 rfl ?_
    refine er_getr cx d_Node_sendReadyOnce_18 fd_Node_29 c2.1 c2.2 ?_
    refine er_iload cx d_Node_sendReadyOnce_21 0 rfl ?_
    refine er_iconst (v := 1) cx d_Node_sendReadyOnce_23 rfl (by decide) ?_
    obtain ⟨M6, e6, h⟩ := er_lel h
    refine er_zast cx d_Node_sendReadyOnce_24 c3.1 c3.2.1 c3.2.2 (Or.inr rfl) e6 ?_
    refine er_aload_n cx d_Node_sendReadyOnce_25 1 rfl ?_
    obtain ⟨c7, h⟩ := er_ck h
    refine er_getr cx d_Node_sendReadyOnce_26 fd_Node_12 c2.1 c7 ?_
    refine er_iconst (v := 2) cx d_Node_sendReadyOnce_29 rfl (by decide) ?_
    refine er_iload_n cx d_Node_sendReadyOnce_30 2 rfl ?_
    refine er_iload_n cx d_Node_sendReadyOnce_31 3 rfl ?_
    refine er_iload_n cx d_Node_sendReadyOnce_32 4 rfl ?_
    obtain ⟨q8, e8, h⟩ := er_bd h
    refine er_callS (As := [.inl 2, .inl p1, .inl p2, .inl p3]) (st := [.inr (T p0 2)]) cx (c_ER_codeOf e8) my_Node_67 ⟨by decide, by decide⟩ rfl (Nat.le_of_ble_eq_true rfl) d_Node_sendReadyOnce_33 ⟨Nat.zero_le _, Nat.zero_le _⟩ rfl ?_
    obtain ⟨c9, h⟩ := er_ck h
    obtain ⟨q9, e9, h⟩ := er_bd h
    refine er_callV (b := T p0 2) (As := [.inl q8.1]) (st := []) cx (c_Log_append e9) my_Node_71 c9 ⟨by decide, by decide⟩ rfl (Nat.le_of_ble_eq_true rfl) d_Node_sendReadyOnce_36 ⟨Nat.zero_le _, Nat.zero_le _⟩ rfl ?_
    obtain rfl := Option.some.inj h
    exact er_vret rt d_Node_sendReadyOnce_39 (by decide) (by decide) ⟨rfl, rfl, rfl⟩
theorem c_Node_sendReadyOnce {l : Launch} {X : er_X} {r : er_Me} {p0 p1 p2 p3 : Int} {T M : er_Me} (h : f_Node_sendReadyOnce p0 p1 p2 p3 T M = some r) (hok : ∀ v ∈ ([.inr p0, .inl p1, .inl p2, .inl p3] : List er_V), er_ok v) : er_Ct l X y_Node_sendReadyOnce b_Node_sendReadyOnce 5 (none) rm_Node_sendReadyOnce [.inr p0, .inl p1, .inl p2, .inl p3] T M none T r :=
  er_ct rfl rfl (Nat.le_of_ble_eq_true rfl) hok (fun K cx rt hin => w_Node_sendReadyOnce cx rt h)
/-! Node_hearEcho -/
abbrev rm_Node_hearEcho : Room := { frames := 2, cells := 0, slots := 0, locals := 47 }
def f_Node_hearEcho (p0 p1 p2 p3 : Int) (T M : er_Me) : Option (er_Me) :=
  if T p0 (-2) = 3 ∧ 0 < T p0 3 then
  (f_ER_cellOf p1 p2 T M).bind fun q2 =>
  if T (T p0 3) (-2) = 5 then
  (f_Tally_count (T p0 3) 1 q2.1 p3 T q2.2).bind fun q3 =>
  if 0 < T p0 1 then
  if T (T p0 1) (-2) = 2 then
  if q3.1 < q3.2 (T p0 1) 3 then
  some q3.2
  else
  (f_Node_sendReadyOnce p0 p1 p2 p3 T q3.2).bind fun q7 =>
  some q7 else none else none else none else none
set_option maxHeartbeats 4000000 in
theorem w_Node_hearEcho {K : er_K} {l : Launch} {X : er_X} (cx : er_Cx K l X b_Node_hearEcho "EchoedRounds$Node" 4 rm_Node_hearEcho) {r : er_Me} {p0 p1 p2 p3 : Int} {T M : er_Me} (rt : er_Rt K X b_Node_hearEcho (none) 0 0 none T r) (h : f_Node_hearEcho p0 p1 p2 p3 T M = some r) : er_G K 0 0 T M 0 [(0, .inr p0), (1, .inl p1), (2, .inl p2), (3, .inl p3)] [] := by
  unfold f_Node_hearEcho at h
  refine er_aload_n cx d_Node_hearEcho_0 0 rfl ?_
  obtain ⟨c1, h⟩ := er_ck h
  refine er_getr cx d_Node_hearEcho_1 fd_Node_21 c1.1 c1.2 ?_
  refine er_iconst (v := 1) cx d_Node_hearEcho_4 rfl (by decide) ?_
  refine er_iload_n cx d_Node_hearEcho_5 1 rfl ?_
  refine er_iload_n cx d_Node_hearEcho_6 2 rfl ?_
  obtain ⟨q2, e2, h⟩ := er_bd h
  refine er_callS (As := [.inl p1, .inl p2]) (st := [.inl 1, .inr (T p0 3)]) cx (c_ER_cellOf e2) my_Node_83 ⟨by decide, by decide⟩ rfl (Nat.le_of_ble_eq_true rfl) d_Node_hearEcho_7 ⟨Nat.zero_le _, Nat.zero_le _⟩ rfl ?_
  refine er_iload_n cx d_Node_hearEcho_10 3 rfl ?_
  obtain ⟨c3, h⟩ := er_ck h
  obtain ⟨q3, e3, h⟩ := er_bd h
  refine er_callV (b := T p0 3) (As := [.inl 1, .inl q2.1, .inl p3]) (st := []) cx (c_Tally_count e3) my_Node_98 c3 ⟨by decide, by decide⟩ rfl (Nat.le_of_ble_eq_true rfl) d_Node_hearEcho_11 ⟨Nat.zero_le _, Nat.zero_le _⟩ rfl ?_
  refine er_aload_n cx d_Node_hearEcho_14 0 rfl ?_
  obtain ⟨c4, h⟩ := er_ck h
  refine er_getr cx d_Node_hearEcho_15 fd_Node_62 c1.1 c4 ?_
  obtain ⟨c5, h⟩ := er_ck h
  refine er_geti cx d_Node_hearEcho_18 fd_Node_102 c5 ?_
  refine er_ic_lt (tgt := 31) cx d_Node_hearEcho_21 (by decide) (fun b6 => ?_) (fun b6 => ?_)
  · have h := er_ift h b6
    obtain rfl := Option.some.inj h
    exact er_vret rt d_Node_hearEcho_31 (by decide) (by decide) ⟨rfl, rfl, rfl⟩
  · have h := er_iff h b6
    refine er_aload_n cx d_Node_hearEcho_24 0 rfl ?_
    refine er_iload_n cx d_Node_hearEcho_25 1 rfl ?_
    refine er_iload_n cx d_Node_hearEcho_26 2 rfl ?_
    refine er_iload_n cx d_Node_hearEcho_27 3 rfl ?_
    obtain ⟨q7, e7, h⟩ := er_bd h
    refine er_callV (b := p0) (As := [.inl p1, .inl p2, .inl p3]) (st := []) cx (c_Node_sendReadyOnce e7) my_Node_107 c1.1 ⟨by decide, by decide⟩ rfl (Nat.le_of_ble_eq_true rfl) d_Node_hearEcho_28 ⟨Nat.zero_le _, Nat.zero_le _⟩ rfl ?_
    obtain rfl := Option.some.inj h
    exact er_vret rt d_Node_hearEcho_31 (by decide) (by decide) ⟨rfl, rfl, rfl⟩
theorem c_Node_hearEcho {l : Launch} {X : er_X} {r : er_Me} {p0 p1 p2 p3 : Int} {T M : er_Me} (h : f_Node_hearEcho p0 p1 p2 p3 T M = some r) (hok : ∀ v ∈ ([.inr p0, .inl p1, .inl p2, .inl p3] : List er_V), er_ok v) : er_Ct l X y_Node_hearEcho b_Node_hearEcho 4 (none) rm_Node_hearEcho [.inr p0, .inl p1, .inl p2, .inl p3] T M none T r :=
  er_ct rfl rfl (Nat.le_of_ble_eq_true rfl) hok (fun K cx rt hin => w_Node_hearEcho cx rt h)
/-! Node_hearReady -/
abbrev rm_Node_hearReady : Room := { frames := 2, cells := 0, slots := 0, locals := 47 }
def f_Node_hearReady_41 (T : er_Me) (v0 v1 v2 v3 v4 v5 : Int) (M : er_Me) : Option (er_Me) :=
  if T v0 (-2) = 3 ∧ 0 < T v0 1 then
  if T (T v0 1) (-2) = 2 then
  if v5 < er_add (er_mul 2 (M (T v0 1) 1)) 1 then
  some M
  else
  if 0 < T v0 6 then
  if T (T v0 6) (-2) = 101 ∧ 0 ≤ v4 ∧ v4 < T (T v0 6) (-1) then
  if M (T v0 6) v4 = (-1) then
  er_le (er_up M (T v0 6) v4 v3) fun M8 =>
  some M8
  else
  some M else none else none else none else none
set_option maxHeartbeats 4000000 in
theorem w_Node_hearReady_41 {K : er_K} {l : Launch} {X : er_X} (cx : er_Cx K l X b_Node_hearReady "EchoedRounds$Node" 6 rm_Node_hearReady) {r : er_Me} {T : er_Me} (rt : er_Rt K X b_Node_hearReady (none) 0 0 none T r) : ∀ (v0 v1 v2 v3 v4 v5 : Int) (M : er_Me), f_Node_hearReady_41 T v0 v1 v2 v3 v4 v5 M = some r → er_G K 0 0 T M 41 [(0, .inr v0), (1, .inl v1), (2, .inl v2), (3, .inl v3), (4, .inl v4), (5, .inl v5)] [] := by
  intro v0 v1 v2 v3 v4 v5 M h
  unfold f_Node_hearReady_41 at h
  refine er_iload cx d_Node_hearReady_41 5 rfl ?_
  refine er_iconst (v := 2) cx d_Node_hearReady_43 rfl (by decide) ?_
  refine er_aload_n cx d_Node_hearReady_44 0 rfl ?_
  obtain ⟨c1, h⟩ := er_ck h
  refine er_getr cx d_Node_hearReady_45 fd_Node_62 c1.1 c1.2 ?_
  obtain ⟨c2, h⟩ := er_ck h
  refine er_geti cx d_Node_hearReady_48 fd_Node_110 c2 ?_
  refine er_imul cx d_Node_hearReady_51 ?_
  refine er_iconst (v := 1) cx d_Node_hearReady_52 rfl (by decide) ?_
  refine er_iadd cx d_Node_hearReady_53 ?_
  refine er_ic_lt (tgt := 76) cx d_Node_hearReady_54 (by decide) (fun b3 => ?_) (fun b3 => ?_)
  · have h := er_ift h b3
    obtain rfl := Option.some.inj h
    exact er_vret rt d_Node_hearReady_76 (by decide) (by decide) ⟨rfl, rfl, rfl⟩
  · have h := er_iff h b3
    refine er_aload_n cx d_Node_hearReady_57 0 rfl ?_
    obtain ⟨c4, h⟩ := er_ck h
    refine er_getr cx d_Node_hearReady_58 fd_Node_33 c1.1 c4 ?_
    refine er_iload cx d_Node_hearReady_61 4 rfl ?_
    obtain ⟨c5, h⟩ := er_ck h
    refine er_iald cx d_Node_hearReady_63 c5.1 c5.2.1 c5.2.2 ?_
    refine er_iconst (v := -1) cx d_Node_hearReady_64 rfl (by decide) ?_
    refine er_ic_ne (tgt := 76) cx d_Node_hearReady_65 (by decide) (fun b6 => ?_) (fun b6 => ?_)
    · have h := er_iff h b6
      obtain rfl := Option.some.inj h
      exact er_vret rt d_Node_hearReady_76 (by decide) (by decide) ⟨rfl, rfl, rfl⟩
    · have h := er_ift h b6
      refine er_aload_n cx d_Node_hearReady_68 0 rfl ?_
      refine er_getr cx d_Node_hearReady_69 fd_Node_33 c1.1 c4 ?_
      refine er_iload cx d_Node_hearReady_72 4 rfl ?_
      refine er_iload_n cx d_Node_hearReady_74 3 rfl ?_
      obtain ⟨M8, e8, h⟩ := er_lel h
      refine er_iast cx d_Node_hearReady_75 c5.1 c5.2.1 c5.2.2 e8 ?_
      obtain rfl := Option.some.inj h
      exact er_vret rt d_Node_hearReady_76 (by decide) (by decide) ⟨rfl, rfl, rfl⟩
def f_Node_hearReady (p0 p1 p2 p3 : Int) (T M : er_Me) : Option (er_Me) :=
  (f_ER_cellOf p1 p2 T M).bind fun q1 =>
  if T p0 (-2) = 3 ∧ 0 < T p0 3 then
  if T (T p0 3) (-2) = 5 then
  (f_Tally_count (T p0 3) 2 q1.1 p3 T q1.2).bind fun q3 =>
  if 0 < T p0 1 then
  if T (T p0 1) (-2) = 2 then
  if q3.1 < er_add (q3.2 (T p0 1) 1) 1 then
  f_Node_hearReady_41 T p0 p1 p2 p3 q1.1 q3.1 q3.2
  else
  (f_Node_sendReadyOnce p0 p1 p2 p3 T q3.2).bind fun q7 =>
  f_Node_hearReady_41 T p0 p1 p2 p3 q1.1 q3.1 q7 else none else none else none else none
set_option maxHeartbeats 4000000 in
theorem w_Node_hearReady {K : er_K} {l : Launch} {X : er_X} (cx : er_Cx K l X b_Node_hearReady "EchoedRounds$Node" 6 rm_Node_hearReady) {r : er_Me} {p0 p1 p2 p3 : Int} {T M : er_Me} (rt : er_Rt K X b_Node_hearReady (none) 0 0 none T r) (h : f_Node_hearReady p0 p1 p2 p3 T M = some r) : er_G K 0 0 T M 0 [(0, .inr p0), (1, .inl p1), (2, .inl p2), (3, .inl p3)] [] := by
  unfold f_Node_hearReady at h
  refine er_iload_n cx d_Node_hearReady_0 1 rfl ?_
  refine er_iload_n cx d_Node_hearReady_1 2 rfl ?_
  obtain ⟨q1, e1, h⟩ := er_bd h
  refine er_callS (As := [.inl p1, .inl p2]) (st := []) cx (c_ER_cellOf e1) my_Node_83 ⟨by decide, by decide⟩ rfl (Nat.le_of_ble_eq_true rfl) d_Node_hearReady_2 ⟨Nat.zero_le _, Nat.zero_le _⟩ rfl ?_
  refine er_istore cx d_Node_hearReady_5 (by decide) rfl ?_
  refine er_aload_n cx d_Node_hearReady_7 1 rfl ?_
  obtain ⟨c2, h⟩ := er_ck h
  refine er_getr cx d_Node_hearReady_8 fd_Node_21 c2.1 c2.2 ?_
  refine er_iconst (v := 2) cx d_Node_hearReady_11 rfl (by decide) ?_
  refine er_iload cx d_Node_hearReady_12 0 rfl ?_
  refine er_iload_n cx d_Node_hearReady_14 4 rfl ?_
  obtain ⟨c3, h⟩ := er_ck h
  obtain ⟨q3, e3, h⟩ := er_bd h
  refine er_callV (b := T p0 3) (As := [.inl 2, .inl q1.1, .inl p3]) (st := []) cx (c_Tally_count e3) my_Node_98 c3 ⟨by decide, by decide⟩ rfl (Nat.le_of_ble_eq_true rfl) d_Node_hearReady_15 ⟨Nat.zero_le _, Nat.zero_le _⟩ rfl ?_
  refine er_istore cx d_Node_hearReady_18 (by decide) rfl ?_
  refine er_iload cx d_Node_hearReady_20 0 rfl ?_
  refine er_aload_n cx d_Node_hearReady_22 2 rfl ?_
  obtain ⟨c4, h⟩ := er_ck h
  refine er_getr cx d_Node_hearReady_23 fd_Node_62 c2.1 c4 ?_
  obtain ⟨c5, h⟩ := er_ck h
  refine er_geti cx d_Node_hearReady_26 fd_Node_110 c5 ?_
  refine er_iconst (v := 1) cx d_Node_hearReady_29 rfl (by decide) ?_
  refine er_iadd cx d_Node_hearReady_30 ?_
  refine er_ic_lt (tgt := 41) cx d_Node_hearReady_31 (by decide) (fun b6 => ?_) (fun b6 => ?_)
  · have h := er_ift h b6
    refine er_sb cx [2, 3, 4, 5, 1, 0] rfl ?_
    exact w_Node_hearReady_41 cx rt _ _ _ _ _ _ _ h
  · have h := er_iff h b6
    refine er_aload_n cx d_Node_hearReady_34 2 rfl ?_
    refine er_iload_n cx d_Node_hearReady_35 3 rfl ?_
    refine er_iload_n cx d_Node_hearReady_36 4 rfl ?_
    refine er_iload_n cx d_Node_hearReady_37 5 rfl ?_
    obtain ⟨q7, e7, h⟩ := er_bd h
    refine er_callV (b := p0) (As := [.inl p1, .inl p2, .inl p3]) (st := []) cx (c_Node_sendReadyOnce e7) my_Node_107 c2.1 ⟨by decide, by decide⟩ rfl (Nat.le_of_ble_eq_true rfl) d_Node_hearReady_38 ⟨Nat.zero_le _, Nat.zero_le _⟩ rfl ?_
    refine er_sb cx [2, 3, 4, 5, 1, 0] rfl ?_
    exact w_Node_hearReady_41 cx rt _ _ _ _ _ _ _ h
theorem c_Node_hearReady {l : Launch} {X : er_X} {r : er_Me} {p0 p1 p2 p3 : Int} {T M : er_Me} (h : f_Node_hearReady p0 p1 p2 p3 T M = some r) (hok : ∀ v ∈ ([.inr p0, .inl p1, .inl p2, .inl p3] : List er_V), er_ok v) : er_Ct l X y_Node_hearReady b_Node_hearReady 6 (none) rm_Node_hearReady [.inr p0, .inl p1, .inl p2, .inl p3] T M none T r :=
  er_ct rfl rfl (Nat.le_of_ble_eq_true rfl) hok (fun K cx rt hin => w_Node_hearReady cx rt h)
/-! Node_endRound -/
abbrev rm_Node_endRound : Room := { frames := 2, cells := 0, slots := 0, locals := 47 }
def f_Node_endRound (p0 p1 p2 : Int) (T M : er_Me) : Option (Int × er_Me) :=
  if T p0 (-2) = 3 ∧ 0 < T p0 1 then
  if T (T p0 1) (-2) = 2 then
  (f_Rules_heldFirm (T p0 1) p2 (er_add (er_mul 2 (M (T p0 1) 1)) 1) T M).bind fun q4 =>
  if q4.1 = (-1) then
  (f_Rules_heldFirm (T p0 1) p2 (er_add (q4.2 (T p0 1) 1) 1) T q4.2).bind fun q9 =>
  if q9.1 = (-1) then
  some (er_and (er_shr (q9.2 p0 9) p1) 1, q9.2)
  else
  some (q9.1, q9.2)
  else
  if q4.2 p0 12 = (-1) then
  er_le (er_up q4.2 p0 12 q4.1) fun M17 =>
  some (q4.1, M17)
  else
  some (q4.1, q4.2) else none else none
set_option maxHeartbeats 4000000 in
theorem w_Node_endRound {K : er_K} {l : Launch} {X : er_X} (cx : er_Cx K l X b_Node_endRound "EchoedRounds$Node" 5 rm_Node_endRound) {r : Int × er_Me} {p0 p1 p2 : Int} {T M : er_Me} (rt : er_Rt K X b_Node_endRound (some .int) 0 0 (some (.inl r.1)) T r.2) (h : f_Node_endRound p0 p1 p2 T M = some r) : er_G K 0 0 T M 0 [(0, .inr p0), (1, .inl p1), (2, .inr p2)] [] := by
  unfold f_Node_endRound at h
  refine er_aload_n cx d_Node_endRound_0 0 rfl ?_
  obtain ⟨c1, h⟩ := er_ck h
  refine er_getr cx d_Node_endRound_1 fd_Node_62 c1.1 c1.2 ?_
  refine er_aload_n cx d_Node_endRound_4 2 rfl ?_
  refine er_iconst (v := 2) cx d_Node_endRound_5 rfl (by decide) ?_
  refine er_aload_n cx d_Node_endRound_6 0 rfl ?_
  refine er_getr cx d_Node_endRound_7 fd_Node_62 c1.1 c1.2 ?_
  obtain ⟨c3, h⟩ := er_ck h
  refine er_geti cx d_Node_endRound_10 fd_Node_110 c3 ?_
  refine er_imul cx d_Node_endRound_13 ?_
  refine er_iconst (v := 1) cx d_Node_endRound_14 rfl (by decide) ?_
  refine er_iadd cx d_Node_endRound_15 ?_
  obtain ⟨q4, e4, h⟩ := er_bd h
  refine er_callV (b := T p0 1) (As := [.inr p2, .inl (er_add (er_mul 2 (M (T p0 1) 1)) 1)]) (st := []) cx (c_Rules_heldFirm e4) my_Node_168 c3 ⟨by decide, by decide⟩ rfl (Nat.le_of_ble_eq_true rfl) d_Node_endRound_16 ⟨Nat.zero_le _, Nat.zero_le _⟩ rfl ?_
  refine er_istore_n cx d_Node_endRound_19 rfl (by decide) rfl ?_
  refine er_iload_n cx d_Node_endRound_20 0 rfl ?_
  refine er_iconst (v := -1) cx d_Node_endRound_21 rfl (by decide) ?_
  refine er_ic_eq (tgt := 40) cx d_Node_endRound_22 (by decide) (fun b5 => ?_) (fun b5 => ?_)
  · have h := er_ift h b5
    refine er_aload_n cx d_Node_endRound_40 1 rfl ?_
    refine er_getr cx d_Node_endRound_41 fd_Node_62 c1.1 c1.2 ?_
    refine er_aload_n cx d_Node_endRound_44 3 rfl ?_
    refine er_aload_n cx d_Node_endRound_45 1 rfl ?_
    refine er_getr cx d_Node_endRound_46 fd_Node_62 c1.1 c1.2 ?_
    refine er_geti cx d_Node_endRound_49 fd_Node_110 c3 ?_
    refine er_iconst (v := 1) cx d_Node_endRound_52 rfl (by decide) ?_
    refine er_iadd cx d_Node_endRound_53 ?_
    obtain ⟨q9, e9, h⟩ := er_bd h
    refine er_callV (b := T p0 1) (As := [.inr p2, .inl (er_add (q4.2 (T p0 1) 1) 1)]) (st := []) cx (c_Rules_heldFirm e9) my_Node_168 c3 ⟨by decide, by decide⟩ rfl (Nat.le_of_ble_eq_true rfl) d_Node_endRound_54 ⟨Nat.zero_le _, Nat.zero_le _⟩ rfl ?_
    refine er_istore cx d_Node_endRound_57 (by decide) rfl ?_
    refine er_iload cx d_Node_endRound_59 0 rfl ?_
    refine er_iconst (v := -1) cx d_Node_endRound_61 rfl (by decide) ?_
    refine er_ic_eq (tgt := 70) cx d_Node_endRound_62 (by decide) (fun b10 => ?_) (fun b10 => ?_)
    · have h := er_ift h b10
      refine er_aload_n cx d_Node_endRound_70 2 rfl ?_
      refine er_geti cx d_Node_endRound_71 fd_Node_46 c1.1 ?_
      refine er_iload_n cx d_Node_endRound_74 3 rfl ?_
      refine er_ishr cx d_Node_endRound_75 ?_
      refine er_iconst (v := 1) cx d_Node_endRound_76 rfl (by decide) ?_
      refine er_iand cx d_Node_endRound_77 ?_
      obtain rfl := Option.some.inj h
      exact er_iret rt (Or.inl rfl) d_Node_endRound_78 (by decide) (by decide) ⟨rfl, rfl, rfl⟩
    · have h := er_iff h b10
      refine er_iload cx d_Node_endRound_65 0 rfl ?_
      refine er_goto (tgt := 78) cx d_Node_endRound_67 (by decide) ?_
      obtain rfl := Option.some.inj h
      exact er_iret rt (Or.inl rfl) d_Node_endRound_78 (by decide) (by decide) ⟨rfl, rfl, rfl⟩
  · have h := er_iff h b5
    refine er_aload_n cx d_Node_endRound_25 1 rfl ?_
    refine er_geti cx d_Node_endRound_26 fd_Node_56 c1.1 ?_
    refine er_iconst (v := -1) cx d_Node_endRound_29 rfl (by decide) ?_
    refine er_ic_ne (tgt := 38) cx d_Node_endRound_30 (by decide) (fun b15 => ?_) (fun b15 => ?_)
    · have h := er_iff h b15
      refine er_iload_n cx d_Node_endRound_38 0 rfl ?_
      obtain rfl := Option.some.inj h
      exact er_iret rt (Or.inl rfl) d_Node_endRound_39 (by decide) (by decide) ⟨rfl, rfl, rfl⟩
    · have h := er_ift h b15
      refine er_aload_n cx d_Node_endRound_33 1 rfl ?_
      refine er_iload_n cx d_Node_endRound_34 0 rfl ?_
      obtain ⟨M17, e17, h⟩ := er_lel h
      refine er_puti cx d_Node_endRound_35 fd_Node_56 c1.1 (fun q => by cases q) e17 ?_
      refine er_iload_n cx d_Node_endRound_38 0 rfl ?_
      obtain rfl := Option.some.inj h
      exact er_iret rt (Or.inl rfl) d_Node_endRound_39 (by decide) (by decide) ⟨rfl, rfl, rfl⟩
theorem c_Node_endRound {l : Launch} {X : er_X} {r : Int × er_Me} {p0 p1 p2 : Int} {T M : er_Me} (h : f_Node_endRound p0 p1 p2 T M = some r) (hok : ∀ v ∈ ([.inr p0, .inl p1, .inr p2] : List er_V), er_ok v) : er_Ct l X y_Node_endRound b_Node_endRound 5 (some .int) rm_Node_endRound [.inr p0, .inl p1, .inr p2] T M (some (.inl r.1)) T r.2 :=
  er_ct rfl rfl (Nat.le_of_ble_eq_true rfl) hok (fun K cx rt hin => w_Node_endRound cx rt h)
/-! Node_hear -/
abbrev rm_Node_hear : Room := { frames := 3, cells := 0, slots := 0, locals := 72 }
def f_Node_hear_43 (T : er_Me) (v0 v1 v2 v3 v4 v5 v6 : Int) (M : er_Me) : Option (Int × er_Me) :=
  if T v0 (-2) = 3 ∧ 0 < T v0 3 then
  (f_ER_cellOf v3 v4 T M).bind fun q2 =>
  if T (T v0 3) (-2) = 5 then
  (f_Tally_countIn (T v0 3) v1 v5 q2.1 v6 T q2.2).bind fun q3 =>
  if q3.1 = 0 then
  some (0, q3.2)
  else
  if v5 = 0 then
  if 0 < T v0 2 then
  (f_ER_codeOf 1 v3 v4 v6 T q3.2).bind fun q12 =>
  if T (T v0 2) (-2) = 4 then
  (f_Log_append (T v0 2) q12.1 T q12.2).bind fun q13 =>
  some (1, q13) else none else none
  else
  if v5 = 1 then
  (f_Node_hearEcho v0 v3 v4 v6 T q3.2).bind fun q9 =>
  some (1, q9)
  else
  (f_Node_hearReady v0 v3 v4 v6 T q3.2).bind fun q7 =>
  some (1, q7) else none else none
set_option maxHeartbeats 4000000 in
theorem w_Node_hear_43 {K : er_K} {l : Launch} {X : er_X} (cx : er_Cx K l X b_Node_hear "EchoedRounds$Node" 7 rm_Node_hear) {r : Int × er_Me} {T : er_Me} (rt : er_Rt K X b_Node_hear (some .boolean) 0 0 (some (.inl r.1)) T r.2) : ∀ (v0 v1 v2 v3 v4 v5 v6 : Int) (M : er_Me), f_Node_hear_43 T v0 v1 v2 v3 v4 v5 v6 M = some r → er_G K 0 0 T M 43 [(0, .inr v0), (1, .inl v1), (2, .inl v2), (3, .inl v3), (4, .inl v4), (5, .inl v5), (6, .inl v6)] [] := by
  intro v0 v1 v2 v3 v4 v5 v6 M h
  unfold f_Node_hear_43 at h
  refine er_aload_n cx d_Node_hear_43 0 rfl ?_
  obtain ⟨c1, h⟩ := er_ck h
  refine er_getr cx d_Node_hear_44 fd_Node_21 c1.1 c1.2 ?_
  refine er_iload_n cx d_Node_hear_47 1 rfl ?_
  refine er_iload cx d_Node_hear_48 5 rfl ?_
  refine er_iload_n cx d_Node_hear_50 3 rfl ?_
  refine er_iload cx d_Node_hear_51 4 rfl ?_
  obtain ⟨q2, e2, h⟩ := er_bd h
  refine er_callS (As := [.inl v3, .inl v4]) (st := [.inl v5, .inl v1, .inr (T v0 3)]) cx (c_ER_cellOf e2) my_Node_83 ⟨by decide, by decide⟩ rfl (Nat.le_of_ble_eq_true rfl) d_Node_hear_53 ⟨Nat.zero_le _, Nat.zero_le _⟩ rfl ?_
  refine er_iload cx d_Node_hear_56 6 rfl ?_
  obtain ⟨c3, h⟩ := er_ck h
  obtain ⟨q3, e3, h⟩ := er_bd h
  refine er_callV (b := T v0 3) (As := [.inl v1, .inl v5, .inl q2.1, .inl v6]) (st := []) cx (c_Tally_countIn e3) my_Node_87 c3 ⟨by decide, by decide⟩ rfl (Nat.le_of_ble_eq_true rfl) d_Node_hear_58 ⟨Nat.zero_le _, Nat.zero_le _⟩ rfl ?_
  refine er_if_ne (tgt := 66) cx d_Node_hear_61 (by decide) (fun b4 => ?_) (fun b4 => ?_)
  · have h := er_iff h b4
    refine er_iload cx d_Node_hear_66 5 rfl ?_
    refine er_if_ne (tgt := 90) cx d_Node_hear_68 (by decide) (fun b5 => ?_) (fun b5 => ?_)
    · have h := er_iff h b5
      refine er_iload cx d_Node_hear_90 5 rfl ?_
      refine er_iconst (v := 1) cx d_Node_hear_92 rfl (by decide) ?_
      refine er_ic_ne (tgt := 108) cx d_Node_hear_93 (by decide) (fun b6 => ?_) (fun b6 => ?_)
      · have h := er_iff h b6
        refine er_aload_n cx d_Node_hear_108 0 rfl ?_
        refine er_iload_n cx d_Node_hear_109 3 rfl ?_
        refine er_iload cx d_Node_hear_110 4 rfl ?_
        refine er_iload cx d_Node_hear_112 6 rfl ?_
        obtain ⟨q7, e7, h⟩ := er_bd h
        refine er_callV (b := v0) (As := [.inl v3, .inl v4, .inl v6]) (st := []) cx (c_Node_hearReady e7) my_Node_95 c1.1 ⟨by decide, by decide⟩ rfl (Nat.le_of_ble_eq_true rfl) d_Node_hear_114 ⟨Nat.zero_le _, Nat.zero_le _⟩ rfl ?_
        refine er_iconst (v := 1) cx d_Node_hear_117 rfl (by decide) ?_
        obtain rfl := Option.some.inj h
        exact er_iret rt (Or.inr ⟨rfl, Or.inr rfl⟩) d_Node_hear_118 (by decide) (by decide) ⟨rfl, rfl, rfl⟩
      · have h := er_ift h b6
        refine er_aload_n cx d_Node_hear_96 0 rfl ?_
        refine er_iload_n cx d_Node_hear_97 3 rfl ?_
        refine er_iload cx d_Node_hear_98 4 rfl ?_
        refine er_iload cx d_Node_hear_100 6 rfl ?_
        obtain ⟨q9, e9, h⟩ := er_bd h
        refine er_callV (b := v0) (As := [.inl v3, .inl v4, .inl v6]) (st := []) cx (c_Node_hearEcho e9) my_Node_91 c1.1 ⟨by decide, by decide⟩ rfl (Nat.le_of_ble_eq_true rfl) d_Node_hear_102 ⟨Nat.zero_le _, Nat.zero_le _⟩ rfl ?_
        refine er_goto (tgt := 117) cx d_Node_hear_105 (by decide) ?_
        refine er_iconst (v := 1) cx d_Node_hear_117 rfl (by decide) ?_
        obtain rfl := Option.some.inj h
        exact er_iret rt (Or.inr ⟨rfl, Or.inr rfl⟩) d_Node_hear_118 (by decide) (by decide) ⟨rfl, rfl, rfl⟩
    · have h := er_ift h b5
      refine er_aload_n cx d_Node_hear_71 0 rfl ?_
      obtain ⟨c11, h⟩ := er_ck h
      refine er_getr cx d_Node_hear_72 fd_Node_12 c1.1 c11 ?_
      refine er_iconst (v := 1) cx d_Node_hear_75 rfl (by decide) ?_
      refine er_iload_n cx d_Node_hear_76 3 rfl ?_
      refine er_iload cx d_Node_hear_77 4 rfl ?_
      refine er_iload cx d_Node_hear_79 6 rfl ?_
      obtain ⟨q12, e12, h⟩ := er_bd h
      refine er_callS (As := [.inl 1, .inl v3, .inl v4, .inl v6]) (st := [.inr (T v0 2)]) cx (c_ER_codeOf e12) my_Node_67 ⟨by decide, by decide⟩ rfl (Nat.le_of_ble_eq_true rfl) d_Node_hear_81 ⟨Nat.zero_le _, Nat.zero_le _⟩ rfl ?_
      obtain ⟨c13, h⟩ := er_ck h
      obtain ⟨q13, e13, h⟩ := er_bd h
      refine er_callV (b := T v0 2) (As := [.inl q12.1]) (st := []) cx (c_Log_append e13) my_Node_71 c13 ⟨by decide, by decide⟩ rfl (Nat.le_of_ble_eq_true rfl) d_Node_hear_84 ⟨Nat.zero_le _, Nat.zero_le _⟩ rfl ?_
      refine er_goto (tgt := 117) cx d_Node_hear_87 (by decide) ?_
      refine er_iconst (v := 1) cx d_Node_hear_117 rfl (by decide) ?_
      obtain rfl := Option.some.inj h
      exact er_iret rt (Or.inr ⟨rfl, Or.inr rfl⟩) d_Node_hear_118 (by decide) (by decide) ⟨rfl, rfl, rfl⟩
  · have h := er_ift h b4
    refine er_iconst (v := 0) cx d_Node_hear_64 rfl (by decide) ?_
    obtain rfl := Option.some.inj h
    exact er_iret rt (Or.inr ⟨rfl, Or.inl rfl⟩) d_Node_hear_65 (by decide) (by decide) ⟨rfl, rfl, rfl⟩
def f_Node_hear (p0 p1 p2 : Int) (T M : er_Me) : Option (Int × er_Me) :=
  er_le (er_div p2 1000) fun x1 =>
  er_le (er_rem (er_div p2 100) 10) fun x2 =>
  er_le (er_rem (er_div p2 10) 10) fun x3 =>
  if x3 = 0 then
  if x2 = p1 then
  f_Node_hear_43 T p0 p1 p2 x1 x2 x3 (er_rem p2 10) M
  else
  some (0, M)
  else
  f_Node_hear_43 T p0 p1 p2 x1 x2 x3 (er_rem p2 10) M
set_option maxHeartbeats 4000000 in
theorem w_Node_hear {K : er_K} {l : Launch} {X : er_X} (cx : er_Cx K l X b_Node_hear "EchoedRounds$Node" 7 rm_Node_hear) {r : Int × er_Me} {p0 p1 p2 : Int} {T M : er_Me} (rt : er_Rt K X b_Node_hear (some .boolean) 0 0 (some (.inl r.1)) T r.2) (h : f_Node_hear p0 p1 p2 T M = some r) : er_G K 0 0 T M 0 [(0, .inr p0), (1, .inl p1), (2, .inl p2)] [] := by
  unfold f_Node_hear at h
  refine er_iload_n cx d_Node_hear_0 2 rfl ?_
  refine er_sipush (v := 1000) cx d_Node_hear_1 (by decide +kernel) (by decide) ?_
  refine er_idiv cx d_Node_hear_4 (by decide) ?_
  obtain ⟨x1, e1, h⟩ := er_lel h
  refine er_nm e1 ?_
  refine er_istore_n cx d_Node_hear_5 rfl (by decide) rfl ?_
  refine er_iload_n cx d_Node_hear_6 3 rfl ?_
  refine er_bipush (v := 100) cx d_Node_hear_7 (by decide +kernel) (by decide) ?_
  refine er_idiv cx d_Node_hear_9 (by decide) ?_
  refine er_bipush (v := 10) cx d_Node_hear_10 (by decide +kernel) (by decide) ?_
  refine er_irem cx d_Node_hear_12 (by decide) ?_
  obtain ⟨x2, e2, h⟩ := er_lel h
  refine er_nm e2 ?_
  refine er_istore cx d_Node_hear_13 (by decide) rfl ?_
  refine er_iload_n cx d_Node_hear_15 4 rfl ?_
  refine er_bipush (v := 10) cx d_Node_hear_16 (by decide +kernel) (by decide) ?_
  refine er_idiv cx d_Node_hear_18 (by decide) ?_
  refine er_bipush (v := 10) cx d_Node_hear_19 (by decide +kernel) (by decide) ?_
  refine er_irem cx d_Node_hear_21 (by decide) ?_
  obtain ⟨x3, e3, h⟩ := er_lel h
  refine er_nm e3 ?_
  refine er_istore cx d_Node_hear_22 (by decide) rfl ?_
  refine er_iload_n cx d_Node_hear_24 5 rfl ?_
  refine er_bipush (v := 10) cx d_Node_hear_25 (by decide +kernel) (by decide) ?_
  refine er_irem cx d_Node_hear_27 (by decide) ?_
  refine er_istore cx d_Node_hear_28 (by decide) rfl ?_
  refine er_iload cx d_Node_hear_30 1 rfl ?_
  refine er_if_ne (tgt := 43) cx d_Node_hear_32 (by decide) (fun b4 => ?_) (fun b4 => ?_)
  · have h := er_iff h b4
    refine er_sb cx [4, 5, 6, 3, 2, 1, 0] rfl ?_
    exact w_Node_hear_43 cx rt _ _ _ _ _ _ _ _ h
  · have h := er_ift h b4
    refine er_iload cx d_Node_hear_35 2 rfl ?_
    refine er_iload_n cx d_Node_hear_37 5 rfl ?_
    refine er_ic_eq (tgt := 43) cx d_Node_hear_38 (by decide) (fun b5 => ?_) (fun b5 => ?_)
    · have h := er_ift h b5
      refine er_sb cx [4, 5, 6, 3, 2, 1, 0] rfl ?_
      exact w_Node_hear_43 cx rt _ _ _ _ _ _ _ _ h
    · have h := er_iff h b5
      refine er_iconst (v := 0) cx d_Node_hear_41 rfl (by decide) ?_
      obtain rfl := Option.some.inj h
      exact er_iret rt (Or.inr ⟨rfl, Or.inl rfl⟩) d_Node_hear_42 (by decide) (by decide) ⟨rfl, rfl, rfl⟩
theorem c_Node_hear {l : Launch} {X : er_X} {r : Int × er_Me} {p0 p1 p2 : Int} {T M : er_Me} (h : f_Node_hear p0 p1 p2 T M = some r) (hok : ∀ v ∈ ([.inr p0, .inl p1, .inl p2] : List er_V), er_ok v) : er_Ct l X y_Node_hear b_Node_hear 7 (some .boolean) rm_Node_hear [.inr p0, .inl p1, .inl p2] T M (some (.inl r.1)) T r.2 :=
  er_ct rfl rfl (Nat.le_of_ble_eq_true rfl) hok (fun K cx rt hin => w_Node_hear cx rt h)
/-! Node_canBecomeValid -/
abbrev rm_Node_canBecomeValid : Room := { frames := 4, cells := 0, slots := 0, locals := 91 }
def f_Node_canBecomeValid (p0 p1 p2 : Int) (T M : er_Me) : Option (Int × er_Me) :=
  if T p0 (-2) = 3 ∧ 0 < T p0 6 then
  (f_ER_cellOf p1 p2 T M).bind fun q2 =>
  if T (T p0 6) (-2) = 101 ∧ 0 ≤ q2.1 ∧ q2.1 < T (T p0 6) (-1) then
  er_le (q2.2 (T p0 6) q2.1) fun x4 =>
  if x4 = (-1) then
  some (0, q2.2)
  else
  if 0 < T p0 7 then
  if T (T p0 7) (-2) = 104 ∧ 0 ≤ p1 ∧ p1 < T (T p0 7) (-1) ∧ 0 < T (T p0 7) p1 then
  if T (T (T p0 7) p1) (-2) = 6 then
  (f_Row_holds (T (T p0 7) p1) p2 T q2.2).bind fun q9 =>
  if q9.1 = 0 then
  if p1 = 0 then
  (f_ER_isPlain x4 T q9.2).bind fun q17 =>
  if q17.1 = 0 ∨ q17.1 = 1 then some (q17.1, q17.2) else none
  else
  if 0 < T p0 1 then
  if 0 ≤ er_sub p1 1 ∧ er_sub p1 1 < T (T p0 7) (-1) ∧ 0 < T (T p0 7) (er_sub p1 1) then
  if T (T p0 1) (-2) = 2 then
  (f_Rules_follows (T p0 1) p1 p2 x4 (T (T p0 7) (er_sub p1 1)) T q9.2).bind fun q15 =>
  if q15.1 = 0 ∨ q15.1 = 1 then some (q15.1, q15.2) else none else none else none else none
  else
  some (0, q9.2) else none else none else none else none else none
set_option maxHeartbeats 4000000 in
theorem w_Node_canBecomeValid {K : er_K} {l : Launch} {X : er_X} (cx : er_Cx K l X b_Node_canBecomeValid "EchoedRounds$Node" 4 rm_Node_canBecomeValid) {r : Int × er_Me} {p0 p1 p2 : Int} {T M : er_Me} (rt : er_Rt K X b_Node_canBecomeValid (some .boolean) 0 0 (some (.inl r.1)) T r.2) (h : f_Node_canBecomeValid p0 p1 p2 T M = some r) : er_G K 0 0 T M 0 [(0, .inr p0), (1, .inl p1), (2, .inl p2)] [] := by
  unfold f_Node_canBecomeValid at h
  refine er_aload_n cx d_Node_canBecomeValid_0 0 rfl ?_
  obtain ⟨c1, h⟩ := er_ck h
  refine er_getr cx d_Node_canBecomeValid_1 fd_Node_33 c1.1 c1.2 ?_
  refine er_iload_n cx d_Node_canBecomeValid_4 1 rfl ?_
  refine er_iload_n cx d_Node_canBecomeValid_5 2 rfl ?_
  obtain ⟨q2, e2, h⟩ := er_bd h
  refine er_callS (As := [.inl p1, .inl p2]) (st := [.inr (T p0 6)]) cx (c_ER_cellOf e2) my_Node_83 ⟨by decide, by decide⟩ rfl (Nat.le_of_ble_eq_true rfl) d_Node_canBecomeValid_6 ⟨Nat.zero_le _, Nat.zero_le _⟩ rfl ?_
  obtain ⟨c3, h⟩ := er_ck h
  refine er_iald cx d_Node_canBecomeValid_9 c3.1 c3.2.1 c3.2.2 ?_
  obtain ⟨x4, e4, h⟩ := er_lel h
  refine er_nm e4 ?_
  refine er_istore_n cx d_Node_canBecomeValid_10 rfl (by decide) rfl ?_
  refine er_iload_n cx d_Node_canBecomeValid_11 0 rfl ?_
  refine er_iconst (v := -1) cx d_Node_canBecomeValid_12 rfl (by decide) ?_
  refine er_ic_eq (tgt := 29) cx d_Node_canBecomeValid_13 (by decide) (fun b5 => ?_) (fun b5 => ?_)
  · have h := er_ift h b5
    refine er_iconst (v := 0) cx d_Node_canBecomeValid_29 rfl (by decide) ?_
    obtain rfl := Option.some.inj h
    exact er_iret rt (Or.inr ⟨rfl, Or.inl rfl⟩) d_Node_canBecomeValid_30 (by decide) (by decide) ⟨rfl, rfl, rfl⟩
  · have h := er_iff h b5
    refine er_aload_n cx d_Node_canBecomeValid_16 1 rfl ?_
    obtain ⟨c7, h⟩ := er_ck h
    refine er_getr cx d_Node_canBecomeValid_17 fd_Node_38 c1.1 c7 ?_
    refine er_iload_n cx d_Node_canBecomeValid_20 2 rfl ?_
    obtain ⟨c8, h⟩ := er_ck h
    refine er_aald cx d_Node_canBecomeValid_21 c8.1 (by decide) c8.2.1 c8.2.2.1 c8.2.2.2 ?_
    refine er_iload_n cx d_Node_canBecomeValid_22 3 rfl ?_
    obtain ⟨c9, h⟩ := er_ck h
    obtain ⟨q9, e9, h⟩ := er_bd h
    refine er_callV (b := T (T p0 7) p1) (As := [.inl p2]) (st := []) cx (c_Row_holds e9) my_Node_132 c9 ⟨by decide, by decide⟩ rfl (Nat.le_of_ble_eq_true rfl) d_Node_canBecomeValid_23 ⟨Nat.zero_le _, Nat.zero_le _⟩ rfl ?_
    refine er_if_eq (tgt := 31) cx d_Node_canBecomeValid_26 (by decide) (fun b10 => ?_) (fun b10 => ?_)
    · have h := er_ift h b10
      refine er_iload_n cx d_Node_canBecomeValid_31 2 rfl ?_
      refine er_if_ne (tgt := 42) cx d_Node_canBecomeValid_32 (by decide) (fun b11 => ?_) (fun b11 => ?_)
      · have h := er_iff h b11
        refine er_aload_n cx d_Node_canBecomeValid_42 1 rfl ?_
        obtain ⟨c12, h⟩ := er_ck h
        refine er_getr cx d_Node_canBecomeValid_43 fd_Node_62 c1.1 c12 ?_
        refine er_iload_n cx d_Node_canBecomeValid_46 2 rfl ?_
        refine er_iload_n cx d_Node_canBecomeValid_47 3 rfl ?_
        refine er_iload_n cx d_Node_canBecomeValid_48 0 rfl ?_
        refine er_aload_n cx d_Node_canBecomeValid_49 1 rfl ?_
        refine er_getr cx d_Node_canBecomeValid_50 fd_Node_38 c1.1 c7 ?_
        refine er_iload_n cx d_Node_canBecomeValid_53 2 rfl ?_
        refine er_iconst (v := 1) cx d_Node_canBecomeValid_54 rfl (by decide) ?_
        refine er_isub cx d_Node_canBecomeValid_55 ?_
        obtain ⟨c14, h⟩ := er_ck h
        refine er_aald cx d_Node_canBecomeValid_56 c8.1 (by decide) c14.1 c14.2.1 c14.2.2 ?_
        obtain ⟨c15, h⟩ := er_ck h
        obtain ⟨q15, e15, h⟩ := er_bd h
        refine er_callV (b := T p0 1) (As := [.inl p1, .inl p2, .inl x4, .inr (T (T p0 7) (er_sub p1 1))]) (st := []) cx (c_Rules_follows e15) my_Node_139 c15 ⟨by decide, by decide⟩ rfl (Nat.le_of_ble_eq_true rfl) d_Node_canBecomeValid_57 ⟨Nat.zero_le _, Nat.zero_le _⟩ rfl ?_
        obtain ⟨c16, h⟩ := er_ck h
        obtain rfl := Option.some.inj h
        exact er_iret rt (Or.inr ⟨rfl, c16⟩) d_Node_canBecomeValid_60 (by decide) (by decide) ⟨rfl, rfl, rfl⟩
      · have h := er_ift h b11
        refine er_iload_n cx d_Node_canBecomeValid_35 0 rfl ?_
        obtain ⟨q17, e17, h⟩ := er_bd h
        refine er_callS (As := [.inl x4]) (st := []) cx (c_ER_isPlain e17) my_Node_136 ⟨by decide, by decide⟩ rfl (Nat.le_of_ble_eq_true rfl) d_Node_canBecomeValid_36 ⟨Nat.zero_le _, Nat.zero_le _⟩ rfl ?_
        refine er_goto (tgt := 60) cx d_Node_canBecomeValid_39 (by decide) ?_
        obtain ⟨c18, h⟩ := er_ck h
        obtain rfl := Option.some.inj h
        exact er_iret rt (Or.inr ⟨rfl, c18⟩) d_Node_canBecomeValid_60 (by decide) (by decide) ⟨rfl, rfl, rfl⟩
    · have h := er_iff h b10
      refine er_iconst (v := 0) cx d_Node_canBecomeValid_29 rfl (by decide) ?_
      obtain rfl := Option.some.inj h
      exact er_iret rt (Or.inr ⟨rfl, Or.inl rfl⟩) d_Node_canBecomeValid_30 (by decide) (by decide) ⟨rfl, rfl, rfl⟩
theorem c_Node_canBecomeValid {l : Launch} {X : er_X} {r : Int × er_Me} {p0 p1 p2 : Int} {T M : er_Me} (h : f_Node_canBecomeValid p0 p1 p2 T M = some r) (hok : ∀ v ∈ ([.inr p0, .inl p1, .inl p2] : List er_V), er_ok v) : er_Ct l X y_Node_canBecomeValid b_Node_canBecomeValid 4 (some .boolean) rm_Node_canBecomeValid [.inr p0, .inl p1, .inl p2] T M (some (.inl r.1)) T r.2 :=
  er_ct rfl rfl (Nat.le_of_ble_eq_true rfl) hok (fun K cx rt hin => w_Node_canBecomeValid cx rt h)
/-! Node_valueAfter -/
abbrev rm_Node_valueAfter : Room := { frames := 3, cells := 0, slots := 0, locals := 71 }
def f_Node_valueAfter (p0 p1 : Int) (T M : er_Me) : Option (Int × er_Me) :=
  if T p0 (-2) = 3 ∧ 0 < T p0 7 then
  if T (T p0 7) (-2) = 104 ∧ 0 ≤ p1 ∧ p1 < T (T p0 7) (-1) ∧ 0 < T (T p0 7) p1 then
  if er_rem p1 3 = 0 then
  if 0 < T p0 1 then
  if T (T p0 1) (-2) = 2 then
  (f_Rules_prevailing (T p0 1) (T (T p0 7) p1) T M).bind fun q12 =>
  some (q12.1, q12.2) else none else none
  else
  if er_rem p1 3 = 1 then
  if 0 < T p0 1 then
  if T (T p0 1) (-2) = 2 then
  (f_Rules_firmOr (T p0 1) (T (T p0 7) p1) (M p0 11) T M).bind fun q9 =>
  some (q9.1, q9.2) else none else none
  else
  (f_Node_endRound p0 (er_div p1 3) (T (T p0 7) p1) T M).bind fun q5 =>
  some (q5.1, q5.2) else none else none
set_option maxHeartbeats 4000000 in
theorem w_Node_valueAfter {K : er_K} {l : Launch} {X : er_X} (cx : er_Cx K l X b_Node_valueAfter "EchoedRounds$Node" 4 rm_Node_valueAfter) {r : Int × er_Me} {p0 p1 : Int} {T M : er_Me} (rt : er_Rt K X b_Node_valueAfter (some .int) 0 0 (some (.inl r.1)) T r.2) (h : f_Node_valueAfter p0 p1 T M = some r) : er_G K 0 0 T M 0 [(0, .inr p0), (1, .inl p1)] [] := by
  unfold f_Node_valueAfter at h
  refine er_aload_n cx d_Node_valueAfter_0 0 rfl ?_
  obtain ⟨c1, h⟩ := er_ck h
  refine er_getr cx d_Node_valueAfter_1 fd_Node_38 c1.1 c1.2 ?_
  refine er_iload_n cx d_Node_valueAfter_4 1 rfl ?_
  obtain ⟨c2, h⟩ := er_ck h
  refine er_aald cx d_Node_valueAfter_5 c2.1 (by decide) c2.2.1 c2.2.2.1 c2.2.2.2 ?_
  refine er_astore_n cx d_Node_valueAfter_6 rfl (by decide) rfl ?_
  refine er_iload_n cx d_Node_valueAfter_7 2 rfl ?_
  refine er_iconst (v := 3) cx d_Node_valueAfter_8 rfl (by decide) ?_
  refine er_irem cx d_Node_valueAfter_9 (by decide) ?_
  refine er_istore_n cx d_Node_valueAfter_10 rfl (by decide) rfl ?_
  refine er_iload_n cx d_Node_valueAfter_11 0 rfl ?_
  refine er_if_ne (tgt := 24) cx d_Node_valueAfter_12 (by decide) (fun b3 => ?_) (fun b3 => ?_)
  · have h := er_iff h b3
    refine er_iload_n cx d_Node_valueAfter_24 0 rfl ?_
    refine er_iconst (v := 1) cx d_Node_valueAfter_25 rfl (by decide) ?_
    refine er_ic_ne (tgt := 44) cx d_Node_valueAfter_26 (by decide) (fun b4 => ?_) (fun b4 => ?_)
    · have h := er_iff h b4
      refine er_aload_n cx d_Node_valueAfter_44 2 rfl ?_
      refine er_iload_n cx d_Node_valueAfter_45 3 rfl ?_
      refine er_iconst (v := 3) cx d_Node_valueAfter_46 rfl (by decide) ?_
      refine er_idiv cx d_Node_valueAfter_47 (by decide) ?_
      refine er_aload_n cx d_Node_valueAfter_48 1 rfl ?_
      obtain ⟨q5, e5, h⟩ := er_bd h
      refine er_callV (b := p0) (As := [.inl (er_div p1 3), .inr (T (T p0 7) p1)]) (st := []) cx (c_Node_endRound e5) my_Node_164 c1.1 ⟨by decide, by decide⟩ rfl (Nat.le_of_ble_eq_true rfl) d_Node_valueAfter_49 ⟨Nat.zero_le _, Nat.zero_le _⟩ rfl ?_
      obtain rfl := Option.some.inj h
      exact er_iret rt (Or.inl rfl) d_Node_valueAfter_52 (by decide) (by decide) ⟨rfl, rfl, rfl⟩
    · have h := er_ift h b4
      refine er_aload_n cx d_Node_valueAfter_29 2 rfl ?_
      obtain ⟨c7, h⟩ := er_ck h
      refine er_getr cx d_Node_valueAfter_30 fd_Node_62 c1.1 c7 ?_
      refine er_aload_n cx d_Node_valueAfter_33 1 rfl ?_
      refine er_aload_n cx d_Node_valueAfter_34 2 rfl ?_
      refine er_geti cx d_Node_valueAfter_35 fd_Node_53 c1.1 ?_
      obtain ⟨c9, h⟩ := er_ck h
      obtain ⟨q9, e9, h⟩ := er_bd h
      refine er_callV (b := T p0 1) (As := [.inr (T (T p0 7) p1), .inl (M p0 11)]) (st := []) cx (c_Rules_firmOr e9) my_Node_160 c9 ⟨by decide, by decide⟩ rfl (Nat.le_of_ble_eq_true rfl) d_Node_valueAfter_38 ⟨Nat.zero_le _, Nat.zero_le _⟩ rfl ?_
      refine er_goto (tgt := 52) cx d_Node_valueAfter_41 (by decide) ?_
      obtain rfl := Option.some.inj h
      exact er_iret rt (Or.inl rfl) d_Node_valueAfter_52 (by decide) (by decide) ⟨rfl, rfl, rfl⟩
  · have h := er_ift h b3
    refine er_aload_n cx d_Node_valueAfter_15 2 rfl ?_
    obtain ⟨c11, h⟩ := er_ck h
    refine er_getr cx d_Node_valueAfter_16 fd_Node_62 c1.1 c11 ?_
    refine er_aload_n cx d_Node_valueAfter_19 1 rfl ?_
    obtain ⟨c12, h⟩ := er_ck h
    obtain ⟨q12, e12, h⟩ := er_bd h
    refine er_callV (b := T p0 1) (As := [.inr (T (T p0 7) p1)]) (st := []) cx (c_Rules_prevailing e12) my_Node_156 c12 ⟨by decide, by decide⟩ rfl (Nat.le_of_ble_eq_true rfl) d_Node_valueAfter_20 ⟨Nat.zero_le _, Nat.zero_le _⟩ rfl ?_
    obtain rfl := Option.some.inj h
    exact er_iret rt (Or.inl rfl) d_Node_valueAfter_23 (by decide) (by decide) ⟨rfl, rfl, rfl⟩
theorem c_Node_valueAfter {l : Launch} {X : er_X} {r : Int × er_Me} {p0 p1 : Int} {T M : er_Me} (h : f_Node_valueAfter p0 p1 T M = some r) (hok : ∀ v ∈ ([.inr p0, .inl p1] : List er_V), er_ok v) : er_Ct l X y_Node_valueAfter b_Node_valueAfter 4 (some .int) rm_Node_valueAfter [.inr p0, .inl p1] T M (some (.inl r.1)) T r.2 :=
  er_ct rfl rfl (Nat.le_of_ble_eq_true rfl) hok (fun K cx rt hin => w_Node_valueAfter cx rt h)
/-! Node_hearNextOf -/
abbrev rm_Node_hearNextOf : Room := { frames := 4, cells := 0, slots := 0, locals := 98 }
def f_Node_hearNextOf (p0 p1 p2 : Int) (T M : er_Me) : Option (Int × er_Me) :=
  if T p0 (-2) = 3 ∧ 0 < T p0 4 then
  if T (T p0 4) (-2) = 101 ∧ 0 ≤ p1 ∧ p1 < T (T p0 4) (-1) then
  if T p2 (-2) = 4 then
  (f_Log_codeAt p2 (M (T p0 4) p1) T M).bind fun q3 =>
  if q3.1 = (-1) then
  some (0, q3.2)
  else
  er_le (er_up q3.2 (T p0 4) p1 (er_add (q3.2 (T p0 4) p1) 1)) fun M7 =>
  (f_Node_hear p0 p1 q3.1 T M7).bind fun q8 =>
  some (1, q8.2) else none else none else none
set_option maxHeartbeats 4000000 in
theorem w_Node_hearNextOf {K : er_K} {l : Launch} {X : er_X} (cx : er_Cx K l X b_Node_hearNextOf "EchoedRounds$Node" 4 rm_Node_hearNextOf) {r : Int × er_Me} {p0 p1 p2 : Int} {T M : er_Me} (rt : er_Rt K X b_Node_hearNextOf (some .boolean) 0 0 (some (.inl r.1)) T r.2) (h : f_Node_hearNextOf p0 p1 p2 T M = some r) : er_G K 0 0 T M 0 [(0, .inr p0), (1, .inl p1), (2, .inr p2)] [] := by
  unfold f_Node_hearNextOf at h
  refine er_aload_n cx d_Node_hearNextOf_0 2 rfl ?_
  refine er_aload_n cx d_Node_hearNextOf_1 0 rfl ?_
  obtain ⟨c1, h⟩ := er_ck h
  refine er_getr cx d_Node_hearNextOf_2 fd_Node_25 c1.1 c1.2 ?_
  refine er_iload_n cx d_Node_hearNextOf_5 1 rfl ?_
  obtain ⟨c2, h⟩ := er_ck h
  refine er_iald cx d_Node_hearNextOf_6 c2.1 c2.2.1 c2.2.2 ?_
  obtain ⟨c3, h⟩ := er_ck h
  obtain ⟨q3, e3, h⟩ := er_bd h
  refine er_callV (b := p2) (As := [.inl (M (T p0 4) p1)]) (st := []) cx (c_Log_codeAt e3) my_Node_75 c3 ⟨by decide, by decide⟩ rfl (Nat.le_of_ble_eq_true rfl) d_Node_hearNextOf_7 ⟨Nat.zero_le _, Nat.zero_le _⟩ rfl ?_
  refine er_istore_n cx d_Node_hearNextOf_10 rfl (by decide) rfl ?_
  refine er_iload_n cx d_Node_hearNextOf_11 0 rfl ?_
  refine er_iconst (v := -1) cx d_Node_hearNextOf_12 rfl (by decide) ?_
  refine er_ic_ne (tgt := 18) cx d_Node_hearNextOf_13 (by decide) (fun b4 => ?_) (fun b4 => ?_)
  · have h := er_iff h b4
    refine er_aload_n cx d_Node_hearNextOf_18 1 rfl ?_
    refine er_getr cx d_Node_hearNextOf_19 fd_Node_25 c1.1 c1.2 ?_
    refine er_iload_n cx d_Node_hearNextOf_22 2 rfl ?_
    refine er_dup2 cx d_Node_hearNextOf_23 ?_
    refine er_iald cx d_Node_hearNextOf_24 c2.1 c2.2.1 c2.2.2 ?_
    refine er_iconst (v := 1) cx d_Node_hearNextOf_25 rfl (by decide) ?_
    refine er_iadd cx d_Node_hearNextOf_26 ?_
    obtain ⟨M7, e7, h⟩ := er_lel h
    refine er_iast cx d_Node_hearNextOf_27 c2.1 c2.2.1 c2.2.2 e7 ?_
    refine er_aload_n cx d_Node_hearNextOf_28 1 rfl ?_
    refine er_iload_n cx d_Node_hearNextOf_29 2 rfl ?_
    refine er_iload_n cx d_Node_hearNextOf_30 0 rfl ?_
    obtain ⟨q8, e8, h⟩ := er_bd h
    refine er_callV (b := p0) (As := [.inl p1, .inl q3.1]) (st := []) cx (c_Node_hear e8) my_Node_79 c1.1 ⟨by decide, by decide⟩ rfl (Nat.le_of_ble_eq_true rfl) d_Node_hearNextOf_31 ⟨Nat.zero_le _, Nat.zero_le _⟩ rfl ?_
    refine er_pop cx d_Node_hearNextOf_34 ?_
    refine er_iconst (v := 1) cx d_Node_hearNextOf_35 rfl (by decide) ?_
    obtain rfl := Option.some.inj h
    exact er_iret rt (Or.inr ⟨rfl, Or.inr rfl⟩) d_Node_hearNextOf_36 (by decide) (by decide) ⟨rfl, rfl, rfl⟩
  · have h := er_ift h b4
    refine er_iconst (v := 0) cx d_Node_hearNextOf_16 rfl (by decide) ?_
    obtain rfl := Option.some.inj h
    exact er_iret rt (Or.inr ⟨rfl, Or.inl rfl⟩) d_Node_hearNextOf_17 (by decide) (by decide) ⟨rfl, rfl, rfl⟩
theorem c_Node_hearNextOf {l : Launch} {X : er_X} {r : Int × er_Me} {p0 p1 p2 : Int} {T M : er_Me} (h : f_Node_hearNextOf p0 p1 p2 T M = some r) (hok : ∀ v ∈ ([.inr p0, .inl p1, .inr p2] : List er_V), er_ok v) : er_Ct l X y_Node_hearNextOf b_Node_hearNextOf 4 (some .boolean) rm_Node_hearNextOf [.inr p0, .inl p1, .inr p2] T M (some (.inl r.1)) T r.2 :=
  er_ct rfl rfl (Nat.le_of_ble_eq_true rfl) hok (fun K cx rt hin => w_Node_hearNextOf cx rt h)
/-! Node_makeOneValid -/
abbrev rm_Node_makeOneValid : Room := { frames := 5, cells := 0, slots := 0, locals := 114 }
def f_Node_makeOneValid_10_b (k2 : Int → Int → er_Me → Option (Int × er_Me)) (self : Int → Int → Int → er_Me → Option (Int × er_Me)) (v0 v1 v2 : Int) (T M : er_Me) : Option (Int × er_Me) :=
  if T v0 (-2) = 3 ∧ 0 < T v0 1 then
  if T (T v0 1) (-2) = 2 then
  if M (T v0 1) 0 ≤ v2 then
  er_le (er_add v1 1) fun x4 =>
  k2 v0 x4 M
  else
  (f_Node_canBecomeValid v0 v1 v2 T M).bind fun q5 =>
  if q5.1 = 0 then
  er_le (er_add v2 1) fun x7 =>
  self v0 v1 x7 q5.2
  else
  if 0 < T v0 7 then
  if T (T v0 7) (-2) = 104 ∧ 0 ≤ v1 ∧ v1 < T (T v0 7) (-1) ∧ 0 < T (T v0 7) v1 then
  if 0 < T v0 6 then
  (f_ER_cellOf v1 v2 T q5.2).bind fun q11 =>
  if T (T v0 6) (-2) = 101 ∧ 0 ≤ q11.1 ∧ q11.1 < T (T v0 6) (-1) then
  if T (T (T v0 7) v1) (-2) = 6 then
  (f_Row_append (T (T v0 7) v1) v2 (q11.2 (T v0 6) q11.1) T q11.2).bind fun q13 =>
  some (1, q13) else none else none else none else none else none else none else none
def f_Node_makeOneValid_10 (k2 : Int → Int → er_Me → Option (Int × er_Me)) : Nat → er_Me → Int → Int → Int → er_Me → Option (Int × er_Me)
  | 0, _ => fun _ _ _ _ => none
  | n + 1, T => fun v0 v1 v2 M => f_Node_makeOneValid_10_b k2 (f_Node_makeOneValid_10 k2 n T) v0 v1 v2 T M
set_option maxHeartbeats 4000000 in
theorem w_Node_makeOneValid_10_b {K : er_K} {l : Launch} {X : er_X} (cx : er_Cx K l X b_Node_makeOneValid "EchoedRounds$Node" 3 rm_Node_makeOneValid) {r : Int × er_Me} {T : er_Me} (rt : er_Rt K X b_Node_makeOneValid (some .boolean) 0 0 (some (.inl r.1)) T r.2) {k2 : Int → Int → er_Me → Option (Int × er_Me)} (hk2 : ∀ (v0 v1 : Int) (M : er_Me), k2 v0 v1 M = some r → er_G K 0 0 T M 2 [(0, .inr v0), (1, .inl v1)] []) {self : Int → Int → Int → er_Me → Option (Int × er_Me)} (hself : ∀ (v0 v1 v2 : Int) (M : er_Me), self v0 v1 v2 M = some r → er_G K 0 0 T M 10 [(0, .inr v0), (1, .inl v1), (2, .inl v2)] []) : ∀ (v0 v1 v2 : Int) (M : er_Me), f_Node_makeOneValid_10_b k2 self v0 v1 v2 T M = some r → er_G K 0 0 T M 10 [(0, .inr v0), (1, .inl v1), (2, .inl v2)] [] := by
  intro v0 v1 v2 M h
  unfold f_Node_makeOneValid_10_b at h
  refine er_iload_n cx d_Node_makeOneValid_10 2 rfl ?_
  refine er_aload_n cx d_Node_makeOneValid_11 0 rfl ?_
  obtain ⟨c1, h⟩ := er_ck h
  refine er_getr cx d_Node_makeOneValid_12 fd_Node_62 c1.1 c1.2 ?_
  obtain ⟨c2, h⟩ := er_ck h
  refine er_geti cx d_Node_makeOneValid_15 fd_Node_124 c2 ?_
  refine er_ic_ge (tgt := 58) cx d_Node_makeOneValid_18 (by decide) (fun b3 => ?_) (fun b3 => ?_)
  · have h := er_ift h b3
    obtain ⟨x4, e4, h⟩ := er_lel h
    refine er_iinc cx d_Node_makeOneValid_58 (k := 1) rfl (by decide) e4 rfl ?_
    refine er_goto (tgt := 2) cx d_Node_makeOneValid_61 (by decide) ?_
    refine er_sb cx [1, 0] rfl ?_
    exact hk2 _ _ _ h
  · have h := er_iff h b3
    refine er_aload_n cx d_Node_makeOneValid_21 0 rfl ?_
    refine er_iload_n cx d_Node_makeOneValid_22 1 rfl ?_
    refine er_iload_n cx d_Node_makeOneValid_23 2 rfl ?_
    obtain ⟨q5, e5, h⟩ := er_bd h
    refine er_callV (b := v0) (As := [.inl v1, .inl v2]) (st := []) cx (c_Node_canBecomeValid e5) my_Node_126 c1.1 ⟨by decide, by decide⟩ rfl (Nat.le_of_ble_eq_true rfl) d_Node_makeOneValid_24 ⟨Nat.zero_le _, Nat.zero_le _⟩ rfl ?_
    refine er_if_eq (tgt := 52) cx d_Node_makeOneValid_27 (by decide) (fun b6 => ?_) (fun b6 => ?_)
    · have h := er_ift h b6
      obtain ⟨x7, e7, h⟩ := er_lel h
      refine er_iinc cx d_Node_makeOneValid_52 (k := 2) rfl (by decide) e7 rfl ?_
      refine er_goto (tgt := 10) cx d_Node_makeOneValid_55 (by decide) ?_
      refine er_sb cx [1, 2, 0] rfl ?_
      exact hself _ _ _ _ h
    · have h := er_iff h b6
      refine er_aload_n cx d_Node_makeOneValid_30 0 rfl ?_
      obtain ⟨c8, h⟩ := er_ck h
      refine er_getr cx d_Node_makeOneValid_31 fd_Node_38 c1.1 c8 ?_
      refine er_iload_n cx d_Node_makeOneValid_34 1 rfl ?_
      obtain ⟨c9, h⟩ := er_ck h
      refine er_aald cx d_Node_makeOneValid_35 c9.1 (by decide) c9.2.1 c9.2.2.1 c9.2.2.2 ?_
      refine er_iload_n cx d_Node_makeOneValid_36 2 rfl ?_
      refine er_aload_n cx d_Node_makeOneValid_37 0 rfl ?_
      obtain ⟨c10, h⟩ := er_ck h
      refine er_getr cx d_Node_makeOneValid_38 fd_Node_33 c1.1 c10 ?_
      refine er_iload_n cx d_Node_makeOneValid_41 1 rfl ?_
      refine er_iload_n cx d_Node_makeOneValid_42 2 rfl ?_
      obtain ⟨q11, e11, h⟩ := er_bd h
      refine er_callS (As := [.inl v1, .inl v2]) (st := [.inr (T v0 6), .inl v2, .inr (T (T v0 7) v1)]) cx (c_ER_cellOf e11) my_Node_83 ⟨by decide, by decide⟩ rfl (Nat.le_of_ble_eq_true rfl) d_Node_makeOneValid_43 ⟨Nat.zero_le _, Nat.zero_le _⟩ rfl ?_
      obtain ⟨c12, h⟩ := er_ck h
      refine er_iald cx d_Node_makeOneValid_46 c12.1 c12.2.1 c12.2.2 ?_
      obtain ⟨c13, h⟩ := er_ck h
      obtain ⟨q13, e13, h⟩ := er_bd h
      refine er_callV (b := T (T v0 7) v1) (As := [.inl v2, .inl (q11.2 (T v0 6) q11.1)]) (st := []) cx (c_Row_append e13) my_Node_129 c13 ⟨by decide, by decide⟩ rfl (Nat.le_of_ble_eq_true rfl) d_Node_makeOneValid_47 ⟨Nat.zero_le _, Nat.zero_le _⟩ rfl ?_
      refine er_iconst (v := 1) cx d_Node_makeOneValid_50 rfl (by decide) ?_
      obtain rfl := Option.some.inj h
      exact er_iret rt (Or.inr ⟨rfl, Or.inr rfl⟩) d_Node_makeOneValid_51 (by decide) (by decide) ⟨rfl, rfl, rfl⟩
theorem w_Node_makeOneValid_10 {K : er_K} {l : Launch} {X : er_X} (cx : er_Cx K l X b_Node_makeOneValid "EchoedRounds$Node" 3 rm_Node_makeOneValid) {r : Int × er_Me} {T : er_Me} (rt : er_Rt K X b_Node_makeOneValid (some .boolean) 0 0 (some (.inl r.1)) T r.2) {k2 : Int → Int → er_Me → Option (Int × er_Me)} (hk2 : ∀ (v0 v1 : Int) (M : er_Me), k2 v0 v1 M = some r → er_G K 0 0 T M 2 [(0, .inr v0), (1, .inl v1)] []) : ∀ n : Nat, ∀ (v0 v1 v2 : Int) (M : er_Me), f_Node_makeOneValid_10 k2 n T v0 v1 v2 M = some r → er_G K 0 0 T M 10 [(0, .inr v0), (1, .inl v1), (2, .inl v2)] [] := by
  intro n
  induction n with
  | zero =>
    intro v0 v1 v2 M h
    cases h
  | succ n ih =>
    intro v0 v1 v2 M h
    exact w_Node_makeOneValid_10_b cx rt hk2 ih v0 v1 v2 M h
def f_Node_makeOneValid_2_b (self : Int → Int → er_Me → Option (Int × er_Me)) (v0 v1 : Int) (T M : er_Me) : Option (Int × er_Me) :=
  if 9 ≤ v1 then
  some (0, M)
  else
  f_Node_makeOneValid_10 self er_fu T v0 v1 0 M
def f_Node_makeOneValid_2 : Nat → er_Me → Int → Int → er_Me → Option (Int × er_Me)
  | 0, _ => fun _ _ _ => none
  | n + 1, T => fun v0 v1 M => f_Node_makeOneValid_2_b (f_Node_makeOneValid_2 n T) v0 v1 T M
set_option maxHeartbeats 4000000 in
theorem w_Node_makeOneValid_2_b {K : er_K} {l : Launch} {X : er_X} (cx : er_Cx K l X b_Node_makeOneValid "EchoedRounds$Node" 3 rm_Node_makeOneValid) {r : Int × er_Me} {T : er_Me} (rt : er_Rt K X b_Node_makeOneValid (some .boolean) 0 0 (some (.inl r.1)) T r.2) {self : Int → Int → er_Me → Option (Int × er_Me)} (hself : ∀ (v0 v1 : Int) (M : er_Me), self v0 v1 M = some r → er_G K 0 0 T M 2 [(0, .inr v0), (1, .inl v1)] []) : ∀ (v0 v1 : Int) (M : er_Me), f_Node_makeOneValid_2_b self v0 v1 T M = some r → er_G K 0 0 T M 2 [(0, .inr v0), (1, .inl v1)] [] := by
  intro v0 v1 M h
  unfold f_Node_makeOneValid_2_b at h
  refine er_iload_n cx d_Node_makeOneValid_2 1 rfl ?_
  refine er_bipush (v := 9) cx d_Node_makeOneValid_3 (by decide +kernel) (by decide) ?_
  refine er_ic_ge (tgt := 64) cx d_Node_makeOneValid_5 (by decide) (fun b1 => ?_) (fun b1 => ?_)
  · have h := er_ift h b1
    refine er_iconst (v := 0) cx d_Node_makeOneValid_64 rfl (by decide) ?_
    obtain rfl := Option.some.inj h
    exact er_iret rt (Or.inr ⟨rfl, Or.inl rfl⟩) d_Node_makeOneValid_65 (by decide) (by decide) ⟨rfl, rfl, rfl⟩
  · have h := er_iff h b1
    refine er_iconst (v := 0) cx d_Node_makeOneValid_8 rfl (by decide) ?_
    refine er_istore_n cx d_Node_makeOneValid_9 rfl (by decide) rfl ?_
    refine er_sb cx [1, 2, 0] rfl ?_
    exact w_Node_makeOneValid_10 cx rt hself er_fu _ _ _ _ h
theorem w_Node_makeOneValid_2 {K : er_K} {l : Launch} {X : er_X} (cx : er_Cx K l X b_Node_makeOneValid "EchoedRounds$Node" 3 rm_Node_makeOneValid) {r : Int × er_Me} {T : er_Me} (rt : er_Rt K X b_Node_makeOneValid (some .boolean) 0 0 (some (.inl r.1)) T r.2) : ∀ n : Nat, ∀ (v0 v1 : Int) (M : er_Me), f_Node_makeOneValid_2 n T v0 v1 M = some r → er_G K 0 0 T M 2 [(0, .inr v0), (1, .inl v1)] [] := by
  intro n
  induction n with
  | zero =>
    intro v0 v1 M h
    cases h
  | succ n ih =>
    intro v0 v1 M h
    exact w_Node_makeOneValid_2_b cx rt ih v0 v1 M h
def f_Node_makeOneValid (p0 : Int) (T M : er_Me) : Option (Int × er_Me) :=
  f_Node_makeOneValid_2 er_fu T p0 0 M
set_option maxHeartbeats 4000000 in
theorem w_Node_makeOneValid {K : er_K} {l : Launch} {X : er_X} (cx : er_Cx K l X b_Node_makeOneValid "EchoedRounds$Node" 3 rm_Node_makeOneValid) {r : Int × er_Me} {p0 : Int} {T M : er_Me} (rt : er_Rt K X b_Node_makeOneValid (some .boolean) 0 0 (some (.inl r.1)) T r.2) (h : f_Node_makeOneValid p0 T M = some r) : er_G K 0 0 T M 0 [(0, .inr p0)] [] := by
  unfold f_Node_makeOneValid at h
  refine er_iconst (v := 0) cx d_Node_makeOneValid_0 rfl (by decide) ?_
  refine er_istore_n cx d_Node_makeOneValid_1 rfl (by decide) rfl ?_
  refine er_sb cx [1, 0] rfl ?_
  exact w_Node_makeOneValid_2 cx rt er_fu _ _ _ h
theorem c_Node_makeOneValid {l : Launch} {X : er_X} {r : Int × er_Me} {p0 : Int} {T M : er_Me} (h : f_Node_makeOneValid p0 T M = some r) (hok : ∀ v ∈ ([.inr p0] : List er_V), er_ok v) : er_Ct l X y_Node_makeOneValid b_Node_makeOneValid 3 (some .boolean) rm_Node_makeOneValid [.inr p0] T M (some (.inl r.1)) T r.2 :=
  er_ct rfl rfl (Nat.le_of_ble_eq_true rfl) hok (fun K cx rt hin => w_Node_makeOneValid cx rt h)
/-! Node_goOn -/
abbrev rm_Node_goOn : Room := { frames := 4, cells := 0, slots := 0, locals := 94 }
def f_Node_goOn (p0 : Int) (T M : er_Me) : Option (Int × er_Me) :=
  if T p0 (-2) = 3 then
  (f_ER_isSlot (M p0 10) T M).bind fun q2 =>
  if q2.1 = 0 then
  some (0, q2.2)
  else
  if 0 < T p0 1 then
  if 0 < T p0 7 then
  if T (T p0 7) (-2) = 104 ∧ 0 ≤ q2.2 p0 10 ∧ q2.2 p0 10 < T (T p0 7) (-1) ∧ 0 < T (T p0 7) (q2.2 p0 10) then
  if T (T p0 1) (-2) = 2 then
  (f_Rules_isFull (T p0 1) (T (T p0 7) (q2.2 p0 10)) T q2.2).bind fun q9 =>
  if q9.1 = 0 then
  some (0, q9.2)
  else
  (f_Node_valueAfter p0 (q9.2 p0 10) T q9.2).bind fun q13 =>
  (f_Node_enter p0 (er_add (q9.2 p0 10) 1) q13.1 T q13.2).bind fun q14 =>
  some (1, q14) else none else none else none else none else none
set_option maxHeartbeats 4000000 in
theorem w_Node_goOn {K : er_K} {l : Launch} {X : er_X} (cx : er_Cx K l X b_Node_goOn "EchoedRounds$Node" 1 rm_Node_goOn) {r : Int × er_Me} {p0 : Int} {T M : er_Me} (rt : er_Rt K X b_Node_goOn (some .boolean) 0 0 (some (.inl r.1)) T r.2) (h : f_Node_goOn p0 T M = some r) : er_G K 0 0 T M 0 [(0, .inr p0)] [] := by
  unfold f_Node_goOn at h
  refine er_aload_n cx d_Node_goOn_0 0 rfl ?_
  obtain ⟨c1, h⟩ := er_ck h
  refine er_geti cx d_Node_goOn_1 fd_Node_50 c1 ?_
  obtain ⟨q2, e2, h⟩ := er_bd h
  refine er_callS (As := [.inl (M p0 10)]) (st := []) cx (c_ER_isSlot e2) my_Node_143 ⟨by decide, by decide⟩ rfl (Nat.le_of_ble_eq_true rfl) d_Node_goOn_4 ⟨Nat.zero_le _, Nat.zero_le _⟩ rfl ?_
  refine er_if_eq (tgt := 29) cx d_Node_goOn_7 (by decide) (fun b3 => ?_) (fun b3 => ?_)
  · have h := er_ift h b3
    refine er_iconst (v := 0) cx d_Node_goOn_29 rfl (by decide) ?_
    obtain rfl := Option.some.inj h
    exact er_iret rt (Or.inr ⟨rfl, Or.inl rfl⟩) d_Node_goOn_30 (by decide) (by decide) ⟨rfl, rfl, rfl⟩
  · have h := er_iff h b3
    refine er_aload_n cx d_Node_goOn_10 0 rfl ?_
    obtain ⟨c5, h⟩ := er_ck h
    refine er_getr cx d_Node_goOn_11 fd_Node_62 c1 c5 ?_
    refine er_aload_n cx d_Node_goOn_14 0 rfl ?_
    obtain ⟨c6, h⟩ := er_ck h
    refine er_getr cx d_Node_goOn_15 fd_Node_38 c1 c6 ?_
    refine er_aload_n cx d_Node_goOn_18 0 rfl ?_
    refine er_geti cx d_Node_goOn_19 fd_Node_50 c1 ?_
    obtain ⟨c8, h⟩ := er_ck h
    refine er_aald cx d_Node_goOn_22 c8.1 (by decide) c8.2.1 c8.2.2.1 c8.2.2.2 ?_
    obtain ⟨c9, h⟩ := er_ck h
    obtain ⟨q9, e9, h⟩ := er_bd h
    refine er_callV (b := T p0 1) (As := [.inr (T (T p0 7) (q2.2 p0 10))]) (st := []) cx (c_Rules_isFull e9) my_Node_146 c9 ⟨by decide, by decide⟩ rfl (Nat.le_of_ble_eq_true rfl) d_Node_goOn_23 ⟨Nat.zero_le _, Nat.zero_le _⟩ rfl ?_
    refine er_if_ne (tgt := 31) cx d_Node_goOn_26 (by decide) (fun b10 => ?_) (fun b10 => ?_)
    · have h := er_iff h b10
      refine er_aload_n cx d_Node_goOn_31 0 rfl ?_
      refine er_aload_n cx d_Node_goOn_32 0 rfl ?_
      refine er_geti cx d_Node_goOn_33 fd_Node_50 c1 ?_
      refine er_iconst (v := 1) cx d_Node_goOn_36 rfl (by decide) ?_
      refine er_iadd cx d_Node_goOn_37 ?_
      refine er_aload_n cx d_Node_goOn_38 0 rfl ?_
      refine er_aload_n cx d_Node_goOn_39 0 rfl ?_
      refine er_geti cx d_Node_goOn_40 fd_Node_50 c1 ?_
      obtain ⟨q13, e13, h⟩ := er_bd h
      refine er_callV (b := p0) (As := [.inl (q9.2 p0 10)]) (st := [.inl (er_add (q9.2 p0 10) 1), .inr p0]) cx (c_Node_valueAfter e13) my_Node_150 c1 ⟨by decide, by decide⟩ rfl (Nat.le_of_ble_eq_true rfl) d_Node_goOn_43 ⟨Nat.zero_le _, Nat.zero_le _⟩ rfl ?_
      obtain ⟨q14, e14, h⟩ := er_bd h
      refine er_callV (b := p0) (As := [.inl (er_add (q9.2 p0 10) 1), .inl q13.1]) (st := []) cx (c_Node_enter e14) my_Node_153 c1 ⟨by decide, by decide⟩ rfl (Nat.le_of_ble_eq_true rfl) d_Node_goOn_46 ⟨Nat.zero_le _, Nat.zero_le _⟩ rfl ?_
      refine er_iconst (v := 1) cx d_Node_goOn_49 rfl (by decide) ?_
      obtain rfl := Option.some.inj h
      exact er_iret rt (Or.inr ⟨rfl, Or.inr rfl⟩) d_Node_goOn_50 (by decide) (by decide) ⟨rfl, rfl, rfl⟩
    · have h := er_ift h b10
      refine er_iconst (v := 0) cx d_Node_goOn_29 rfl (by decide) ?_
      obtain rfl := Option.some.inj h
      exact er_iret rt (Or.inr ⟨rfl, Or.inl rfl⟩) d_Node_goOn_30 (by decide) (by decide) ⟨rfl, rfl, rfl⟩
theorem c_Node_goOn {l : Launch} {X : er_X} {r : Int × er_Me} {p0 : Int} {T M : er_Me} (h : f_Node_goOn p0 T M = some r) (hok : ∀ v ∈ ([.inr p0] : List er_V), er_ok v) : er_Ct l X y_Node_goOn b_Node_goOn 1 (some .boolean) rm_Node_goOn [.inr p0] T M (some (.inl r.1)) T r.2 :=
  er_ct rfl rfl (Nat.le_of_ble_eq_true rfl) hok (fun K cx rt hin => w_Node_goOn cx rt h)
/-! Node_settle -/
abbrev rm_Node_settle : Room := { frames := 6, cells := 0, slots := 0, locals := 136 }
def f_Node_settle_2_b (self : Int → Int → er_Me → Option (er_Me)) (v0 v1 : Int) (T M : er_Me) : Option (er_Me) :=
  if 1000 ≤ v1 then
  some M
  else
  if T v0 (-2) = 3 then
  if 0 < T v0 2 then
  (f_Node_hearNextOf v0 (M v0 0) (T v0 2) T M).bind fun q4 =>
  if q4.1 = 0 then
  (f_Node_makeOneValid v0 T q4.2).bind fun q7 =>
  if q7.1 = 0 then
  (f_Node_goOn v0 T q7.2).bind fun q10 =>
  if q10.1 = 0 then
  some q10.2
  else
  er_le (er_add v1 1) fun x12 =>
  self v0 x12 q10.2
  else
  er_le (er_add v1 1) fun x9 =>
  self v0 x9 q7.2
  else
  er_le (er_add v1 1) fun x6 =>
  self v0 x6 q4.2 else none else none
def f_Node_settle_2 : Nat → er_Me → Int → Int → er_Me → Option (er_Me)
  | 0, _ => fun _ _ _ => none
  | n + 1, T => fun v0 v1 M => f_Node_settle_2_b (f_Node_settle_2 n T) v0 v1 T M
set_option maxHeartbeats 4000000 in
theorem w_Node_settle_2_b {K : er_K} {l : Launch} {X : er_X} (cx : er_Cx K l X b_Node_settle "EchoedRounds$Node" 2 rm_Node_settle) {r : er_Me} {T : er_Me} (rt : er_Rt K X b_Node_settle (none) 0 0 none T r) {self : Int → Int → er_Me → Option (er_Me)} (hself : ∀ (v0 v1 : Int) (M : er_Me), self v0 v1 M = some r → er_G K 0 0 T M 2 [(0, .inr v0), (1, .inl v1)] []) : ∀ (v0 v1 : Int) (M : er_Me), f_Node_settle_2_b self v0 v1 T M = some r → er_G K 0 0 T M 2 [(0, .inr v0), (1, .inl v1)] [] := by
  intro v0 v1 M h
  unfold f_Node_settle_2_b at h
  refine er_iload_n cx d_Node_settle_2 1 rfl ?_
  refine er_sipush (v := 1000) cx d_Node_settle_3 (by decide +kernel) (by decide) ?_
  refine er_ic_ge (tgt := 45) cx d_Node_settle_6 (by decide) (fun b1 => ?_) (fun b1 => ?_)
  · have h := er_ift h b1
    obtain rfl := Option.some.inj h
    exact er_vret rt d_Node_settle_45 (by decide) (by decide) ⟨rfl, rfl, rfl⟩
  · have h := er_iff h b1
    refine er_aload_n cx d_Node_settle_9 0 rfl ?_
    refine er_aload_n cx d_Node_settle_10 0 rfl ?_
    obtain ⟨c2, h⟩ := er_ck h
    refine er_geti cx d_Node_settle_11 fd_Node_59 c2 ?_
    refine er_aload_n cx d_Node_settle_14 0 rfl ?_
    obtain ⟨c3, h⟩ := er_ck h
    refine er_getr cx d_Node_settle_15 fd_Node_12 c2 c3 ?_
    obtain ⟨q4, e4, h⟩ := er_bd h
    refine er_callV (b := v0) (As := [.inl (M v0 0), .inr (T v0 2)]) (st := []) cx (c_Node_hearNextOf e4) my_Node_113 c2 ⟨by decide, by decide⟩ rfl (Nat.le_of_ble_eq_true rfl) d_Node_settle_18 ⟨Nat.zero_le _, Nat.zero_le _⟩ rfl ?_
    refine er_if_ne (tgt := 39) cx d_Node_settle_21 (by decide) (fun b5 => ?_) (fun b5 => ?_)
    · have h := er_iff h b5
      obtain ⟨x6, e6, h⟩ := er_lel h
      refine er_iinc cx d_Node_settle_39 (k := 1) rfl (by decide) e6 rfl ?_
      refine er_goto (tgt := 2) cx d_Node_settle_42 (by decide) ?_
      refine er_sb cx [1, 0] rfl ?_
      exact hself _ _ _ h
    · have h := er_ift h b5
      refine er_aload_n cx d_Node_settle_24 0 rfl ?_
      obtain ⟨q7, e7, h⟩ := er_bd h
      refine er_callV (b := v0) (As := []) (st := []) cx (c_Node_makeOneValid e7) my_Node_117 c2 ⟨by decide, by decide⟩ rfl (Nat.le_of_ble_eq_true rfl) d_Node_settle_25 ⟨Nat.zero_le _, Nat.zero_le _⟩ rfl ?_
      refine er_if_ne (tgt := 39) cx d_Node_settle_28 (by decide) (fun b8 => ?_) (fun b8 => ?_)
      · have h := er_iff h b8
        obtain ⟨x9, e9, h⟩ := er_lel h
        refine er_iinc cx d_Node_settle_39 (k := 1) rfl (by decide) e9 rfl ?_
        refine er_goto (tgt := 2) cx d_Node_settle_42 (by decide) ?_
        refine er_sb cx [1, 0] rfl ?_
        exact hself _ _ _ h
      · have h := er_ift h b8
        refine er_aload_n cx d_Node_settle_31 0 rfl ?_
        obtain ⟨q10, e10, h⟩ := er_bd h
        refine er_callV (b := v0) (As := []) (st := []) cx (c_Node_goOn e10) my_Node_121 c2 ⟨by decide, by decide⟩ rfl (Nat.le_of_ble_eq_true rfl) d_Node_settle_32 ⟨Nat.zero_le _, Nat.zero_le _⟩ rfl ?_
        refine er_if_ne (tgt := 39) cx d_Node_settle_35 (by decide) (fun b11 => ?_) (fun b11 => ?_)
        · have h := er_iff h b11
          obtain ⟨x12, e12, h⟩ := er_lel h
          refine er_iinc cx d_Node_settle_39 (k := 1) rfl (by decide) e12 rfl ?_
          refine er_goto (tgt := 2) cx d_Node_settle_42 (by decide) ?_
          refine er_sb cx [1, 0] rfl ?_
          exact hself _ _ _ h
        · have h := er_ift h b11
          obtain rfl := Option.some.inj h
          exact er_vret rt d_Node_settle_38 (by decide) (by decide) ⟨rfl, rfl, rfl⟩
theorem w_Node_settle_2 {K : er_K} {l : Launch} {X : er_X} (cx : er_Cx K l X b_Node_settle "EchoedRounds$Node" 2 rm_Node_settle) {r : er_Me} {T : er_Me} (rt : er_Rt K X b_Node_settle (none) 0 0 none T r) : ∀ n : Nat, ∀ (v0 v1 : Int) (M : er_Me), f_Node_settle_2 n T v0 v1 M = some r → er_G K 0 0 T M 2 [(0, .inr v0), (1, .inl v1)] [] := by
  intro n
  induction n with
  | zero =>
    intro v0 v1 M h
    cases h
  | succ n ih =>
    intro v0 v1 M h
    exact w_Node_settle_2_b cx rt ih v0 v1 M h
def f_Node_settle (p0 : Int) (T M : er_Me) : Option (er_Me) :=
  f_Node_settle_2 er_fu T p0 0 M
set_option maxHeartbeats 4000000 in
theorem w_Node_settle {K : er_K} {l : Launch} {X : er_X} (cx : er_Cx K l X b_Node_settle "EchoedRounds$Node" 2 rm_Node_settle) {r : er_Me} {p0 : Int} {T M : er_Me} (rt : er_Rt K X b_Node_settle (none) 0 0 none T r) (h : f_Node_settle p0 T M = some r) : er_G K 0 0 T M 0 [(0, .inr p0)] [] := by
  unfold f_Node_settle at h
  refine er_iconst (v := 0) cx d_Node_settle_0 rfl (by decide) ?_
  refine er_istore_n cx d_Node_settle_1 rfl (by decide) rfl ?_
  refine er_sb cx [1, 0] rfl ?_
  exact w_Node_settle_2 cx rt er_fu _ _ _ h
theorem c_Node_settle {l : Launch} {X : er_X} {r : er_Me} {p0 : Int} {T M : er_Me} (h : f_Node_settle p0 T M = some r) (hok : ∀ v ∈ ([.inr p0] : List er_V), er_ok v) : er_Ct l X y_Node_settle b_Node_settle 2 (none) rm_Node_settle [.inr p0] T M none T r :=
  er_ct rfl rfl (Nat.le_of_ble_eq_true rfl) hok (fun K cx rt hin => w_Node_settle cx rt h)
