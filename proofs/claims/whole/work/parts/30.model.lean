/-! Mo_init -/
abbrev rm_Mo_init : Room := { frames := 1, cells := 16, slots := 9517, locals := 20 }
def f_Mo_init_177_b (self : Int → Int → Int → er_Me → er_Me → Option (er_Me × er_Me)) (v0 v1 v2 : Int) (T M : er_Me) : Option (er_Me × er_Me) :=
  if 7 ≤ v2 then
  some (T, M)
  else
  if T v0 (-2) = 7 ∧ 0 < T v0 13 then
  if T (T v0 13) (-2) = 101 ∧ 0 ≤ v2 ∧ v2 < T (T v0 13) (-1) then
  er_le (er_up M (T v0 13) v2 (-1)) fun M3 =>
  if 0 < T v0 15 then
  if T (T v0 15) (-2) = 101 ∧ v2 < T (T v0 15) (-1) then
  er_le (er_up M3 (T v0 15) v2 (-1)) fun M5 =>
  er_le (er_add v2 1) fun x6 =>
  self v0 v1 x6 T M5 else none else none else none else none
def f_Mo_init_177 : Nat → Int → Int → Int → er_Me → er_Me → Option (er_Me × er_Me)
  | 0 => fun _ _ _ _ _ => none
  | n + 1 => fun v0 v1 v2 T M => f_Mo_init_177_b (f_Mo_init_177 n) v0 v1 v2 T M
set_option maxHeartbeats 4000000 in
theorem w_Mo_init_177_b {K : er_K} {l : Launch} {X : er_X} (cx : er_Cx K l X b_Mo_init "EchoedRoundsModel" 3 rm_Mo_init) (hin : er_In K) {r : er_Me × er_Me} (rt : er_Rt K X b_Mo_init (none) 16 9517 none r.1 r.2) {self : Int → Int → Int → er_Me → er_Me → Option (er_Me × er_Me)} (hself : ∀ (v0 v1 v2 : Int) (T M : er_Me), self v0 v1 v2 T M = some r → er_G K 16 9517 T M 177 [(0, .inr v0), (1, .inl v1), (2, .inl v2)] []) : ∀ (v0 v1 v2 : Int) (T M : er_Me), f_Mo_init_177_b self v0 v1 v2 T M = some r → er_G K 16 9517 T M 177 [(0, .inr v0), (1, .inl v1), (2, .inl v2)] [] := by
  intro v0 v1 v2 T M h
  unfold f_Mo_init_177_b at h
  refine er_iload_n cx d_Mo_init_177 2 rfl ?_
  refine er_bipush (v := 7) cx d_Mo_init_178 (by decide +kernel) (by decide) ?_
  refine er_ic_ge (tgt := 203) cx d_Mo_init_180 (by decide) (fun b1 => ?_) (fun b1 => ?_)
  · have h := er_ift h b1
    obtain rfl := Option.some.inj h
    exact er_vret rt d_Mo_init_203 (by decide) (by decide) ⟨rfl, rfl, rfl⟩
  · have h := er_iff h b1
    refine er_aload_n cx d_Mo_init_183 0 rfl ?_
    obtain ⟨c2, h⟩ := er_ck h
    refine er_getr cx d_Mo_init_184 fd_Mo_44 c2.1 c2.2 ?_
    refine er_iload_n cx d_Mo_init_187 2 rfl ?_
    refine er_iconst (v := -1) cx d_Mo_init_188 rfl (by decide) ?_
    obtain ⟨c3, h⟩ := er_ck h
    obtain ⟨M3, e3, h⟩ := er_lel h
    refine er_iast cx d_Mo_init_189 c3.1 c3.2.1 c3.2.2 e3 ?_
    refine er_aload_n cx d_Mo_init_190 0 rfl ?_
    obtain ⟨c4, h⟩ := er_ck h
    refine er_getr cx d_Mo_init_191 fd_Mo_50 c2.1 c4 ?_
    refine er_iload_n cx d_Mo_init_194 2 rfl ?_
    refine er_iconst (v := -1) cx d_Mo_init_195 rfl (by decide) ?_
    obtain ⟨c5, h⟩ := er_ck h
    obtain ⟨M5, e5, h⟩ := er_lel h
    refine er_iast cx d_Mo_init_196 c5.1 c3.2.1 c5.2 e5 ?_
    obtain ⟨x6, e6, h⟩ := er_lel h
    refine er_iinc cx d_Mo_init_197 (k := 2) rfl (by decide) e6 rfl ?_
    refine er_goto (tgt := 177) cx d_Mo_init_200 (by decide) ?_
    refine er_sb cx [1, 2, 0] rfl ?_
    exact hself _ _ _ _ _ h
theorem w_Mo_init_177 {K : er_K} {l : Launch} {X : er_X} (cx : er_Cx K l X b_Mo_init "EchoedRoundsModel" 3 rm_Mo_init) (hin : er_In K) {r : er_Me × er_Me} (rt : er_Rt K X b_Mo_init (none) 16 9517 none r.1 r.2) : ∀ n : Nat, ∀ (v0 v1 v2 : Int) (T M : er_Me), f_Mo_init_177 n v0 v1 v2 T M = some r → er_G K 16 9517 T M 177 [(0, .inr v0), (1, .inl v1), (2, .inl v2)] [] := by
  intro n
  induction n with
  | zero =>
    intro v0 v1 v2 T M h
    cases h
  | succ n ih =>
    intro v0 v1 v2 T M h
    exact w_Mo_init_177_b cx hin rt ih v0 v1 v2 T M h
def f_Mo_init_160 (v0 v1 s0 s1 : Int) (T M : er_Me) : Option (er_Me × er_Me) :=
  if T s0 (-2) = 7 then
  er_le (er_up M s0 0 s1) fun M1 =>
  if T v0 (-2) = 7 then
  er_le (er_up M1 v0 1 (er_div (er_sub (M1 v0 0) 1) 3)) fun M3 =>
  f_Mo_init_177 er_fu v0 v1 0 T M3 else none else none
set_option maxHeartbeats 4000000 in
theorem w_Mo_init_160 {K : er_K} {l : Launch} {X : er_X} (cx : er_Cx K l X b_Mo_init "EchoedRoundsModel" 3 rm_Mo_init) (hin : er_In K) {r : er_Me × er_Me} (rt : er_Rt K X b_Mo_init (none) 16 9517 none r.1 r.2) : ∀ (v0 v1 s0 s1 : Int) (T M : er_Me), f_Mo_init_160 v0 v1 s0 s1 T M = some r → er_G K 16 9517 T M 160 [(0, .inr v0), (1, .inl v1)] [.inl s1, .inr s0] := by
  intro v0 v1 s0 s1 T M h
  unfold f_Mo_init_160 at h
  obtain ⟨c1, h⟩ := er_ck h
  obtain ⟨M1, e1, h⟩ := er_lel h
  refine er_puti cx d_Mo_init_160 fd_Mo_59 c1 (fun _ => ⟨hin, rfl, rfl⟩) e1 ?_
  refine er_aload_n cx d_Mo_init_163 0 rfl ?_
  refine er_aload_n cx d_Mo_init_164 0 rfl ?_
  obtain ⟨c2, h⟩ := er_ck h
  refine er_geti cx d_Mo_init_165 fd_Mo_59 c2 ?_
  refine er_iconst (v := 1) cx d_Mo_init_168 rfl (by decide) ?_
  refine er_isub cx d_Mo_init_169 ?_
  refine er_iconst (v := 3) cx d_Mo_init_170 rfl (by decide) ?_
  refine er_idiv cx d_Mo_init_171 (by decide) ?_
  obtain ⟨M3, e3, h⟩ := er_lel h
  refine er_puti cx d_Mo_init_172 fd_Mo_63 c2 (fun _ => ⟨hin, rfl, rfl⟩) e3 ?_
  refine er_iconst (v := 0) cx d_Mo_init_175 rfl (by decide) ?_
  refine er_istore_n cx d_Mo_init_176 rfl (by decide) rfl ?_
  refine er_sb cx [1, 2, 0] rfl ?_
  exact w_Mo_init_177 cx hin rt er_fu _ _ _ _ _ h
def f_Mo_init (p0 p1 : Int) (T M : er_Me) : Option (er_Me × er_Me) :=
  er_le (T 0 0 + 1) fun b2 =>
  er_le (er_nw T 102 7) fun T2 =>
  er_le (er_mw M b2) fun M2 =>
  if T2 p0 (-2) = 7 ∧ 0 < b2 then
  er_le (er_up T2 p0 2 b2) fun T3 =>
  er_le (T3 0 0 + 1) fun b4 =>
  er_le (er_nw T3 101 980) fun T4 =>
  er_le (er_mw M2 b4) fun M4 =>
  if T4 p0 (-2) = 7 ∧ 0 < b4 then
  er_le (er_up T4 p0 3 b4) fun T5 =>
  er_le (T5 0 0 + 1) fun b6 =>
  er_le (er_nw T5 101 7) fun T6 =>
  er_le (er_mw M4 b6) fun M6 =>
  if T6 p0 (-2) = 7 ∧ 0 < b6 then
  er_le (er_up T6 p0 4 b6) fun T7 =>
  er_le (T7 0 0 + 1) fun b8 =>
  er_le (er_nw T7 101 49) fun T8 =>
  er_le (er_mw M6 b8) fun M8 =>
  if T8 p0 (-2) = 7 ∧ 0 < b8 then
  er_le (er_up T8 p0 5 b8) fun T9 =>
  er_le (T9 0 0 + 1) fun b10 =>
  er_le (er_nw T9 102 441) fun T10 =>
  er_le (er_mw M8 b10) fun M10 =>
  if T10 p0 (-2) = 7 ∧ 0 < b10 then
  er_le (er_up T10 p0 6 b10) fun T11 =>
  er_le (T11 0 0 + 1) fun b12 =>
  er_le (er_nw T11 102 441) fun T12 =>
  er_le (er_mw M10 b12) fun M12 =>
  if T12 p0 (-2) = 7 ∧ 0 < b12 then
  er_le (er_up T12 p0 7 b12) fun T13 =>
  er_le (T13 0 0 + 1) fun b14 =>
  er_le (er_nw T13 101 441) fun T14 =>
  er_le (er_mw M12 b14) fun M14 =>
  if T14 p0 (-2) = 7 ∧ 0 < b14 then
  er_le (er_up T14 p0 8 b14) fun T15 =>
  er_le (T15 0 0 + 1) fun b16 =>
  er_le (er_nw T15 102 441) fun T16 =>
  er_le (er_mw M14 b16) fun M16 =>
  if T16 p0 (-2) = 7 ∧ 0 < b16 then
  er_le (er_up T16 p0 9 b16) fun T17 =>
  er_le (T17 0 0 + 1) fun b18 =>
  er_le (er_nw T17 101 441) fun T18 =>
  er_le (er_mw M16 b18) fun M18 =>
  if T18 p0 (-2) = 7 ∧ 0 < b18 then
  er_le (er_up T18 p0 10 b18) fun T19 =>
  er_le (T19 0 0 + 1) fun b20 =>
  er_le (er_nw T19 101 63) fun T20 =>
  er_le (er_mw M18 b20) fun M20 =>
  if T20 p0 (-2) = 7 ∧ 0 < b20 then
  er_le (er_up T20 p0 11 b20) fun T21 =>
  er_le (T21 0 0 + 1) fun b22 =>
  er_le (er_nw T21 101 6174) fun T22 =>
  er_le (er_mw M20 b22) fun M22 =>
  if T22 p0 (-2) = 7 ∧ 0 < b22 then
  er_le (er_up T22 p0 12 b22) fun T23 =>
  er_le (T23 0 0 + 1) fun b24 =>
  er_le (er_nw T23 101 7) fun T24 =>
  er_le (er_mw M22 b24) fun M24 =>
  if T24 p0 (-2) = 7 ∧ 0 < b24 then
  er_le (er_up T24 p0 13 b24) fun T25 =>
  er_le (T25 0 0 + 1) fun b26 =>
  er_le (er_nw T25 101 7) fun T26 =>
  er_le (er_mw M24 b26) fun M26 =>
  if T26 p0 (-2) = 7 ∧ 0 < b26 then
  er_le (er_up T26 p0 14 b26) fun T27 =>
  er_le (T27 0 0 + 1) fun b28 =>
  er_le (er_nw T27 101 7) fun T28 =>
  er_le (er_mw M26 b28) fun M28 =>
  if T28 p0 (-2) = 7 ∧ 0 < b28 then
  er_le (er_up T28 p0 15 b28) fun T29 =>
  er_le (T29 0 0 + 1) fun b30 =>
  er_le (er_nw T29 101 7) fun T30 =>
  er_le (er_mw M28 b30) fun M30 =>
  if T30 p0 (-2) = 7 ∧ 0 < b30 then
  er_le (er_up T30 p0 16 b30) fun T31 =>
  er_le (T31 0 0 + 1) fun b32 =>
  er_le (er_nw T31 101 4) fun T32 =>
  er_le (er_mw M30 b32) fun M32 =>
  if T32 p0 (-2) = 7 ∧ 0 < b32 then
  er_le (er_up T32 p0 17 b32) fun T33 =>
  if 4 ≤ p1 then
  if p1 ≤ 7 then
  f_Mo_init_160 p0 p1 p0 p1 T33 M32
  else
  f_Mo_init_160 p0 p1 p0 7 T33 M32
  else
  f_Mo_init_160 p0 p1 p0 4 T33 M32 else none else none else none else none else none else none else none else none else none else none else none else none else none else none else none else none
set_option maxHeartbeats 4000000 in
theorem w_Mo_init {K : er_K} {l : Launch} {X : er_X} (cx : er_Cx K l X b_Mo_init "EchoedRoundsModel" 3 rm_Mo_init) (hin : er_In K) {r : er_Me × er_Me} {p0 p1 : Int} {T M : er_Me} (rt : er_Rt K X b_Mo_init (none) 16 9517 none r.1 r.2) (h : f_Mo_init p0 p1 T M = some r) : er_G K 0 0 T M 0 [(0, .inr p0), (1, .inl p1)] [] := by
  unfold f_Mo_init at h
  refine er_aload_n cx d_Mo_init_0 0 rfl ?_
  refine er_obj cx d_Mo_init_1 wm_377 wm_15 wm_16 (by decide) (Nat.le_of_ble_eq_true rfl) ?_
  refine er_aload_n cx d_Mo_init_4 0 rfl ?_
  refine er_bipush (v := 7) cx d_Mo_init_5 (by decide +kernel) (by decide) ?_
  obtain ⟨b2, eb2, h⟩ := er_lel h
  obtain ⟨T2, eT2, h⟩ := er_lel h
  obtain ⟨M2, eM2, h⟩ := er_lel h
  refine er_newa (t := 1) (N := 7) cx d_Mo_init_7 wm_102 (by decide) rfl (by decide) rfl (by decide) (by decide) (by decide) eT2 eb2 eM2 ?_
  obtain ⟨c3, h⟩ := er_ck h
  obtain ⟨T3, e3, h⟩ := er_lel h
  refine er_putr cx d_Mo_init_9 fd_Mo_7 c3.1 (fun _ => ⟨hin, rfl, rfl⟩) (fun _ => rfl) (fun _ => rfl) c3.2 e3 ?_
  refine er_aload_n cx d_Mo_init_12 0 rfl ?_
  refine er_sipush (v := 980) cx d_Mo_init_13 (by decide +kernel) (by decide) ?_
  obtain ⟨b4, eb4, h⟩ := er_lel h
  obtain ⟨T4, eT4, h⟩ := er_lel h
  obtain ⟨M4, eM4, h⟩ := er_lel h
  refine er_newa (t := 0) (N := 980) cx d_Mo_init_16 wm_66 (by decide) rfl (by decide) rfl (by decide) (by decide) (by decide) eT4 eb4 eM4 ?_
  obtain ⟨c5, h⟩ := er_ck h
  obtain ⟨T5, e5, h⟩ := er_lel h
  refine er_putr cx d_Mo_init_18 fd_Mo_13 c5.1 (fun _ => ⟨hin, rfl, rfl⟩) (fun _ => rfl) (fun _ => rfl) c5.2 e5 ?_
  refine er_aload_n cx d_Mo_init_21 0 rfl ?_
  refine er_bipush (v := 7) cx d_Mo_init_22 (by decide +kernel) (by decide) ?_
  obtain ⟨b6, eb6, h⟩ := er_lel h
  obtain ⟨T6, eT6, h⟩ := er_lel h
  obtain ⟨M6, eM6, h⟩ := er_lel h
  refine er_newa (t := 0) (N := 7) cx d_Mo_init_24 wm_66 (by decide) rfl (by decide) rfl (by decide) (by decide) (by decide) eT6 eb6 eM6 ?_
  obtain ⟨c7, h⟩ := er_ck h
  obtain ⟨T7, e7, h⟩ := er_lel h
  refine er_putr cx d_Mo_init_26 fd_Mo_17 c7.1 (fun _ => ⟨hin, rfl, rfl⟩) (fun _ => rfl) (fun _ => rfl) c7.2 e7 ?_
  refine er_aload_n cx d_Mo_init_29 0 rfl ?_
  refine er_bipush (v := 49) cx d_Mo_init_30 (by decide +kernel) (by decide) ?_
  obtain ⟨b8, eb8, h⟩ := er_lel h
  obtain ⟨T8, eT8, h⟩ := er_lel h
  obtain ⟨M8, eM8, h⟩ := er_lel h
  refine er_newa (t := 0) (N := 49) cx d_Mo_init_32 wm_66 (by decide) rfl (by decide) rfl (by decide) (by decide) (by decide) eT8 eb8 eM8 ?_
  obtain ⟨c9, h⟩ := er_ck h
  obtain ⟨T9, e9, h⟩ := er_lel h
  refine er_putr cx d_Mo_init_34 fd_Mo_20 c9.1 (fun _ => ⟨hin, rfl, rfl⟩) (fun _ => rfl) (fun _ => rfl) c9.2 e9 ?_
  refine er_aload_n cx d_Mo_init_37 0 rfl ?_
  refine er_sipush (v := 441) cx d_Mo_init_38 (by decide +kernel) (by decide) ?_
  obtain ⟨b10, eb10, h⟩ := er_lel h
  obtain ⟨T10, eT10, h⟩ := er_lel h
  obtain ⟨M10, eM10, h⟩ := er_lel h
  refine er_newa (t := 1) (N := 441) cx d_Mo_init_41 wm_102 (by decide) rfl (by decide) rfl (by decide) (by decide) (by decide) eT10 eb10 eM10 ?_
  obtain ⟨c11, h⟩ := er_ck h
  obtain ⟨T11, e11, h⟩ := er_lel h
  refine er_putr cx d_Mo_init_43 fd_Mo_23 c11.1 (fun _ => ⟨hin, rfl, rfl⟩) (fun _ => rfl) (fun _ => rfl) c11.2 e11 ?_
  refine er_aload_n cx d_Mo_init_46 0 rfl ?_
  refine er_sipush (v := 441) cx d_Mo_init_47 (by decide +kernel) (by decide) ?_
  obtain ⟨b12, eb12, h⟩ := er_lel h
  obtain ⟨T12, eT12, h⟩ := er_lel h
  obtain ⟨M12, eM12, h⟩ := er_lel h
  refine er_newa (t := 1) (N := 441) cx d_Mo_init_50 wm_102 (by decide) rfl (by decide) rfl (by decide) (by decide) (by decide) eT12 eb12 eM12 ?_
  obtain ⟨c13, h⟩ := er_ck h
  obtain ⟨T13, e13, h⟩ := er_lel h
  refine er_putr cx d_Mo_init_52 fd_Mo_26 c13.1 (fun _ => ⟨hin, rfl, rfl⟩) (fun _ => rfl) (fun _ => rfl) c13.2 e13 ?_
  refine er_aload_n cx d_Mo_init_55 0 rfl ?_
  refine er_sipush (v := 441) cx d_Mo_init_56 (by decide +kernel) (by decide) ?_
  obtain ⟨b14, eb14, h⟩ := er_lel h
  obtain ⟨T14, eT14, h⟩ := er_lel h
  obtain ⟨M14, eM14, h⟩ := er_lel h
  refine er_newa (t := 0) (N := 441) cx d_Mo_init_59 wm_66 (by decide) rfl (by decide) rfl (by decide) (by decide) (by decide) eT14 eb14 eM14 ?_
  obtain ⟨c15, h⟩ := er_ck h
  obtain ⟨T15, e15, h⟩ := er_lel h
  refine er_putr cx d_Mo_init_61 fd_Mo_29 c15.1 (fun _ => ⟨hin, rfl, rfl⟩) (fun _ => rfl) (fun _ => rfl) c15.2 e15 ?_
  refine er_aload_n cx d_Mo_init_64 0 rfl ?_
  refine er_sipush (v := 441) cx d_Mo_init_65 (by decide +kernel) (by decide) ?_
  obtain ⟨b16, eb16, h⟩ := er_lel h
  obtain ⟨T16, eT16, h⟩ := er_lel h
  obtain ⟨M16, eM16, h⟩ := er_lel h
  refine er_newa (t := 1) (N := 441) cx d_Mo_init_68 wm_102 (by decide) rfl (by decide) rfl (by decide) (by decide) (by decide) eT16 eb16 eM16 ?_
  obtain ⟨c17, h⟩ := er_ck h
  obtain ⟨T17, e17, h⟩ := er_lel h
  refine er_putr cx d_Mo_init_70 fd_Mo_32 c17.1 (fun _ => ⟨hin, rfl, rfl⟩) (fun _ => rfl) (fun _ => rfl) c17.2 e17 ?_
  refine er_aload_n cx d_Mo_init_73 0 rfl ?_
  refine er_sipush (v := 441) cx d_Mo_init_74 (by decide +kernel) (by decide) ?_
  obtain ⟨b18, eb18, h⟩ := er_lel h
  obtain ⟨T18, eT18, h⟩ := er_lel h
  obtain ⟨M18, eM18, h⟩ := er_lel h
  refine er_newa (t := 0) (N := 441) cx d_Mo_init_77 wm_66 (by decide) rfl (by decide) rfl (by decide) (by decide) (by decide) eT18 eb18 eM18 ?_
  obtain ⟨c19, h⟩ := er_ck h
  obtain ⟨T19, e19, h⟩ := er_lel h
  refine er_putr cx d_Mo_init_79 fd_Mo_35 c19.1 (fun _ => ⟨hin, rfl, rfl⟩) (fun _ => rfl) (fun _ => rfl) c19.2 e19 ?_
  refine er_aload_n cx d_Mo_init_82 0 rfl ?_
  refine er_bipush (v := 63) cx d_Mo_init_83 (by decide +kernel) (by decide) ?_
  obtain ⟨b20, eb20, h⟩ := er_lel h
  obtain ⟨T20, eT20, h⟩ := er_lel h
  obtain ⟨M20, eM20, h⟩ := er_lel h
  refine er_newa (t := 0) (N := 63) cx d_Mo_init_85 wm_66 (by decide) rfl (by decide) rfl (by decide) (by decide) (by decide) eT20 eb20 eM20 ?_
  obtain ⟨c21, h⟩ := er_ck h
  obtain ⟨T21, e21, h⟩ := er_lel h
  refine er_putr cx d_Mo_init_87 fd_Mo_38 c21.1 (fun _ => ⟨hin, rfl, rfl⟩) (fun _ => rfl) (fun _ => rfl) c21.2 e21 ?_
  refine er_aload_n cx d_Mo_init_90 0 rfl ?_
  refine er_sipush (v := 6174) cx d_Mo_init_91 (by decide +kernel) (by decide) ?_
  obtain ⟨b22, eb22, h⟩ := er_lel h
  obtain ⟨T22, eT22, h⟩ := er_lel h
  obtain ⟨M22, eM22, h⟩ := er_lel h
  refine er_newa (t := 0) (N := 6174) cx d_Mo_init_94 wm_66 (by decide) rfl (by decide) rfl (by decide) (by decide) (by decide) eT22 eb22 eM22 ?_
  obtain ⟨c23, h⟩ := er_ck h
  obtain ⟨T23, e23, h⟩ := er_lel h
  refine er_putr cx d_Mo_init_96 fd_Mo_41 c23.1 (fun _ => ⟨hin, rfl, rfl⟩) (fun _ => rfl) (fun _ => rfl) c23.2 e23 ?_
  refine er_aload_n cx d_Mo_init_99 0 rfl ?_
  refine er_bipush (v := 7) cx d_Mo_init_100 (by decide +kernel) (by decide) ?_
  obtain ⟨b24, eb24, h⟩ := er_lel h
  obtain ⟨T24, eT24, h⟩ := er_lel h
  obtain ⟨M24, eM24, h⟩ := er_lel h
  refine er_newa (t := 0) (N := 7) cx d_Mo_init_102 wm_66 (by decide) rfl (by decide) rfl (by decide) (by decide) (by decide) eT24 eb24 eM24 ?_
  obtain ⟨c25, h⟩ := er_ck h
  obtain ⟨T25, e25, h⟩ := er_lel h
  refine er_putr cx d_Mo_init_104 fd_Mo_44 c25.1 (fun _ => ⟨hin, rfl, rfl⟩) (fun _ => rfl) (fun _ => rfl) c25.2 e25 ?_
  refine er_aload_n cx d_Mo_init_107 0 rfl ?_
  refine er_bipush (v := 7) cx d_Mo_init_108 (by decide +kernel) (by decide) ?_
  obtain ⟨b26, eb26, h⟩ := er_lel h
  obtain ⟨T26, eT26, h⟩ := er_lel h
  obtain ⟨M26, eM26, h⟩ := er_lel h
  refine er_newa (t := 0) (N := 7) cx d_Mo_init_110 wm_66 (by decide) rfl (by decide) rfl (by decide) (by decide) (by decide) eT26 eb26 eM26 ?_
  obtain ⟨c27, h⟩ := er_ck h
  obtain ⟨T27, e27, h⟩ := er_lel h
  refine er_putr cx d_Mo_init_112 fd_Mo_47 c27.1 (fun _ => ⟨hin, rfl, rfl⟩) (fun _ => rfl) (fun _ => rfl) c27.2 e27 ?_
  refine er_aload_n cx d_Mo_init_115 0 rfl ?_
  refine er_bipush (v := 7) cx d_Mo_init_116 (by decide +kernel) (by decide) ?_
  obtain ⟨b28, eb28, h⟩ := er_lel h
  obtain ⟨T28, eT28, h⟩ := er_lel h
  obtain ⟨M28, eM28, h⟩ := er_lel h
  refine er_newa (t := 0) (N := 7) cx d_Mo_init_118 wm_66 (by decide) rfl (by decide) rfl (by decide) (by decide) (by decide) eT28 eb28 eM28 ?_
  obtain ⟨c29, h⟩ := er_ck h
  obtain ⟨T29, e29, h⟩ := er_lel h
  refine er_putr cx d_Mo_init_120 fd_Mo_50 c29.1 (fun _ => ⟨hin, rfl, rfl⟩) (fun _ => rfl) (fun _ => rfl) c29.2 e29 ?_
  refine er_aload_n cx d_Mo_init_123 0 rfl ?_
  refine er_bipush (v := 7) cx d_Mo_init_124 (by decide +kernel) (by decide) ?_
  obtain ⟨b30, eb30, h⟩ := er_lel h
  obtain ⟨T30, eT30, h⟩ := er_lel h
  obtain ⟨M30, eM30, h⟩ := er_lel h
  refine er_newa (t := 0) (N := 7) cx d_Mo_init_126 wm_66 (by decide) rfl (by decide) rfl (by decide) (by decide) (by decide) eT30 eb30 eM30 ?_
  obtain ⟨c31, h⟩ := er_ck h
  obtain ⟨T31, e31, h⟩ := er_lel h
  refine er_putr cx d_Mo_init_128 fd_Mo_53 c31.1 (fun _ => ⟨hin, rfl, rfl⟩) (fun _ => rfl) (fun _ => rfl) c31.2 e31 ?_
  refine er_aload_n cx d_Mo_init_131 0 rfl ?_
  refine er_iconst (v := 4) cx d_Mo_init_132 rfl (by decide) ?_
  obtain ⟨b32, eb32, h⟩ := er_lel h
  obtain ⟨T32, eT32, h⟩ := er_lel h
  obtain ⟨M32, eM32, h⟩ := er_lel h
  refine er_newa (t := 0) (N := 4) cx d_Mo_init_133 wm_66 (by decide) rfl (by decide) rfl (by decide) (by decide) (by decide) eT32 eb32 eM32 ?_
  obtain ⟨c33, h⟩ := er_ck h
  obtain ⟨T33, e33, h⟩ := er_lel h
  refine er_putr cx d_Mo_init_135 fd_Mo_56 c33.1 (fun _ => ⟨hin, rfl, rfl⟩) (fun _ => rfl) (fun _ => rfl) c33.2 e33 ?_
  refine er_aload_n cx d_Mo_init_138 0 rfl ?_
  refine er_iload_n cx d_Mo_init_139 1 rfl ?_
  refine er_iconst (v := 4) cx d_Mo_init_140 rfl (by decide) ?_
  refine er_ic_ge (tgt := 148) cx d_Mo_init_141 (by decide) (fun b34 => ?_) (fun b34 => ?_)
  · have h := er_ift h b34
    refine er_iload_n cx d_Mo_init_148 1 rfl ?_
    refine er_bipush (v := 7) cx d_Mo_init_149 (by decide +kernel) (by decide) ?_
    refine er_ic_le (tgt := 159) cx d_Mo_init_151 (by decide) (fun b35 => ?_) (fun b35 => ?_)
    · have h := er_ift h b35
      refine er_iload_n cx d_Mo_init_159 1 rfl ?_
      exact w_Mo_init_160 cx hin rt _ _ _ _ _ _ h
    · have h := er_iff h b35
      refine er_bipush (v := 7) cx d_Mo_init_154 (by decide +kernel) (by decide) ?_
      refine er_goto (tgt := 160) cx d_Mo_init_156 (by decide) ?_
      exact w_Mo_init_160 cx hin rt _ _ _ _ _ _ h
  · have h := er_iff h b34
    refine er_iconst (v := 4) cx d_Mo_init_144 rfl (by decide) ?_
    refine er_goto (tgt := 160) cx d_Mo_init_145 (by decide) ?_
    exact w_Mo_init_160 cx hin rt _ _ _ _ _ _ h
theorem c_Mo_init {l : Launch} {X : er_X} {r : er_Me × er_Me} {p0 p1 : Int} {T M : er_Me} (h : f_Mo_init p0 p1 T M = some r) (hok : ∀ v ∈ ([.inr p0, .inl p1] : List er_V), er_ok v) : er_Ct l X y_Mo_init b_Mo_init 3 (none) rm_Mo_init [.inr p0, .inl p1] T M none r.1 r.2 :=
  er_ct rfl rfl (Nat.le_of_ble_eq_true rfl) hok (fun K cx rt hin => w_Mo_init cx (hin rfl) rt h)
/-! Mo_isNode -/
abbrev rm_Mo_isNode : Room := { frames := 0, cells := 0, slots := 0, locals := 0 }
def f_Mo_isNode (p0 p1 : Int) (T M : er_Me) : Option (Int × er_Me) :=
  if p1 < 0 then
  some (0, M)
  else
  if T p0 (-2) = 7 then
  if M p0 0 ≤ p1 then
  some (0, M)
  else
  some (1, M) else none
set_option maxHeartbeats 4000000 in
theorem w_Mo_isNode {K : er_K} {l : Launch} {X : er_X} (cx : er_Cx K l X b_Mo_isNode "EchoedRoundsModel" 2 rm_Mo_isNode) {r : Int × er_Me} {p0 p1 : Int} {T M : er_Me} (rt : er_Rt K X b_Mo_isNode (some .boolean) 0 0 (some (.inl r.1)) T r.2) (h : f_Mo_isNode p0 p1 T M = some r) : er_G K 0 0 T M 0 [(0, .inr p0), (1, .inl p1)] [] := by
  unfold f_Mo_isNode at h
  refine er_iload_n cx d_Mo_isNode_0 1 rfl ?_
  refine er_if_lt (tgt := 16) cx d_Mo_isNode_1 (by decide) (fun b1 => ?_) (fun b1 => ?_)
  · have h := er_ift h b1
    refine er_iconst (v := 0) cx d_Mo_isNode_16 rfl (by decide) ?_
    obtain rfl := Option.some.inj h
    exact er_iret rt (Or.inr ⟨rfl, Or.inl rfl⟩) d_Mo_isNode_17 (by decide) (by decide) ⟨rfl, rfl, rfl⟩
  · have h := er_iff h b1
    refine er_iload_n cx d_Mo_isNode_4 1 rfl ?_
    refine er_aload_n cx d_Mo_isNode_5 0 rfl ?_
    obtain ⟨c3, h⟩ := er_ck h
    refine er_geti cx d_Mo_isNode_6 fd_Mo_59 c3 ?_
    refine er_ic_ge (tgt := 16) cx d_Mo_isNode_9 (by decide) (fun b4 => ?_) (fun b4 => ?_)
    · have h := er_ift h b4
      refine er_iconst (v := 0) cx d_Mo_isNode_16 rfl (by decide) ?_
      obtain rfl := Option.some.inj h
      exact er_iret rt (Or.inr ⟨rfl, Or.inl rfl⟩) d_Mo_isNode_17 (by decide) (by decide) ⟨rfl, rfl, rfl⟩
    · have h := er_iff h b4
      refine er_iconst (v := 1) cx d_Mo_isNode_12 rfl (by decide) ?_
      refine er_goto (tgt := 17) cx d_Mo_isNode_13 (by decide) ?_
      obtain rfl := Option.some.inj h
      exact er_iret rt (Or.inr ⟨rfl, Or.inr rfl⟩) d_Mo_isNode_17 (by decide) (by decide) ⟨rfl, rfl, rfl⟩
theorem c_Mo_isNode {l : Launch} {X : er_X} {r : Int × er_Me} {p0 p1 : Int} {T M : er_Me} (h : f_Mo_isNode p0 p1 T M = some r) (hok : ∀ v ∈ ([.inr p0, .inl p1] : List er_V), er_ok v) : er_Ct l X y_Mo_isNode b_Mo_isNode 2 (some .boolean) rm_Mo_isNode [.inr p0, .inl p1] T M (some (.inl r.1)) T r.2 :=
  er_ct rfl rfl (Nat.le_of_ble_eq_true rfl) hok (fun K cx rt hin => w_Mo_isNode cx rt h)
/-! Mo_at -/
abbrev rm_Mo_at : Room := { frames := 0, cells := 0, slots := 0, locals := 0 }
def f_Mo_at (p0 p1 p2 : Int) (T M : er_Me) : Option (Int × er_Me) :=
  some (er_add (er_add (er_mul 63 p0) (er_mul 7 p1)) p2, M)
set_option maxHeartbeats 4000000 in
theorem w_Mo_at {K : er_K} {l : Launch} {X : er_X} (cx : er_Cx K l X b_Mo_at "EchoedRoundsModel" 3 rm_Mo_at) {r : Int × er_Me} {p0 p1 p2 : Int} {T M : er_Me} (rt : er_Rt K X b_Mo_at (some .int) 0 0 (some (.inl r.1)) T r.2) (h : f_Mo_at p0 p1 p2 T M = some r) : er_G K 0 0 T M 0 [(0, .inl p0), (1, .inl p1), (2, .inl p2)] [] := by
  unfold f_Mo_at at h
  refine er_bipush (v := 63) cx d_Mo_at_0 (by decide +kernel) (by decide) ?_
  refine er_iload_n cx d_Mo_at_2 0 rfl ?_
  refine er_imul cx d_Mo_at_3 ?_
  refine er_bipush (v := 7) cx d_Mo_at_4 (by decide +kernel) (by decide) ?_
  refine er_iload_n cx d_Mo_at_6 1 rfl ?_
  refine er_imul cx d_Mo_at_7 ?_
  refine er_iadd cx d_Mo_at_8 ?_
  refine er_iload_n cx d_Mo_at_9 2 rfl ?_
  refine er_iadd cx d_Mo_at_10 ?_
  obtain rfl := Option.some.inj h
  exact er_iret rt (Or.inl rfl) d_Mo_at_11 (by decide) (by decide) ⟨rfl, rfl, rfl⟩
theorem c_Mo_at {l : Launch} {X : er_X} {r : Int × er_Me} {p0 p1 p2 : Int} {T M : er_Me} (h : f_Mo_at p0 p1 p2 T M = some r) (hok : ∀ v ∈ ([.inl p0, .inl p1, .inl p2] : List er_V), er_ok v) : er_Ct l X y_Mo_at b_Mo_at 3 (some .int) rm_Mo_at [.inl p0, .inl p1, .inl p2] T M (some (.inl r.1)) T r.2 :=
  er_ct rfl rfl (Nat.le_of_ble_eq_true rfl) hok (fun K cx rt hin => w_Mo_at cx rt h)
/-! Mo_count -/
abbrev rm_Mo_count : Room := { frames := 0, cells := 0, slots := 0, locals := 0 }
def f_Mo_count_6_b (self : Int → Int → Int → Int → Int → Int → Int → Int → er_Me → Option (Int × er_Me)) (v0 v1 v2 v3 v4 v5 v6 v7 : Int) (T M : er_Me) : Option (Int × er_Me) :=
  if T v0 (-2) = 7 then
  if M v0 0 ≤ v7 then
  some (v6, M)
  else
  if 0 < T v0 12 then
  if T (T v0 12) (-2) = 101 ∧ 0 ≤ er_add (er_add (er_add (er_mul 126 (er_add (er_mul 7 v1) v7)) (er_mul 63 (er_sub v2 1))) (er_mul 7 v3)) v4 ∧ er_add (er_add (er_add (er_mul 126 (er_add (er_mul 7 v1) v7)) (er_mul 63 (er_sub v2 1))) (er_mul 7 v3)) v4 < T (T v0 12) (-1) then
  if M (T v0 12) (er_add (er_add (er_add (er_mul 126 (er_add (er_mul 7 v1) v7)) (er_mul 63 (er_sub v2 1))) (er_mul 7 v3)) v4) = er_add v5 1 then
  er_le (er_add v7 1) fun x8 =>
  self v0 v1 v2 v3 v4 v5 (er_add v6 1) x8 M
  else
  er_le (er_add v7 1) fun x7 =>
  self v0 v1 v2 v3 v4 v5 v6 x7 M else none else none else none
def f_Mo_count_6 : Nat → er_Me → Int → Int → Int → Int → Int → Int → Int → Int → er_Me → Option (Int × er_Me)
  | 0, _ => fun _ _ _ _ _ _ _ _ _ => none
  | n + 1, T => fun v0 v1 v2 v3 v4 v5 v6 v7 M => f_Mo_count_6_b (f_Mo_count_6 n T) v0 v1 v2 v3 v4 v5 v6 v7 T M
set_option maxHeartbeats 4000000 in
theorem w_Mo_count_6_b {K : er_K} {l : Launch} {X : er_X} (cx : er_Cx K l X b_Mo_count "EchoedRoundsModel" 8 rm_Mo_count) {r : Int × er_Me} {T : er_Me} (rt : er_Rt K X b_Mo_count (some .int) 0 0 (some (.inl r.1)) T r.2) {self : Int → Int → Int → Int → Int → Int → Int → Int → er_Me → Option (Int × er_Me)} (hself : ∀ (v0 v1 v2 v3 v4 v5 v6 v7 : Int) (M : er_Me), self v0 v1 v2 v3 v4 v5 v6 v7 M = some r → er_G K 0 0 T M 6 [(0, .inr v0), (1, .inl v1), (2, .inl v2), (3, .inl v3), (4, .inl v4), (5, .inl v5), (6, .inl v6), (7, .inl v7)] []) : ∀ (v0 v1 v2 v3 v4 v5 v6 v7 : Int) (M : er_Me), f_Mo_count_6_b self v0 v1 v2 v3 v4 v5 v6 v7 T M = some r → er_G K 0 0 T M 6 [(0, .inr v0), (1, .inl v1), (2, .inl v2), (3, .inl v3), (4, .inl v4), (5, .inl v5), (6, .inl v6), (7, .inl v7)] [] := by
  intro v0 v1 v2 v3 v4 v5 v6 v7 M h
  unfold f_Mo_count_6_b at h
  refine er_iload cx d_Mo_count_6 7 rfl ?_
  refine er_aload_n cx d_Mo_count_8 0 rfl ?_
  obtain ⟨c1, h⟩ := er_ck h
  refine er_geti cx d_Mo_count_9 fd_Mo_59 c1 ?_
  refine er_ic_ge (tgt := 69) cx d_Mo_count_12 (by decide) (fun b2 => ?_) (fun b2 => ?_)
  · have h := er_ift h b2
    refine er_iload cx d_Mo_count_69 6 rfl ?_
    obtain rfl := Option.some.inj h
    exact er_iret rt (Or.inl rfl) d_Mo_count_71 (by decide) (by decide) ⟨rfl, rfl, rfl⟩
  · have h := er_iff h b2
    refine er_aload_n cx d_Mo_count_15 0 rfl ?_
    obtain ⟨c4, h⟩ := er_ck h
    refine er_getr cx d_Mo_count_16 fd_Mo_41 c1 c4 ?_
    refine er_bipush (v := 126) cx d_Mo_count_19 (by decide +kernel) (by decide) ?_
    refine er_bipush (v := 7) cx d_Mo_count_21 (by decide +kernel) (by decide) ?_
    refine er_iload_n cx d_Mo_count_23 1 rfl ?_
    refine er_imul cx d_Mo_count_24 ?_
    refine er_iload cx d_Mo_count_25 7 rfl ?_
    refine er_iadd cx d_Mo_count_27 ?_
    refine er_imul cx d_Mo_count_28 ?_
    refine er_bipush (v := 63) cx d_Mo_count_29 (by decide +kernel) (by decide) ?_
    refine er_iload_n cx d_Mo_count_31 2 rfl ?_
    refine er_iconst (v := 1) cx d_Mo_count_32 rfl (by decide) ?_
    refine er_isub cx d_Mo_count_33 ?_
    refine er_imul cx d_Mo_count_34 ?_
    refine er_iadd cx d_Mo_count_35 ?_
    refine er_bipush (v := 7) cx d_Mo_count_36 (by decide +kernel) (by decide) ?_
    refine er_iload_n cx d_Mo_count_38 3 rfl ?_
    refine er_imul cx d_Mo_count_39 ?_
    refine er_iadd cx d_Mo_count_40 ?_
    refine er_iload cx d_Mo_count_41 4 rfl ?_
    refine er_iadd cx d_Mo_count_43 ?_
    obtain ⟨c5, h⟩ := er_ck h
    refine er_iald cx d_Mo_count_44 c5.1 c5.2.1 c5.2.2 ?_
    refine er_iload cx d_Mo_count_45 5 rfl ?_
    refine er_iconst (v := 1) cx d_Mo_count_47 rfl (by decide) ?_
    refine er_iadd cx d_Mo_count_48 ?_
    refine er_ic_ne (tgt := 59) cx d_Mo_count_49 (by decide) (fun b6 => ?_) (fun b6 => ?_)
    · have h := er_iff h b6
      refine er_iload cx d_Mo_count_59 6 rfl ?_
      refine er_istore cx d_Mo_count_61 (by decide) rfl ?_
      obtain ⟨x7, e7, h⟩ := er_lel h
      refine er_iinc cx d_Mo_count_63 (k := 7) rfl (by decide) e7 rfl ?_
      refine er_goto (tgt := 6) cx d_Mo_count_66 (by decide) ?_
      refine er_sb cx [2, 3, 4, 5, 6, 7, 1, 0] rfl ?_
      exact hself _ _ _ _ _ _ _ _ _ h
    · have h := er_ift h b6
      refine er_iload cx d_Mo_count_52 6 rfl ?_
      refine er_iconst (v := 1) cx d_Mo_count_54 rfl (by decide) ?_
      refine er_iadd cx d_Mo_count_55 ?_
      refine er_goto (tgt := 61) cx d_Mo_count_56 (by decide) ?_
      refine er_istore cx d_Mo_count_61 (by decide) rfl ?_
      obtain ⟨x8, e8, h⟩ := er_lel h
      refine er_iinc cx d_Mo_count_63 (k := 7) rfl (by decide) e8 rfl ?_
      refine er_goto (tgt := 6) cx d_Mo_count_66 (by decide) ?_
      refine er_sb cx [2, 3, 4, 5, 6, 7, 1, 0] rfl ?_
      exact hself _ _ _ _ _ _ _ _ _ h
theorem w_Mo_count_6 {K : er_K} {l : Launch} {X : er_X} (cx : er_Cx K l X b_Mo_count "EchoedRoundsModel" 8 rm_Mo_count) {r : Int × er_Me} {T : er_Me} (rt : er_Rt K X b_Mo_count (some .int) 0 0 (some (.inl r.1)) T r.2) : ∀ n : Nat, ∀ (v0 v1 v2 v3 v4 v5 v6 v7 : Int) (M : er_Me), f_Mo_count_6 n T v0 v1 v2 v3 v4 v5 v6 v7 M = some r → er_G K 0 0 T M 6 [(0, .inr v0), (1, .inl v1), (2, .inl v2), (3, .inl v3), (4, .inl v4), (5, .inl v5), (6, .inl v6), (7, .inl v7)] [] := by
  intro n
  induction n with
  | zero =>
    intro v0 v1 v2 v3 v4 v5 v6 v7 M h
    cases h
  | succ n ih =>
    intro v0 v1 v2 v3 v4 v5 v6 v7 M h
    exact w_Mo_count_6_b cx rt ih v0 v1 v2 v3 v4 v5 v6 v7 M h
def f_Mo_count (p0 p1 p2 p3 p4 p5 : Int) (T M : er_Me) : Option (Int × er_Me) :=
  f_Mo_count_6 er_fu T p0 p1 p2 p3 p4 p5 0 0 M
set_option maxHeartbeats 4000000 in
theorem w_Mo_count {K : er_K} {l : Launch} {X : er_X} (cx : er_Cx K l X b_Mo_count "EchoedRoundsModel" 8 rm_Mo_count) {r : Int × er_Me} {p0 p1 p2 p3 p4 p5 : Int} {T M : er_Me} (rt : er_Rt K X b_Mo_count (some .int) 0 0 (some (.inl r.1)) T r.2) (h : f_Mo_count p0 p1 p2 p3 p4 p5 T M = some r) : er_G K 0 0 T M 0 [(0, .inr p0), (1, .inl p1), (2, .inl p2), (3, .inl p3), (4, .inl p4), (5, .inl p5)] [] := by
  unfold f_Mo_count at h
  refine er_iconst (v := 0) cx d_Mo_count_0 rfl (by decide) ?_
  refine er_istore cx d_Mo_count_1 (by decide) rfl ?_
  refine er_iconst (v := 0) cx d_Mo_count_3 rfl (by decide) ?_
  refine er_istore cx d_Mo_count_4 (by decide) rfl ?_
  refine er_sb cx [2, 3, 4, 5, 6, 7, 1, 0] rfl ?_
  exact w_Mo_count_6 cx rt er_fu _ _ _ _ _ _ _ _ _ h
theorem c_Mo_count {l : Launch} {X : er_X} {r : Int × er_Me} {p0 p1 p2 p3 p4 p5 : Int} {T M : er_Me} (h : f_Mo_count p0 p1 p2 p3 p4 p5 T M = some r) (hok : ∀ v ∈ ([.inr p0, .inl p1, .inl p2, .inl p3, .inl p4, .inl p5] : List er_V), er_ok v) : er_Ct l X y_Mo_count b_Mo_count 8 (some .int) rm_Mo_count [.inr p0, .inl p1, .inl p2, .inl p3, .inl p4, .inl p5] T M (some (.inl r.1)) T r.2 :=
  er_ct rfl rfl (Nat.le_of_ble_eq_true rfl) hok (fun K cx rt hin => w_Mo_count cx rt h)
/-! Mo_firmValue -/
abbrev rm_Mo_firmValue : Room := { frames := 0, cells := 0, slots := 0, locals := 0 }
def f_Mo_firmValue (p0 p1 : Int) (T M : er_Me) : Option (Int × er_Me) :=
  if T p0 (-2) = 7 ∧ 0 < T p0 17 then
  if T (T p0 17) (-2) = 101 ∧ 2 < T (T p0 17) (-1) then
  if M (T p0 17) 2 < p1 then
  if 3 < T (T p0 17) (-1) then
  if M (T p0 17) 3 < p1 then
  some ((-1), M)
  else
  some (1, M) else none
  else
  some (0, M) else none else none
set_option maxHeartbeats 4000000 in
theorem w_Mo_firmValue {K : er_K} {l : Launch} {X : er_X} (cx : er_Cx K l X b_Mo_firmValue "EchoedRoundsModel" 2 rm_Mo_firmValue) {r : Int × er_Me} {p0 p1 : Int} {T M : er_Me} (rt : er_Rt K X b_Mo_firmValue (some .int) 0 0 (some (.inl r.1)) T r.2) (h : f_Mo_firmValue p0 p1 T M = some r) : er_G K 0 0 T M 0 [(0, .inr p0), (1, .inl p1)] [] := by
  unfold f_Mo_firmValue at h
  refine er_aload_n cx d_Mo_firmValue_0 0 rfl ?_
  obtain ⟨c1, h⟩ := er_ck h
  refine er_getr cx d_Mo_firmValue_1 fd_Mo_56 c1.1 c1.2 ?_
  refine er_iconst (v := 2) cx d_Mo_firmValue_4 rfl (by decide) ?_
  obtain ⟨c2, h⟩ := er_ck h
  refine er_iald cx d_Mo_firmValue_5 c2.1 (by decide) c2.2 ?_
  refine er_iload_n cx d_Mo_firmValue_6 1 rfl ?_
  refine er_ic_lt (tgt := 14) cx d_Mo_firmValue_7 (by decide) (fun b3 => ?_) (fun b3 => ?_)
  · have h := er_ift h b3
    refine er_aload_n cx d_Mo_firmValue_14 0 rfl ?_
    refine er_getr cx d_Mo_firmValue_15 fd_Mo_56 c1.1 c1.2 ?_
    refine er_iconst (v := 3) cx d_Mo_firmValue_18 rfl (by decide) ?_
    obtain ⟨c5, h⟩ := er_ck h
    refine er_iald cx d_Mo_firmValue_19 c2.1 (by decide) c5 ?_
    refine er_iload_n cx d_Mo_firmValue_20 1 rfl ?_
    refine er_ic_lt (tgt := 28) cx d_Mo_firmValue_21 (by decide) (fun b6 => ?_) (fun b6 => ?_)
    · have h := er_ift h b6
      refine er_iconst (v := -1) cx d_Mo_firmValue_28 rfl (by decide) ?_
      obtain rfl := Option.some.inj h
      exact er_iret rt (Or.inl rfl) d_Mo_firmValue_29 (by decide) (by decide) ⟨rfl, rfl, rfl⟩
    · have h := er_iff h b6
      refine er_iconst (v := 1) cx d_Mo_firmValue_24 rfl (by decide) ?_
      refine er_goto (tgt := 29) cx d_Mo_firmValue_25 (by decide) ?_
      obtain rfl := Option.some.inj h
      exact er_iret rt (Or.inl rfl) d_Mo_firmValue_29 (by decide) (by decide) ⟨rfl, rfl, rfl⟩
  · have h := er_iff h b3
    refine er_iconst (v := 0) cx d_Mo_firmValue_10 rfl (by decide) ?_
    refine er_goto (tgt := 29) cx d_Mo_firmValue_11 (by decide) ?_
    obtain rfl := Option.some.inj h
    exact er_iret rt (Or.inl rfl) d_Mo_firmValue_29 (by decide) (by decide) ⟨rfl, rfl, rfl⟩
theorem c_Mo_firmValue {l : Launch} {X : er_X} {r : Int × er_Me} {p0 p1 : Int} {T M : er_Me} (h : f_Mo_firmValue p0 p1 T M = some r) (hok : ∀ v ∈ ([.inr p0, .inl p1] : List er_V), er_ok v) : er_Ct l X y_Mo_firmValue b_Mo_firmValue 2 (some .int) rm_Mo_firmValue [.inr p0, .inl p1] T M (some (.inl r.1)) T r.2 :=
  er_ct rfl rfl (Nat.le_of_ble_eq_true rfl) hok (fun K cx rt hin => w_Mo_firmValue cx rt h)
/-! Mo_isSlot -/
abbrev rm_Mo_isSlot : Room := { frames := 0, cells := 0, slots := 0, locals := 0 }
def f_Mo_isSlot (p0 : Int) (T M : er_Me) : Option (Int × er_Me) :=
  if p0 < 0 then
  some (0, M)
  else
  if 8 < p0 then
  some (0, M)
  else
  some (1, M)
set_option maxHeartbeats 4000000 in
theorem w_Mo_isSlot {K : er_K} {l : Launch} {X : er_X} (cx : er_Cx K l X b_Mo_isSlot "EchoedRoundsModel" 1 rm_Mo_isSlot) {r : Int × er_Me} {p0 : Int} {T M : er_Me} (rt : er_Rt K X b_Mo_isSlot (some .boolean) 0 0 (some (.inl r.1)) T r.2) (h : f_Mo_isSlot p0 T M = some r) : er_G K 0 0 T M 0 [(0, .inl p0)] [] := by
  unfold f_Mo_isSlot at h
  refine er_iload_n cx d_Mo_isSlot_0 0 rfl ?_
  refine er_if_lt (tgt := 14) cx d_Mo_isSlot_1 (by decide) (fun b1 => ?_) (fun b1 => ?_)
  · have h := er_ift h b1
    refine er_iconst (v := 0) cx d_Mo_isSlot_14 rfl (by decide) ?_
    obtain rfl := Option.some.inj h
    exact er_iret rt (Or.inr ⟨rfl, Or.inl rfl⟩) d_Mo_isSlot_15 (by decide) (by decide) ⟨rfl, rfl, rfl⟩
  · have h := er_iff h b1
    refine er_iload_n cx d_Mo_isSlot_4 0 rfl ?_
    refine er_bipush (v := 8) cx d_Mo_isSlot_5 (by decide +kernel) (by decide) ?_
    refine er_ic_gt (tgt := 14) cx d_Mo_isSlot_7 (by decide) (fun b3 => ?_) (fun b3 => ?_)
    · have h := er_ift h b3
      refine er_iconst (v := 0) cx d_Mo_isSlot_14 rfl (by decide) ?_
      obtain rfl := Option.some.inj h
      exact er_iret rt (Or.inr ⟨rfl, Or.inl rfl⟩) d_Mo_isSlot_15 (by decide) (by decide) ⟨rfl, rfl, rfl⟩
    · have h := er_iff h b3
      refine er_iconst (v := 1) cx d_Mo_isSlot_10 rfl (by decide) ?_
      refine er_goto (tgt := 15) cx d_Mo_isSlot_11 (by decide) ?_
      obtain rfl := Option.some.inj h
      exact er_iret rt (Or.inr ⟨rfl, Or.inr rfl⟩) d_Mo_isSlot_15 (by decide) (by decide) ⟨rfl, rfl, rfl⟩
theorem c_Mo_isSlot {l : Launch} {X : er_X} {r : Int × er_Me} {p0 : Int} {T M : er_Me} (h : f_Mo_isSlot p0 T M = some r) (hok : ∀ v ∈ ([.inl p0] : List er_V), er_ok v) : er_Ct l X y_Mo_isSlot b_Mo_isSlot 1 (some .boolean) rm_Mo_isSlot [.inl p0] T M (some (.inl r.1)) T r.2 :=
  er_ct rfl rfl (Nat.le_of_ble_eq_true rfl) hok (fun K cx rt hin => w_Mo_isSlot cx rt h)
/-! Mo_well -/
abbrev rm_Mo_well : Room := { frames := 1, cells := 0, slots := 0, locals := 21 }
def f_Mo_well (p0 p1 : Int) (T M : er_Me) : Option (Int × er_Me) :=
  if T p0 (-2) = 7 then
  (f_Mo_isNode p0 p1 T M).bind fun q1 =>
  if q1.1 = 0 then
  some (0, q1.2)
  else
  if 0 < T p0 2 then
  if T (T p0 2) (-2) = 102 ∧ 0 ≤ p1 ∧ p1 < T (T p0 2) (-1) then
  if q1.2 (T p0 2) p1 = 0 then
  some (1, q1.2)
  else
  some (0, q1.2) else none else none else none
set_option maxHeartbeats 4000000 in
theorem w_Mo_well {K : er_K} {l : Launch} {X : er_X} (cx : er_Cx K l X b_Mo_well "EchoedRoundsModel" 2 rm_Mo_well) {r : Int × er_Me} {p0 p1 : Int} {T M : er_Me} (rt : er_Rt K X b_Mo_well (some .boolean) 0 0 (some (.inl r.1)) T r.2) (h : f_Mo_well p0 p1 T M = some r) : er_G K 0 0 T M 0 [(0, .inr p0), (1, .inl p1)] [] := by
  unfold f_Mo_well at h
  refine er_aload_n cx d_Mo_well_0 0 rfl ?_
  refine er_iload_n cx d_Mo_well_1 1 rfl ?_
  obtain ⟨c1, h⟩ := er_ck h
  obtain ⟨q1, e1, h⟩ := er_bd h
  refine er_callV (b := p0) (As := [.inl p1]) (st := []) cx (c_Mo_isNode e1) my_Mo_66 c1 ⟨by decide, by decide⟩ rfl (Nat.le_of_ble_eq_true rfl) d_Mo_well_2 ⟨Nat.zero_le _, Nat.zero_le _⟩ rfl ?_
  refine er_if_eq (tgt := 21) cx d_Mo_well_5 (by decide) (fun b2 => ?_) (fun b2 => ?_)
  · have h := er_ift h b2
    refine er_iconst (v := 0) cx d_Mo_well_21 rfl (by decide) ?_
    obtain rfl := Option.some.inj h
    exact er_iret rt (Or.inr ⟨rfl, Or.inl rfl⟩) d_Mo_well_22 (by decide) (by decide) ⟨rfl, rfl, rfl⟩
  · have h := er_iff h b2
    refine er_aload_n cx d_Mo_well_8 0 rfl ?_
    obtain ⟨c4, h⟩ := er_ck h
    refine er_getr cx d_Mo_well_9 fd_Mo_7 c1 c4 ?_
    refine er_iload_n cx d_Mo_well_12 1 rfl ?_
    obtain ⟨c5, h⟩ := er_ck h
    refine er_zald cx d_Mo_well_13 c5.1 c5.2.1 c5.2.2 ?_
    refine er_if_ne (tgt := 21) cx d_Mo_well_14 (by decide) (fun b6 => ?_) (fun b6 => ?_)
    · have h := er_iff h b6
      refine er_iconst (v := 0) cx d_Mo_well_21 rfl (by decide) ?_
      obtain rfl := Option.some.inj h
      exact er_iret rt (Or.inr ⟨rfl, Or.inl rfl⟩) d_Mo_well_22 (by decide) (by decide) ⟨rfl, rfl, rfl⟩
    · have h := er_ift h b6
      refine er_iconst (v := 1) cx d_Mo_well_17 rfl (by decide) ?_
      refine er_goto (tgt := 22) cx d_Mo_well_18 (by decide) ?_
      obtain rfl := Option.some.inj h
      exact er_iret rt (Or.inr ⟨rfl, Or.inr rfl⟩) d_Mo_well_22 (by decide) (by decide) ⟨rfl, rfl, rfl⟩
theorem c_Mo_well {l : Launch} {X : er_X} {r : Int × er_Me} {p0 p1 : Int} {T M : er_Me} (h : f_Mo_well p0 p1 T M = some r) (hok : ∀ v ∈ ([.inr p0, .inl p1] : List er_V), er_ok v) : er_Ct l X y_Mo_well b_Mo_well 2 (some .boolean) rm_Mo_well [.inr p0, .inl p1] T M (some (.inl r.1)) T r.2 :=
  er_ct rfl rfl (Nat.le_of_ble_eq_true rfl) hok (fun K cx rt hin => w_Mo_well cx rt h)
/-! Mo_send -/
abbrev rm_Mo_send : Room := { frames := 1, cells := 0, slots := 0, locals := 22 }
def f_Mo_send (p0 p1 p2 p3 p4 p5 : Int) (T M : er_Me) : Option (er_Me) :=
  if T p0 (-2) = 7 ∧ 0 < T p0 3 then
  if 0 < T p0 4 then
  if T (T p0 4) (-2) = 101 ∧ 0 ≤ p1 ∧ p1 < T (T p0 4) (-1) then
  if T (T p0 3) (-2) = 101 ∧ 0 ≤ er_add (er_mul 140 p1) (M (T p0 4) p1) ∧ er_add (er_mul 140 p1) (M (T p0 4) p1) < T (T p0 3) (-1) then
  er_le (er_up M (T p0 3) (er_add (er_mul 140 p1) (M (T p0 4) p1)) (er_add (er_add (er_add (er_mul 1000 p3) (er_mul 100 p4)) (er_mul 10 p2)) p5)) fun M4 =>
  er_le (er_up M4 (T p0 4) p1 (er_add (M4 (T p0 4) p1) 1)) fun M8 =>
  if p2 = 2 then
  if 0 < T p0 7 then
  (f_Mo_at p1 p3 p4 T M8).bind fun q11 =>
  if T (T p0 7) (-2) = 102 ∧ 0 ≤ q11.1 ∧ q11.1 < T (T p0 7) (-1) then
  er_le (er_up q11.2 (T p0 7) q11.1 1) fun M12 =>
  some M12 else none else none
  else
  some M8 else none else none else none else none
set_option maxHeartbeats 4000000 in
theorem w_Mo_send {K : er_K} {l : Launch} {X : er_X} (cx : er_Cx K l X b_Mo_send "EchoedRoundsModel" 6 rm_Mo_send) {r : er_Me} {p0 p1 p2 p3 p4 p5 : Int} {T M : er_Me} (rt : er_Rt K X b_Mo_send (none) 0 0 none T r) (h : f_Mo_send p0 p1 p2 p3 p4 p5 T M = some r) : er_G K 0 0 T M 0 [(0, .inr p0), (1, .inl p1), (2, .inl p2), (3, .inl p3), (4, .inl p4), (5, .inl p5)] [] := by
  unfold f_Mo_send at h
  refine er_aload_n cx d_Mo_send_0 0 rfl ?_
  obtain ⟨c1, h⟩ := er_ck h
  refine er_getr cx d_Mo_send_1 fd_Mo_13 c1.1 c1.2 ?_
  refine er_sipush (v := 140) cx d_Mo_send_4 (by decide +kernel) (by decide) ?_
  refine er_iload_n cx d_Mo_send_7 1 rfl ?_
  refine er_imul cx d_Mo_send_8 ?_
  refine er_aload_n cx d_Mo_send_9 0 rfl ?_
  obtain ⟨c2, h⟩ := er_ck h
  refine er_getr cx d_Mo_send_10 fd_Mo_17 c1.1 c2 ?_
  refine er_iload_n cx d_Mo_send_13 1 rfl ?_
  obtain ⟨c3, h⟩ := er_ck h
  refine er_iald cx d_Mo_send_14 c3.1 c3.2.1 c3.2.2 ?_
  refine er_iadd cx d_Mo_send_15 ?_
  refine er_sipush (v := 1000) cx d_Mo_send_16 (by decide +kernel) (by decide) ?_
  refine er_iload_n cx d_Mo_send_19 3 rfl ?_
  refine er_imul cx d_Mo_send_20 ?_
  refine er_bipush (v := 100) cx d_Mo_send_21 (by decide +kernel) (by decide) ?_
  refine er_iload cx d_Mo_send_23 4 rfl ?_
  refine er_imul cx d_Mo_send_25 ?_
  refine er_iadd cx d_Mo_send_26 ?_
  refine er_bipush (v := 10) cx d_Mo_send_27 (by decide +kernel) (by decide) ?_
  refine er_iload_n cx d_Mo_send_29 2 rfl ?_
  refine er_imul cx d_Mo_send_30 ?_
  refine er_iadd cx d_Mo_send_31 ?_
  refine er_iload cx d_Mo_send_32 5 rfl ?_
  refine er_iadd cx d_Mo_send_34 ?_
  obtain ⟨c4, h⟩ := er_ck h
  obtain ⟨M4, e4, h⟩ := er_lel h
  refine er_iast cx d_Mo_send_35 c4.1 c4.2.1 c4.2.2 e4 ?_
  refine er_aload_n cx d_Mo_send_36 0 rfl ?_
  refine er_getr cx d_Mo_send_37 fd_Mo_17 c1.1 c2 ?_
  refine er_iload_n cx d_Mo_send_40 1 rfl ?_
  refine er_aload_n cx d_Mo_send_41 0 rfl ?_
  refine er_getr cx d_Mo_send_42 fd_Mo_17 c1.1 c2 ?_
  refine er_iload_n cx d_Mo_send_45 1 rfl ?_
  refine er_iald cx d_Mo_send_46 c3.1 c3.2.1 c3.2.2 ?_
  refine er_iconst (v := 1) cx d_Mo_send_47 rfl (by decide) ?_
  refine er_iadd cx d_Mo_send_48 ?_
  obtain ⟨M8, e8, h⟩ := er_lel h
  refine er_iast cx d_Mo_send_49 c3.1 c3.2.1 c3.2.2 e8 ?_
  refine er_iload_n cx d_Mo_send_50 2 rfl ?_
  refine er_iconst (v := 2) cx d_Mo_send_51 rfl (by decide) ?_
  refine er_ic_ne (tgt := 68) cx d_Mo_send_52 (by decide) (fun b9 => ?_) (fun b9 => ?_)
  · have h := er_iff h b9
    obtain rfl := Option.some.inj h
    exact er_vret rt d_Mo_send_68 (by decide) (by decide) ⟨rfl, rfl, rfl⟩
  · have h := er_ift h b9
    refine er_aload_n cx d_Mo_send_55 0 rfl ?_
    obtain ⟨c10, h⟩ := er_ck h
    refine er_getr cx d_Mo_send_56 fd_Mo_26 c1.1 c10 ?_
    refine er_iload_n cx d_Mo_send_59 1 rfl ?_
    refine er_iload_n cx d_Mo_send_60 3 rfl ?_
    refine er_iload cx d_Mo_send_61 4 rfl ?_
    obtain ⟨q11, e11, h⟩ := er_bd h
    refine er_callS (As := [.inl p1, .inl p3, .inl p4]) (st := [.inr (T p0 7)]) cx (c_Mo_at e11) my_Mo_70 ⟨by decide, by decide⟩ rfl (Nat.le_of_ble_eq_true rfl) d_Mo_send_63 ⟨Nat.zero_le _, Nat.zero_le _⟩ rfl ?_
    refine er_iconst (v := 1) cx d_Mo_send_66 rfl (by decide) ?_
    obtain ⟨c12, h⟩ := er_ck h
    obtain ⟨M12, e12, h⟩ := er_lel h
    refine er_zast cx d_Mo_send_67 c12.1 c12.2.1 c12.2.2 (Or.inr rfl) e12 ?_
    obtain rfl := Option.some.inj h
    exact er_vret rt d_Mo_send_68 (by decide) (by decide) ⟨rfl, rfl, rfl⟩
theorem c_Mo_send {l : Launch} {X : er_X} {r : er_Me} {p0 p1 p2 p3 p4 p5 : Int} {T M : er_Me} (h : f_Mo_send p0 p1 p2 p3 p4 p5 T M = some r) (hok : ∀ v ∈ ([.inr p0, .inl p1, .inl p2, .inl p3, .inl p4, .inl p5] : List er_V), er_ok v) : er_Ct l X y_Mo_send b_Mo_send 6 (none) rm_Mo_send [.inr p0, .inl p1, .inl p2, .inl p3, .inl p4, .inl p5] T M none T r :=
  er_ct rfl rfl (Nat.le_of_ble_eq_true rfl) hok (fun K cx rt hin => w_Mo_send cx rt h)
/-! Mo_setDoes -/
abbrev rm_Mo_setDoes : Room := { frames := 1, cells := 0, slots := 0, locals := 22 }
def f_Mo_setDoes_29_b (self : Int → Int → Int → Int → Int → Int → Int → er_Me → Option (Int × er_Me)) (v0 v1 v2 v3 v4 v5 v6 : Int) (T M : er_Me) : Option (Int × er_Me) :=
  if T v0 (-2) = 7 ∧ 0 < T v0 11 then
  if T (T v0 11) (-2) = 101 ∧ 0 ≤ er_add (er_mul 9 v1) v2 ∧ er_add (er_mul 9 v1) v2 < T (T v0 11) (-1) then
  if M (T v0 11) (er_add (er_mul 9 v1) v2) ≤ v6 then
  if v5 = er_sub (M v0 0) (M v0 1) then
  er_le (er_rem (er_add v2 1) 3) fun x7 =>
  if x7 = 1 then
  if 0 < T v0 17 then
  if T (T v0 17) (-2) = 101 ∧ 0 ≤ v4 ∧ v4 < T (T v0 17) (-1) then
  if v5 < er_mul 2 (M (T v0 17) v4) then
  some (1, M)
  else
  if v4 = 0 then
  if 0 < T (T v0 17) (-1) then
  if er_mul 2 (M (T v0 17) 0) = v5 then
  some (1, M)
  else
  some (0, M) else none
  else
  some (0, M) else none else none
  else
  if x7 = 2 then
  if v4 ≤ 1 then
  if 0 < T v0 17 then
  if T (T v0 17) (-2) = 101 ∧ 0 < T (T v0 17) (-1) then
  if M v0 0 < er_mul 2 (M (T v0 17) 0) then
  some (0, M)
  else
  if 1 < T (T v0 17) (-1) then
  if M v0 0 < er_mul 2 (M (T v0 17) 1) then
  some (0, M)
  else
  some (1, M) else none else none else none
  else
  if 0 < T v0 17 then
  if T (T v0 17) (-2) = 101 ∧ 0 ≤ er_sub v4 2 ∧ er_sub v4 2 < T (T v0 17) (-1) then
  if er_mul 2 (M (T v0 17) (er_sub v4 2)) ≤ M v0 0 then
  some (0, M)
  else
  some (1, M) else none else none
  else
  if 0 < T v0 17 then
  if T (T v0 17) (-2) = 101 ∧ 0 ≤ er_add v4 2 ∧ er_add v4 2 < T (T v0 17) (-1) then
  if M v0 1 < M (T v0 17) (er_add v4 2) then
  some (1, M)
  else
  if 2 < T (T v0 17) (-1) then
  if M v0 1 < M (T v0 17) 2 then
  some (0, M)
  else
  if 3 < T (T v0 17) (-1) then
  if M v0 1 < M (T v0 17) 3 then
  some (0, M)
  else
  some (1, M) else none else none else none else none
  else
  some (0, M)
  else
  if er_and (er_shr v3 v6) 1 = 1 then
  if 0 < T v0 8 then
  if 0 < T v0 10 then
  (f_Mo_at v1 v2 v6 T M).bind fun q60 =>
  if T (T v0 10) (-2) = 101 ∧ 0 ≤ q60.1 ∧ q60.1 < T (T v0 10) (-1) then
  (f_Mo_at v1 v2 (q60.2 (T v0 10) q60.1) T q60.2).bind fun q62 =>
  if T (T v0 8) (-2) = 101 ∧ 0 ≤ q62.1 ∧ q62.1 < T (T v0 8) (-1) then
  er_le (er_sub (q62.2 (T v0 8) q62.1) 1) fun x64 =>
  if 0 < T v0 17 then
  if T (T v0 17) (-2) = 101 ∧ 0 ≤ x64 ∧ x64 < T (T v0 17) (-1) then
  er_le (er_up q62.2 (T v0 17) x64 (er_add (q62.2 (T v0 17) x64) 1)) fun M68 =>
  er_le (er_add v6 1) fun x69 =>
  self v0 v1 v2 v3 v4 (er_add v5 1) x69 M68 else none else none else none else none else none else none
  else
  er_le (er_add v6 1) fun x57 =>
  self v0 v1 v2 v3 v4 v5 x57 M else none else none
def f_Mo_setDoes_29 : Nat → er_Me → Int → Int → Int → Int → Int → Int → Int → er_Me → Option (Int × er_Me)
  | 0, _ => fun _ _ _ _ _ _ _ _ => none
  | n + 1, T => fun v0 v1 v2 v3 v4 v5 v6 M => f_Mo_setDoes_29_b (f_Mo_setDoes_29 n T) v0 v1 v2 v3 v4 v5 v6 T M
set_option maxHeartbeats 4000000 in
theorem w_Mo_setDoes_29_b {K : er_K} {l : Launch} {X : er_X} (cx : er_Cx K l X b_Mo_setDoes "EchoedRoundsModel" 8 rm_Mo_setDoes) {r : Int × er_Me} {T : er_Me} (rt : er_Rt K X b_Mo_setDoes (some .boolean) 0 0 (some (.inl r.1)) T r.2) {self : Int → Int → Int → Int → Int → Int → Int → er_Me → Option (Int × er_Me)} (hself : ∀ (v0 v1 v2 v3 v4 v5 v6 : Int) (M : er_Me), self v0 v1 v2 v3 v4 v5 v6 M = some r → er_G K 0 0 T M 29 [(0, .inr v0), (1, .inl v1), (2, .inl v2), (3, .inl v3), (4, .inl v4), (5, .inl v5), (6, .inl v6)] []) : ∀ (v0 v1 v2 v3 v4 v5 v6 : Int) (M : er_Me), f_Mo_setDoes_29_b self v0 v1 v2 v3 v4 v5 v6 T M = some r → er_G K 0 0 T M 29 [(0, .inr v0), (1, .inl v1), (2, .inl v2), (3, .inl v3), (4, .inl v4), (5, .inl v5), (6, .inl v6)] [] := by
  intro v0 v1 v2 v3 v4 v5 v6 M h
  unfold f_Mo_setDoes_29_b at h
  refine er_iload cx d_Mo_setDoes_29 6 rfl ?_
  refine er_aload_n cx d_Mo_setDoes_31 0 rfl ?_
  obtain ⟨c1, h⟩ := er_ck h
  refine er_getr cx d_Mo_setDoes_32 fd_Mo_38 c1.1 c1.2 ?_
  refine er_bipush (v := 9) cx d_Mo_setDoes_35 (by decide +kernel) (by decide) ?_
  refine er_iload_n cx d_Mo_setDoes_37 1 rfl ?_
  refine er_imul cx d_Mo_setDoes_38 ?_
  refine er_iload_n cx d_Mo_setDoes_39 2 rfl ?_
  refine er_iadd cx d_Mo_setDoes_40 ?_
  obtain ⟨c2, h⟩ := er_ck h
  refine er_iald cx d_Mo_setDoes_41 c2.1 c2.2.1 c2.2.2 ?_
  refine er_ic_ge (tgt := 109) cx d_Mo_setDoes_42 (by decide) (fun b3 => ?_) (fun b3 => ?_)
  · have h := er_ift h b3
    refine er_iload cx d_Mo_setDoes_109 5 rfl ?_
    refine er_aload_n cx d_Mo_setDoes_111 0 rfl ?_
    refine er_geti cx d_Mo_setDoes_112 fd_Mo_59 c1.1 ?_
    refine er_aload_n cx d_Mo_setDoes_115 0 rfl ?_
    refine er_geti cx d_Mo_setDoes_116 fd_Mo_63 c1.1 ?_
    refine er_isub cx d_Mo_setDoes_119 ?_
    refine er_ic_eq (tgt := 125) cx d_Mo_setDoes_120 (by decide) (fun b6 => ?_) (fun b6 => ?_)
    · have h := er_ift h b6
      refine er_iload_n cx d_Mo_setDoes_125 2 rfl ?_
      refine er_iconst (v := 1) cx d_Mo_setDoes_126 rfl (by decide) ?_
      refine er_iadd cx d_Mo_setDoes_127 ?_
      refine er_iconst (v := 3) cx d_Mo_setDoes_128 rfl (by decide) ?_
      refine er_irem cx d_Mo_setDoes_129 (by decide) ?_
      obtain ⟨x7, e7, h⟩ := er_lel h
      refine er_nm e7 ?_
      refine er_istore cx d_Mo_setDoes_130 (by decide) rfl ?_
      refine er_iload cx d_Mo_setDoes_132 0 rfl ?_
      refine er_iconst (v := 1) cx d_Mo_setDoes_134 rfl (by decide) ?_
      refine er_ic_ne (tgt := 176) cx d_Mo_setDoes_135 (by decide) (fun b8 => ?_) (fun b8 => ?_)
      · have h := er_iff h b8
        refine er_iload cx d_Mo_setDoes_176 0 rfl ?_
        refine er_iconst (v := 2) cx d_Mo_setDoes_178 rfl (by decide) ?_
        refine er_ic_ne (tgt := 250) cx d_Mo_setDoes_179 (by decide) (fun b9 => ?_) (fun b9 => ?_)
        · have h := er_iff h b9
          refine er_aload_n cx d_Mo_setDoes_250 1 rfl ?_
          obtain ⟨c10, h⟩ := er_ck h
          refine er_getr cx d_Mo_setDoes_251 fd_Mo_56 c1.1 c10 ?_
          refine er_iload cx d_Mo_setDoes_254 5 rfl ?_
          refine er_iconst (v := 2) cx d_Mo_setDoes_256 rfl (by decide) ?_
          refine er_iadd cx d_Mo_setDoes_257 ?_
          obtain ⟨c11, h⟩ := er_ck h
          refine er_iald cx d_Mo_setDoes_258 c11.1 c11.2.1 c11.2.2 ?_
          refine er_aload_n cx d_Mo_setDoes_259 1 rfl ?_
          refine er_geti cx d_Mo_setDoes_260 fd_Mo_63 c1.1 ?_
          refine er_ic_gt (tgt := 292) cx d_Mo_setDoes_263 (by decide) (fun b13 => ?_) (fun b13 => ?_)
          · have h := er_ift h b13
            refine er_iconst (v := 1) cx d_Mo_setDoes_292 rfl (by decide) ?_
            refine er_goto (tgt := 297) cx d_Mo_setDoes_293 (by decide) ?_
            obtain rfl := Option.some.inj h
            exact er_iret rt (Or.inr ⟨rfl, Or.inr rfl⟩) d_Mo_setDoes_297 (by decide) (by decide) ⟨rfl, rfl, rfl⟩
          · have h := er_iff h b13
            refine er_aload_n cx d_Mo_setDoes_266 1 rfl ?_
            refine er_getr cx d_Mo_setDoes_267 fd_Mo_56 c1.1 c10 ?_
            refine er_iconst (v := 2) cx d_Mo_setDoes_270 rfl (by decide) ?_
            obtain ⟨c16, h⟩ := er_ck h
            refine er_iald cx d_Mo_setDoes_271 c11.1 (by decide) c16 ?_
            refine er_aload_n cx d_Mo_setDoes_272 1 rfl ?_
            refine er_geti cx d_Mo_setDoes_273 fd_Mo_63 c1.1 ?_
            refine er_ic_gt (tgt := 296) cx d_Mo_setDoes_276 (by decide) (fun b18 => ?_) (fun b18 => ?_)
            · have h := er_ift h b18
              refine er_iconst (v := 0) cx d_Mo_setDoes_296 rfl (by decide) ?_
              obtain rfl := Option.some.inj h
              exact er_iret rt (Or.inr ⟨rfl, Or.inl rfl⟩) d_Mo_setDoes_297 (by decide) (by decide) ⟨rfl, rfl, rfl⟩
            · have h := er_iff h b18
              refine er_aload_n cx d_Mo_setDoes_279 1 rfl ?_
              refine er_getr cx d_Mo_setDoes_280 fd_Mo_56 c1.1 c10 ?_
              refine er_iconst (v := 3) cx d_Mo_setDoes_283 rfl (by decide) ?_
              obtain ⟨c21, h⟩ := er_ck h
              refine er_iald cx d_Mo_setDoes_284 c11.1 (by decide) c21 ?_
              refine er_aload_n cx d_Mo_setDoes_285 1 rfl ?_
              refine er_geti cx d_Mo_setDoes_286 fd_Mo_63 c1.1 ?_
              refine er_ic_gt (tgt := 296) cx d_Mo_setDoes_289 (by decide) (fun b23 => ?_) (fun b23 => ?_)
              · have h := er_ift h b23
                refine er_iconst (v := 0) cx d_Mo_setDoes_296 rfl (by decide) ?_
                obtain rfl := Option.some.inj h
                exact er_iret rt (Or.inr ⟨rfl, Or.inl rfl⟩) d_Mo_setDoes_297 (by decide) (by decide) ⟨rfl, rfl, rfl⟩
              · have h := er_iff h b23
                refine er_iconst (v := 1) cx d_Mo_setDoes_292 rfl (by decide) ?_
                refine er_goto (tgt := 297) cx d_Mo_setDoes_293 (by decide) ?_
                obtain rfl := Option.some.inj h
                exact er_iret rt (Or.inr ⟨rfl, Or.inr rfl⟩) d_Mo_setDoes_297 (by decide) (by decide) ⟨rfl, rfl, rfl⟩
        · have h := er_ift h b9
          refine er_iload cx d_Mo_setDoes_182 5 rfl ?_
          refine er_iconst (v := 1) cx d_Mo_setDoes_184 rfl (by decide) ?_
          refine er_ic_le (tgt := 214) cx d_Mo_setDoes_185 (by decide) (fun b26 => ?_) (fun b26 => ?_)
          · have h := er_ift h b26
            refine er_iconst (v := 2) cx d_Mo_setDoes_214 rfl (by decide) ?_
            refine er_aload_n cx d_Mo_setDoes_215 1 rfl ?_
            obtain ⟨c27, h⟩ := er_ck h
            refine er_getr cx d_Mo_setDoes_216 fd_Mo_56 c1.1 c27 ?_
            refine er_iconst (v := 0) cx d_Mo_setDoes_219 rfl (by decide) ?_
            obtain ⟨c28, h⟩ := er_ck h
            refine er_iald cx d_Mo_setDoes_220 c28.1 (by decide) c28.2 ?_
            refine er_imul cx d_Mo_setDoes_221 ?_
            refine er_aload_n cx d_Mo_setDoes_222 1 rfl ?_
            refine er_geti cx d_Mo_setDoes_223 fd_Mo_59 c1.1 ?_
            refine er_ic_gt (tgt := 248) cx d_Mo_setDoes_226 (by decide) (fun b30 => ?_) (fun b30 => ?_)
            · have h := er_ift h b30
              refine er_iconst (v := 0) cx d_Mo_setDoes_248 rfl (by decide) ?_
              obtain rfl := Option.some.inj h
              exact er_iret rt (Or.inr ⟨rfl, Or.inl rfl⟩) d_Mo_setDoes_249 (by decide) (by decide) ⟨rfl, rfl, rfl⟩
            · have h := er_iff h b30
              refine er_iconst (v := 2) cx d_Mo_setDoes_229 rfl (by decide) ?_
              refine er_aload_n cx d_Mo_setDoes_230 1 rfl ?_
              refine er_getr cx d_Mo_setDoes_231 fd_Mo_56 c1.1 c27 ?_
              refine er_iconst (v := 1) cx d_Mo_setDoes_234 rfl (by decide) ?_
              obtain ⟨c33, h⟩ := er_ck h
              refine er_iald cx d_Mo_setDoes_235 c28.1 (by decide) c33 ?_
              refine er_imul cx d_Mo_setDoes_236 ?_
              refine er_aload_n cx d_Mo_setDoes_237 1 rfl ?_
              refine er_geti cx d_Mo_setDoes_238 fd_Mo_59 c1.1 ?_
              refine er_ic_gt (tgt := 248) cx d_Mo_setDoes_241 (by decide) (fun b35 => ?_) (fun b35 => ?_)
              · have h := er_ift h b35
                refine er_iconst (v := 0) cx d_Mo_setDoes_248 rfl (by decide) ?_
                obtain rfl := Option.some.inj h
                exact er_iret rt (Or.inr ⟨rfl, Or.inl rfl⟩) d_Mo_setDoes_249 (by decide) (by decide) ⟨rfl, rfl, rfl⟩
              · have h := er_iff h b35
                refine er_iconst (v := 1) cx d_Mo_setDoes_244 rfl (by decide) ?_
                refine er_goto (tgt := 249) cx d_Mo_setDoes_245 (by decide) ?_
                obtain rfl := Option.some.inj h
                exact er_iret rt (Or.inr ⟨rfl, Or.inr rfl⟩) d_Mo_setDoes_249 (by decide) (by decide) ⟨rfl, rfl, rfl⟩
          · have h := er_iff h b26
            refine er_iconst (v := 2) cx d_Mo_setDoes_188 rfl (by decide) ?_
            refine er_aload_n cx d_Mo_setDoes_189 1 rfl ?_
            obtain ⟨c38, h⟩ := er_ck h
            refine er_getr cx d_Mo_setDoes_190 fd_Mo_56 c1.1 c38 ?_
            refine er_iload cx d_Mo_setDoes_193 5 rfl ?_
            refine er_iconst (v := 2) cx d_Mo_setDoes_195 rfl (by decide) ?_
            refine er_isub cx d_Mo_setDoes_196 ?_
            obtain ⟨c39, h⟩ := er_ck h
            refine er_iald cx d_Mo_setDoes_197 c39.1 c39.2.1 c39.2.2 ?_
            refine er_imul cx d_Mo_setDoes_198 ?_
            refine er_aload_n cx d_Mo_setDoes_199 1 rfl ?_
            refine er_geti cx d_Mo_setDoes_200 fd_Mo_59 c1.1 ?_
            refine er_ic_le (tgt := 210) cx d_Mo_setDoes_203 (by decide) (fun b41 => ?_) (fun b41 => ?_)
            · have h := er_ift h b41
              refine er_iconst (v := 0) cx d_Mo_setDoes_210 rfl (by decide) ?_
              refine er_goto (tgt := 249) cx d_Mo_setDoes_211 (by decide) ?_
              obtain rfl := Option.some.inj h
              exact er_iret rt (Or.inr ⟨rfl, Or.inl rfl⟩) d_Mo_setDoes_249 (by decide) (by decide) ⟨rfl, rfl, rfl⟩
            · have h := er_iff h b41
              refine er_iconst (v := 1) cx d_Mo_setDoes_206 rfl (by decide) ?_
              refine er_goto (tgt := 249) cx d_Mo_setDoes_207 (by decide) ?_
              obtain rfl := Option.some.inj h
              exact er_iret rt (Or.inr ⟨rfl, Or.inr rfl⟩) d_Mo_setDoes_249 (by decide) (by decide) ⟨rfl, rfl, rfl⟩
      · have h := er_ift h b8
        refine er_iconst (v := 2) cx d_Mo_setDoes_138 rfl (by decide) ?_
        refine er_aload_n cx d_Mo_setDoes_139 1 rfl ?_
        obtain ⟨c44, h⟩ := er_ck h
        refine er_getr cx d_Mo_setDoes_140 fd_Mo_56 c1.1 c44 ?_
        refine er_iload cx d_Mo_setDoes_143 5 rfl ?_
        obtain ⟨c45, h⟩ := er_ck h
        refine er_iald cx d_Mo_setDoes_145 c45.1 c45.2.1 c45.2.2 ?_
        refine er_imul cx d_Mo_setDoes_146 ?_
        refine er_iload cx d_Mo_setDoes_147 6 rfl ?_
        refine er_ic_gt (tgt := 170) cx d_Mo_setDoes_149 (by decide) (fun b46 => ?_) (fun b46 => ?_)
        · have h := er_ift h b46
          refine er_iconst (v := 1) cx d_Mo_setDoes_170 rfl (by decide) ?_
          refine er_goto (tgt := 175) cx d_Mo_setDoes_171 (by decide) ?_
          obtain rfl := Option.some.inj h
          exact er_iret rt (Or.inr ⟨rfl, Or.inr rfl⟩) d_Mo_setDoes_175 (by decide) (by decide) ⟨rfl, rfl, rfl⟩
        · have h := er_iff h b46
          refine er_iload cx d_Mo_setDoes_152 5 rfl ?_
          refine er_if_ne (tgt := 174) cx d_Mo_setDoes_154 (by decide) (fun b48 => ?_) (fun b48 => ?_)
          · have h := er_iff h b48
            refine er_iconst (v := 0) cx d_Mo_setDoes_174 rfl (by decide) ?_
            obtain rfl := Option.some.inj h
            exact er_iret rt (Or.inr ⟨rfl, Or.inl rfl⟩) d_Mo_setDoes_175 (by decide) (by decide) ⟨rfl, rfl, rfl⟩
          · have h := er_ift h b48
            refine er_iconst (v := 2) cx d_Mo_setDoes_157 rfl (by decide) ?_
            refine er_aload_n cx d_Mo_setDoes_158 1 rfl ?_
            refine er_getr cx d_Mo_setDoes_159 fd_Mo_56 c1.1 c44 ?_
            refine er_iconst (v := 0) cx d_Mo_setDoes_162 rfl (by decide) ?_
            obtain ⟨c51, h⟩ := er_ck h
            refine er_iald cx d_Mo_setDoes_163 c45.1 (by decide) c51 ?_
            refine er_imul cx d_Mo_setDoes_164 ?_
            refine er_iload cx d_Mo_setDoes_165 6 rfl ?_
            refine er_ic_ne (tgt := 174) cx d_Mo_setDoes_167 (by decide) (fun b52 => ?_) (fun b52 => ?_)
            · have h := er_iff h b52
              refine er_iconst (v := 0) cx d_Mo_setDoes_174 rfl (by decide) ?_
              obtain rfl := Option.some.inj h
              exact er_iret rt (Or.inr ⟨rfl, Or.inl rfl⟩) d_Mo_setDoes_175 (by decide) (by decide) ⟨rfl, rfl, rfl⟩
            · have h := er_ift h b52
              refine er_iconst (v := 1) cx d_Mo_setDoes_170 rfl (by decide) ?_
              refine er_goto (tgt := 175) cx d_Mo_setDoes_171 (by decide) ?_
              obtain rfl := Option.some.inj h
              exact er_iret rt (Or.inr ⟨rfl, Or.inr rfl⟩) d_Mo_setDoes_175 (by decide) (by decide) ⟨rfl, rfl, rfl⟩
    · have h := er_iff h b6
      refine er_iconst (v := 0) cx d_Mo_setDoes_123 rfl (by decide) ?_
      obtain rfl := Option.some.inj h
      exact er_iret rt (Or.inr ⟨rfl, Or.inl rfl⟩) d_Mo_setDoes_124 (by decide) (by decide) ⟨rfl, rfl, rfl⟩
  · have h := er_iff h b3
    refine er_iload_n cx d_Mo_setDoes_45 3 rfl ?_
    refine er_iload cx d_Mo_setDoes_46 6 rfl ?_
    refine er_ishr cx d_Mo_setDoes_48 ?_
    refine er_iconst (v := 1) cx d_Mo_setDoes_49 rfl (by decide) ?_
    refine er_iand cx d_Mo_setDoes_50 ?_
    refine er_iconst (v := 1) cx d_Mo_setDoes_51 rfl (by decide) ?_
    refine er_ic_ne (tgt := 103) cx d_Mo_setDoes_52 (by decide) (fun b56 => ?_) (fun b56 => ?_)
    · have h := er_iff h b56
      obtain ⟨x57, e57, h⟩ := er_lel h
      refine er_iinc cx d_Mo_setDoes_103 (k := 6) rfl (by decide) e57 rfl ?_
      refine er_goto (tgt := 29) cx d_Mo_setDoes_106 (by decide) ?_
      refine er_sb cx [1, 2, 3, 4, 5, 6, 0] rfl ?_
      exact hself _ _ _ _ _ _ _ _ h
    · have h := er_ift h b56
      refine er_aload_n cx d_Mo_setDoes_55 0 rfl ?_
      obtain ⟨c58, h⟩ := er_ck h
      refine er_getr cx d_Mo_setDoes_56 fd_Mo_29 c1.1 c58 ?_
      refine er_iload_n cx d_Mo_setDoes_59 1 rfl ?_
      refine er_iload_n cx d_Mo_setDoes_60 2 rfl ?_
      refine er_aload_n cx d_Mo_setDoes_61 0 rfl ?_
      obtain ⟨c59, h⟩ := er_ck h
      refine er_getr cx d_Mo_setDoes_62 fd_Mo_35 c1.1 c59 ?_
      refine er_iload_n cx d_Mo_setDoes_65 1 rfl ?_
      refine er_iload_n cx d_Mo_setDoes_66 2 rfl ?_
      refine er_iload cx d_Mo_setDoes_67 6 rfl ?_
      obtain ⟨q60, e60, h⟩ := er_bd h
      refine er_callS (As := [.inl v1, .inl v2, .inl v6]) (st := [.inr (T v0 10), .inl v2, .inl v1, .inr (T v0 8)]) cx (c_Mo_at e60) my_Mo_70 ⟨by decide, by decide⟩ rfl (Nat.le_of_ble_eq_true rfl) d_Mo_setDoes_69 ⟨Nat.zero_le _, Nat.zero_le _⟩ rfl ?_
      obtain ⟨c61, h⟩ := er_ck h
      refine er_iald cx d_Mo_setDoes_72 c61.1 c61.2.1 c61.2.2 ?_
      obtain ⟨q62, e62, h⟩ := er_bd h
      refine er_callS (As := [.inl v1, .inl v2, .inl (q60.2 (T v0 10) q60.1)]) (st := [.inr (T v0 8)]) cx (c_Mo_at e62) my_Mo_70 ⟨by decide, by decide⟩ rfl (Nat.le_of_ble_eq_true rfl) d_Mo_setDoes_73 ⟨Nat.zero_le _, Nat.zero_le _⟩ rfl ?_
      obtain ⟨c63, h⟩ := er_ck h
      refine er_iald cx d_Mo_setDoes_76 c63.1 c63.2.1 c63.2.2 ?_
      refine er_iconst (v := 1) cx d_Mo_setDoes_77 rfl (by decide) ?_
      refine er_isub cx d_Mo_setDoes_78 ?_
      obtain ⟨x64, e64, h⟩ := er_lel h
      refine er_nm e64 ?_
      refine er_istore cx d_Mo_setDoes_79 (by decide) rfl ?_
      refine er_aload_n cx d_Mo_setDoes_81 1 rfl ?_
      obtain ⟨c65, h⟩ := er_ck h
      refine er_getr cx d_Mo_setDoes_82 fd_Mo_56 c1.1 c65 ?_
      refine er_iload cx d_Mo_setDoes_85 0 rfl ?_
      refine er_aload_n cx d_Mo_setDoes_87 1 rfl ?_
      refine er_getr cx d_Mo_setDoes_88 fd_Mo_56 c1.1 c65 ?_
      refine er_iload cx d_Mo_setDoes_91 0 rfl ?_
      obtain ⟨c67, h⟩ := er_ck h
      refine er_iald cx d_Mo_setDoes_93 c67.1 c67.2.1 c67.2.2 ?_
      refine er_iconst (v := 1) cx d_Mo_setDoes_94 rfl (by decide) ?_
      refine er_iadd cx d_Mo_setDoes_95 ?_
      obtain ⟨M68, e68, h⟩ := er_lel h
      refine er_iast cx d_Mo_setDoes_96 c67.1 c67.2.1 c67.2.2 e68 ?_
      refine er_iload cx d_Mo_setDoes_97 6 rfl ?_
      refine er_iconst (v := 1) cx d_Mo_setDoes_99 rfl (by decide) ?_
      refine er_iadd cx d_Mo_setDoes_100 ?_
      refine er_istore cx d_Mo_setDoes_101 (by decide) rfl ?_
      obtain ⟨x69, e69, h⟩ := er_lel h
      refine er_iinc cx d_Mo_setDoes_103 (k := 7) rfl (by decide) e69 rfl ?_
      refine er_goto (tgt := 29) cx d_Mo_setDoes_106 (by decide) ?_
      refine er_sb cx [3, 4, 5, 6, 7, 1, 0] rfl ?_
      exact hself _ _ _ _ _ _ _ _ h
theorem w_Mo_setDoes_29 {K : er_K} {l : Launch} {X : er_X} (cx : er_Cx K l X b_Mo_setDoes "EchoedRoundsModel" 8 rm_Mo_setDoes) {r : Int × er_Me} {T : er_Me} (rt : er_Rt K X b_Mo_setDoes (some .boolean) 0 0 (some (.inl r.1)) T r.2) : ∀ n : Nat, ∀ (v0 v1 v2 v3 v4 v5 v6 : Int) (M : er_Me), f_Mo_setDoes_29 n T v0 v1 v2 v3 v4 v5 v6 M = some r → er_G K 0 0 T M 29 [(0, .inr v0), (1, .inl v1), (2, .inl v2), (3, .inl v3), (4, .inl v4), (5, .inl v5), (6, .inl v6)] [] := by
  intro n
  induction n with
  | zero =>
    intro v0 v1 v2 v3 v4 v5 v6 M h
    cases h
  | succ n ih =>
    intro v0 v1 v2 v3 v4 v5 v6 M h
    exact w_Mo_setDoes_29_b cx rt ih v0 v1 v2 v3 v4 v5 v6 M h
def f_Mo_setDoes_3_b (self : Int → Int → Int → Int → Int → Int → er_Me → Option (Int × er_Me)) (v0 v1 v2 v3 v4 v5 : Int) (T M : er_Me) : Option (Int × er_Me) :=
  if 4 ≤ v5 then
  f_Mo_setDoes_29 er_fu T v0 v1 v2 v3 v4 0 0 M
  else
  if T v0 (-2) = 7 ∧ 0 < T v0 17 then
  if T (T v0 17) (-2) = 101 ∧ 0 ≤ v5 ∧ v5 < T (T v0 17) (-1) then
  er_le (er_up M (T v0 17) v5 0) fun M3 =>
  er_le (er_add v5 1) fun x4 =>
  self v0 v1 v2 v3 v4 x4 M3 else none else none
def f_Mo_setDoes_3 : Nat → er_Me → Int → Int → Int → Int → Int → Int → er_Me → Option (Int × er_Me)
  | 0, _ => fun _ _ _ _ _ _ _ => none
  | n + 1, T => fun v0 v1 v2 v3 v4 v5 M => f_Mo_setDoes_3_b (f_Mo_setDoes_3 n T) v0 v1 v2 v3 v4 v5 T M
set_option maxHeartbeats 4000000 in
theorem w_Mo_setDoes_3_b {K : er_K} {l : Launch} {X : er_X} (cx : er_Cx K l X b_Mo_setDoes "EchoedRoundsModel" 8 rm_Mo_setDoes) {r : Int × er_Me} {T : er_Me} (rt : er_Rt K X b_Mo_setDoes (some .boolean) 0 0 (some (.inl r.1)) T r.2) {self : Int → Int → Int → Int → Int → Int → er_Me → Option (Int × er_Me)} (hself : ∀ (v0 v1 v2 v3 v4 v5 : Int) (M : er_Me), self v0 v1 v2 v3 v4 v5 M = some r → er_G K 0 0 T M 3 [(0, .inr v0), (1, .inl v1), (2, .inl v2), (3, .inl v3), (4, .inl v4), (5, .inl v5)] []) : ∀ (v0 v1 v2 v3 v4 v5 : Int) (M : er_Me), f_Mo_setDoes_3_b self v0 v1 v2 v3 v4 v5 T M = some r → er_G K 0 0 T M 3 [(0, .inr v0), (1, .inl v1), (2, .inl v2), (3, .inl v3), (4, .inl v4), (5, .inl v5)] [] := by
  intro v0 v1 v2 v3 v4 v5 M h
  unfold f_Mo_setDoes_3_b at h
  refine er_iload cx d_Mo_setDoes_3 5 rfl ?_
  refine er_iconst (v := 4) cx d_Mo_setDoes_5 rfl (by decide) ?_
  refine er_ic_ge (tgt := 23) cx d_Mo_setDoes_6 (by decide) (fun b1 => ?_) (fun b1 => ?_)
  · have h := er_ift h b1
    refine er_iconst (v := 0) cx d_Mo_setDoes_23 rfl (by decide) ?_
    refine er_istore cx d_Mo_setDoes_24 (by decide) rfl ?_
    refine er_iconst (v := 0) cx d_Mo_setDoes_26 rfl (by decide) ?_
    refine er_istore cx d_Mo_setDoes_27 (by decide) rfl ?_
    refine er_sb cx [2, 3, 4, 5, 6, 1, 0] rfl ?_
    exact w_Mo_setDoes_29 cx rt er_fu _ _ _ _ _ _ _ _ h
  · have h := er_iff h b1
    refine er_aload_n cx d_Mo_setDoes_9 0 rfl ?_
    obtain ⟨c2, h⟩ := er_ck h
    refine er_getr cx d_Mo_setDoes_10 fd_Mo_56 c2.1 c2.2 ?_
    refine er_iload cx d_Mo_setDoes_13 5 rfl ?_
    refine er_iconst (v := 0) cx d_Mo_setDoes_15 rfl (by decide) ?_
    obtain ⟨c3, h⟩ := er_ck h
    obtain ⟨M3, e3, h⟩ := er_lel h
    refine er_iast cx d_Mo_setDoes_16 c3.1 c3.2.1 c3.2.2 e3 ?_
    obtain ⟨x4, e4, h⟩ := er_lel h
    refine er_iinc cx d_Mo_setDoes_17 (k := 5) rfl (by decide) e4 rfl ?_
    refine er_goto (tgt := 3) cx d_Mo_setDoes_20 (by decide) ?_
    refine er_sb cx [1, 2, 3, 4, 5, 0] rfl ?_
    exact hself _ _ _ _ _ _ _ h
theorem w_Mo_setDoes_3 {K : er_K} {l : Launch} {X : er_X} (cx : er_Cx K l X b_Mo_setDoes "EchoedRoundsModel" 8 rm_Mo_setDoes) {r : Int × er_Me} {T : er_Me} (rt : er_Rt K X b_Mo_setDoes (some .boolean) 0 0 (some (.inl r.1)) T r.2) : ∀ n : Nat, ∀ (v0 v1 v2 v3 v4 v5 : Int) (M : er_Me), f_Mo_setDoes_3 n T v0 v1 v2 v3 v4 v5 M = some r → er_G K 0 0 T M 3 [(0, .inr v0), (1, .inl v1), (2, .inl v2), (3, .inl v3), (4, .inl v4), (5, .inl v5)] [] := by
  intro n
  induction n with
  | zero =>
    intro v0 v1 v2 v3 v4 v5 M h
    cases h
  | succ n ih =>
    intro v0 v1 v2 v3 v4 v5 M h
    exact w_Mo_setDoes_3_b cx rt ih v0 v1 v2 v3 v4 v5 M h
def f_Mo_setDoes (p0 p1 p2 p3 p4 : Int) (T M : er_Me) : Option (Int × er_Me) :=
  f_Mo_setDoes_3 er_fu T p0 p1 p2 p3 p4 0 M
set_option maxHeartbeats 4000000 in
theorem w_Mo_setDoes {K : er_K} {l : Launch} {X : er_X} (cx : er_Cx K l X b_Mo_setDoes "EchoedRoundsModel" 8 rm_Mo_setDoes) {r : Int × er_Me} {p0 p1 p2 p3 p4 : Int} {T M : er_Me} (rt : er_Rt K X b_Mo_setDoes (some .boolean) 0 0 (some (.inl r.1)) T r.2) (h : f_Mo_setDoes p0 p1 p2 p3 p4 T M = some r) : er_G K 0 0 T M 0 [(0, .inr p0), (1, .inl p1), (2, .inl p2), (3, .inl p3), (4, .inl p4)] [] := by
  unfold f_Mo_setDoes at h
  refine er_iconst (v := 0) cx d_Mo_setDoes_0 rfl (by decide) ?_
  refine er_istore cx d_Mo_setDoes_1 (by decide) rfl ?_
  refine er_sb cx [1, 2, 3, 4, 5, 0] rfl ?_
  exact w_Mo_setDoes_3 cx rt er_fu _ _ _ _ _ _ _ h
theorem c_Mo_setDoes {l : Launch} {X : er_X} {r : Int × er_Me} {p0 p1 p2 p3 p4 : Int} {T M : er_Me} (h : f_Mo_setDoes p0 p1 p2 p3 p4 T M = some r) (hok : ∀ v ∈ ([.inr p0, .inl p1, .inl p2, .inl p3, .inl p4] : List er_V), er_ok v) : er_Ct l X y_Mo_setDoes b_Mo_setDoes 8 (some .boolean) rm_Mo_setDoes [.inr p0, .inl p1, .inl p2, .inl p3, .inl p4] T M (some (.inl r.1)) T r.2 :=
  er_ct rfl rfl (Nat.le_of_ble_eq_true rfl) hok (fun K cx rt hin => w_Mo_setDoes cx rt h)
/-! Mo_afterFirm -/
abbrev rm_Mo_afterFirm : Room := { frames := 1, cells := 0, slots := 0, locals := 21 }
def f_Mo_afterFirm_42 (T : er_Me) (v0 v1 v2 v3 s0 s1 s2 : Int) (M : er_Me) : Option (Int × er_Me) :=
  if T s0 (-2) = 101 ∧ 0 ≤ s1 ∧ s1 < T s0 (-1) then
  er_le (er_up M s0 s1 s2) fun M1 =>
  some (v3, M1) else none
set_option maxHeartbeats 4000000 in
theorem w_Mo_afterFirm_42 {K : er_K} {l : Launch} {X : er_X} (cx : er_Cx K l X b_Mo_afterFirm "EchoedRoundsModel" 5 rm_Mo_afterFirm) {r : Int × er_Me} {T : er_Me} (rt : er_Rt K X b_Mo_afterFirm (some .int) 0 0 (some (.inl r.1)) T r.2) : ∀ (v0 v1 v2 v3 s0 s1 s2 : Int) (M : er_Me), f_Mo_afterFirm_42 T v0 v1 v2 v3 s0 s1 s2 M = some r → er_G K 0 0 T M 42 [(0, .inr v0), (1, .inl v1), (2, .inl v2), (3, .inl v3)] [.inl s2, .inl s1, .inr s0] := by
  intro v0 v1 v2 v3 s0 s1 s2 M h
  unfold f_Mo_afterFirm_42 at h
  obtain ⟨c1, h⟩ := er_ck h
  obtain ⟨M1, e1, h⟩ := er_lel h
  refine er_iast cx d_Mo_afterFirm_42 c1.1 c1.2.1 c1.2.2 e1 ?_
  refine er_iload_n cx d_Mo_afterFirm_43 3 rfl ?_
  obtain rfl := Option.some.inj h
  exact er_iret rt (Or.inl rfl) d_Mo_afterFirm_44 (by decide) (by decide) ⟨rfl, rfl, rfl⟩
def f_Mo_afterFirm (p0 p1 p2 : Int) (T M : er_Me) : Option (Int × er_Me) :=
  if T p0 (-2) = 7 then
  (f_Mo_firmValue p0 (er_add (er_mul 2 (M p0 1)) 1) T M).bind fun q2 =>
  if q2.1 < 0 then
  (f_Mo_firmValue p0 (er_add (q2.2 p0 1) 1) T q2.2).bind fun q5 =>
  if q5.1 < 0 then
  if 0 < T p0 16 then
  if T (T p0 16) (-2) = 101 ∧ 0 ≤ p1 ∧ p1 < T (T p0 16) (-1) then
  some (er_and (er_shr (q5.2 (T p0 16) p1) (er_div p2 3)) 1, q5.2) else none else none
  else
  some (q5.1, q5.2)
  else
  if 0 < T p0 15 then
  if T (T p0 15) (-2) = 101 ∧ 0 ≤ p1 ∧ p1 < T (T p0 15) (-1) then
  if q2.2 (T p0 15) p1 = (-1) then
  f_Mo_afterFirm_42 T p0 p1 p2 q2.1 (T p0 15) p1 q2.1 q2.2
  else
  f_Mo_afterFirm_42 T p0 p1 p2 q2.1 (T p0 15) p1 (q2.2 (T p0 15) p1) q2.2 else none else none else none
set_option maxHeartbeats 4000000 in
theorem w_Mo_afterFirm {K : er_K} {l : Launch} {X : er_X} (cx : er_Cx K l X b_Mo_afterFirm "EchoedRoundsModel" 5 rm_Mo_afterFirm) {r : Int × er_Me} {p0 p1 p2 : Int} {T M : er_Me} (rt : er_Rt K X b_Mo_afterFirm (some .int) 0 0 (some (.inl r.1)) T r.2) (h : f_Mo_afterFirm p0 p1 p2 T M = some r) : er_G K 0 0 T M 0 [(0, .inr p0), (1, .inl p1), (2, .inl p2)] [] := by
  unfold f_Mo_afterFirm at h
  refine er_aload_n cx d_Mo_afterFirm_0 0 rfl ?_
  refine er_iconst (v := 2) cx d_Mo_afterFirm_1 rfl (by decide) ?_
  refine er_aload_n cx d_Mo_afterFirm_2 0 rfl ?_
  obtain ⟨c1, h⟩ := er_ck h
  refine er_geti cx d_Mo_afterFirm_3 fd_Mo_63 c1 ?_
  refine er_imul cx d_Mo_afterFirm_6 ?_
  refine er_iconst (v := 1) cx d_Mo_afterFirm_7 rfl (by decide) ?_
  refine er_iadd cx d_Mo_afterFirm_8 ?_
  obtain ⟨q2, e2, h⟩ := er_bd h
  refine er_callV (b := p0) (As := [.inl (er_add (er_mul 2 (M p0 1)) 1)]) (st := []) cx (c_Mo_firmValue e2) my_Mo_97 c1 ⟨by decide, by decide⟩ rfl (Nat.le_of_ble_eq_true rfl) d_Mo_afterFirm_9 ⟨Nat.zero_le _, Nat.zero_le _⟩ rfl ?_
  refine er_istore_n cx d_Mo_afterFirm_12 rfl (by decide) rfl ?_
  refine er_iload_n cx d_Mo_afterFirm_13 0 rfl ?_
  refine er_if_lt (tgt := 45) cx d_Mo_afterFirm_14 (by decide) (fun b3 => ?_) (fun b3 => ?_)
  · have h := er_ift h b3
    refine er_aload_n cx d_Mo_afterFirm_45 1 rfl ?_
    refine er_aload_n cx d_Mo_afterFirm_46 1 rfl ?_
    refine er_geti cx d_Mo_afterFirm_47 fd_Mo_63 c1 ?_
    refine er_iconst (v := 1) cx d_Mo_afterFirm_50 rfl (by decide) ?_
    refine er_iadd cx d_Mo_afterFirm_51 ?_
    obtain ⟨q5, e5, h⟩ := er_bd h
    refine er_callV (b := p0) (As := [.inl (er_add (q2.2 p0 1) 1)]) (st := []) cx (c_Mo_firmValue e5) my_Mo_97 c1 ⟨by decide, by decide⟩ rfl (Nat.le_of_ble_eq_true rfl) d_Mo_afterFirm_52 ⟨Nat.zero_le _, Nat.zero_le _⟩ rfl ?_
    refine er_istore cx d_Mo_afterFirm_55 (by decide) rfl ?_
    refine er_iload cx d_Mo_afterFirm_57 0 rfl ?_
    refine er_if_lt (tgt := 67) cx d_Mo_afterFirm_59 (by decide) (fun b6 => ?_) (fun b6 => ?_)
    · have h := er_ift h b6
      refine er_aload_n cx d_Mo_afterFirm_67 2 rfl ?_
      obtain ⟨c7, h⟩ := er_ck h
      refine er_getr cx d_Mo_afterFirm_68 fd_Mo_53 c1 c7 ?_
      refine er_iload_n cx d_Mo_afterFirm_71 3 rfl ?_
      obtain ⟨c8, h⟩ := er_ck h
      refine er_iald cx d_Mo_afterFirm_72 c8.1 c8.2.1 c8.2.2 ?_
      refine er_iload_n cx d_Mo_afterFirm_73 4 rfl ?_
      refine er_iconst (v := 3) cx d_Mo_afterFirm_74 rfl (by decide) ?_
      refine er_idiv cx d_Mo_afterFirm_75 (by decide) ?_
      refine er_ishr cx d_Mo_afterFirm_76 ?_
      refine er_iconst (v := 1) cx d_Mo_afterFirm_77 rfl (by decide) ?_
      refine er_iand cx d_Mo_afterFirm_78 ?_
      obtain rfl := Option.some.inj h
      exact er_iret rt (Or.inl rfl) d_Mo_afterFirm_79 (by decide) (by decide) ⟨rfl, rfl, rfl⟩
    · have h := er_iff h b6
      refine er_iload cx d_Mo_afterFirm_62 0 rfl ?_
      refine er_goto (tgt := 79) cx d_Mo_afterFirm_64 (by decide) ?_
      obtain rfl := Option.some.inj h
      exact er_iret rt (Or.inl rfl) d_Mo_afterFirm_79 (by decide) (by decide) ⟨rfl, rfl, rfl⟩
  · have h := er_iff h b3
    refine er_aload_n cx d_Mo_afterFirm_17 1 rfl ?_
    obtain ⟨c11, h⟩ := er_ck h
    refine er_getr cx d_Mo_afterFirm_18 fd_Mo_50 c1 c11 ?_
    refine er_iload_n cx d_Mo_afterFirm_21 2 rfl ?_
    refine er_aload_n cx d_Mo_afterFirm_22 1 rfl ?_
    refine er_getr cx d_Mo_afterFirm_23 fd_Mo_50 c1 c11 ?_
    refine er_iload_n cx d_Mo_afterFirm_26 2 rfl ?_
    obtain ⟨c13, h⟩ := er_ck h
    refine er_iald cx d_Mo_afterFirm_27 c13.1 c13.2.1 c13.2.2 ?_
    refine er_iconst (v := -1) cx d_Mo_afterFirm_28 rfl (by decide) ?_
    refine er_ic_ne (tgt := 36) cx d_Mo_afterFirm_29 (by decide) (fun b14 => ?_) (fun b14 => ?_)
    · have h := er_iff h b14
      refine er_aload_n cx d_Mo_afterFirm_36 1 rfl ?_
      refine er_getr cx d_Mo_afterFirm_37 fd_Mo_50 c1 c11 ?_
      refine er_iload_n cx d_Mo_afterFirm_40 2 rfl ?_
      refine er_iald cx d_Mo_afterFirm_41 c13.1 c13.2.1 c13.2.2 ?_
      refine er_sb cx [1, 2, 3, 0] rfl ?_
      exact w_Mo_afterFirm_42 cx rt _ _ _ _ _ _ _ _ h
    · have h := er_ift h b14
      refine er_iload_n cx d_Mo_afterFirm_32 0 rfl ?_
      refine er_goto (tgt := 42) cx d_Mo_afterFirm_33 (by decide) ?_
      refine er_sb cx [1, 2, 3, 0] rfl ?_
      exact w_Mo_afterFirm_42 cx rt _ _ _ _ _ _ _ _ h
theorem c_Mo_afterFirm {l : Launch} {X : er_X} {r : Int × er_Me} {p0 p1 p2 : Int} {T M : er_Me} (h : f_Mo_afterFirm p0 p1 p2 T M = some r) (hok : ∀ v ∈ ([.inr p0, .inl p1, .inl p2] : List er_V), er_ok v) : er_Ct l X y_Mo_afterFirm b_Mo_afterFirm 5 (some .int) rm_Mo_afterFirm [.inr p0, .inl p1, .inl p2] T M (some (.inl r.1)) T r.2 :=
  er_ct rfl rfl (Nat.le_of_ble_eq_true rfl) hok (fun K cx rt hin => w_Mo_afterFirm cx rt h)
/-! Mo_sent -/
abbrev rm_Mo_sent : Room := { frames := 1, cells := 0, slots := 0, locals := 21 }
def f_Mo_sent (p0 p1 : Int) (T M : er_Me) : Option (Int × er_Me) :=
  if T p0 (-2) = 7 then
  (f_Mo_isNode p0 p1 T M).bind fun q1 =>
  if q1.1 = 0 then
  some ((-1), q1.2)
  else
  if 0 < T p0 4 then
  if T (T p0 4) (-2) = 101 ∧ 0 ≤ p1 ∧ p1 < T (T p0 4) (-1) then
  some (q1.2 (T p0 4) p1, q1.2) else none else none else none
set_option maxHeartbeats 4000000 in
theorem w_Mo_sent {K : er_K} {l : Launch} {X : er_X} (cx : er_Cx K l X b_Mo_sent "EchoedRoundsModel" 2 rm_Mo_sent) {r : Int × er_Me} {p0 p1 : Int} {T M : er_Me} (rt : er_Rt K X b_Mo_sent (some .int) 0 0 (some (.inl r.1)) T r.2) (h : f_Mo_sent p0 p1 T M = some r) : er_G K 0 0 T M 0 [(0, .inr p0), (1, .inl p1)] [] := by
  unfold f_Mo_sent at h
  refine er_aload_n cx d_Mo_sent_0 0 rfl ?_
  refine er_iload_n cx d_Mo_sent_1 1 rfl ?_
  obtain ⟨c1, h⟩ := er_ck h
  obtain ⟨q1, e1, h⟩ := er_bd h
  refine er_callV (b := p0) (As := [.inl p1]) (st := []) cx (c_Mo_isNode e1) my_Mo_66 c1 ⟨by decide, by decide⟩ rfl (Nat.le_of_ble_eq_true rfl) d_Mo_sent_2 ⟨Nat.zero_le _, Nat.zero_le _⟩ rfl ?_
  refine er_if_eq (tgt := 17) cx d_Mo_sent_5 (by decide) (fun b2 => ?_) (fun b2 => ?_)
  · have h := er_ift h b2
    refine er_iconst (v := -1) cx d_Mo_sent_17 rfl (by decide) ?_
    obtain rfl := Option.some.inj h
    exact er_iret rt (Or.inl rfl) d_Mo_sent_18 (by decide) (by decide) ⟨rfl, rfl, rfl⟩
  · have h := er_iff h b2
    refine er_aload_n cx d_Mo_sent_8 0 rfl ?_
    obtain ⟨c4, h⟩ := er_ck h
    refine er_getr cx d_Mo_sent_9 fd_Mo_17 c1 c4 ?_
    refine er_iload_n cx d_Mo_sent_12 1 rfl ?_
    obtain ⟨c5, h⟩ := er_ck h
    refine er_iald cx d_Mo_sent_13 c5.1 c5.2.1 c5.2.2 ?_
    refine er_goto (tgt := 18) cx d_Mo_sent_14 (by decide) ?_
    obtain rfl := Option.some.inj h
    exact er_iret rt (Or.inl rfl) d_Mo_sent_18 (by decide) (by decide) ⟨rfl, rfl, rfl⟩
theorem c_Mo_sent {l : Launch} {X : er_X} {r : Int × er_Me} {p0 p1 : Int} {T M : er_Me} (h : f_Mo_sent p0 p1 T M = some r) (hok : ∀ v ∈ ([.inr p0, .inl p1] : List er_V), er_ok v) : er_Ct l X y_Mo_sent b_Mo_sent 2 (some .int) rm_Mo_sent [.inr p0, .inl p1] T M (some (.inl r.1)) T r.2 :=
  er_ct rfl rfl (Nat.le_of_ble_eq_true rfl) hok (fun K cx rt hin => w_Mo_sent cx rt h)
/-! Mo_message -/
abbrev rm_Mo_message : Room := { frames := 1, cells := 0, slots := 0, locals := 21 }
def f_Mo_message (p0 p1 p2 : Int) (T M : er_Me) : Option (Int × er_Me) :=
  if T p0 (-2) = 7 then
  (f_Mo_isNode p0 p1 T M).bind fun q1 =>
  if q1.1 = 0 then
  some ((-1), q1.2)
  else
  if p2 < 0 then
  some ((-1), q1.2)
  else
  if 0 < T p0 4 then
  if T (T p0 4) (-2) = 101 ∧ 0 ≤ p1 ∧ p1 < T (T p0 4) (-1) then
  if q1.2 (T p0 4) p1 ≤ p2 then
  some ((-1), q1.2)
  else
  if 0 < T p0 3 then
  if T (T p0 3) (-2) = 101 ∧ 0 ≤ er_add (er_mul 140 p1) p2 ∧ er_add (er_mul 140 p1) p2 < T (T p0 3) (-1) then
  some (q1.2 (T p0 3) (er_add (er_mul 140 p1) p2), q1.2) else none else none else none else none else none
set_option maxHeartbeats 4000000 in
theorem w_Mo_message {K : er_K} {l : Launch} {X : er_X} (cx : er_Cx K l X b_Mo_message "EchoedRoundsModel" 3 rm_Mo_message) {r : Int × er_Me} {p0 p1 p2 : Int} {T M : er_Me} (rt : er_Rt K X b_Mo_message (some .int) 0 0 (some (.inl r.1)) T r.2) (h : f_Mo_message p0 p1 p2 T M = some r) : er_G K 0 0 T M 0 [(0, .inr p0), (1, .inl p1), (2, .inl p2)] [] := by
  unfold f_Mo_message at h
  refine er_aload_n cx d_Mo_message_0 0 rfl ?_
  refine er_iload_n cx d_Mo_message_1 1 rfl ?_
  obtain ⟨c1, h⟩ := er_ck h
  obtain ⟨q1, e1, h⟩ := er_bd h
  refine er_callV (b := p0) (As := [.inl p1]) (st := []) cx (c_Mo_isNode e1) my_Mo_66 c1 ⟨by decide, by decide⟩ rfl (Nat.le_of_ble_eq_true rfl) d_Mo_message_2 ⟨Nat.zero_le _, Nat.zero_le _⟩ rfl ?_
  refine er_if_eq (tgt := 37) cx d_Mo_message_5 (by decide) (fun b2 => ?_) (fun b2 => ?_)
  · have h := er_ift h b2
    refine er_iconst (v := -1) cx d_Mo_message_37 rfl (by decide) ?_
    obtain rfl := Option.some.inj h
    exact er_iret rt (Or.inl rfl) d_Mo_message_38 (by decide) (by decide) ⟨rfl, rfl, rfl⟩
  · have h := er_iff h b2
    refine er_iload_n cx d_Mo_message_8 2 rfl ?_
    refine er_if_lt (tgt := 37) cx d_Mo_message_9 (by decide) (fun b4 => ?_) (fun b4 => ?_)
    · have h := er_ift h b4
      refine er_iconst (v := -1) cx d_Mo_message_37 rfl (by decide) ?_
      obtain rfl := Option.some.inj h
      exact er_iret rt (Or.inl rfl) d_Mo_message_38 (by decide) (by decide) ⟨rfl, rfl, rfl⟩
    · have h := er_iff h b4
      refine er_iload_n cx d_Mo_message_12 2 rfl ?_
      refine er_aload_n cx d_Mo_message_13 0 rfl ?_
      obtain ⟨c6, h⟩ := er_ck h
      refine er_getr cx d_Mo_message_14 fd_Mo_17 c1 c6 ?_
      refine er_iload_n cx d_Mo_message_17 1 rfl ?_
      obtain ⟨c7, h⟩ := er_ck h
      refine er_iald cx d_Mo_message_18 c7.1 c7.2.1 c7.2.2 ?_
      refine er_ic_ge (tgt := 37) cx d_Mo_message_19 (by decide) (fun b8 => ?_) (fun b8 => ?_)
      · have h := er_ift h b8
        refine er_iconst (v := -1) cx d_Mo_message_37 rfl (by decide) ?_
        obtain rfl := Option.some.inj h
        exact er_iret rt (Or.inl rfl) d_Mo_message_38 (by decide) (by decide) ⟨rfl, rfl, rfl⟩
      · have h := er_iff h b8
        refine er_aload_n cx d_Mo_message_22 0 rfl ?_
        obtain ⟨c10, h⟩ := er_ck h
        refine er_getr cx d_Mo_message_23 fd_Mo_13 c1 c10 ?_
        refine er_sipush (v := 140) cx d_Mo_message_26 (by decide +kernel) (by decide) ?_
        refine er_iload_n cx d_Mo_message_29 1 rfl ?_
        refine er_imul cx d_Mo_message_30 ?_
        refine er_iload_n cx d_Mo_message_31 2 rfl ?_
        refine er_iadd cx d_Mo_message_32 ?_
        obtain ⟨c11, h⟩ := er_ck h
        refine er_iald cx d_Mo_message_33 c11.1 c11.2.1 c11.2.2 ?_
        refine er_goto (tgt := 38) cx d_Mo_message_34 (by decide) ?_
        obtain rfl := Option.some.inj h
        exact er_iret rt (Or.inl rfl) d_Mo_message_38 (by decide) (by decide) ⟨rfl, rfl, rfl⟩
theorem c_Mo_message {l : Launch} {X : er_X} {r : Int × er_Me} {p0 p1 p2 : Int} {T M : er_Me} (h : f_Mo_message p0 p1 p2 T M = some r) (hok : ∀ v ∈ ([.inr p0, .inl p1, .inl p2] : List er_V), er_ok v) : er_Ct l X y_Mo_message b_Mo_message 3 (some .int) rm_Mo_message [.inr p0, .inl p1, .inl p2] T M (some (.inl r.1)) T r.2 :=
  er_ct rfl rfl (Nat.le_of_ble_eq_true rfl) hok (fun K cx rt hin => w_Mo_message cx rt h)
/-! Mo_waiting -/
abbrev rm_Mo_waiting : Room := { frames := 1, cells := 0, slots := 0, locals := 21 }
def f_Mo_waiting (p0 p1 p2 : Int) (T M : er_Me) : Option (Int × er_Me) :=
  if T p0 (-2) = 7 then
  (f_Mo_isNode p0 p1 T M).bind fun q1 =>
  if q1.1 = 0 then
  some ((-1), q1.2)
  else
  (f_Mo_isNode p0 p2 T q1.2).bind fun q4 =>
  if q4.1 = 0 then
  some ((-1), q4.2)
  else
  if 0 < T p0 4 then
  if T (T p0 4) (-2) = 101 ∧ 0 ≤ p1 ∧ p1 < T (T p0 4) (-1) then
  if 0 < T p0 5 then
  if T (T p0 5) (-2) = 101 ∧ 0 ≤ er_add (er_mul 7 p2) p1 ∧ er_add (er_mul 7 p2) p1 < T (T p0 5) (-1) then
  some (er_sub (q4.2 (T p0 4) p1) (q4.2 (T p0 5) (er_add (er_mul 7 p2) p1)), q4.2) else none else none else none else none else none
set_option maxHeartbeats 4000000 in
theorem w_Mo_waiting {K : er_K} {l : Launch} {X : er_X} (cx : er_Cx K l X b_Mo_waiting "EchoedRoundsModel" 3 rm_Mo_waiting) {r : Int × er_Me} {p0 p1 p2 : Int} {T M : er_Me} (rt : er_Rt K X b_Mo_waiting (some .int) 0 0 (some (.inl r.1)) T r.2) (h : f_Mo_waiting p0 p1 p2 T M = some r) : er_G K 0 0 T M 0 [(0, .inr p0), (1, .inl p1), (2, .inl p2)] [] := by
  unfold f_Mo_waiting at h
  refine er_aload_n cx d_Mo_waiting_0 0 rfl ?_
  refine er_iload_n cx d_Mo_waiting_1 1 rfl ?_
  obtain ⟨c1, h⟩ := er_ck h
  obtain ⟨q1, e1, h⟩ := er_bd h
  refine er_callV (b := p0) (As := [.inl p1]) (st := []) cx (c_Mo_isNode e1) my_Mo_66 c1 ⟨by decide, by decide⟩ rfl (Nat.le_of_ble_eq_true rfl) d_Mo_waiting_2 ⟨Nat.zero_le _, Nat.zero_le _⟩ rfl ?_
  refine er_if_eq (tgt := 37) cx d_Mo_waiting_5 (by decide) (fun b2 => ?_) (fun b2 => ?_)
  · have h := er_ift h b2
    refine er_iconst (v := -1) cx d_Mo_waiting_37 rfl (by decide) ?_
    obtain rfl := Option.some.inj h
    exact er_iret rt (Or.inl rfl) d_Mo_waiting_38 (by decide) (by decide) ⟨rfl, rfl, rfl⟩
  · have h := er_iff h b2
    refine er_aload_n cx d_Mo_waiting_8 0 rfl ?_
    refine er_iload_n cx d_Mo_waiting_9 2 rfl ?_
    obtain ⟨q4, e4, h⟩ := er_bd h
    refine er_callV (b := p0) (As := [.inl p2]) (st := []) cx (c_Mo_isNode e4) my_Mo_66 c1 ⟨by decide, by decide⟩ rfl (Nat.le_of_ble_eq_true rfl) d_Mo_waiting_10 ⟨Nat.zero_le _, Nat.zero_le _⟩ rfl ?_
    refine er_if_eq (tgt := 37) cx d_Mo_waiting_13 (by decide) (fun b5 => ?_) (fun b5 => ?_)
    · have h := er_ift h b5
      refine er_iconst (v := -1) cx d_Mo_waiting_37 rfl (by decide) ?_
      obtain rfl := Option.some.inj h
      exact er_iret rt (Or.inl rfl) d_Mo_waiting_38 (by decide) (by decide) ⟨rfl, rfl, rfl⟩
    · have h := er_iff h b5
      refine er_aload_n cx d_Mo_waiting_16 0 rfl ?_
      obtain ⟨c7, h⟩ := er_ck h
      refine er_getr cx d_Mo_waiting_17 fd_Mo_17 c1 c7 ?_
      refine er_iload_n cx d_Mo_waiting_20 1 rfl ?_
      obtain ⟨c8, h⟩ := er_ck h
      refine er_iald cx d_Mo_waiting_21 c8.1 c8.2.1 c8.2.2 ?_
      refine er_aload_n cx d_Mo_waiting_22 0 rfl ?_
      obtain ⟨c9, h⟩ := er_ck h
      refine er_getr cx d_Mo_waiting_23 fd_Mo_20 c1 c9 ?_
      refine er_bipush (v := 7) cx d_Mo_waiting_26 (by decide +kernel) (by decide) ?_
      refine er_iload_n cx d_Mo_waiting_28 2 rfl ?_
      refine er_imul cx d_Mo_waiting_29 ?_
      refine er_iload_n cx d_Mo_waiting_30 1 rfl ?_
      refine er_iadd cx d_Mo_waiting_31 ?_
      obtain ⟨c10, h⟩ := er_ck h
      refine er_iald cx d_Mo_waiting_32 c10.1 c10.2.1 c10.2.2 ?_
      refine er_isub cx d_Mo_waiting_33 ?_
      refine er_goto (tgt := 38) cx d_Mo_waiting_34 (by decide) ?_
      obtain rfl := Option.some.inj h
      exact er_iret rt (Or.inl rfl) d_Mo_waiting_38 (by decide) (by decide) ⟨rfl, rfl, rfl⟩
theorem c_Mo_waiting {l : Launch} {X : er_X} {r : Int × er_Me} {p0 p1 p2 : Int} {T M : er_Me} (h : f_Mo_waiting p0 p1 p2 T M = some r) (hok : ∀ v ∈ ([.inr p0, .inl p1, .inl p2] : List er_V), er_ok v) : er_Ct l X y_Mo_waiting b_Mo_waiting 3 (some .int) rm_Mo_waiting [.inr p0, .inl p1, .inl p2] T M (some (.inl r.1)) T r.2 :=
  er_ct rfl rfl (Nat.le_of_ble_eq_true rfl) hok (fun K cx rt hin => w_Mo_waiting cx rt h)
/-! Mo_votes -/
abbrev rm_Mo_votes : Room := { frames := 1, cells := 0, slots := 0, locals := 27 }
def f_Mo_votes_46 (T : er_Me) (v0 v1 v2 v3 v4 v5 s0 s1 s2 : Int) (M : er_Me) : Option (Int × er_Me) :=
  if T s0 (-2) = 7 then
  (f_Mo_count s0 s1 s2 v2 v3 v4 T M).bind fun q1 =>
  some (q1.1, q1.2) else none
set_option maxHeartbeats 4000000 in
theorem w_Mo_votes_46 {K : er_K} {l : Launch} {X : er_X} (cx : er_Cx K l X b_Mo_votes "EchoedRoundsModel" 6 rm_Mo_votes) {r : Int × er_Me} {T : er_Me} (rt : er_Rt K X b_Mo_votes (some .int) 0 0 (some (.inl r.1)) T r.2) : ∀ (v0 v1 v2 v3 v4 v5 s0 s1 s2 : Int) (M : er_Me), f_Mo_votes_46 T v0 v1 v2 v3 v4 v5 s0 s1 s2 M = some r → er_G K 0 0 T M 46 [(0, .inr v0), (1, .inl v1), (2, .inl v2), (3, .inl v3), (4, .inl v4), (5, .inl v5)] [.inl s2, .inl s1, .inr s0] := by
  intro v0 v1 v2 v3 v4 v5 s0 s1 s2 M h
  unfold f_Mo_votes_46 at h
  refine er_iload_n cx d_Mo_votes_46 2 rfl ?_
  refine er_iload_n cx d_Mo_votes_47 3 rfl ?_
  refine er_iload cx d_Mo_votes_48 4 rfl ?_
  obtain ⟨c1, h⟩ := er_ck h
  obtain ⟨q1, e1, h⟩ := er_bd h
  refine er_callV (b := s0) (As := [.inl s1, .inl s2, .inl v2, .inl v3, .inl v4]) (st := []) cx (c_Mo_count e1) my_Mo_78 c1 ⟨by decide, by decide⟩ rfl (Nat.le_of_ble_eq_true rfl) d_Mo_votes_50 ⟨Nat.zero_le _, Nat.zero_le _⟩ rfl ?_
  refine er_goto (tgt := 57) cx d_Mo_votes_53 (by decide) ?_
  obtain rfl := Option.some.inj h
  exact er_iret rt (Or.inl rfl) d_Mo_votes_57 (by decide) (by decide) ⟨rfl, rfl, rfl⟩
def f_Mo_votes (p0 p1 p2 p3 p4 p5 : Int) (T M : er_Me) : Option (Int × er_Me) :=
  if T p0 (-2) = 7 then
  (f_Mo_isNode p0 p1 T M).bind fun q1 =>
  if q1.1 = 0 then
  some (0, q1.2)
  else
  (f_Mo_isNode p0 p3 T q1.2).bind fun q4 =>
  if q4.1 = 0 then
  some (0, q4.2)
  else
  (f_Mo_isSlot p2 T q4.2).bind fun q7 =>
  if q7.1 = 0 then
  some (0, q7.2)
  else
  if p4 < 0 then
  some (0, q7.2)
  else
  if 3 < p4 then
  some (0, q7.2)
  else
  if p5 = 0 then
  f_Mo_votes_46 T p0 p1 p2 p3 p4 p5 p0 p1 1 q7.2
  else
  f_Mo_votes_46 T p0 p1 p2 p3 p4 p5 p0 p1 2 q7.2 else none
set_option maxHeartbeats 4000000 in
theorem w_Mo_votes {K : er_K} {l : Launch} {X : er_X} (cx : er_Cx K l X b_Mo_votes "EchoedRoundsModel" 6 rm_Mo_votes) {r : Int × er_Me} {p0 p1 p2 p3 p4 p5 : Int} {T M : er_Me} (rt : er_Rt K X b_Mo_votes (some .int) 0 0 (some (.inl r.1)) T r.2) (h : f_Mo_votes p0 p1 p2 p3 p4 p5 T M = some r) : er_G K 0 0 T M 0 [(0, .inr p0), (1, .inl p1), (2, .inl p2), (3, .inl p3), (4, .inl p4), (5, .inl p5)] [] := by
  unfold f_Mo_votes at h
  refine er_aload_n cx d_Mo_votes_0 0 rfl ?_
  refine er_iload_n cx d_Mo_votes_1 1 rfl ?_
  obtain ⟨c1, h⟩ := er_ck h
  obtain ⟨q1, e1, h⟩ := er_bd h
  refine er_callV (b := p0) (As := [.inl p1]) (st := []) cx (c_Mo_isNode e1) my_Mo_66 c1 ⟨by decide, by decide⟩ rfl (Nat.le_of_ble_eq_true rfl) d_Mo_votes_2 ⟨Nat.zero_le _, Nat.zero_le _⟩ rfl ?_
  refine er_if_eq (tgt := 56) cx d_Mo_votes_5 (by decide) (fun b2 => ?_) (fun b2 => ?_)
  · have h := er_ift h b2
    refine er_iconst (v := 0) cx d_Mo_votes_56 rfl (by decide) ?_
    obtain rfl := Option.some.inj h
    exact er_iret rt (Or.inl rfl) d_Mo_votes_57 (by decide) (by decide) ⟨rfl, rfl, rfl⟩
  · have h := er_iff h b2
    refine er_aload_n cx d_Mo_votes_8 0 rfl ?_
    refine er_iload_n cx d_Mo_votes_9 3 rfl ?_
    obtain ⟨q4, e4, h⟩ := er_bd h
    refine er_callV (b := p0) (As := [.inl p3]) (st := []) cx (c_Mo_isNode e4) my_Mo_66 c1 ⟨by decide, by decide⟩ rfl (Nat.le_of_ble_eq_true rfl) d_Mo_votes_10 ⟨Nat.zero_le _, Nat.zero_le _⟩ rfl ?_
    refine er_if_eq (tgt := 56) cx d_Mo_votes_13 (by decide) (fun b5 => ?_) (fun b5 => ?_)
    · have h := er_ift h b5
      refine er_iconst (v := 0) cx d_Mo_votes_56 rfl (by decide) ?_
      obtain rfl := Option.some.inj h
      exact er_iret rt (Or.inl rfl) d_Mo_votes_57 (by decide) (by decide) ⟨rfl, rfl, rfl⟩
    · have h := er_iff h b5
      refine er_iload_n cx d_Mo_votes_16 2 rfl ?_
      obtain ⟨q7, e7, h⟩ := er_bd h
      refine er_callS (As := [.inl p2]) (st := []) cx (c_Mo_isSlot e7) my_Mo_122 ⟨by decide, by decide⟩ rfl (Nat.le_of_ble_eq_true rfl) d_Mo_votes_17 ⟨Nat.zero_le _, Nat.zero_le _⟩ rfl ?_
      refine er_if_eq (tgt := 56) cx d_Mo_votes_20 (by decide) (fun b8 => ?_) (fun b8 => ?_)
      · have h := er_ift h b8
        refine er_iconst (v := 0) cx d_Mo_votes_56 rfl (by decide) ?_
        obtain rfl := Option.some.inj h
        exact er_iret rt (Or.inl rfl) d_Mo_votes_57 (by decide) (by decide) ⟨rfl, rfl, rfl⟩
      · have h := er_iff h b8
        refine er_iload cx d_Mo_votes_23 4 rfl ?_
        refine er_if_lt (tgt := 56) cx d_Mo_votes_25 (by decide) (fun b10 => ?_) (fun b10 => ?_)
        · have h := er_ift h b10
          refine er_iconst (v := 0) cx d_Mo_votes_56 rfl (by decide) ?_
          obtain rfl := Option.some.inj h
          exact er_iret rt (Or.inl rfl) d_Mo_votes_57 (by decide) (by decide) ⟨rfl, rfl, rfl⟩
        · have h := er_iff h b10
          refine er_iload cx d_Mo_votes_28 4 rfl ?_
          refine er_iconst (v := 3) cx d_Mo_votes_30 rfl (by decide) ?_
          refine er_ic_gt (tgt := 56) cx d_Mo_votes_31 (by decide) (fun b12 => ?_) (fun b12 => ?_)
          · have h := er_ift h b12
            refine er_iconst (v := 0) cx d_Mo_votes_56 rfl (by decide) ?_
            obtain rfl := Option.some.inj h
            exact er_iret rt (Or.inl rfl) d_Mo_votes_57 (by decide) (by decide) ⟨rfl, rfl, rfl⟩
          · have h := er_iff h b12
            refine er_aload_n cx d_Mo_votes_34 0 rfl ?_
            refine er_iload_n cx d_Mo_votes_35 1 rfl ?_
            refine er_iload cx d_Mo_votes_36 5 rfl ?_
            refine er_if_eq (tgt := 45) cx d_Mo_votes_38 (by decide) (fun b14 => ?_) (fun b14 => ?_)
            · have h := er_ift h b14
              refine er_iconst (v := 1) cx d_Mo_votes_45 rfl (by decide) ?_
              exact w_Mo_votes_46 cx rt _ _ _ _ _ _ _ _ _ _ h
            · have h := er_iff h b14
              refine er_iconst (v := 2) cx d_Mo_votes_41 rfl (by decide) ?_
              refine er_goto (tgt := 46) cx d_Mo_votes_42 (by decide) ?_
              exact w_Mo_votes_46 cx rt _ _ _ _ _ _ _ _ _ _ h
theorem c_Mo_votes {l : Launch} {X : er_X} {r : Int × er_Me} {p0 p1 p2 p3 p4 p5 : Int} {T M : er_Me} (h : f_Mo_votes p0 p1 p2 p3 p4 p5 T M = some r) (hok : ∀ v ∈ ([.inr p0, .inl p1, .inl p2, .inl p3, .inl p4, .inl p5] : List er_V), er_ok v) : er_Ct l X y_Mo_votes b_Mo_votes 6 (some .int) rm_Mo_votes [.inr p0, .inl p1, .inl p2, .inl p3, .inl p4, .inl p5] T M (some (.inl r.1)) T r.2 :=
  er_ct rfl rfl (Nat.le_of_ble_eq_true rfl) hok (fun K cx rt hin => w_Mo_votes cx rt h)
/-! Mo_accepted -/
abbrev rm_Mo_accepted : Room := { frames := 1, cells := 0, slots := 0, locals := 22 }
def f_Mo_accepted (p0 p1 p2 p3 : Int) (T M : er_Me) : Option (Int × er_Me) :=
  if T p0 (-2) = 7 then
  (f_Mo_isNode p0 p1 T M).bind fun q1 =>
  if q1.1 = 0 then
  some ((-1), q1.2)
  else
  (f_Mo_isNode p0 p3 T q1.2).bind fun q4 =>
  if q4.1 = 0 then
  some ((-1), q4.2)
  else
  (f_Mo_isSlot p2 T q4.2).bind fun q7 =>
  if q7.1 = 0 then
  some ((-1), q7.2)
  else
  if 0 < T p0 8 then
  (f_Mo_at p1 p2 p3 T q7.2).bind fun q11 =>
  if T (T p0 8) (-2) = 101 ∧ 0 ≤ q11.1 ∧ q11.1 < T (T p0 8) (-1) then
  some (er_sub (q11.2 (T p0 8) q11.1) 1, q11.2) else none else none else none
set_option maxHeartbeats 4000000 in
theorem w_Mo_accepted {K : er_K} {l : Launch} {X : er_X} (cx : er_Cx K l X b_Mo_accepted "EchoedRoundsModel" 4 rm_Mo_accepted) {r : Int × er_Me} {p0 p1 p2 p3 : Int} {T M : er_Me} (rt : er_Rt K X b_Mo_accepted (some .int) 0 0 (some (.inl r.1)) T r.2) (h : f_Mo_accepted p0 p1 p2 p3 T M = some r) : er_G K 0 0 T M 0 [(0, .inr p0), (1, .inl p1), (2, .inl p2), (3, .inl p3)] [] := by
  unfold f_Mo_accepted at h
  refine er_aload_n cx d_Mo_accepted_0 0 rfl ?_
  refine er_iload_n cx d_Mo_accepted_1 1 rfl ?_
  obtain ⟨c1, h⟩ := er_ck h
  obtain ⟨q1, e1, h⟩ := er_bd h
  refine er_callV (b := p0) (As := [.inl p1]) (st := []) cx (c_Mo_isNode e1) my_Mo_66 c1 ⟨by decide, by decide⟩ rfl (Nat.le_of_ble_eq_true rfl) d_Mo_accepted_2 ⟨Nat.zero_le _, Nat.zero_le _⟩ rfl ?_
  refine er_if_eq (tgt := 39) cx d_Mo_accepted_5 (by decide) (fun b2 => ?_) (fun b2 => ?_)
  · have h := er_ift h b2
    refine er_iconst (v := -1) cx d_Mo_accepted_39 rfl (by decide) ?_
    obtain rfl := Option.some.inj h
    exact er_iret rt (Or.inl rfl) d_Mo_accepted_40 (by decide) (by decide) ⟨rfl, rfl, rfl⟩
  · have h := er_iff h b2
    refine er_aload_n cx d_Mo_accepted_8 0 rfl ?_
    refine er_iload_n cx d_Mo_accepted_9 3 rfl ?_
    obtain ⟨q4, e4, h⟩ := er_bd h
    refine er_callV (b := p0) (As := [.inl p3]) (st := []) cx (c_Mo_isNode e4) my_Mo_66 c1 ⟨by decide, by decide⟩ rfl (Nat.le_of_ble_eq_true rfl) d_Mo_accepted_10 ⟨Nat.zero_le _, Nat.zero_le _⟩ rfl ?_
    refine er_if_eq (tgt := 39) cx d_Mo_accepted_13 (by decide) (fun b5 => ?_) (fun b5 => ?_)
    · have h := er_ift h b5
      refine er_iconst (v := -1) cx d_Mo_accepted_39 rfl (by decide) ?_
      obtain rfl := Option.some.inj h
      exact er_iret rt (Or.inl rfl) d_Mo_accepted_40 (by decide) (by decide) ⟨rfl, rfl, rfl⟩
    · have h := er_iff h b5
      refine er_iload_n cx d_Mo_accepted_16 2 rfl ?_
      obtain ⟨q7, e7, h⟩ := er_bd h
      refine er_callS (As := [.inl p2]) (st := []) cx (c_Mo_isSlot e7) my_Mo_122 ⟨by decide, by decide⟩ rfl (Nat.le_of_ble_eq_true rfl) d_Mo_accepted_17 ⟨Nat.zero_le _, Nat.zero_le _⟩ rfl ?_
      refine er_if_eq (tgt := 39) cx d_Mo_accepted_20 (by decide) (fun b8 => ?_) (fun b8 => ?_)
      · have h := er_ift h b8
        refine er_iconst (v := -1) cx d_Mo_accepted_39 rfl (by decide) ?_
        obtain rfl := Option.some.inj h
        exact er_iret rt (Or.inl rfl) d_Mo_accepted_40 (by decide) (by decide) ⟨rfl, rfl, rfl⟩
      · have h := er_iff h b8
        refine er_aload_n cx d_Mo_accepted_23 0 rfl ?_
        obtain ⟨c10, h⟩ := er_ck h
        refine er_getr cx d_Mo_accepted_24 fd_Mo_29 c1 c10 ?_
        refine er_iload_n cx d_Mo_accepted_27 1 rfl ?_
        refine er_iload_n cx d_Mo_accepted_28 2 rfl ?_
        refine er_iload_n cx d_Mo_accepted_29 3 rfl ?_
        obtain ⟨q11, e11, h⟩ := er_bd h
        refine er_callS (As := [.inl p1, .inl p2, .inl p3]) (st := [.inr (T p0 8)]) cx (c_Mo_at e11) my_Mo_70 ⟨by decide, by decide⟩ rfl (Nat.le_of_ble_eq_true rfl) d_Mo_accepted_30 ⟨Nat.zero_le _, Nat.zero_le _⟩ rfl ?_
        obtain ⟨c12, h⟩ := er_ck h
        refine er_iald cx d_Mo_accepted_33 c12.1 c12.2.1 c12.2.2 ?_
        refine er_iconst (v := 1) cx d_Mo_accepted_34 rfl (by decide) ?_
        refine er_isub cx d_Mo_accepted_35 ?_
        refine er_goto (tgt := 40) cx d_Mo_accepted_36 (by decide) ?_
        obtain rfl := Option.some.inj h
        exact er_iret rt (Or.inl rfl) d_Mo_accepted_40 (by decide) (by decide) ⟨rfl, rfl, rfl⟩
theorem c_Mo_accepted {l : Launch} {X : er_X} {r : Int × er_Me} {p0 p1 p2 p3 : Int} {T M : er_Me} (h : f_Mo_accepted p0 p1 p2 p3 T M = some r) (hok : ∀ v ∈ ([.inr p0, .inl p1, .inl p2, .inl p3] : List er_V), er_ok v) : er_Ct l X y_Mo_accepted b_Mo_accepted 4 (some .int) rm_Mo_accepted [.inr p0, .inl p1, .inl p2, .inl p3] T M (some (.inl r.1)) T r.2 :=
  er_ct rfl rfl (Nat.le_of_ble_eq_true rfl) hok (fun K cx rt hin => w_Mo_accepted cx rt h)
/-! Mo_rowAt -/
abbrev rm_Mo_rowAt : Room := { frames := 1, cells := 0, slots := 0, locals := 22 }
def f_Mo_rowAt (p0 p1 p2 p3 : Int) (T M : er_Me) : Option (Int × er_Me) :=
  if T p0 (-2) = 7 then
  (f_Mo_isNode p0 p1 T M).bind fun q1 =>
  if q1.1 = 0 then
  some ((-1), q1.2)
  else
  (f_Mo_isSlot p2 T q1.2).bind fun q4 =>
  if q4.1 = 0 then
  some ((-1), q4.2)
  else
  if p3 < 0 then
  some ((-1), q4.2)
  else
  if 0 < T p0 11 then
  if T (T p0 11) (-2) = 101 ∧ 0 ≤ er_add (er_mul 9 p1) p2 ∧ er_add (er_mul 9 p1) p2 < T (T p0 11) (-1) then
  if q4.2 (T p0 11) (er_add (er_mul 9 p1) p2) ≤ p3 then
  some ((-1), q4.2)
  else
  if 0 < T p0 10 then
  (f_Mo_at p1 p2 p3 T q4.2).bind fun q14 =>
  if T (T p0 10) (-2) = 101 ∧ 0 ≤ q14.1 ∧ q14.1 < T (T p0 10) (-1) then
  some (q14.2 (T p0 10) q14.1, q14.2) else none else none else none else none else none
set_option maxHeartbeats 4000000 in
theorem w_Mo_rowAt {K : er_K} {l : Launch} {X : er_X} (cx : er_Cx K l X b_Mo_rowAt "EchoedRoundsModel" 4 rm_Mo_rowAt) {r : Int × er_Me} {p0 p1 p2 p3 : Int} {T M : er_Me} (rt : er_Rt K X b_Mo_rowAt (some .int) 0 0 (some (.inl r.1)) T r.2) (h : f_Mo_rowAt p0 p1 p2 p3 T M = some r) : er_G K 0 0 T M 0 [(0, .inr p0), (1, .inl p1), (2, .inl p2), (3, .inl p3)] [] := by
  unfold f_Mo_rowAt at h
  refine er_aload_n cx d_Mo_rowAt_0 0 rfl ?_
  refine er_iload_n cx d_Mo_rowAt_1 1 rfl ?_
  obtain ⟨c1, h⟩ := er_ck h
  obtain ⟨q1, e1, h⟩ := er_bd h
  refine er_callV (b := p0) (As := [.inl p1]) (st := []) cx (c_Mo_isNode e1) my_Mo_66 c1 ⟨by decide, by decide⟩ rfl (Nat.le_of_ble_eq_true rfl) d_Mo_rowAt_2 ⟨Nat.zero_le _, Nat.zero_le _⟩ rfl ?_
  refine er_if_eq (tgt := 48) cx d_Mo_rowAt_5 (by decide) (fun b2 => ?_) (fun b2 => ?_)
  · have h := er_ift h b2
    refine er_iconst (v := -1) cx d_Mo_rowAt_48 rfl (by decide) ?_
    obtain rfl := Option.some.inj h
    exact er_iret rt (Or.inl rfl) d_Mo_rowAt_49 (by decide) (by decide) ⟨rfl, rfl, rfl⟩
  · have h := er_iff h b2
    refine er_iload_n cx d_Mo_rowAt_8 2 rfl ?_
    obtain ⟨q4, e4, h⟩ := er_bd h
    refine er_callS (As := [.inl p2]) (st := []) cx (c_Mo_isSlot e4) my_Mo_122 ⟨by decide, by decide⟩ rfl (Nat.le_of_ble_eq_true rfl) d_Mo_rowAt_9 ⟨Nat.zero_le _, Nat.zero_le _⟩ rfl ?_
    refine er_if_eq (tgt := 48) cx d_Mo_rowAt_12 (by decide) (fun b5 => ?_) (fun b5 => ?_)
    · have h := er_ift h b5
      refine er_iconst (v := -1) cx d_Mo_rowAt_48 rfl (by decide) ?_
      obtain rfl := Option.some.inj h
      exact er_iret rt (Or.inl rfl) d_Mo_rowAt_49 (by decide) (by decide) ⟨rfl, rfl, rfl⟩
    · have h := er_iff h b5
      refine er_iload_n cx d_Mo_rowAt_15 3 rfl ?_
      refine er_if_lt (tgt := 48) cx d_Mo_rowAt_16 (by decide) (fun b7 => ?_) (fun b7 => ?_)
      · have h := er_ift h b7
        refine er_iconst (v := -1) cx d_Mo_rowAt_48 rfl (by decide) ?_
        obtain rfl := Option.some.inj h
        exact er_iret rt (Or.inl rfl) d_Mo_rowAt_49 (by decide) (by decide) ⟨rfl, rfl, rfl⟩
      · have h := er_iff h b7
        refine er_iload_n cx d_Mo_rowAt_19 3 rfl ?_
        refine er_aload_n cx d_Mo_rowAt_20 0 rfl ?_
        obtain ⟨c9, h⟩ := er_ck h
        refine er_getr cx d_Mo_rowAt_21 fd_Mo_38 c1 c9 ?_
        refine er_bipush (v := 9) cx d_Mo_rowAt_24 (by decide +kernel) (by decide) ?_
        refine er_iload_n cx d_Mo_rowAt_26 1 rfl ?_
        refine er_imul cx d_Mo_rowAt_27 ?_
        refine er_iload_n cx d_Mo_rowAt_28 2 rfl ?_
        refine er_iadd cx d_Mo_rowAt_29 ?_
        obtain ⟨c10, h⟩ := er_ck h
        refine er_iald cx d_Mo_rowAt_30 c10.1 c10.2.1 c10.2.2 ?_
        refine er_ic_ge (tgt := 48) cx d_Mo_rowAt_31 (by decide) (fun b11 => ?_) (fun b11 => ?_)
        · have h := er_ift h b11
          refine er_iconst (v := -1) cx d_Mo_rowAt_48 rfl (by decide) ?_
          obtain rfl := Option.some.inj h
          exact er_iret rt (Or.inl rfl) d_Mo_rowAt_49 (by decide) (by decide) ⟨rfl, rfl, rfl⟩
        · have h := er_iff h b11
          refine er_aload_n cx d_Mo_rowAt_34 0 rfl ?_
          obtain ⟨c13, h⟩ := er_ck h
          refine er_getr cx d_Mo_rowAt_35 fd_Mo_35 c1 c13 ?_
          refine er_iload_n cx d_Mo_rowAt_38 1 rfl ?_
          refine er_iload_n cx d_Mo_rowAt_39 2 rfl ?_
          refine er_iload_n cx d_Mo_rowAt_40 3 rfl ?_
          obtain ⟨q14, e14, h⟩ := er_bd h
          refine er_callS (As := [.inl p1, .inl p2, .inl p3]) (st := [.inr (T p0 10)]) cx (c_Mo_at e14) my_Mo_70 ⟨by decide, by decide⟩ rfl (Nat.le_of_ble_eq_true rfl) d_Mo_rowAt_41 ⟨Nat.zero_le _, Nat.zero_le _⟩ rfl ?_
          obtain ⟨c15, h⟩ := er_ck h
          refine er_iald cx d_Mo_rowAt_44 c15.1 c15.2.1 c15.2.2 ?_
          refine er_goto (tgt := 49) cx d_Mo_rowAt_45 (by decide) ?_
          obtain rfl := Option.some.inj h
          exact er_iret rt (Or.inl rfl) d_Mo_rowAt_49 (by decide) (by decide) ⟨rfl, rfl, rfl⟩
theorem c_Mo_rowAt {l : Launch} {X : er_X} {r : Int × er_Me} {p0 p1 p2 p3 : Int} {T M : er_Me} (h : f_Mo_rowAt p0 p1 p2 p3 T M = some r) (hok : ∀ v ∈ ([.inr p0, .inl p1, .inl p2, .inl p3] : List er_V), er_ok v) : er_Ct l X y_Mo_rowAt b_Mo_rowAt 4 (some .int) rm_Mo_rowAt [.inr p0, .inl p1, .inl p2, .inl p3] T M (some (.inl r.1)) T r.2 :=
  er_ct rfl rfl (Nat.le_of_ble_eq_true rfl) hok (fun K cx rt hin => w_Mo_rowAt cx rt h)
/-! Mo_slot -/
abbrev rm_Mo_slot : Room := { frames := 1, cells := 0, slots := 0, locals := 21 }
def f_Mo_slot (p0 p1 : Int) (T M : er_Me) : Option (Int × er_Me) :=
  if T p0 (-2) = 7 then
  (f_Mo_isNode p0 p1 T M).bind fun q1 =>
  if q1.1 = 0 then
  some ((-1), q1.2)
  else
  if 0 < T p0 13 then
  if T (T p0 13) (-2) = 101 ∧ 0 ≤ p1 ∧ p1 < T (T p0 13) (-1) then
  some (q1.2 (T p0 13) p1, q1.2) else none else none else none
set_option maxHeartbeats 4000000 in
theorem w_Mo_slot {K : er_K} {l : Launch} {X : er_X} (cx : er_Cx K l X b_Mo_slot "EchoedRoundsModel" 2 rm_Mo_slot) {r : Int × er_Me} {p0 p1 : Int} {T M : er_Me} (rt : er_Rt K X b_Mo_slot (some .int) 0 0 (some (.inl r.1)) T r.2) (h : f_Mo_slot p0 p1 T M = some r) : er_G K 0 0 T M 0 [(0, .inr p0), (1, .inl p1)] [] := by
  unfold f_Mo_slot at h
  refine er_aload_n cx d_Mo_slot_0 0 rfl ?_
  refine er_iload_n cx d_Mo_slot_1 1 rfl ?_
  obtain ⟨c1, h⟩ := er_ck h
  obtain ⟨q1, e1, h⟩ := er_bd h
  refine er_callV (b := p0) (As := [.inl p1]) (st := []) cx (c_Mo_isNode e1) my_Mo_66 c1 ⟨by decide, by decide⟩ rfl (Nat.le_of_ble_eq_true rfl) d_Mo_slot_2 ⟨Nat.zero_le _, Nat.zero_le _⟩ rfl ?_
  refine er_if_eq (tgt := 17) cx d_Mo_slot_5 (by decide) (fun b2 => ?_) (fun b2 => ?_)
  · have h := er_ift h b2
    refine er_iconst (v := -1) cx d_Mo_slot_17 rfl (by decide) ?_
    obtain rfl := Option.some.inj h
    exact er_iret rt (Or.inl rfl) d_Mo_slot_18 (by decide) (by decide) ⟨rfl, rfl, rfl⟩
  · have h := er_iff h b2
    refine er_aload_n cx d_Mo_slot_8 0 rfl ?_
    obtain ⟨c4, h⟩ := er_ck h
    refine er_getr cx d_Mo_slot_9 fd_Mo_44 c1 c4 ?_
    refine er_iload_n cx d_Mo_slot_12 1 rfl ?_
    obtain ⟨c5, h⟩ := er_ck h
    refine er_iald cx d_Mo_slot_13 c5.1 c5.2.1 c5.2.2 ?_
    refine er_goto (tgt := 18) cx d_Mo_slot_14 (by decide) ?_
    obtain rfl := Option.some.inj h
    exact er_iret rt (Or.inl rfl) d_Mo_slot_18 (by decide) (by decide) ⟨rfl, rfl, rfl⟩
theorem c_Mo_slot {l : Launch} {X : er_X} {r : Int × er_Me} {p0 p1 : Int} {T M : er_Me} (h : f_Mo_slot p0 p1 T M = some r) (hok : ∀ v ∈ ([.inr p0, .inl p1] : List er_V), er_ok v) : er_Ct l X y_Mo_slot b_Mo_slot 2 (some .int) rm_Mo_slot [.inr p0, .inl p1] T M (some (.inl r.1)) T r.2 :=
  er_ct rfl rfl (Nat.le_of_ble_eq_true rfl) hok (fun K cx rt hin => w_Mo_slot cx rt h)
/-! Mo_value -/
abbrev rm_Mo_value : Room := { frames := 1, cells := 0, slots := 0, locals := 21 }
def f_Mo_value (p0 p1 : Int) (T M : er_Me) : Option (Int × er_Me) :=
  if T p0 (-2) = 7 then
  (f_Mo_isNode p0 p1 T M).bind fun q1 =>
  if q1.1 = 0 then
  some ((-1), q1.2)
  else
  if 0 < T p0 13 then
  if T (T p0 13) (-2) = 101 ∧ 0 ≤ p1 ∧ p1 < T (T p0 13) (-1) then
  if q1.2 (T p0 13) p1 < 0 then
  some ((-1), q1.2)
  else
  if 0 < T p0 14 then
  if T (T p0 14) (-2) = 101 ∧ p1 < T (T p0 14) (-1) then
  some (q1.2 (T p0 14) p1, q1.2) else none else none else none else none else none
set_option maxHeartbeats 4000000 in
theorem w_Mo_value {K : er_K} {l : Launch} {X : er_X} (cx : er_Cx K l X b_Mo_value "EchoedRoundsModel" 2 rm_Mo_value) {r : Int × er_Me} {p0 p1 : Int} {T M : er_Me} (rt : er_Rt K X b_Mo_value (some .int) 0 0 (some (.inl r.1)) T r.2) (h : f_Mo_value p0 p1 T M = some r) : er_G K 0 0 T M 0 [(0, .inr p0), (1, .inl p1)] [] := by
  unfold f_Mo_value at h
  refine er_aload_n cx d_Mo_value_0 0 rfl ?_
  refine er_iload_n cx d_Mo_value_1 1 rfl ?_
  obtain ⟨c1, h⟩ := er_ck h
  obtain ⟨q1, e1, h⟩ := er_bd h
  refine er_callV (b := p0) (As := [.inl p1]) (st := []) cx (c_Mo_isNode e1) my_Mo_66 c1 ⟨by decide, by decide⟩ rfl (Nat.le_of_ble_eq_true rfl) d_Mo_value_2 ⟨Nat.zero_le _, Nat.zero_le _⟩ rfl ?_
  refine er_if_eq (tgt := 26) cx d_Mo_value_5 (by decide) (fun b2 => ?_) (fun b2 => ?_)
  · have h := er_ift h b2
    refine er_iconst (v := -1) cx d_Mo_value_26 rfl (by decide) ?_
    obtain rfl := Option.some.inj h
    exact er_iret rt (Or.inl rfl) d_Mo_value_27 (by decide) (by decide) ⟨rfl, rfl, rfl⟩
  · have h := er_iff h b2
    refine er_aload_n cx d_Mo_value_8 0 rfl ?_
    obtain ⟨c4, h⟩ := er_ck h
    refine er_getr cx d_Mo_value_9 fd_Mo_44 c1 c4 ?_
    refine er_iload_n cx d_Mo_value_12 1 rfl ?_
    obtain ⟨c5, h⟩ := er_ck h
    refine er_iald cx d_Mo_value_13 c5.1 c5.2.1 c5.2.2 ?_
    refine er_if_lt (tgt := 26) cx d_Mo_value_14 (by decide) (fun b6 => ?_) (fun b6 => ?_)
    · have h := er_ift h b6
      refine er_iconst (v := -1) cx d_Mo_value_26 rfl (by decide) ?_
      obtain rfl := Option.some.inj h
      exact er_iret rt (Or.inl rfl) d_Mo_value_27 (by decide) (by decide) ⟨rfl, rfl, rfl⟩
    · have h := er_iff h b6
      refine er_aload_n cx d_Mo_value_17 0 rfl ?_
      obtain ⟨c8, h⟩ := er_ck h
      refine er_getr cx d_Mo_value_18 fd_Mo_47 c1 c8 ?_
      refine er_iload_n cx d_Mo_value_21 1 rfl ?_
      obtain ⟨c9, h⟩ := er_ck h
      refine er_iald cx d_Mo_value_22 c9.1 c5.2.1 c9.2 ?_
      refine er_goto (tgt := 27) cx d_Mo_value_23 (by decide) ?_
      obtain rfl := Option.some.inj h
      exact er_iret rt (Or.inl rfl) d_Mo_value_27 (by decide) (by decide) ⟨rfl, rfl, rfl⟩
theorem c_Mo_value {l : Launch} {X : er_X} {r : Int × er_Me} {p0 p1 : Int} {T M : er_Me} (h : f_Mo_value p0 p1 T M = some r) (hok : ∀ v ∈ ([.inr p0, .inl p1] : List er_V), er_ok v) : er_Ct l X y_Mo_value b_Mo_value 2 (some .int) rm_Mo_value [.inr p0, .inl p1] T M (some (.inl r.1)) T r.2 :=
  er_ct rfl rfl (Nat.le_of_ble_eq_true rfl) hok (fun K cx rt hin => w_Mo_value cx rt h)
/-! Mo_decided -/
abbrev rm_Mo_decided : Room := { frames := 1, cells := 0, slots := 0, locals := 21 }
def f_Mo_decided (p0 p1 : Int) (T M : er_Me) : Option (Int × er_Me) :=
  if T p0 (-2) = 7 then
  (f_Mo_isNode p0 p1 T M).bind fun q1 =>
  if q1.1 = 0 then
  some ((-1), q1.2)
  else
  if 0 < T p0 15 then
  if T (T p0 15) (-2) = 101 ∧ 0 ≤ p1 ∧ p1 < T (T p0 15) (-1) then
  some (q1.2 (T p0 15) p1, q1.2) else none else none else none
set_option maxHeartbeats 4000000 in
theorem w_Mo_decided {K : er_K} {l : Launch} {X : er_X} (cx : er_Cx K l X b_Mo_decided "EchoedRoundsModel" 2 rm_Mo_decided) {r : Int × er_Me} {p0 p1 : Int} {T M : er_Me} (rt : er_Rt K X b_Mo_decided (some .int) 0 0 (some (.inl r.1)) T r.2) (h : f_Mo_decided p0 p1 T M = some r) : er_G K 0 0 T M 0 [(0, .inr p0), (1, .inl p1)] [] := by
  unfold f_Mo_decided at h
  refine er_aload_n cx d_Mo_decided_0 0 rfl ?_
  refine er_iload_n cx d_Mo_decided_1 1 rfl ?_
  obtain ⟨c1, h⟩ := er_ck h
  obtain ⟨q1, e1, h⟩ := er_bd h
  refine er_callV (b := p0) (As := [.inl p1]) (st := []) cx (c_Mo_isNode e1) my_Mo_66 c1 ⟨by decide, by decide⟩ rfl (Nat.le_of_ble_eq_true rfl) d_Mo_decided_2 ⟨Nat.zero_le _, Nat.zero_le _⟩ rfl ?_
  refine er_if_eq (tgt := 17) cx d_Mo_decided_5 (by decide) (fun b2 => ?_) (fun b2 => ?_)
  · have h := er_ift h b2
    refine er_iconst (v := -1) cx d_Mo_decided_17 rfl (by decide) ?_
    obtain rfl := Option.some.inj h
    exact er_iret rt (Or.inl rfl) d_Mo_decided_18 (by decide) (by decide) ⟨rfl, rfl, rfl⟩
  · have h := er_iff h b2
    refine er_aload_n cx d_Mo_decided_8 0 rfl ?_
    obtain ⟨c4, h⟩ := er_ck h
    refine er_getr cx d_Mo_decided_9 fd_Mo_50 c1 c4 ?_
    refine er_iload_n cx d_Mo_decided_12 1 rfl ?_
    obtain ⟨c5, h⟩ := er_ck h
    refine er_iald cx d_Mo_decided_13 c5.1 c5.2.1 c5.2.2 ?_
    refine er_goto (tgt := 18) cx d_Mo_decided_14 (by decide) ?_
    obtain rfl := Option.some.inj h
    exact er_iret rt (Or.inl rfl) d_Mo_decided_18 (by decide) (by decide) ⟨rfl, rfl, rfl⟩
theorem c_Mo_decided {l : Launch} {X : er_X} {r : Int × er_Me} {p0 p1 : Int} {T M : er_Me} (h : f_Mo_decided p0 p1 T M = some r) (hok : ∀ v ∈ ([.inr p0, .inl p1] : List er_V), er_ok v) : er_Ct l X y_Mo_decided b_Mo_decided 2 (some .int) rm_Mo_decided [.inr p0, .inl p1] T M (some (.inl r.1)) T r.2 :=
  er_ct rfl rfl (Nat.le_of_ble_eq_true rfl) hok (fun K cx rt hin => w_Mo_decided cx rt h)
/-! Mo_corrupt -/
abbrev rm_Mo_corrupt : Room := { frames := 2, cells := 0, slots := 0, locals := 42 }
def f_Mo_corrupt (p0 p1 : Int) (T M : er_Me) : Option (Int × er_Me) :=
  if T p0 (-2) = 7 then
  (f_Mo_well p0 p1 T M).bind fun q1 =>
  if q1.1 = 0 then
  some (0, q1.2)
  else
  if 0 < T p0 2 then
  if T (T p0 2) (-2) = 102 ∧ 0 ≤ p1 ∧ p1 < T (T p0 2) (-1) then
  er_le (er_up q1.2 (T p0 2) p1 1) fun M4 =>
  some (1, M4) else none else none else none
set_option maxHeartbeats 4000000 in
theorem w_Mo_corrupt {K : er_K} {l : Launch} {X : er_X} (cx : er_Cx K l X b_Mo_corrupt "EchoedRoundsModel" 2 rm_Mo_corrupt) {r : Int × er_Me} {p0 p1 : Int} {T M : er_Me} (rt : er_Rt K X b_Mo_corrupt (some .boolean) 0 0 (some (.inl r.1)) T r.2) (h : f_Mo_corrupt p0 p1 T M = some r) : er_G K 0 0 T M 0 [(0, .inr p0), (1, .inl p1)] [] := by
  unfold f_Mo_corrupt at h
  refine er_aload_n cx d_Mo_corrupt_0 0 rfl ?_
  refine er_iload_n cx d_Mo_corrupt_1 1 rfl ?_
  obtain ⟨c1, h⟩ := er_ck h
  obtain ⟨q1, e1, h⟩ := er_bd h
  refine er_callV (b := p0) (As := [.inl p1]) (st := []) cx (c_Mo_well e1) my_Mo_115 c1 ⟨by decide, by decide⟩ rfl (Nat.le_of_ble_eq_true rfl) d_Mo_corrupt_2 ⟨Nat.zero_le _, Nat.zero_le _⟩ rfl ?_
  refine er_if_ne (tgt := 10) cx d_Mo_corrupt_5 (by decide) (fun b2 => ?_) (fun b2 => ?_)
  · have h := er_iff h b2
    refine er_aload_n cx d_Mo_corrupt_10 0 rfl ?_
    obtain ⟨c3, h⟩ := er_ck h
    refine er_getr cx d_Mo_corrupt_11 fd_Mo_7 c1 c3 ?_
    refine er_iload_n cx d_Mo_corrupt_14 1 rfl ?_
    refine er_iconst (v := 1) cx d_Mo_corrupt_15 rfl (by decide) ?_
    obtain ⟨c4, h⟩ := er_ck h
    obtain ⟨M4, e4, h⟩ := er_lel h
    refine er_zast cx d_Mo_corrupt_16 c4.1 c4.2.1 c4.2.2 (Or.inr rfl) e4 ?_
    refine er_iconst (v := 1) cx d_Mo_corrupt_17 rfl (by decide) ?_
    obtain rfl := Option.some.inj h
    exact er_iret rt (Or.inr ⟨rfl, Or.inr rfl⟩) d_Mo_corrupt_18 (by decide) (by decide) ⟨rfl, rfl, rfl⟩
  · have h := er_ift h b2
    refine er_iconst (v := 0) cx d_Mo_corrupt_8 rfl (by decide) ?_
    obtain rfl := Option.some.inj h
    exact er_iret rt (Or.inr ⟨rfl, Or.inl rfl⟩) d_Mo_corrupt_9 (by decide) (by decide) ⟨rfl, rfl, rfl⟩
theorem c_Mo_corrupt {l : Launch} {X : er_X} {r : Int × er_Me} {p0 p1 : Int} {T M : er_Me} (h : f_Mo_corrupt p0 p1 T M = some r) (hok : ∀ v ∈ ([.inr p0, .inl p1] : List er_V), er_ok v) : er_Ct l X y_Mo_corrupt b_Mo_corrupt 2 (some .boolean) rm_Mo_corrupt [.inr p0, .inl p1] T M (some (.inl r.1)) T r.2 :=
  er_ct rfl rfl (Nat.le_of_ble_eq_true rfl) hok (fun K cx rt hin => w_Mo_corrupt cx rt h)
/-! Mo_tosses -/
abbrev rm_Mo_tosses : Room := { frames := 2, cells := 0, slots := 0, locals := 42 }
def f_Mo_tosses (p0 p1 p2 : Int) (T M : er_Me) : Option (Int × er_Me) :=
  if T p0 (-2) = 7 then
  (f_Mo_well p0 p1 T M).bind fun q1 =>
  if q1.1 = 0 then
  some (0, q1.2)
  else
  if 0 < T p0 16 then
  if T (T p0 16) (-2) = 101 ∧ 0 ≤ p1 ∧ p1 < T (T p0 16) (-1) then
  er_le (er_up q1.2 (T p0 16) p1 (er_and p2 7)) fun M4 =>
  some (1, M4) else none else none else none
set_option maxHeartbeats 4000000 in
theorem w_Mo_tosses {K : er_K} {l : Launch} {X : er_X} (cx : er_Cx K l X b_Mo_tosses "EchoedRoundsModel" 3 rm_Mo_tosses) {r : Int × er_Me} {p0 p1 p2 : Int} {T M : er_Me} (rt : er_Rt K X b_Mo_tosses (some .boolean) 0 0 (some (.inl r.1)) T r.2) (h : f_Mo_tosses p0 p1 p2 T M = some r) : er_G K 0 0 T M 0 [(0, .inr p0), (1, .inl p1), (2, .inl p2)] [] := by
  unfold f_Mo_tosses at h
  refine er_aload_n cx d_Mo_tosses_0 0 rfl ?_
  refine er_iload_n cx d_Mo_tosses_1 1 rfl ?_
  obtain ⟨c1, h⟩ := er_ck h
  obtain ⟨q1, e1, h⟩ := er_bd h
  refine er_callV (b := p0) (As := [.inl p1]) (st := []) cx (c_Mo_well e1) my_Mo_115 c1 ⟨by decide, by decide⟩ rfl (Nat.le_of_ble_eq_true rfl) d_Mo_tosses_2 ⟨Nat.zero_le _, Nat.zero_le _⟩ rfl ?_
  refine er_if_ne (tgt := 10) cx d_Mo_tosses_5 (by decide) (fun b2 => ?_) (fun b2 => ?_)
  · have h := er_iff h b2
    refine er_aload_n cx d_Mo_tosses_10 0 rfl ?_
    obtain ⟨c3, h⟩ := er_ck h
    refine er_getr cx d_Mo_tosses_11 fd_Mo_53 c1 c3 ?_
    refine er_iload_n cx d_Mo_tosses_14 1 rfl ?_
    refine er_iload_n cx d_Mo_tosses_15 2 rfl ?_
    refine er_bipush (v := 7) cx d_Mo_tosses_16 (by decide +kernel) (by decide) ?_
    refine er_iand cx d_Mo_tosses_18 ?_
    obtain ⟨c4, h⟩ := er_ck h
    obtain ⟨M4, e4, h⟩ := er_lel h
    refine er_iast cx d_Mo_tosses_19 c4.1 c4.2.1 c4.2.2 e4 ?_
    refine er_iconst (v := 1) cx d_Mo_tosses_20 rfl (by decide) ?_
    obtain rfl := Option.some.inj h
    exact er_iret rt (Or.inr ⟨rfl, Or.inr rfl⟩) d_Mo_tosses_21 (by decide) (by decide) ⟨rfl, rfl, rfl⟩
  · have h := er_ift h b2
    refine er_iconst (v := 0) cx d_Mo_tosses_8 rfl (by decide) ?_
    obtain rfl := Option.some.inj h
    exact er_iret rt (Or.inr ⟨rfl, Or.inl rfl⟩) d_Mo_tosses_9 (by decide) (by decide) ⟨rfl, rfl, rfl⟩
theorem c_Mo_tosses {l : Launch} {X : er_X} {r : Int × er_Me} {p0 p1 p2 : Int} {T M : er_Me} (h : f_Mo_tosses p0 p1 p2 T M = some r) (hok : ∀ v ∈ ([.inr p0, .inl p1, .inl p2] : List er_V), er_ok v) : er_Ct l X y_Mo_tosses b_Mo_tosses 3 (some .boolean) rm_Mo_tosses [.inr p0, .inl p1, .inl p2] T M (some (.inl r.1)) T r.2 :=
  er_ct rfl rfl (Nat.le_of_ble_eq_true rfl) hok (fun K cx rt hin => w_Mo_tosses cx rt h)
/-! Mo_receive -/
abbrev rm_Mo_receive : Room := { frames := 2, cells := 0, slots := 0, locals := 47 }
def f_Mo_receive_176 (T : er_Me) (v0 v1 v2 v3 v4 v5 v6 v7 v8 v9 v10 : Int) (M : er_Me) : Option (Int × er_Me) :=
  if v3 = 2 then
  if T v0 (-2) = 7 then
  if v9 < er_add (er_mul 2 (M v0 1)) 1 then
  some (1, M)
  else
  if 0 < T v0 8 then
  if T (T v0 8) (-2) = 101 ∧ 0 ≤ v7 ∧ v7 < T (T v0 8) (-1) then
  if M (T v0 8) v7 = 0 then
  er_le (er_up M (T v0 8) v7 (er_add v6 1)) fun M11 =>
  some (1, M11)
  else
  some (1, M) else none else none else none
  else
  some (1, M)
set_option maxHeartbeats 4000000 in
theorem w_Mo_receive_176 {K : er_K} {l : Launch} {X : er_X} (cx : er_Cx K l X b_Mo_receive "EchoedRoundsModel" 11 rm_Mo_receive) {r : Int × er_Me} {T : er_Me} (rt : er_Rt K X b_Mo_receive (some .boolean) 0 0 (some (.inl r.1)) T r.2) : ∀ (v0 v1 v2 v3 v4 v5 v6 v7 v8 v9 v10 : Int) (M : er_Me), f_Mo_receive_176 T v0 v1 v2 v3 v4 v5 v6 v7 v8 v9 v10 M = some r → er_G K 0 0 T M 176 [(0, .inr v0), (1, .inl v1), (2, .inl v2), (3, .inl v3), (4, .inl v4), (5, .inl v5), (6, .inl v6), (7, .inl v7), (8, .inl v8), (9, .inl v9), (10, .inl v10)] [] := by
  intro v0 v1 v2 v3 v4 v5 v6 v7 v8 v9 v10 M h
  unfold f_Mo_receive_176 at h
  refine er_iload_n cx d_Mo_receive_176 3 rfl ?_
  refine er_iconst (v := 2) cx d_Mo_receive_177 rfl (by decide) ?_
  refine er_ic_ne (tgt := 215) cx d_Mo_receive_178 (by decide) (fun b1 => ?_) (fun b1 => ?_)
  · have h := er_iff h b1
    refine er_iconst (v := 1) cx d_Mo_receive_215 rfl (by decide) ?_
    obtain rfl := Option.some.inj h
    exact er_iret rt (Or.inr ⟨rfl, Or.inr rfl⟩) d_Mo_receive_216 (by decide) (by decide) ⟨rfl, rfl, rfl⟩
  · have h := er_ift h b1
    refine er_iload cx d_Mo_receive_181 9 rfl ?_
    refine er_iconst (v := 2) cx d_Mo_receive_183 rfl (by decide) ?_
    refine er_aload_n cx d_Mo_receive_184 0 rfl ?_
    obtain ⟨c3, h⟩ := er_ck h
    refine er_geti cx d_Mo_receive_185 fd_Mo_63 c3 ?_
    refine er_imul cx d_Mo_receive_188 ?_
    refine er_iconst (v := 1) cx d_Mo_receive_189 rfl (by decide) ?_
    refine er_iadd cx d_Mo_receive_190 ?_
    refine er_ic_lt (tgt := 215) cx d_Mo_receive_191 (by decide) (fun b4 => ?_) (fun b4 => ?_)
    · have h := er_ift h b4
      refine er_iconst (v := 1) cx d_Mo_receive_215 rfl (by decide) ?_
      obtain rfl := Option.some.inj h
      exact er_iret rt (Or.inr ⟨rfl, Or.inr rfl⟩) d_Mo_receive_216 (by decide) (by decide) ⟨rfl, rfl, rfl⟩
    · have h := er_iff h b4
      refine er_aload_n cx d_Mo_receive_194 0 rfl ?_
      obtain ⟨c6, h⟩ := er_ck h
      refine er_getr cx d_Mo_receive_195 fd_Mo_29 c3 c6 ?_
      refine er_iload cx d_Mo_receive_198 7 rfl ?_
      obtain ⟨c7, h⟩ := er_ck h
      refine er_iald cx d_Mo_receive_200 c7.1 c7.2.1 c7.2.2 ?_
      refine er_if_ne (tgt := 215) cx d_Mo_receive_201 (by decide) (fun b8 => ?_) (fun b8 => ?_)
      · have h := er_iff h b8
        refine er_iconst (v := 1) cx d_Mo_receive_215 rfl (by decide) ?_
        obtain rfl := Option.some.inj h
        exact er_iret rt (Or.inr ⟨rfl, Or.inr rfl⟩) d_Mo_receive_216 (by decide) (by decide) ⟨rfl, rfl, rfl⟩
      · have h := er_ift h b8
        refine er_aload_n cx d_Mo_receive_204 0 rfl ?_
        refine er_getr cx d_Mo_receive_205 fd_Mo_29 c3 c6 ?_
        refine er_iload cx d_Mo_receive_208 7 rfl ?_
        refine er_iload cx d_Mo_receive_210 6 rfl ?_
        refine er_iconst (v := 1) cx d_Mo_receive_212 rfl (by decide) ?_
        refine er_iadd cx d_Mo_receive_213 ?_
        obtain ⟨M11, e11, h⟩ := er_lel h
        refine er_iast cx d_Mo_receive_214 c7.1 c7.2.1 c7.2.2 e11 ?_
        refine er_iconst (v := 1) cx d_Mo_receive_215 rfl (by decide) ?_
        obtain rfl := Option.some.inj h
        exact er_iret rt (Or.inr ⟨rfl, Or.inr rfl⟩) d_Mo_receive_216 (by decide) (by decide) ⟨rfl, rfl, rfl⟩
def f_Mo_receive_145 (T : er_Me) (v0 v1 v2 v3 v4 v5 v6 v7 v8 v9 s0 : Int) (M : er_Me) : Option (Int × er_Me) :=
  if v9 < s0 then
  f_Mo_receive_176 T v0 v1 v2 v3 v4 v5 v6 v7 v8 v9 s0 M
  else
  if T v0 (-2) = 7 ∧ 0 < T v0 7 then
  if T (T v0 7) (-2) = 102 ∧ 0 ≤ v7 ∧ v7 < T (T v0 7) (-1) then
  if M (T v0 7) v7 = 0 then
  (f_Mo_send v0 v1 2 v4 v5 v6 T M).bind fun q5 =>
  f_Mo_receive_176 T v0 v1 v2 v3 v4 v5 v6 v7 v8 v9 s0 q5
  else
  f_Mo_receive_176 T v0 v1 v2 v3 v4 v5 v6 v7 v8 v9 s0 M else none else none
set_option maxHeartbeats 4000000 in
theorem w_Mo_receive_145 {K : er_K} {l : Launch} {X : er_X} (cx : er_Cx K l X b_Mo_receive "EchoedRoundsModel" 11 rm_Mo_receive) {r : Int × er_Me} {T : er_Me} (rt : er_Rt K X b_Mo_receive (some .boolean) 0 0 (some (.inl r.1)) T r.2) : ∀ (v0 v1 v2 v3 v4 v5 v6 v7 v8 v9 s0 : Int) (M : er_Me), f_Mo_receive_145 T v0 v1 v2 v3 v4 v5 v6 v7 v8 v9 s0 M = some r → er_G K 0 0 T M 145 [(0, .inr v0), (1, .inl v1), (2, .inl v2), (3, .inl v3), (4, .inl v4), (5, .inl v5), (6, .inl v6), (7, .inl v7), (8, .inl v8), (9, .inl v9)] [.inl s0] := by
  intro v0 v1 v2 v3 v4 v5 v6 v7 v8 v9 s0 M h
  unfold f_Mo_receive_145 at h
  refine er_istore cx d_Mo_receive_145 (by decide) rfl ?_
  refine er_iload cx d_Mo_receive_147 10 rfl ?_
  refine er_iload cx d_Mo_receive_149 0 rfl ?_
  refine er_ic_lt (tgt := 176) cx d_Mo_receive_151 (by decide) (fun b1 => ?_) (fun b1 => ?_)
  · have h := er_ift h b1
    refine er_sb cx [1, 2, 3, 4, 5, 6, 7, 8, 9, 10, 0] rfl ?_
    exact w_Mo_receive_176 cx rt _ _ _ _ _ _ _ _ _ _ _ _ h
  · have h := er_iff h b1
    refine er_aload_n cx d_Mo_receive_154 1 rfl ?_
    obtain ⟨c2, h⟩ := er_ck h
    refine er_getr cx d_Mo_receive_155 fd_Mo_26 c2.1 c2.2 ?_
    refine er_iload cx d_Mo_receive_158 8 rfl ?_
    obtain ⟨c3, h⟩ := er_ck h
    refine er_zald cx d_Mo_receive_160 c3.1 c3.2.1 c3.2.2 ?_
    refine er_if_ne (tgt := 176) cx d_Mo_receive_161 (by decide) (fun b4 => ?_) (fun b4 => ?_)
    · have h := er_iff h b4
      refine er_sb cx [1, 2, 3, 4, 5, 6, 7, 8, 9, 10, 0] rfl ?_
      exact w_Mo_receive_176 cx rt _ _ _ _ _ _ _ _ _ _ _ _ h
    · have h := er_ift h b4
      refine er_aload_n cx d_Mo_receive_164 1 rfl ?_
      refine er_iload_n cx d_Mo_receive_165 2 rfl ?_
      refine er_iconst (v := 2) cx d_Mo_receive_166 rfl (by decide) ?_
      refine er_iload cx d_Mo_receive_167 5 rfl ?_
      refine er_iload cx d_Mo_receive_169 6 rfl ?_
      refine er_iload cx d_Mo_receive_171 7 rfl ?_
      obtain ⟨q5, e5, h⟩ := er_bd h
      refine er_callV (b := v0) (As := [.inl v1, .inl 2, .inl v4, .inl v5, .inl v6]) (st := []) cx (c_Mo_send e5) my_Mo_74 c2.1 ⟨by decide, by decide⟩ rfl (Nat.le_of_ble_eq_true rfl) d_Mo_receive_173 ⟨Nat.zero_le _, Nat.zero_le _⟩ rfl ?_
      refine er_sb cx [1, 2, 3, 4, 5, 6, 7, 8, 9, 10, 0] rfl ?_
      exact w_Mo_receive_176 cx rt _ _ _ _ _ _ _ _ _ _ _ _ h
def f_Mo_receive (p0 p1 p2 p3 p4 p5 p6 : Int) (T M : er_Me) : Option (Int × er_Me) :=
  (f_Mo_at p1 p4 p5 T M).bind fun q1 =>
  if p3 = 0 then
  if p2 = p5 then
  if T p0 (-2) = 7 ∧ 0 < T p0 6 then
  if T (T p0 6) (-2) = 102 ∧ 0 ≤ q1.1 ∧ q1.1 < T (T p0 6) (-1) then
  if q1.2 (T p0 6) q1.1 = 0 then
  er_le (er_up q1.2 (T p0 6) q1.1 1) fun M21 =>
  (f_Mo_send p0 p1 1 p4 p5 p6 T M21).bind fun q22 =>
  some (1, q22)
  else
  some (0, q1.2) else none else none
  else
  some (0, q1.2)
  else
  er_le (er_add (er_add (er_add (er_mul 126 (er_add (er_mul 7 p1) p2)) (er_mul 63 (er_sub p3 1))) (er_mul 7 p4)) p5) fun x3 =>
  if T p0 (-2) = 7 ∧ 0 < T p0 12 then
  if T (T p0 12) (-2) = 101 ∧ 0 ≤ x3 ∧ x3 < T (T p0 12) (-1) then
  if q1.2 (T p0 12) x3 = 0 then
  er_le (er_up q1.2 (T p0 12) x3 (er_add p6 1)) fun M8 =>
  (f_Mo_count p0 p1 p3 p4 p5 p6 T M8).bind fun q9 =>
  if p3 = 1 then
  f_Mo_receive_145 T p0 p1 p2 p3 p4 p5 p6 q1.1 x3 q9.1 (er_add (er_div (er_add (q9.2 p0 0) (q9.2 p0 1)) 2) 1) q9.2
  else
  f_Mo_receive_145 T p0 p1 p2 p3 p4 p5 p6 q1.1 x3 q9.1 (er_add (q9.2 p0 1) 1) q9.2
  else
  some (0, q1.2) else none else none
set_option maxHeartbeats 4000000 in
theorem w_Mo_receive {K : er_K} {l : Launch} {X : er_X} (cx : er_Cx K l X b_Mo_receive "EchoedRoundsModel" 11 rm_Mo_receive) {r : Int × er_Me} {p0 p1 p2 p3 p4 p5 p6 : Int} {T M : er_Me} (rt : er_Rt K X b_Mo_receive (some .boolean) 0 0 (some (.inl r.1)) T r.2) (h : f_Mo_receive p0 p1 p2 p3 p4 p5 p6 T M = some r) : er_G K 0 0 T M 0 [(0, .inr p0), (1, .inl p1), (2, .inl p2), (3, .inl p3), (4, .inl p4), (5, .inl p5), (6, .inl p6)] [] := by
  unfold f_Mo_receive at h
  refine er_iload_n cx d_Mo_receive_0 1 rfl ?_
  refine er_iload cx d_Mo_receive_1 4 rfl ?_
  refine er_iload cx d_Mo_receive_3 5 rfl ?_
  obtain ⟨q1, e1, h⟩ := er_bd h
  refine er_callS (As := [.inl p1, .inl p4, .inl p5]) (st := []) cx (c_Mo_at e1) my_Mo_70 ⟨by decide, by decide⟩ rfl (Nat.le_of_ble_eq_true rfl) d_Mo_receive_5 ⟨Nat.zero_le _, Nat.zero_le _⟩ rfl ?_
  refine er_istore cx d_Mo_receive_8 (by decide) rfl ?_
  refine er_iload_n cx d_Mo_receive_10 4 rfl ?_
  refine er_if_ne (tgt := 54) cx d_Mo_receive_11 (by decide) (fun b2 => ?_) (fun b2 => ?_)
  · have h := er_iff h b2
    refine er_bipush (v := 126) cx d_Mo_receive_54 (by decide +kernel) (by decide) ?_
    refine er_bipush (v := 7) cx d_Mo_receive_56 (by decide +kernel) (by decide) ?_
    refine er_iload_n cx d_Mo_receive_58 2 rfl ?_
    refine er_imul cx d_Mo_receive_59 ?_
    refine er_iload_n cx d_Mo_receive_60 3 rfl ?_
    refine er_iadd cx d_Mo_receive_61 ?_
    refine er_imul cx d_Mo_receive_62 ?_
    refine er_bipush (v := 63) cx d_Mo_receive_63 (by decide +kernel) (by decide) ?_
    refine er_iload_n cx d_Mo_receive_65 4 rfl ?_
    refine er_iconst (v := 1) cx d_Mo_receive_66 rfl (by decide) ?_
    refine er_isub cx d_Mo_receive_67 ?_
    refine er_imul cx d_Mo_receive_68 ?_
    refine er_iadd cx d_Mo_receive_69 ?_
    refine er_bipush (v := 7) cx d_Mo_receive_70 (by decide +kernel) (by decide) ?_
    refine er_iload cx d_Mo_receive_72 5 rfl ?_
    refine er_imul cx d_Mo_receive_74 ?_
    refine er_iadd cx d_Mo_receive_75 ?_
    refine er_iload cx d_Mo_receive_76 6 rfl ?_
    refine er_iadd cx d_Mo_receive_78 ?_
    obtain ⟨x3, e3, h⟩ := er_lel h
    refine er_nm e3 ?_
    refine er_istore cx d_Mo_receive_79 (by decide) rfl ?_
    refine er_aload_n cx d_Mo_receive_81 2 rfl ?_
    obtain ⟨c4, h⟩ := er_ck h
    refine er_getr cx d_Mo_receive_82 fd_Mo_41 c4.1 c4.2 ?_
    refine er_iload cx d_Mo_receive_85 0 rfl ?_
    obtain ⟨c5, h⟩ := er_ck h
    refine er_iald cx d_Mo_receive_87 c5.1 c5.2.1 c5.2.2 ?_
    refine er_if_eq (tgt := 93) cx d_Mo_receive_88 (by decide) (fun b6 => ?_) (fun b6 => ?_)
    · have h := er_ift h b6
      refine er_aload_n cx d_Mo_receive_93 2 rfl ?_
      refine er_getr cx d_Mo_receive_94 fd_Mo_41 c4.1 c4.2 ?_
      refine er_iload cx d_Mo_receive_97 0 rfl ?_
      refine er_iload cx d_Mo_receive_99 8 rfl ?_
      refine er_iconst (v := 1) cx d_Mo_receive_101 rfl (by decide) ?_
      refine er_iadd cx d_Mo_receive_102 ?_
      obtain ⟨M8, e8, h⟩ := er_lel h
      refine er_iast cx d_Mo_receive_103 c5.1 c5.2.1 c5.2.2 e8 ?_
      refine er_aload_n cx d_Mo_receive_104 2 rfl ?_
      refine er_iload_n cx d_Mo_receive_105 3 rfl ?_
      refine er_iload_n cx d_Mo_receive_106 5 rfl ?_
      refine er_iload cx d_Mo_receive_107 6 rfl ?_
      refine er_iload cx d_Mo_receive_109 7 rfl ?_
      refine er_iload cx d_Mo_receive_111 8 rfl ?_
      obtain ⟨q9, e9, h⟩ := er_bd h
      refine er_callV (b := p0) (As := [.inl p1, .inl p3, .inl p4, .inl p5, .inl p6]) (st := []) cx (c_Mo_count e9) my_Mo_78 c4.1 ⟨by decide, by decide⟩ rfl (Nat.le_of_ble_eq_true rfl) d_Mo_receive_113 ⟨Nat.zero_le _, Nat.zero_le _⟩ rfl ?_
      refine er_istore cx d_Mo_receive_116 (by decide) rfl ?_
      refine er_iload_n cx d_Mo_receive_118 6 rfl ?_
      refine er_iconst (v := 1) cx d_Mo_receive_119 rfl (by decide) ?_
      refine er_ic_ne (tgt := 139) cx d_Mo_receive_120 (by decide) (fun b10 => ?_) (fun b10 => ?_)
      · have h := er_iff h b10
        refine er_aload_n cx d_Mo_receive_139 3 rfl ?_
        refine er_geti cx d_Mo_receive_140 fd_Mo_63 c4.1 ?_
        refine er_iconst (v := 1) cx d_Mo_receive_143 rfl (by decide) ?_
        refine er_iadd cx d_Mo_receive_144 ?_
        refine er_sb cx [3, 4, 5, 6, 7, 8, 9, 2, 1, 0] rfl ?_
        exact w_Mo_receive_145 cx rt _ _ _ _ _ _ _ _ _ _ _ _ h
      · have h := er_ift h b10
        refine er_aload_n cx d_Mo_receive_123 3 rfl ?_
        refine er_geti cx d_Mo_receive_124 fd_Mo_59 c4.1 ?_
        refine er_aload_n cx d_Mo_receive_127 3 rfl ?_
        refine er_geti cx d_Mo_receive_128 fd_Mo_63 c4.1 ?_
        refine er_iadd cx d_Mo_receive_131 ?_
        refine er_iconst (v := 2) cx d_Mo_receive_132 rfl (by decide) ?_
        refine er_idiv cx d_Mo_receive_133 (by decide) ?_
        refine er_iconst (v := 1) cx d_Mo_receive_134 rfl (by decide) ?_
        refine er_iadd cx d_Mo_receive_135 ?_
        refine er_goto (tgt := 145) cx d_Mo_receive_136 (by decide) ?_
        refine er_sb cx [3, 4, 5, 6, 7, 8, 9, 2, 1, 0] rfl ?_
        exact w_Mo_receive_145 cx rt _ _ _ _ _ _ _ _ _ _ _ _ h
    · have h := er_iff h b6
      refine er_iconst (v := 0) cx d_Mo_receive_91 rfl (by decide) ?_
      obtain rfl := Option.some.inj h
      exact er_iret rt (Or.inr ⟨rfl, Or.inl rfl⟩) d_Mo_receive_92 (by decide) (by decide) ⟨rfl, rfl, rfl⟩
  · have h := er_ift h b2
    refine er_iload_n cx d_Mo_receive_14 3 rfl ?_
    refine er_iload cx d_Mo_receive_15 6 rfl ?_
    refine er_ic_ne (tgt := 30) cx d_Mo_receive_17 (by decide) (fun b15 => ?_) (fun b15 => ?_)
    · have h := er_iff h b15
      refine er_iconst (v := 0) cx d_Mo_receive_30 rfl (by decide) ?_
      obtain rfl := Option.some.inj h
      exact er_iret rt (Or.inr ⟨rfl, Or.inl rfl⟩) d_Mo_receive_31 (by decide) (by decide) ⟨rfl, rfl, rfl⟩
    · have h := er_ift h b15
      refine er_aload_n cx d_Mo_receive_20 1 rfl ?_
      obtain ⟨c17, h⟩ := er_ck h
      refine er_getr cx d_Mo_receive_21 fd_Mo_23 c17.1 c17.2 ?_
      refine er_iload cx d_Mo_receive_24 0 rfl ?_
      obtain ⟨c18, h⟩ := er_ck h
      refine er_zald cx d_Mo_receive_26 c18.1 c18.2.1 c18.2.2 ?_
      refine er_if_eq (tgt := 32) cx d_Mo_receive_27 (by decide) (fun b19 => ?_) (fun b19 => ?_)
      · have h := er_ift h b19
        refine er_aload_n cx d_Mo_receive_32 1 rfl ?_
        refine er_getr cx d_Mo_receive_33 fd_Mo_23 c17.1 c17.2 ?_
        refine er_iload cx d_Mo_receive_36 0 rfl ?_
        refine er_iconst (v := 1) cx d_Mo_receive_38 rfl (by decide) ?_
        obtain ⟨M21, e21, h⟩ := er_lel h
        refine er_zast cx d_Mo_receive_39 c18.1 c18.2.1 c18.2.2 (Or.inr rfl) e21 ?_
        refine er_aload_n cx d_Mo_receive_40 1 rfl ?_
        refine er_iload_n cx d_Mo_receive_41 2 rfl ?_
        refine er_iconst (v := 1) cx d_Mo_receive_42 rfl (by decide) ?_
        refine er_iload cx d_Mo_receive_43 5 rfl ?_
        refine er_iload cx d_Mo_receive_45 6 rfl ?_
        refine er_iload cx d_Mo_receive_47 7 rfl ?_
        obtain ⟨q22, e22, h⟩ := er_bd h
        refine er_callV (b := p0) (As := [.inl p1, .inl 1, .inl p4, .inl p5, .inl p6]) (st := []) cx (c_Mo_send e22) my_Mo_74 c17.1 ⟨by decide, by decide⟩ rfl (Nat.le_of_ble_eq_true rfl) d_Mo_receive_49 ⟨Nat.zero_le _, Nat.zero_le _⟩ rfl ?_
        refine er_iconst (v := 1) cx d_Mo_receive_52 rfl (by decide) ?_
        obtain rfl := Option.some.inj h
        exact er_iret rt (Or.inr ⟨rfl, Or.inr rfl⟩) d_Mo_receive_53 (by decide) (by decide) ⟨rfl, rfl, rfl⟩
      · have h := er_iff h b19
        refine er_iconst (v := 0) cx d_Mo_receive_30 rfl (by decide) ?_
        obtain rfl := Option.some.inj h
        exact er_iret rt (Or.inr ⟨rfl, Or.inl rfl⟩) d_Mo_receive_31 (by decide) (by decide) ⟨rfl, rfl, rfl⟩
theorem c_Mo_receive {l : Launch} {X : er_X} {r : Int × er_Me} {p0 p1 p2 p3 p4 p5 p6 : Int} {T M : er_Me} (h : f_Mo_receive p0 p1 p2 p3 p4 p5 p6 T M = some r) (hok : ∀ v ∈ ([.inr p0, .inl p1, .inl p2, .inl p3, .inl p4, .inl p5, .inl p6] : List er_V), er_ok v) : er_Ct l X y_Mo_receive b_Mo_receive 11 (some .boolean) rm_Mo_receive [.inr p0, .inl p1, .inl p2, .inl p3, .inl p4, .inl p5, .inl p6] T M (some (.inl r.1)) T r.2 :=
  er_ct rfl rfl (Nat.le_of_ble_eq_true rfl) hok (fun K cx rt hin => w_Mo_receive cx rt h)
/-! Mo_some -/
abbrev rm_Mo_some : Room := { frames := 2, cells := 0, slots := 0, locals := 49 }
def f_Mo_some_6_b (self : Int → Int → Int → Int → Int → Int → er_Me → Option (Int × er_Me)) (v0 v1 v2 v3 v4 v5 : Int) (T M : er_Me) : Option (Int × er_Me) :=
  if T v0 (-2) = 7 ∧ 0 < T v0 11 then
  if T (T v0 11) (-2) = 101 ∧ 0 ≤ er_add (er_mul 9 v1) v2 ∧ er_add (er_mul 9 v1) v2 < T (T v0 11) (-1) then
  if er_shl 1 (M (T v0 11) (er_add (er_mul 9 v1) v2)) ≤ v5 then
  if v4 = 0 ∨ v4 = 1 then some (v4, M) else none
  else
  if v4 = 0 then
  (f_Mo_setDoes v0 v1 v2 v5 v3 T M).bind fun q7 =>
  if q7.1 = 0 then
  er_le (er_add v5 1) fun x9 =>
  self v0 v1 v2 v3 0 x9 q7.2
  else
  er_le (er_add v5 1) fun x10 =>
  self v0 v1 v2 v3 1 x10 q7.2
  else
  er_le (er_add v5 1) fun x6 =>
  self v0 v1 v2 v3 1 x6 M else none else none
def f_Mo_some_6 : Nat → er_Me → Int → Int → Int → Int → Int → Int → er_Me → Option (Int × er_Me)
  | 0, _ => fun _ _ _ _ _ _ _ => none
  | n + 1, T => fun v0 v1 v2 v3 v4 v5 M => f_Mo_some_6_b (f_Mo_some_6 n T) v0 v1 v2 v3 v4 v5 T M
set_option maxHeartbeats 4000000 in
theorem w_Mo_some_6_b {K : er_K} {l : Launch} {X : er_X} (cx : er_Cx K l X b_Mo_some "EchoedRoundsModel" 6 rm_Mo_some) {r : Int × er_Me} {T : er_Me} (rt : er_Rt K X b_Mo_some (some .boolean) 0 0 (some (.inl r.1)) T r.2) {self : Int → Int → Int → Int → Int → Int → er_Me → Option (Int × er_Me)} (hself : ∀ (v0 v1 v2 v3 v4 v5 : Int) (M : er_Me), self v0 v1 v2 v3 v4 v5 M = some r → er_G K 0 0 T M 6 [(0, .inr v0), (1, .inl v1), (2, .inl v2), (3, .inl v3), (4, .inl v4), (5, .inl v5)] []) : ∀ (v0 v1 v2 v3 v4 v5 : Int) (M : er_Me), f_Mo_some_6_b self v0 v1 v2 v3 v4 v5 T M = some r → er_G K 0 0 T M 6 [(0, .inr v0), (1, .inl v1), (2, .inl v2), (3, .inl v3), (4, .inl v4), (5, .inl v5)] [] := by
  intro v0 v1 v2 v3 v4 v5 M h
  unfold f_Mo_some_6_b at h
  refine er_iload cx d_Mo_some_6 5 rfl ?_
  refine er_iconst (v := 1) cx d_Mo_some_8 rfl (by decide) ?_
  refine er_aload_n cx d_Mo_some_9 0 rfl ?_
  obtain ⟨c1, h⟩ := er_ck h
  refine er_getr cx d_Mo_some_10 fd_Mo_38 c1.1 c1.2 ?_
  refine er_bipush (v := 9) cx d_Mo_some_13 (by decide +kernel) (by decide) ?_
  refine er_iload_n cx d_Mo_some_15 1 rfl ?_
  refine er_imul cx d_Mo_some_16 ?_
  refine er_iload_n cx d_Mo_some_17 2 rfl ?_
  refine er_iadd cx d_Mo_some_18 ?_
  obtain ⟨c2, h⟩ := er_ck h
  refine er_iald cx d_Mo_some_19 c2.1 c2.2.1 c2.2.2 ?_
  refine er_ishl cx d_Mo_some_20 ?_
  refine er_ic_ge (tgt := 54) cx d_Mo_some_21 (by decide) (fun b3 => ?_) (fun b3 => ?_)
  · have h := er_ift h b3
    refine er_iload cx d_Mo_some_54 4 rfl ?_
    obtain ⟨c4, h⟩ := er_ck h
    obtain rfl := Option.some.inj h
    exact er_iret rt (Or.inr ⟨rfl, c4⟩) d_Mo_some_56 (by decide) (by decide) ⟨rfl, rfl, rfl⟩
  · have h := er_iff h b3
    refine er_iload cx d_Mo_some_24 4 rfl ?_
    refine er_if_ne (tgt := 41) cx d_Mo_some_26 (by decide) (fun b5 => ?_) (fun b5 => ?_)
    · have h := er_iff h b5
      refine er_iconst (v := 1) cx d_Mo_some_41 rfl (by decide) ?_
      refine er_goto (tgt := 46) cx d_Mo_some_42 (by decide) ?_
      refine er_istore cx d_Mo_some_46 (by decide) rfl ?_
      obtain ⟨x6, e6, h⟩ := er_lel h
      refine er_iinc cx d_Mo_some_48 (k := 5) rfl (by decide) e6 rfl ?_
      refine er_goto (tgt := 6) cx d_Mo_some_51 (by decide) ?_
      refine er_sb cx [2, 3, 4, 5, 1, 0] rfl ?_
      exact hself _ _ _ _ _ _ _ h
    · have h := er_ift h b5
      refine er_aload_n cx d_Mo_some_29 0 rfl ?_
      refine er_iload_n cx d_Mo_some_30 1 rfl ?_
      refine er_iload_n cx d_Mo_some_31 2 rfl ?_
      refine er_iload cx d_Mo_some_32 5 rfl ?_
      refine er_iload_n cx d_Mo_some_34 3 rfl ?_
      obtain ⟨q7, e7, h⟩ := er_bd h
      refine er_callV (b := v0) (As := [.inl v1, .inl v2, .inl v5, .inl v3]) (st := []) cx (c_Mo_setDoes e7) my_Mo_86 c1.1 ⟨by decide, by decide⟩ rfl (Nat.le_of_ble_eq_true rfl) d_Mo_some_35 ⟨Nat.zero_le _, Nat.zero_le _⟩ rfl ?_
      refine er_if_eq (tgt := 45) cx d_Mo_some_38 (by decide) (fun b8 => ?_) (fun b8 => ?_)
      · have h := er_ift h b8
        refine er_iconst (v := 0) cx d_Mo_some_45 rfl (by decide) ?_
        refine er_istore cx d_Mo_some_46 (by decide) rfl ?_
        obtain ⟨x9, e9, h⟩ := er_lel h
        refine er_iinc cx d_Mo_some_48 (k := 5) rfl (by decide) e9 rfl ?_
        refine er_goto (tgt := 6) cx d_Mo_some_51 (by decide) ?_
        refine er_sb cx [2, 3, 4, 5, 1, 0] rfl ?_
        exact hself _ _ _ _ _ _ _ h
      · have h := er_iff h b8
        refine er_iconst (v := 1) cx d_Mo_some_41 rfl (by decide) ?_
        refine er_goto (tgt := 46) cx d_Mo_some_42 (by decide) ?_
        refine er_istore cx d_Mo_some_46 (by decide) rfl ?_
        obtain ⟨x10, e10, h⟩ := er_lel h
        refine er_iinc cx d_Mo_some_48 (k := 5) rfl (by decide) e10 rfl ?_
        refine er_goto (tgt := 6) cx d_Mo_some_51 (by decide) ?_
        refine er_sb cx [2, 3, 4, 5, 1, 0] rfl ?_
        exact hself _ _ _ _ _ _ _ h
theorem w_Mo_some_6 {K : er_K} {l : Launch} {X : er_X} (cx : er_Cx K l X b_Mo_some "EchoedRoundsModel" 6 rm_Mo_some) {r : Int × er_Me} {T : er_Me} (rt : er_Rt K X b_Mo_some (some .boolean) 0 0 (some (.inl r.1)) T r.2) : ∀ n : Nat, ∀ (v0 v1 v2 v3 v4 v5 : Int) (M : er_Me), f_Mo_some_6 n T v0 v1 v2 v3 v4 v5 M = some r → er_G K 0 0 T M 6 [(0, .inr v0), (1, .inl v1), (2, .inl v2), (3, .inl v3), (4, .inl v4), (5, .inl v5)] [] := by
  intro n
  induction n with
  | zero =>
    intro v0 v1 v2 v3 v4 v5 M h
    cases h
  | succ n ih =>
    intro v0 v1 v2 v3 v4 v5 M h
    exact w_Mo_some_6_b cx rt ih v0 v1 v2 v3 v4 v5 M h
def f_Mo_some (p0 p1 p2 p3 : Int) (T M : er_Me) : Option (Int × er_Me) :=
  f_Mo_some_6 er_fu T p0 p1 p2 p3 0 0 M
set_option maxHeartbeats 4000000 in
theorem w_Mo_some {K : er_K} {l : Launch} {X : er_X} (cx : er_Cx K l X b_Mo_some "EchoedRoundsModel" 6 rm_Mo_some) {r : Int × er_Me} {p0 p1 p2 p3 : Int} {T M : er_Me} (rt : er_Rt K X b_Mo_some (some .boolean) 0 0 (some (.inl r.1)) T r.2) (h : f_Mo_some p0 p1 p2 p3 T M = some r) : er_G K 0 0 T M 0 [(0, .inr p0), (1, .inl p1), (2, .inl p2), (3, .inl p3)] [] := by
  unfold f_Mo_some at h
  refine er_iconst (v := 0) cx d_Mo_some_0 rfl (by decide) ?_
  refine er_istore cx d_Mo_some_1 (by decide) rfl ?_
  refine er_iconst (v := 0) cx d_Mo_some_3 rfl (by decide) ?_
  refine er_istore cx d_Mo_some_4 (by decide) rfl ?_
  refine er_sb cx [2, 3, 4, 5, 1, 0] rfl ?_
  exact w_Mo_some_6 cx rt er_fu _ _ _ _ _ _ _ h
theorem c_Mo_some {l : Launch} {X : er_X} {r : Int × er_Me} {p0 p1 p2 p3 : Int} {T M : er_Me} (h : f_Mo_some p0 p1 p2 p3 T M = some r) (hok : ∀ v ∈ ([.inr p0, .inl p1, .inl p2, .inl p3] : List er_V), er_ok v) : er_Ct l X y_Mo_some b_Mo_some 6 (some .boolean) rm_Mo_some [.inr p0, .inl p1, .inl p2, .inl p3] T M (some (.inl r.1)) T r.2 :=
  er_ct rfl rfl (Nat.le_of_ble_eq_true rfl) hok (fun K cx rt hin => w_Mo_some cx rt h)
/-! Mo_goOn -/
abbrev rm_Mo_goOn : Room := { frames := 2, cells := 0, slots := 0, locals := 47 }
def f_Mo_goOn_231 (T : er_Me) (v0 v1 v2 v3 v4 : Int) (M : er_Me) : Option (Int × er_Me) :=
  if T v0 (-2) = 7 ∧ 0 < T v0 13 then
  if T (T v0 13) (-2) = 101 ∧ 0 ≤ v1 ∧ v1 < T (T v0 13) (-1) then
  er_le (er_up M (T v0 13) v1 (er_add v2 1)) fun M2 =>
  if 8 ≤ v2 then
  some (1, M2)
  else
  if 0 < T v0 14 then
  if T (T v0 14) (-2) = 101 ∧ v1 < T (T v0 14) (-1) then
  (f_Mo_send v0 v1 0 (er_add v2 1) v1 (M2 (T v0 14) v1) T M2).bind fun q7 =>
  some (1, q7) else none else none else none else none
set_option maxHeartbeats 4000000 in
theorem w_Mo_goOn_231 {K : er_K} {l : Launch} {X : er_X} (cx : er_Cx K l X b_Mo_goOn "EchoedRoundsModel" 6 rm_Mo_goOn) {r : Int × er_Me} {T : er_Me} (rt : er_Rt K X b_Mo_goOn (some .boolean) 0 0 (some (.inl r.1)) T r.2) : ∀ (v0 v1 v2 v3 v4 : Int) (M : er_Me), f_Mo_goOn_231 T v0 v1 v2 v3 v4 M = some r → er_G K 0 0 T M 231 [(0, .inr v0), (1, .inl v1), (2, .inl v2), (3, .inl v3), (4, .inl v4)] [] := by
  intro v0 v1 v2 v3 v4 M h
  unfold f_Mo_goOn_231 at h
  refine er_aload_n cx d_Mo_goOn_231 0 rfl ?_
  obtain ⟨c1, h⟩ := er_ck h
  refine er_getr cx d_Mo_goOn_232 fd_Mo_44 c1.1 c1.2 ?_
  refine er_iload_n cx d_Mo_goOn_235 1 rfl ?_
  refine er_iload_n cx d_Mo_goOn_236 2 rfl ?_
  refine er_iconst (v := 1) cx d_Mo_goOn_237 rfl (by decide) ?_
  refine er_iadd cx d_Mo_goOn_238 ?_
  obtain ⟨c2, h⟩ := er_ck h
  obtain ⟨M2, e2, h⟩ := er_lel h
  refine er_iast cx d_Mo_goOn_239 c2.1 c2.2.1 c2.2.2 e2 ?_
  refine er_iload_n cx d_Mo_goOn_240 2 rfl ?_
  refine er_bipush (v := 8) cx d_Mo_goOn_241 (by decide +kernel) (by decide) ?_
  refine er_ic_ge (tgt := 262) cx d_Mo_goOn_243 (by decide) (fun b3 => ?_) (fun b3 => ?_)
  · have h := er_ift h b3
    refine er_iconst (v := 1) cx d_Mo_goOn_262 rfl (by decide) ?_
    obtain rfl := Option.some.inj h
    exact er_iret rt (Or.inr ⟨rfl, Or.inr rfl⟩) d_Mo_goOn_263 (by decide) (by decide) ⟨rfl, rfl, rfl⟩
  · have h := er_iff h b3
    refine er_aload_n cx d_Mo_goOn_246 0 rfl ?_
    refine er_iload_n cx d_Mo_goOn_247 1 rfl ?_
    refine er_iconst (v := 0) cx d_Mo_goOn_248 rfl (by decide) ?_
    refine er_iload_n cx d_Mo_goOn_249 2 rfl ?_
    refine er_iconst (v := 1) cx d_Mo_goOn_250 rfl (by decide) ?_
    refine er_iadd cx d_Mo_goOn_251 ?_
    refine er_iload_n cx d_Mo_goOn_252 1 rfl ?_
    refine er_aload_n cx d_Mo_goOn_253 0 rfl ?_
    obtain ⟨c5, h⟩ := er_ck h
    refine er_getr cx d_Mo_goOn_254 fd_Mo_47 c1.1 c5 ?_
    refine er_iload_n cx d_Mo_goOn_257 1 rfl ?_
    obtain ⟨c6, h⟩ := er_ck h
    refine er_iald cx d_Mo_goOn_258 c6.1 c2.2.1 c6.2 ?_
    obtain ⟨q7, e7, h⟩ := er_bd h
    refine er_callV (b := v0) (As := [.inl v1, .inl 0, .inl (er_add v2 1), .inl v1, .inl (M2 (T v0 14) v1)]) (st := []) cx (c_Mo_send e7) my_Mo_74 c1.1 ⟨by decide, by decide⟩ rfl (Nat.le_of_ble_eq_true rfl) d_Mo_goOn_259 ⟨Nat.zero_le _, Nat.zero_le _⟩ rfl ?_
    refine er_iconst (v := 1) cx d_Mo_goOn_262 rfl (by decide) ?_
    obtain rfl := Option.some.inj h
    exact er_iret rt (Or.inr ⟨rfl, Or.inr rfl⟩) d_Mo_goOn_263 (by decide) (by decide) ⟨rfl, rfl, rfl⟩
def f_Mo_goOn_155 (T : er_Me) (v0 v1 v2 v3 v4 s0 s1 s2 : Int) (M : er_Me) : Option (Int × er_Me) :=
  if T s0 (-2) = 101 ∧ 0 ≤ s1 ∧ s1 < T s0 (-1) then
  er_le (er_up M s0 s1 s2) fun M1 =>
  f_Mo_goOn_231 T v0 v1 v2 v3 v4 M1 else none
set_option maxHeartbeats 4000000 in
theorem w_Mo_goOn_155 {K : er_K} {l : Launch} {X : er_X} (cx : er_Cx K l X b_Mo_goOn "EchoedRoundsModel" 6 rm_Mo_goOn) {r : Int × er_Me} {T : er_Me} (rt : er_Rt K X b_Mo_goOn (some .boolean) 0 0 (some (.inl r.1)) T r.2) : ∀ (v0 v1 v2 v3 v4 s0 s1 s2 : Int) (M : er_Me), f_Mo_goOn_155 T v0 v1 v2 v3 v4 s0 s1 s2 M = some r → er_G K 0 0 T M 155 [(0, .inr v0), (1, .inl v1), (2, .inl v2), (3, .inl v3), (4, .inl v4)] [.inl s2, .inl s1, .inr s0] := by
  intro v0 v1 v2 v3 v4 s0 s1 s2 M h
  unfold f_Mo_goOn_155 at h
  obtain ⟨c1, h⟩ := er_ck h
  obtain ⟨M1, e1, h⟩ := er_lel h
  refine er_iast cx d_Mo_goOn_155 c1.1 c1.2.1 c1.2.2 e1 ?_
  refine er_goto (tgt := 231) cx d_Mo_goOn_156 (by decide) ?_
  exact w_Mo_goOn_231 cx rt _ _ _ _ _ _ h
def f_Mo_goOn_215 (T : er_Me) (v0 v1 v2 v3 v4 s0 s1 s2 : Int) (M : er_Me) : Option (Int × er_Me) :=
  if T s0 (-2) = 101 ∧ 0 ≤ s1 ∧ s1 < T s0 (-1) then
  er_le (er_up M s0 s1 s2) fun M1 =>
  f_Mo_goOn_231 T v0 v1 v2 v3 v4 M1 else none
set_option maxHeartbeats 4000000 in
theorem w_Mo_goOn_215 {K : er_K} {l : Launch} {X : er_X} (cx : er_Cx K l X b_Mo_goOn "EchoedRoundsModel" 6 rm_Mo_goOn) {r : Int × er_Me} {T : er_Me} (rt : er_Rt K X b_Mo_goOn (some .boolean) 0 0 (some (.inl r.1)) T r.2) : ∀ (v0 v1 v2 v3 v4 s0 s1 s2 : Int) (M : er_Me), f_Mo_goOn_215 T v0 v1 v2 v3 v4 s0 s1 s2 M = some r → er_G K 0 0 T M 215 [(0, .inr v0), (1, .inl v1), (2, .inl v2), (3, .inl v3), (4, .inl v4)] [.inl s2, .inl s1, .inr s0] := by
  intro v0 v1 v2 v3 v4 s0 s1 s2 M h
  unfold f_Mo_goOn_215 at h
  obtain ⟨c1, h⟩ := er_ck h
  obtain ⟨M1, e1, h⟩ := er_lel h
  refine er_iast cx d_Mo_goOn_215 c1.1 c1.2.1 c1.2.2 e1 ?_
  refine er_goto (tgt := 231) cx d_Mo_goOn_216 (by decide) ?_
  exact w_Mo_goOn_231 cx rt _ _ _ _ _ _ h
def f_Mo_goOn_70_b (self : Int → Int → Int → Int → Int → er_Me → Option (Int × er_Me)) (v0 v1 v2 v3 v4 : Int) (T M : er_Me) : Option (Int × er_Me) :=
  if v3 ≤ v4 then
  if er_rem v2 3 = 0 then
  if T v0 (-2) = 7 ∧ 0 < T v0 14 then
  if 0 < T v0 17 then
  if T (T v0 17) (-2) = 101 ∧ 1 < T (T v0 17) (-1) then
  if 0 < T (T v0 17) (-1) then
  if M (T v0 17) 1 ≤ M (T v0 17) 0 then
  f_Mo_goOn_155 T v0 v1 v2 v3 v4 (T v0 14) v1 0 M
  else
  f_Mo_goOn_155 T v0 v1 v2 v3 v4 (T v0 14) v1 1 M else none else none else none else none
  else
  if er_rem v2 3 = 1 then
  if T v0 (-2) = 7 ∧ 0 < T v0 14 then
  if 0 < T v0 17 then
  if T (T v0 17) (-2) = 101 ∧ 0 < T (T v0 17) (-1) then
  if er_mul 2 (M (T v0 17) 0) ≤ M v0 0 then
  if 1 < T (T v0 17) (-1) then
  if er_mul 2 (M (T v0 17) 1) ≤ M v0 0 then
  if T (T v0 14) (-2) = 101 ∧ 0 ≤ v1 ∧ v1 < T (T v0 14) (-1) then
  f_Mo_goOn_215 T v0 v1 v2 v3 v4 (T v0 14) v1 (M (T v0 14) v1) M else none
  else
  f_Mo_goOn_215 T v0 v1 v2 v3 v4 (T v0 14) v1 3 M else none
  else
  f_Mo_goOn_215 T v0 v1 v2 v3 v4 (T v0 14) v1 2 M else none else none else none
  else
  if T v0 (-2) = 7 ∧ 0 < T v0 14 then
  (f_Mo_afterFirm v0 v1 v2 T M).bind fun q5 =>
  if T (T v0 14) (-2) = 101 ∧ 0 ≤ v1 ∧ v1 < T (T v0 14) (-1) then
  er_le (er_up q5.2 (T v0 14) v1 q5.1) fun M6 =>
  f_Mo_goOn_231 T v0 v1 v2 v3 v4 M6 else none else none
  else
  if T v0 (-2) = 7 ∧ 0 < T v0 8 then
  if 0 < T v0 10 then
  (f_Mo_at v1 v2 v4 T M).bind fun q26 =>
  if T (T v0 10) (-2) = 101 ∧ 0 ≤ q26.1 ∧ q26.1 < T (T v0 10) (-1) then
  (f_Mo_at v1 v2 (q26.2 (T v0 10) q26.1) T q26.2).bind fun q28 =>
  if T (T v0 8) (-2) = 101 ∧ 0 ≤ q28.1 ∧ q28.1 < T (T v0 8) (-1) then
  er_le (er_sub (q28.2 (T v0 8) q28.1) 1) fun x30 =>
  if 0 < T v0 17 then
  if T (T v0 17) (-2) = 101 ∧ 0 ≤ x30 ∧ x30 < T (T v0 17) (-1) then
  er_le (er_up q28.2 (T v0 17) x30 (er_add (q28.2 (T v0 17) x30) 1)) fun M34 =>
  er_le (er_add v4 1) fun x35 =>
  self v0 v1 v2 v3 x35 M34 else none else none else none else none else none else none
def f_Mo_goOn_70 : Nat → er_Me → Int → Int → Int → Int → Int → er_Me → Option (Int × er_Me)
  | 0, _ => fun _ _ _ _ _ _ => none
  | n + 1, T => fun v0 v1 v2 v3 v4 M => f_Mo_goOn_70_b (f_Mo_goOn_70 n T) v0 v1 v2 v3 v4 T M
set_option maxHeartbeats 4000000 in
theorem w_Mo_goOn_70_b {K : er_K} {l : Launch} {X : er_X} (cx : er_Cx K l X b_Mo_goOn "EchoedRoundsModel" 6 rm_Mo_goOn) {r : Int × er_Me} {T : er_Me} (rt : er_Rt K X b_Mo_goOn (some .boolean) 0 0 (some (.inl r.1)) T r.2) {self : Int → Int → Int → Int → Int → er_Me → Option (Int × er_Me)} (hself : ∀ (v0 v1 v2 v3 v4 : Int) (M : er_Me), self v0 v1 v2 v3 v4 M = some r → er_G K 0 0 T M 70 [(0, .inr v0), (1, .inl v1), (2, .inl v2), (3, .inl v3), (4, .inl v4)] []) : ∀ (v0 v1 v2 v3 v4 : Int) (M : er_Me), f_Mo_goOn_70_b self v0 v1 v2 v3 v4 T M = some r → er_G K 0 0 T M 70 [(0, .inr v0), (1, .inl v1), (2, .inl v2), (3, .inl v3), (4, .inl v4)] [] := by
  intro v0 v1 v2 v3 v4 M h
  unfold f_Mo_goOn_70_b at h
  refine er_iload cx d_Mo_goOn_70 4 rfl ?_
  refine er_iload_n cx d_Mo_goOn_72 3 rfl ?_
  refine er_ic_ge (tgt := 124) cx d_Mo_goOn_73 (by decide) (fun b1 => ?_) (fun b1 => ?_)
  · have h := er_ift h b1
    refine er_iload_n cx d_Mo_goOn_124 2 rfl ?_
    refine er_iconst (v := 3) cx d_Mo_goOn_125 rfl (by decide) ?_
    refine er_irem cx d_Mo_goOn_126 (by decide) ?_
    refine er_if_ne (tgt := 159) cx d_Mo_goOn_127 (by decide) (fun b2 => ?_) (fun b2 => ?_)
    · have h := er_iff h b2
      refine er_iload_n cx d_Mo_goOn_159 2 rfl ?_
      refine er_iconst (v := 3) cx d_Mo_goOn_160 rfl (by decide) ?_
      refine er_irem cx d_Mo_goOn_161 (by decide) ?_
      refine er_iconst (v := 1) cx d_Mo_goOn_162 rfl (by decide) ?_
      refine er_ic_ne (tgt := 219) cx d_Mo_goOn_163 (by decide) (fun b3 => ?_) (fun b3 => ?_)
      · have h := er_iff h b3
        refine er_aload_n cx d_Mo_goOn_219 0 rfl ?_
        obtain ⟨c4, h⟩ := er_ck h
        refine er_getr cx d_Mo_goOn_220 fd_Mo_47 c4.1 c4.2 ?_
        refine er_iload_n cx d_Mo_goOn_223 1 rfl ?_
        refine er_aload_n cx d_Mo_goOn_224 0 rfl ?_
        refine er_iload_n cx d_Mo_goOn_225 1 rfl ?_
        refine er_iload_n cx d_Mo_goOn_226 2 rfl ?_
        obtain ⟨q5, e5, h⟩ := er_bd h
        refine er_callV (b := v0) (As := [.inl v1, .inl v2]) (st := [.inl v1, .inr (T v0 14)]) cx (c_Mo_afterFirm e5) my_Mo_101 c4.1 ⟨by decide, by decide⟩ rfl (Nat.le_of_ble_eq_true rfl) d_Mo_goOn_227 ⟨Nat.zero_le _, Nat.zero_le _⟩ rfl ?_
        obtain ⟨c6, h⟩ := er_ck h
        obtain ⟨M6, e6, h⟩ := er_lel h
        refine er_iast cx d_Mo_goOn_230 c6.1 c6.2.1 c6.2.2 e6 ?_
        exact w_Mo_goOn_231 cx rt _ _ _ _ _ _ h
      · have h := er_ift h b3
        refine er_aload_n cx d_Mo_goOn_166 0 rfl ?_
        obtain ⟨c7, h⟩ := er_ck h
        refine er_getr cx d_Mo_goOn_167 fd_Mo_47 c7.1 c7.2 ?_
        refine er_iload_n cx d_Mo_goOn_170 1 rfl ?_
        refine er_iconst (v := 2) cx d_Mo_goOn_171 rfl (by decide) ?_
        refine er_aload_n cx d_Mo_goOn_172 0 rfl ?_
        obtain ⟨c8, h⟩ := er_ck h
        refine er_getr cx d_Mo_goOn_173 fd_Mo_56 c7.1 c8 ?_
        refine er_iconst (v := 0) cx d_Mo_goOn_176 rfl (by decide) ?_
        obtain ⟨c9, h⟩ := er_ck h
        refine er_iald cx d_Mo_goOn_177 c9.1 (by decide) c9.2 ?_
        refine er_imul cx d_Mo_goOn_178 ?_
        refine er_aload_n cx d_Mo_goOn_179 0 rfl ?_
        refine er_geti cx d_Mo_goOn_180 fd_Mo_59 c7.1 ?_
        refine er_ic_le (tgt := 190) cx d_Mo_goOn_183 (by decide) (fun b11 => ?_) (fun b11 => ?_)
        · have h := er_ift h b11
          refine er_iconst (v := 2) cx d_Mo_goOn_190 rfl (by decide) ?_
          refine er_aload_n cx d_Mo_goOn_191 0 rfl ?_
          refine er_getr cx d_Mo_goOn_192 fd_Mo_56 c7.1 c8 ?_
          refine er_iconst (v := 1) cx d_Mo_goOn_195 rfl (by decide) ?_
          obtain ⟨c13, h⟩ := er_ck h
          refine er_iald cx d_Mo_goOn_196 c9.1 (by decide) c13 ?_
          refine er_imul cx d_Mo_goOn_197 ?_
          refine er_aload_n cx d_Mo_goOn_198 0 rfl ?_
          refine er_geti cx d_Mo_goOn_199 fd_Mo_59 c7.1 ?_
          refine er_ic_le (tgt := 209) cx d_Mo_goOn_202 (by decide) (fun b15 => ?_) (fun b15 => ?_)
          · have h := er_ift h b15
            refine er_aload_n cx d_Mo_goOn_209 0 rfl ?_
            refine er_getr cx d_Mo_goOn_210 fd_Mo_47 c7.1 c7.2 ?_
            refine er_iload_n cx d_Mo_goOn_213 1 rfl ?_
            obtain ⟨c17, h⟩ := er_ck h
            refine er_iald cx d_Mo_goOn_214 c17.1 c17.2.1 c17.2.2 ?_
            exact w_Mo_goOn_215 cx rt _ _ _ _ _ _ _ _ _ h
          · have h := er_iff h b15
            refine er_iconst (v := 3) cx d_Mo_goOn_205 rfl (by decide) ?_
            refine er_goto (tgt := 215) cx d_Mo_goOn_206 (by decide) ?_
            exact w_Mo_goOn_215 cx rt _ _ _ _ _ _ _ _ _ h
        · have h := er_iff h b11
          refine er_iconst (v := 2) cx d_Mo_goOn_186 rfl (by decide) ?_
          refine er_goto (tgt := 215) cx d_Mo_goOn_187 (by decide) ?_
          exact w_Mo_goOn_215 cx rt _ _ _ _ _ _ _ _ _ h
    · have h := er_ift h b2
      refine er_aload_n cx d_Mo_goOn_130 0 rfl ?_
      obtain ⟨c18, h⟩ := er_ck h
      refine er_getr cx d_Mo_goOn_131 fd_Mo_47 c18.1 c18.2 ?_
      refine er_iload_n cx d_Mo_goOn_134 1 rfl ?_
      refine er_aload_n cx d_Mo_goOn_135 0 rfl ?_
      obtain ⟨c19, h⟩ := er_ck h
      refine er_getr cx d_Mo_goOn_136 fd_Mo_56 c18.1 c19 ?_
      refine er_iconst (v := 1) cx d_Mo_goOn_139 rfl (by decide) ?_
      obtain ⟨c20, h⟩ := er_ck h
      refine er_iald cx d_Mo_goOn_140 c20.1 (by decide) c20.2 ?_
      refine er_aload_n cx d_Mo_goOn_141 0 rfl ?_
      refine er_getr cx d_Mo_goOn_142 fd_Mo_56 c18.1 c19 ?_
      refine er_iconst (v := 0) cx d_Mo_goOn_145 rfl (by decide) ?_
      obtain ⟨c22, h⟩ := er_ck h
      refine er_iald cx d_Mo_goOn_146 c20.1 (by decide) c22 ?_
      refine er_ic_le (tgt := 154) cx d_Mo_goOn_147 (by decide) (fun b23 => ?_) (fun b23 => ?_)
      · have h := er_ift h b23
        refine er_iconst (v := 0) cx d_Mo_goOn_154 rfl (by decide) ?_
        exact w_Mo_goOn_155 cx rt _ _ _ _ _ _ _ _ _ h
      · have h := er_iff h b23
        refine er_iconst (v := 1) cx d_Mo_goOn_150 rfl (by decide) ?_
        refine er_goto (tgt := 155) cx d_Mo_goOn_151 (by decide) ?_
        exact w_Mo_goOn_155 cx rt _ _ _ _ _ _ _ _ _ h
  · have h := er_iff h b1
    refine er_aload_n cx d_Mo_goOn_76 0 rfl ?_
    obtain ⟨c24, h⟩ := er_ck h
    refine er_getr cx d_Mo_goOn_77 fd_Mo_29 c24.1 c24.2 ?_
    refine er_iload_n cx d_Mo_goOn_80 1 rfl ?_
    refine er_iload_n cx d_Mo_goOn_81 2 rfl ?_
    refine er_aload_n cx d_Mo_goOn_82 0 rfl ?_
    obtain ⟨c25, h⟩ := er_ck h
    refine er_getr cx d_Mo_goOn_83 fd_Mo_35 c24.1 c25 ?_
    refine er_iload_n cx d_Mo_goOn_86 1 rfl ?_
    refine er_iload_n cx d_Mo_goOn_87 2 rfl ?_
    refine er_iload cx d_Mo_goOn_88 4 rfl ?_
    obtain ⟨q26, e26, h⟩ := er_bd h
    refine er_callS (As := [.inl v1, .inl v2, .inl v4]) (st := [.inr (T v0 10), .inl v2, .inl v1, .inr (T v0 8)]) cx (c_Mo_at e26) my_Mo_70 ⟨by decide, by decide⟩ rfl (Nat.le_of_ble_eq_true rfl) d_Mo_goOn_90 ⟨Nat.zero_le _, Nat.zero_le _⟩ rfl ?_
    obtain ⟨c27, h⟩ := er_ck h
    refine er_iald cx d_Mo_goOn_93 c27.1 c27.2.1 c27.2.2 ?_
    obtain ⟨q28, e28, h⟩ := er_bd h
    refine er_callS (As := [.inl v1, .inl v2, .inl (q26.2 (T v0 10) q26.1)]) (st := [.inr (T v0 8)]) cx (c_Mo_at e28) my_Mo_70 ⟨by decide, by decide⟩ rfl (Nat.le_of_ble_eq_true rfl) d_Mo_goOn_94 ⟨Nat.zero_le _, Nat.zero_le _⟩ rfl ?_
    obtain ⟨c29, h⟩ := er_ck h
    refine er_iald cx d_Mo_goOn_97 c29.1 c29.2.1 c29.2.2 ?_
    refine er_iconst (v := 1) cx d_Mo_goOn_98 rfl (by decide) ?_
    refine er_isub cx d_Mo_goOn_99 ?_
    obtain ⟨x30, e30, h⟩ := er_lel h
    refine er_nm e30 ?_
    refine er_istore cx d_Mo_goOn_100 (by decide) rfl ?_
    refine er_aload_n cx d_Mo_goOn_102 1 rfl ?_
    obtain ⟨c31, h⟩ := er_ck h
    refine er_getr cx d_Mo_goOn_103 fd_Mo_56 c24.1 c31 ?_
    refine er_iload cx d_Mo_goOn_106 0 rfl ?_
    refine er_aload_n cx d_Mo_goOn_108 1 rfl ?_
    refine er_getr cx d_Mo_goOn_109 fd_Mo_56 c24.1 c31 ?_
    refine er_iload cx d_Mo_goOn_112 0 rfl ?_
    obtain ⟨c33, h⟩ := er_ck h
    refine er_iald cx d_Mo_goOn_114 c33.1 c33.2.1 c33.2.2 ?_
    refine er_iconst (v := 1) cx d_Mo_goOn_115 rfl (by decide) ?_
    refine er_iadd cx d_Mo_goOn_116 ?_
    obtain ⟨M34, e34, h⟩ := er_lel h
    refine er_iast cx d_Mo_goOn_117 c33.1 c33.2.1 c33.2.2 e34 ?_
    obtain ⟨x35, e35, h⟩ := er_lel h
    refine er_iinc cx d_Mo_goOn_118 (k := 5) rfl (by decide) e35 rfl ?_
    refine er_goto (tgt := 70) cx d_Mo_goOn_121 (by decide) ?_
    refine er_sb cx [2, 3, 4, 5, 0] rfl ?_
    exact hself _ _ _ _ _ _ h
theorem w_Mo_goOn_70 {K : er_K} {l : Launch} {X : er_X} (cx : er_Cx K l X b_Mo_goOn "EchoedRoundsModel" 6 rm_Mo_goOn) {r : Int × er_Me} {T : er_Me} (rt : er_Rt K X b_Mo_goOn (some .boolean) 0 0 (some (.inl r.1)) T r.2) : ∀ n : Nat, ∀ (v0 v1 v2 v3 v4 : Int) (M : er_Me), f_Mo_goOn_70 n T v0 v1 v2 v3 v4 M = some r → er_G K 0 0 T M 70 [(0, .inr v0), (1, .inl v1), (2, .inl v2), (3, .inl v3), (4, .inl v4)] [] := by
  intro n
  induction n with
  | zero =>
    intro v0 v1 v2 v3 v4 M h
    cases h
  | succ n ih =>
    intro v0 v1 v2 v3 v4 M h
    exact w_Mo_goOn_70_b cx rt ih v0 v1 v2 v3 v4 M h
def f_Mo_goOn_47_b (self : Int → Int → Int → Int → Int → er_Me → Option (Int × er_Me)) (v0 v1 v2 v3 v4 : Int) (T M : er_Me) : Option (Int × er_Me) :=
  if 4 ≤ v4 then
  f_Mo_goOn_70 er_fu T v0 v1 v2 v3 0 M
  else
  if T v0 (-2) = 7 ∧ 0 < T v0 17 then
  if T (T v0 17) (-2) = 101 ∧ 0 ≤ v4 ∧ v4 < T (T v0 17) (-1) then
  er_le (er_up M (T v0 17) v4 0) fun M3 =>
  er_le (er_add v4 1) fun x4 =>
  self v0 v1 v2 v3 x4 M3 else none else none
def f_Mo_goOn_47 : Nat → er_Me → Int → Int → Int → Int → Int → er_Me → Option (Int × er_Me)
  | 0, _ => fun _ _ _ _ _ _ => none
  | n + 1, T => fun v0 v1 v2 v3 v4 M => f_Mo_goOn_47_b (f_Mo_goOn_47 n T) v0 v1 v2 v3 v4 T M
set_option maxHeartbeats 4000000 in
theorem w_Mo_goOn_47_b {K : er_K} {l : Launch} {X : er_X} (cx : er_Cx K l X b_Mo_goOn "EchoedRoundsModel" 6 rm_Mo_goOn) {r : Int × er_Me} {T : er_Me} (rt : er_Rt K X b_Mo_goOn (some .boolean) 0 0 (some (.inl r.1)) T r.2) {self : Int → Int → Int → Int → Int → er_Me → Option (Int × er_Me)} (hself : ∀ (v0 v1 v2 v3 v4 : Int) (M : er_Me), self v0 v1 v2 v3 v4 M = some r → er_G K 0 0 T M 47 [(0, .inr v0), (1, .inl v1), (2, .inl v2), (3, .inl v3), (4, .inl v4)] []) : ∀ (v0 v1 v2 v3 v4 : Int) (M : er_Me), f_Mo_goOn_47_b self v0 v1 v2 v3 v4 T M = some r → er_G K 0 0 T M 47 [(0, .inr v0), (1, .inl v1), (2, .inl v2), (3, .inl v3), (4, .inl v4)] [] := by
  intro v0 v1 v2 v3 v4 M h
  unfold f_Mo_goOn_47_b at h
  refine er_iload cx d_Mo_goOn_47 4 rfl ?_
  refine er_iconst (v := 4) cx d_Mo_goOn_49 rfl (by decide) ?_
  refine er_ic_ge (tgt := 67) cx d_Mo_goOn_50 (by decide) (fun b1 => ?_) (fun b1 => ?_)
  · have h := er_ift h b1
    refine er_iconst (v := 0) cx d_Mo_goOn_67 rfl (by decide) ?_
    refine er_istore cx d_Mo_goOn_68 (by decide) rfl ?_
    refine er_sb cx [1, 2, 3, 4, 0] rfl ?_
    exact w_Mo_goOn_70 cx rt er_fu _ _ _ _ _ _ h
  · have h := er_iff h b1
    refine er_aload_n cx d_Mo_goOn_53 0 rfl ?_
    obtain ⟨c2, h⟩ := er_ck h
    refine er_getr cx d_Mo_goOn_54 fd_Mo_56 c2.1 c2.2 ?_
    refine er_iload cx d_Mo_goOn_57 4 rfl ?_
    refine er_iconst (v := 0) cx d_Mo_goOn_59 rfl (by decide) ?_
    obtain ⟨c3, h⟩ := er_ck h
    obtain ⟨M3, e3, h⟩ := er_lel h
    refine er_iast cx d_Mo_goOn_60 c3.1 c3.2.1 c3.2.2 e3 ?_
    obtain ⟨x4, e4, h⟩ := er_lel h
    refine er_iinc cx d_Mo_goOn_61 (k := 4) rfl (by decide) e4 rfl ?_
    refine er_goto (tgt := 47) cx d_Mo_goOn_64 (by decide) ?_
    refine er_sb cx [1, 2, 3, 4, 0] rfl ?_
    exact hself _ _ _ _ _ _ h
theorem w_Mo_goOn_47 {K : er_K} {l : Launch} {X : er_X} (cx : er_Cx K l X b_Mo_goOn "EchoedRoundsModel" 6 rm_Mo_goOn) {r : Int × er_Me} {T : er_Me} (rt : er_Rt K X b_Mo_goOn (some .boolean) 0 0 (some (.inl r.1)) T r.2) : ∀ n : Nat, ∀ (v0 v1 v2 v3 v4 : Int) (M : er_Me), f_Mo_goOn_47 n T v0 v1 v2 v3 v4 M = some r → er_G K 0 0 T M 47 [(0, .inr v0), (1, .inl v1), (2, .inl v2), (3, .inl v3), (4, .inl v4)] [] := by
  intro n
  induction n with
  | zero =>
    intro v0 v1 v2 v3 v4 M h
    cases h
  | succ n ih =>
    intro v0 v1 v2 v3 v4 M h
    exact w_Mo_goOn_47_b cx rt ih v0 v1 v2 v3 v4 M h
def f_Mo_goOn (p0 p1 : Int) (T M : er_Me) : Option (Int × er_Me) :=
  if T p0 (-2) = 7 ∧ 0 < T p0 13 then
  if T (T p0 13) (-2) = 101 ∧ 0 ≤ p1 ∧ p1 < T (T p0 13) (-1) then
  er_le (M (T p0 13) p1) fun x3 =>
  er_le (er_sub (M p0 0) (M p0 1)) fun x6 =>
  if x3 < 0 then
  some (0, M)
  else
  if 8 < x3 then
  some (0, M)
  else
  if 0 < T p0 11 then
  if T (T p0 11) (-2) = 101 ∧ 0 ≤ er_add (er_mul 9 p1) x3 ∧ er_add (er_mul 9 p1) x3 < T (T p0 11) (-1) then
  if x6 ≤ M (T p0 11) (er_add (er_mul 9 p1) x3) then
  f_Mo_goOn_47 er_fu T p0 p1 x3 x6 0 M
  else
  some (0, M) else none else none else none else none
set_option maxHeartbeats 4000000 in
theorem w_Mo_goOn {K : er_K} {l : Launch} {X : er_X} (cx : er_Cx K l X b_Mo_goOn "EchoedRoundsModel" 6 rm_Mo_goOn) {r : Int × er_Me} {p0 p1 : Int} {T M : er_Me} (rt : er_Rt K X b_Mo_goOn (some .boolean) 0 0 (some (.inl r.1)) T r.2) (h : f_Mo_goOn p0 p1 T M = some r) : er_G K 0 0 T M 0 [(0, .inr p0), (1, .inl p1)] [] := by
  unfold f_Mo_goOn at h
  refine er_aload_n cx d_Mo_goOn_0 0 rfl ?_
  obtain ⟨c1, h⟩ := er_ck h
  refine er_getr cx d_Mo_goOn_1 fd_Mo_44 c1.1 c1.2 ?_
  refine er_iload_n cx d_Mo_goOn_4 1 rfl ?_
  obtain ⟨c2, h⟩ := er_ck h
  refine er_iald cx d_Mo_goOn_5 c2.1 c2.2.1 c2.2.2 ?_
  obtain ⟨x3, e3, h⟩ := er_lel h
  refine er_nm e3 ?_
  refine er_istore_n cx d_Mo_goOn_6 rfl (by decide) rfl ?_
  refine er_aload_n cx d_Mo_goOn_7 1 rfl ?_
  refine er_geti cx d_Mo_goOn_8 fd_Mo_59 c1.1 ?_
  refine er_aload_n cx d_Mo_goOn_11 1 rfl ?_
  refine er_geti cx d_Mo_goOn_12 fd_Mo_63 c1.1 ?_
  refine er_isub cx d_Mo_goOn_15 ?_
  obtain ⟨x6, e6, h⟩ := er_lel h
  refine er_nm e6 ?_
  refine er_istore_n cx d_Mo_goOn_16 rfl (by decide) rfl ?_
  refine er_iload_n cx d_Mo_goOn_17 1 rfl ?_
  refine er_if_lt (tgt := 42) cx d_Mo_goOn_18 (by decide) (fun b7 => ?_) (fun b7 => ?_)
  · have h := er_ift h b7
    refine er_iconst (v := 0) cx d_Mo_goOn_42 rfl (by decide) ?_
    obtain rfl := Option.some.inj h
    exact er_iret rt (Or.inr ⟨rfl, Or.inl rfl⟩) d_Mo_goOn_43 (by decide) (by decide) ⟨rfl, rfl, rfl⟩
  · have h := er_iff h b7
    refine er_iload_n cx d_Mo_goOn_21 1 rfl ?_
    refine er_bipush (v := 8) cx d_Mo_goOn_22 (by decide +kernel) (by decide) ?_
    refine er_ic_gt (tgt := 42) cx d_Mo_goOn_24 (by decide) (fun b9 => ?_) (fun b9 => ?_)
    · have h := er_ift h b9
      refine er_iconst (v := 0) cx d_Mo_goOn_42 rfl (by decide) ?_
      obtain rfl := Option.some.inj h
      exact er_iret rt (Or.inr ⟨rfl, Or.inl rfl⟩) d_Mo_goOn_43 (by decide) (by decide) ⟨rfl, rfl, rfl⟩
    · have h := er_iff h b9
      refine er_aload_n cx d_Mo_goOn_27 2 rfl ?_
      obtain ⟨c11, h⟩ := er_ck h
      refine er_getr cx d_Mo_goOn_28 fd_Mo_38 c1.1 c11 ?_
      refine er_bipush (v := 9) cx d_Mo_goOn_31 (by decide +kernel) (by decide) ?_
      refine er_iload_n cx d_Mo_goOn_33 3 rfl ?_
      refine er_imul cx d_Mo_goOn_34 ?_
      refine er_iload_n cx d_Mo_goOn_35 1 rfl ?_
      refine er_iadd cx d_Mo_goOn_36 ?_
      obtain ⟨c12, h⟩ := er_ck h
      refine er_iald cx d_Mo_goOn_37 c12.1 c12.2.1 c12.2.2 ?_
      refine er_iload_n cx d_Mo_goOn_38 0 rfl ?_
      refine er_ic_ge (tgt := 44) cx d_Mo_goOn_39 (by decide) (fun b13 => ?_) (fun b13 => ?_)
      · have h := er_ift h b13
        refine er_iconst (v := 0) cx d_Mo_goOn_44 rfl (by decide) ?_
        refine er_istore cx d_Mo_goOn_45 (by decide) rfl ?_
        refine er_sb cx [3, 4, 2, 1, 0] rfl ?_
        exact w_Mo_goOn_47 cx rt er_fu _ _ _ _ _ _ h
      · have h := er_iff h b13
        refine er_iconst (v := 0) cx d_Mo_goOn_42 rfl (by decide) ?_
        obtain rfl := Option.some.inj h
        exact er_iret rt (Or.inr ⟨rfl, Or.inl rfl⟩) d_Mo_goOn_43 (by decide) (by decide) ⟨rfl, rfl, rfl⟩
theorem c_Mo_goOn {l : Launch} {X : er_X} {r : Int × er_Me} {p0 p1 : Int} {T M : er_Me} (h : f_Mo_goOn p0 p1 T M = some r) (hok : ∀ v ∈ ([.inr p0, .inl p1] : List er_V), er_ok v) : er_Ct l X y_Mo_goOn b_Mo_goOn 6 (some .boolean) rm_Mo_goOn [.inr p0, .inl p1] T M (some (.inl r.1)) T r.2 :=
  er_ct rfl rfl (Nat.le_of_ble_eq_true rfl) hok (fun K cx rt hin => w_Mo_goOn cx rt h)
/-! Mo_receiveFromLog -/
abbrev rm_Mo_receiveFromLog : Room := { frames := 3, cells := 0, slots := 0, locals := 77 }
def f_Mo_receiveFromLog (p0 p1 p2 : Int) (T M : er_Me) : Option (er_Me) :=
  if T p0 (-2) = 7 ∧ 0 < T p0 3 then
  if 0 < T p0 5 then
  if T (T p0 5) (-2) = 101 ∧ 0 ≤ er_add (er_mul 7 p1) p2 ∧ er_add (er_mul 7 p1) p2 < T (T p0 5) (-1) then
  if T (T p0 3) (-2) = 101 ∧ 0 ≤ er_add (er_mul 140 p2) (M (T p0 5) (er_add (er_mul 7 p1) p2)) ∧ er_add (er_mul 140 p2) (M (T p0 5) (er_add (er_mul 7 p1) p2)) < T (T p0 3) (-1) then
  er_le (M (T p0 3) (er_add (er_mul 140 p2) (M (T p0 5) (er_add (er_mul 7 p1) p2)))) fun x5 =>
  er_le (er_up M (T p0 5) (er_add (er_mul 7 p1) p2) (er_add (M (T p0 5) (er_add (er_mul 7 p1) p2)) 1)) fun M9 =>
  (f_Mo_receive p0 p1 p2 (er_rem (er_div x5 10) 10) (er_div x5 1000) (er_rem (er_div x5 100) 10) (er_rem x5 10) T M9).bind fun q10 =>
  some q10.2 else none else none else none else none
set_option maxHeartbeats 4000000 in
theorem w_Mo_receiveFromLog {K : er_K} {l : Launch} {X : er_X} (cx : er_Cx K l X b_Mo_receiveFromLog "EchoedRoundsModel" 4 rm_Mo_receiveFromLog) {r : er_Me} {p0 p1 p2 : Int} {T M : er_Me} (rt : er_Rt K X b_Mo_receiveFromLog (none) 0 0 none T r) (h : f_Mo_receiveFromLog p0 p1 p2 T M = some r) : er_G K 0 0 T M 0 [(0, .inr p0), (1, .inl p1), (2, .inl p2)] [] := by
  unfold f_Mo_receiveFromLog at h
  refine er_aload_n cx d_Mo_receiveFromLog_0 0 rfl ?_
  obtain ⟨c1, h⟩ := er_ck h
  refine er_getr cx d_Mo_receiveFromLog_1 fd_Mo_13 c1.1 c1.2 ?_
  refine er_sipush (v := 140) cx d_Mo_receiveFromLog_4 (by decide +kernel) (by decide) ?_
  refine er_iload_n cx d_Mo_receiveFromLog_7 2 rfl ?_
  refine er_imul cx d_Mo_receiveFromLog_8 ?_
  refine er_aload_n cx d_Mo_receiveFromLog_9 0 rfl ?_
  obtain ⟨c2, h⟩ := er_ck h
  refine er_getr cx d_Mo_receiveFromLog_10 fd_Mo_20 c1.1 c2 ?_
  refine er_bipush (v := 7) cx d_Mo_receiveFromLog_13 (by decide +kernel) (by decide) ?_
  refine er_iload_n cx d_Mo_receiveFromLog_15 1 rfl ?_
  refine er_imul cx d_Mo_receiveFromLog_16 ?_
  refine er_iload_n cx d_Mo_receiveFromLog_17 2 rfl ?_
  refine er_iadd cx d_Mo_receiveFromLog_18 ?_
  obtain ⟨c3, h⟩ := er_ck h
  refine er_iald cx d_Mo_receiveFromLog_19 c3.1 c3.2.1 c3.2.2 ?_
  refine er_iadd cx d_Mo_receiveFromLog_20 ?_
  obtain ⟨c4, h⟩ := er_ck h
  refine er_iald cx d_Mo_receiveFromLog_21 c4.1 c4.2.1 c4.2.2 ?_
  obtain ⟨x5, e5, h⟩ := er_lel h
  refine er_nm e5 ?_
  refine er_istore_n cx d_Mo_receiveFromLog_22 rfl (by decide) rfl ?_
  refine er_aload_n cx d_Mo_receiveFromLog_23 1 rfl ?_
  refine er_getr cx d_Mo_receiveFromLog_24 fd_Mo_20 c1.1 c2 ?_
  refine er_bipush (v := 7) cx d_Mo_receiveFromLog_27 (by decide +kernel) (by decide) ?_
  refine er_iload_n cx d_Mo_receiveFromLog_29 2 rfl ?_
  refine er_imul cx d_Mo_receiveFromLog_30 ?_
  refine er_iload_n cx d_Mo_receiveFromLog_31 3 rfl ?_
  refine er_iadd cx d_Mo_receiveFromLog_32 ?_
  refine er_aload_n cx d_Mo_receiveFromLog_33 1 rfl ?_
  refine er_getr cx d_Mo_receiveFromLog_34 fd_Mo_20 c1.1 c2 ?_
  refine er_bipush (v := 7) cx d_Mo_receiveFromLog_37 (by decide +kernel) (by decide) ?_
  refine er_iload_n cx d_Mo_receiveFromLog_39 2 rfl ?_
  refine er_imul cx d_Mo_receiveFromLog_40 ?_
  refine er_iload_n cx d_Mo_receiveFromLog_41 3 rfl ?_
  refine er_iadd cx d_Mo_receiveFromLog_42 ?_
  refine er_iald cx d_Mo_receiveFromLog_43 c3.1 c3.2.1 c3.2.2 ?_
  refine er_iconst (v := 1) cx d_Mo_receiveFromLog_44 rfl (by decide) ?_
  refine er_iadd cx d_Mo_receiveFromLog_45 ?_
  obtain ⟨M9, e9, h⟩ := er_lel h
  refine er_iast cx d_Mo_receiveFromLog_46 c3.1 c3.2.1 c3.2.2 e9 ?_
  refine er_aload_n cx d_Mo_receiveFromLog_47 1 rfl ?_
  refine er_iload_n cx d_Mo_receiveFromLog_48 2 rfl ?_
  refine er_iload_n cx d_Mo_receiveFromLog_49 3 rfl ?_
  refine er_iload_n cx d_Mo_receiveFromLog_50 0 rfl ?_
  refine er_bipush (v := 10) cx d_Mo_receiveFromLog_51 (by decide +kernel) (by decide) ?_
  refine er_idiv cx d_Mo_receiveFromLog_53 (by decide) ?_
  refine er_bipush (v := 10) cx d_Mo_receiveFromLog_54 (by decide +kernel) (by decide) ?_
  refine er_irem cx d_Mo_receiveFromLog_56 (by decide) ?_
  refine er_iload_n cx d_Mo_receiveFromLog_57 0 rfl ?_
  refine er_sipush (v := 1000) cx d_Mo_receiveFromLog_58 (by decide +kernel) (by decide) ?_
  refine er_idiv cx d_Mo_receiveFromLog_61 (by decide) ?_
  refine er_iload_n cx d_Mo_receiveFromLog_62 0 rfl ?_
  refine er_bipush (v := 100) cx d_Mo_receiveFromLog_63 (by decide +kernel) (by decide) ?_
  refine er_idiv cx d_Mo_receiveFromLog_65 (by decide) ?_
  refine er_bipush (v := 10) cx d_Mo_receiveFromLog_66 (by decide +kernel) (by decide) ?_
  refine er_irem cx d_Mo_receiveFromLog_68 (by decide) ?_
  refine er_iload_n cx d_Mo_receiveFromLog_69 0 rfl ?_
  refine er_bipush (v := 10) cx d_Mo_receiveFromLog_70 (by decide +kernel) (by decide) ?_
  refine er_irem cx d_Mo_receiveFromLog_72 (by decide) ?_
  obtain ⟨q10, e10, h⟩ := er_bd h
  refine er_callV (b := p0) (As := [.inl p1, .inl p2, .inl (er_rem (er_div x5 10) 10), .inl (er_div x5 1000), .inl (er_rem (er_div x5 100) 10), .inl (er_rem x5 10)]) (st := []) cx (c_Mo_receive e10) my_Mo_82 c1.1 ⟨by decide, by decide⟩ rfl (Nat.le_of_ble_eq_true rfl) d_Mo_receiveFromLog_73 ⟨Nat.zero_le _, Nat.zero_le _⟩ rfl ?_
  refine er_pop cx d_Mo_receiveFromLog_76 ?_
  obtain rfl := Option.some.inj h
  exact er_vret rt d_Mo_receiveFromLog_77 (by decide) (by decide) ⟨rfl, rfl, rfl⟩
theorem c_Mo_receiveFromLog {l : Launch} {X : er_X} {r : er_Me} {p0 p1 p2 : Int} {T M : er_Me} (h : f_Mo_receiveFromLog p0 p1 p2 T M = some r) (hok : ∀ v ∈ ([.inr p0, .inl p1, .inl p2] : List er_V), er_ok v) : er_Ct l X y_Mo_receiveFromLog b_Mo_receiveFromLog 4 (none) rm_Mo_receiveFromLog [.inr p0, .inl p1, .inl p2] T M none T r :=
  er_ct rfl rfl (Nat.le_of_ble_eq_true rfl) hok (fun K cx rt hin => w_Mo_receiveFromLog cx rt h)
/-! Mo_can -/
abbrev rm_Mo_can : Room := { frames := 3, cells := 0, slots := 0, locals := 74 }
def f_Mo_can_110 (T : er_Me) (v0 v1 v2 v3 v4 s0 : Int) (M : er_Me) : Option (Int × er_Me) :=
  if s0 = 0 then
  some (0, M)
  else
  if T v0 (-2) = 7 then
  (f_Mo_some v0 v1 (er_sub v2 1) v4 T M).bind fun q3 =>
  if q3.1 = 0 then
  some (0, q3.2)
  else
  some (1, q3.2) else none
set_option maxHeartbeats 4000000 in
theorem w_Mo_can_110 {K : er_K} {l : Launch} {X : er_X} (cx : er_Cx K l X b_Mo_can "EchoedRoundsModel" 6 rm_Mo_can) {r : Int × er_Me} {T : er_Me} (rt : er_Rt K X b_Mo_can (some .boolean) 0 0 (some (.inl r.1)) T r.2) : ∀ (v0 v1 v2 v3 v4 s0 : Int) (M : er_Me), f_Mo_can_110 T v0 v1 v2 v3 v4 s0 M = some r → er_G K 0 0 T M 110 [(0, .inr v0), (1, .inl v1), (2, .inl v2), (3, .inl v3), (4, .inl v4)] [.inl s0] := by
  intro v0 v1 v2 v3 v4 s0 M h
  unfold f_Mo_can_110 at h
  refine er_istore cx d_Mo_can_110 (by decide) rfl ?_
  refine er_iload cx d_Mo_can_112 0 rfl ?_
  refine er_if_eq (tgt := 134) cx d_Mo_can_114 (by decide) (fun b1 => ?_) (fun b1 => ?_)
  · have h := er_ift h b1
    refine er_iconst (v := 0) cx d_Mo_can_134 rfl (by decide) ?_
    obtain rfl := Option.some.inj h
    exact er_iret rt (Or.inr ⟨rfl, Or.inl rfl⟩) d_Mo_can_135 (by decide) (by decide) ⟨rfl, rfl, rfl⟩
  · have h := er_iff h b1
    refine er_aload_n cx d_Mo_can_117 1 rfl ?_
    refine er_iload_n cx d_Mo_can_118 2 rfl ?_
    refine er_iload_n cx d_Mo_can_119 3 rfl ?_
    refine er_iconst (v := 1) cx d_Mo_can_120 rfl (by decide) ?_
    refine er_isub cx d_Mo_can_121 ?_
    refine er_iload cx d_Mo_can_122 5 rfl ?_
    obtain ⟨c3, h⟩ := er_ck h
    obtain ⟨q3, e3, h⟩ := er_bd h
    refine er_callV (b := v0) (As := [.inl v1, .inl (er_sub v2 1), .inl v4]) (st := []) cx (c_Mo_some e3) my_Mo_90 c3 ⟨by decide, by decide⟩ rfl (Nat.le_of_ble_eq_true rfl) d_Mo_can_124 ⟨Nat.zero_le _, Nat.zero_le _⟩ rfl ?_
    refine er_if_eq (tgt := 134) cx d_Mo_can_127 (by decide) (fun b4 => ?_) (fun b4 => ?_)
    · have h := er_ift h b4
      refine er_iconst (v := 0) cx d_Mo_can_134 rfl (by decide) ?_
      obtain rfl := Option.some.inj h
      exact er_iret rt (Or.inr ⟨rfl, Or.inl rfl⟩) d_Mo_can_135 (by decide) (by decide) ⟨rfl, rfl, rfl⟩
    · have h := er_iff h b4
      refine er_iconst (v := 1) cx d_Mo_can_130 rfl (by decide) ?_
      refine er_goto (tgt := 135) cx d_Mo_can_131 (by decide) ?_
      obtain rfl := Option.some.inj h
      exact er_iret rt (Or.inr ⟨rfl, Or.inr rfl⟩) d_Mo_can_135 (by decide) (by decide) ⟨rfl, rfl, rfl⟩
def f_Mo_can (p0 p1 p2 p3 : Int) (T M : er_Me) : Option (Int × er_Me) :=
  if T p0 (-2) = 7 ∧ 0 < T p0 8 then
  (f_Mo_at p1 p2 p3 T M).bind fun q2 =>
  if T (T p0 8) (-2) = 101 ∧ 0 ≤ q2.1 ∧ q2.1 < T (T p0 8) (-1) then
  er_le (er_sub (q2.2 (T p0 8) q2.1) 1) fun x4 =>
  if p2 = 0 then
  if 2 ≤ x4 then
  some (0, q2.2)
  else
  some (1, q2.2)
  else
  if er_rem p2 3 = 2 then
  if 1 < x4 then
  f_Mo_can_110 T p0 p1 p2 p3 x4 1 q2.2
  else
  if 0 < T p0 9 then
  (f_Mo_at p1 (er_sub p2 1) p3 T q2.2).bind fun q9 =>
  if T (T p0 9) (-2) = 102 ∧ 0 ≤ q9.1 ∧ q9.1 < T (T p0 9) (-1) then
  if q9.2 (T p0 9) q9.1 = 0 then
  f_Mo_can_110 T p0 p1 p2 p3 x4 0 q9.2
  else
  (f_Mo_at p1 (er_sub p2 1) p3 T q9.2).bind fun q13 =>
  if 0 ≤ q13.1 ∧ q13.1 < T (T p0 8) (-1) then
  if q13.2 (T p0 8) q13.1 = er_add x4 1 then
  f_Mo_can_110 T p0 p1 p2 p3 x4 1 q13.2
  else
  f_Mo_can_110 T p0 p1 p2 p3 x4 0 q13.2 else none else none else none
  else
  if 2 ≤ x4 then
  some (0, q2.2)
  else
  (f_Mo_some p0 p1 (er_sub p2 1) x4 T q2.2).bind fun q18 =>
  if q18.1 = 0 then
  some (0, q18.2)
  else
  some (1, q18.2) else none else none
set_option maxHeartbeats 4000000 in
theorem w_Mo_can {K : er_K} {l : Launch} {X : er_X} (cx : er_Cx K l X b_Mo_can "EchoedRoundsModel" 6 rm_Mo_can) {r : Int × er_Me} {p0 p1 p2 p3 : Int} {T M : er_Me} (rt : er_Rt K X b_Mo_can (some .boolean) 0 0 (some (.inl r.1)) T r.2) (h : f_Mo_can p0 p1 p2 p3 T M = some r) : er_G K 0 0 T M 0 [(0, .inr p0), (1, .inl p1), (2, .inl p2), (3, .inl p3)] [] := by
  unfold f_Mo_can at h
  refine er_aload_n cx d_Mo_can_0 0 rfl ?_
  obtain ⟨c1, h⟩ := er_ck h
  refine er_getr cx d_Mo_can_1 fd_Mo_29 c1.1 c1.2 ?_
  refine er_iload_n cx d_Mo_can_4 1 rfl ?_
  refine er_iload_n cx d_Mo_can_5 2 rfl ?_
  refine er_iload_n cx d_Mo_can_6 3 rfl ?_
  obtain ⟨q2, e2, h⟩ := er_bd h
  refine er_callS (As := [.inl p1, .inl p2, .inl p3]) (st := [.inr (T p0 8)]) cx (c_Mo_at e2) my_Mo_70 ⟨by decide, by decide⟩ rfl (Nat.le_of_ble_eq_true rfl) d_Mo_can_7 ⟨Nat.zero_le _, Nat.zero_le _⟩ rfl ?_
  obtain ⟨c3, h⟩ := er_ck h
  refine er_iald cx d_Mo_can_10 c3.1 c3.2.1 c3.2.2 ?_
  refine er_iconst (v := 1) cx d_Mo_can_11 rfl (by decide) ?_
  refine er_isub cx d_Mo_can_12 ?_
  obtain ⟨x4, e4, h⟩ := er_lel h
  refine er_nm e4 ?_
  refine er_istore cx d_Mo_can_13 (by decide) rfl ?_
  refine er_iload_n cx d_Mo_can_15 3 rfl ?_
  refine er_if_ne (tgt := 31) cx d_Mo_can_16 (by decide) (fun b5 => ?_) (fun b5 => ?_)
  · have h := er_iff h b5
    refine er_iload_n cx d_Mo_can_31 3 rfl ?_
    refine er_iconst (v := 3) cx d_Mo_can_32 rfl (by decide) ?_
    refine er_irem cx d_Mo_can_33 (by decide) ?_
    refine er_iconst (v := 2) cx d_Mo_can_34 rfl (by decide) ?_
    refine er_ic_eq (tgt := 63) cx d_Mo_can_35 (by decide) (fun b6 => ?_) (fun b6 => ?_)
    · have h := er_ift h b6
      refine er_iload cx d_Mo_can_63 0 rfl ?_
      refine er_iconst (v := 1) cx d_Mo_can_65 rfl (by decide) ?_
      refine er_ic_gt (tgt := 105) cx d_Mo_can_66 (by decide) (fun b7 => ?_) (fun b7 => ?_)
      · have h := er_ift h b7
        refine er_iconst (v := 1) cx d_Mo_can_105 rfl (by decide) ?_
        refine er_goto (tgt := 110) cx d_Mo_can_106 (by decide) ?_
        refine er_sb cx [1, 2, 3, 4, 0] rfl ?_
        exact w_Mo_can_110 cx rt _ _ _ _ _ _ _ h
      · have h := er_iff h b7
        refine er_aload_n cx d_Mo_can_69 1 rfl ?_
        obtain ⟨c8, h⟩ := er_ck h
        refine er_getr cx d_Mo_can_70 fd_Mo_32 c1.1 c8 ?_
        refine er_iload_n cx d_Mo_can_73 2 rfl ?_
        refine er_iload_n cx d_Mo_can_74 3 rfl ?_
        refine er_iconst (v := 1) cx d_Mo_can_75 rfl (by decide) ?_
        refine er_isub cx d_Mo_can_76 ?_
        refine er_iload_n cx d_Mo_can_77 4 rfl ?_
        obtain ⟨q9, e9, h⟩ := er_bd h
        refine er_callS (As := [.inl p1, .inl (er_sub p2 1), .inl p3]) (st := [.inr (T p0 9)]) cx (c_Mo_at e9) my_Mo_70 ⟨by decide, by decide⟩ rfl (Nat.le_of_ble_eq_true rfl) d_Mo_can_78 ⟨Nat.zero_le _, Nat.zero_le _⟩ rfl ?_
        obtain ⟨c10, h⟩ := er_ck h
        refine er_zald cx d_Mo_can_81 c10.1 c10.2.1 c10.2.2 ?_
        refine er_if_eq (tgt := 109) cx d_Mo_can_82 (by decide) (fun b11 => ?_) (fun b11 => ?_)
        · have h := er_ift h b11
          refine er_iconst (v := 0) cx d_Mo_can_109 rfl (by decide) ?_
          refine er_sb cx [1, 2, 3, 4, 0] rfl ?_
          exact w_Mo_can_110 cx rt _ _ _ _ _ _ _ h
        · have h := er_iff h b11
          refine er_aload_n cx d_Mo_can_85 1 rfl ?_
          refine er_getr cx d_Mo_can_86 fd_Mo_29 c1.1 c1.2 ?_
          refine er_iload_n cx d_Mo_can_89 2 rfl ?_
          refine er_iload_n cx d_Mo_can_90 3 rfl ?_
          refine er_iconst (v := 1) cx d_Mo_can_91 rfl (by decide) ?_
          refine er_isub cx d_Mo_can_92 ?_
          refine er_iload_n cx d_Mo_can_93 4 rfl ?_
          obtain ⟨q13, e13, h⟩ := er_bd h
          refine er_callS (As := [.inl p1, .inl (er_sub p2 1), .inl p3]) (st := [.inr (T p0 8)]) cx (c_Mo_at e13) my_Mo_70 ⟨by decide, by decide⟩ rfl (Nat.le_of_ble_eq_true rfl) d_Mo_can_94 ⟨Nat.zero_le _, Nat.zero_le _⟩ rfl ?_
          obtain ⟨c14, h⟩ := er_ck h
          refine er_iald cx d_Mo_can_97 c3.1 c14.1 c14.2 ?_
          refine er_iload cx d_Mo_can_98 0 rfl ?_
          refine er_iconst (v := 1) cx d_Mo_can_100 rfl (by decide) ?_
          refine er_iadd cx d_Mo_can_101 ?_
          refine er_ic_ne (tgt := 109) cx d_Mo_can_102 (by decide) (fun b15 => ?_) (fun b15 => ?_)
          · have h := er_iff h b15
            refine er_iconst (v := 0) cx d_Mo_can_109 rfl (by decide) ?_
            refine er_sb cx [1, 2, 3, 4, 0] rfl ?_
            exact w_Mo_can_110 cx rt _ _ _ _ _ _ _ h
          · have h := er_ift h b15
            refine er_iconst (v := 1) cx d_Mo_can_105 rfl (by decide) ?_
            refine er_goto (tgt := 110) cx d_Mo_can_106 (by decide) ?_
            refine er_sb cx [1, 2, 3, 4, 0] rfl ?_
            exact w_Mo_can_110 cx rt _ _ _ _ _ _ _ h
    · have h := er_iff h b6
      refine er_iload cx d_Mo_can_38 0 rfl ?_
      refine er_iconst (v := 2) cx d_Mo_can_40 rfl (by decide) ?_
      refine er_ic_ge (tgt := 61) cx d_Mo_can_41 (by decide) (fun b16 => ?_) (fun b16 => ?_)
      · have h := er_ift h b16
        refine er_iconst (v := 0) cx d_Mo_can_61 rfl (by decide) ?_
        obtain rfl := Option.some.inj h
        exact er_iret rt (Or.inr ⟨rfl, Or.inl rfl⟩) d_Mo_can_62 (by decide) (by decide) ⟨rfl, rfl, rfl⟩
      · have h := er_iff h b16
        refine er_aload_n cx d_Mo_can_44 1 rfl ?_
        refine er_iload_n cx d_Mo_can_45 2 rfl ?_
        refine er_iload_n cx d_Mo_can_46 3 rfl ?_
        refine er_iconst (v := 1) cx d_Mo_can_47 rfl (by decide) ?_
        refine er_isub cx d_Mo_can_48 ?_
        refine er_iload cx d_Mo_can_49 0 rfl ?_
        obtain ⟨q18, e18, h⟩ := er_bd h
        refine er_callV (b := p0) (As := [.inl p1, .inl (er_sub p2 1), .inl x4]) (st := []) cx (c_Mo_some e18) my_Mo_90 c1.1 ⟨by decide, by decide⟩ rfl (Nat.le_of_ble_eq_true rfl) d_Mo_can_51 ⟨Nat.zero_le _, Nat.zero_le _⟩ rfl ?_
        refine er_if_eq (tgt := 61) cx d_Mo_can_54 (by decide) (fun b19 => ?_) (fun b19 => ?_)
        · have h := er_ift h b19
          refine er_iconst (v := 0) cx d_Mo_can_61 rfl (by decide) ?_
          obtain rfl := Option.some.inj h
          exact er_iret rt (Or.inr ⟨rfl, Or.inl rfl⟩) d_Mo_can_62 (by decide) (by decide) ⟨rfl, rfl, rfl⟩
        · have h := er_iff h b19
          refine er_iconst (v := 1) cx d_Mo_can_57 rfl (by decide) ?_
          refine er_goto (tgt := 62) cx d_Mo_can_58 (by decide) ?_
          obtain rfl := Option.some.inj h
          exact er_iret rt (Or.inr ⟨rfl, Or.inr rfl⟩) d_Mo_can_62 (by decide) (by decide) ⟨rfl, rfl, rfl⟩
  · have h := er_ift h b5
    refine er_iload cx d_Mo_can_19 0 rfl ?_
    refine er_iconst (v := 2) cx d_Mo_can_21 rfl (by decide) ?_
    refine er_ic_ge (tgt := 29) cx d_Mo_can_22 (by decide) (fun b22 => ?_) (fun b22 => ?_)
    · have h := er_ift h b22
      refine er_iconst (v := 0) cx d_Mo_can_29 rfl (by decide) ?_
      obtain rfl := Option.some.inj h
      exact er_iret rt (Or.inr ⟨rfl, Or.inl rfl⟩) d_Mo_can_30 (by decide) (by decide) ⟨rfl, rfl, rfl⟩
    · have h := er_iff h b22
      refine er_iconst (v := 1) cx d_Mo_can_25 rfl (by decide) ?_
      refine er_goto (tgt := 30) cx d_Mo_can_26 (by decide) ?_
      obtain rfl := Option.some.inj h
      exact er_iret rt (Or.inr ⟨rfl, Or.inr rfl⟩) d_Mo_can_30 (by decide) (by decide) ⟨rfl, rfl, rfl⟩
theorem c_Mo_can {l : Launch} {X : er_X} {r : Int × er_Me} {p0 p1 p2 p3 : Int} {T M : er_Me} (h : f_Mo_can p0 p1 p2 p3 T M = some r) (hok : ∀ v ∈ ([.inr p0, .inl p1, .inl p2, .inl p3] : List er_V), er_ok v) : er_Ct l X y_Mo_can b_Mo_can 6 (some .boolean) rm_Mo_can [.inr p0, .inl p1, .inl p2, .inl p3] T M (some (.inl r.1)) T r.2 :=
  er_ct rfl rfl (Nat.le_of_ble_eq_true rfl) hok (fun K cx rt hin => w_Mo_can cx rt h)
/-! Mo_validate -/
abbrev rm_Mo_validate : Room := { frames := 4, cells := 0, slots := 0, locals := 99 }
def f_Mo_validate_10_b (k2 : Int → Int → Int → er_Me → Option (Int × er_Me)) (self : Int → Int → Int → Int → er_Me → Option (Int × er_Me)) (v0 v1 v2 v3 : Int) (T M : er_Me) : Option (Int × er_Me) :=
  if T v0 (-2) = 7 then
  if M v0 0 ≤ v3 then
  er_le (er_add v2 1) fun x3 =>
  k2 v0 v1 x3 M
  else
  if 0 < T v0 8 then
  (f_Mo_at v1 v2 v3 T M).bind fun q5 =>
  if T (T v0 8) (-2) = 101 ∧ 0 ≤ q5.1 ∧ q5.1 < T (T v0 8) (-1) then
  if q5.2 (T v0 8) q5.1 ≤ 0 then
  er_le (er_add v3 1) fun x8 =>
  self v0 v1 v2 x8 q5.2
  else
  if 0 < T v0 9 then
  (f_Mo_at v1 v2 v3 T q5.2).bind fun q10 =>
  if T (T v0 9) (-2) = 102 ∧ 0 ≤ q10.1 ∧ q10.1 < T (T v0 9) (-1) then
  if q10.2 (T v0 9) q10.1 = 0 then
  (f_Mo_can v0 v1 v2 v3 T q10.2).bind fun q14 =>
  if q14.1 = 0 then
  er_le (er_add v3 1) fun x16 =>
  self v0 v1 v2 x16 q14.2
  else
  (f_Mo_at v1 v2 v3 T q14.2).bind fun q18 =>
  if 0 ≤ q18.1 ∧ q18.1 < T (T v0 9) (-1) then
  er_le (er_up q18.2 (T v0 9) q18.1 1) fun M19 =>
  if 0 < T v0 10 then
  if 0 < T v0 11 then
  if T (T v0 11) (-2) = 101 ∧ 0 ≤ er_add (er_mul 9 v1) v2 ∧ er_add (er_mul 9 v1) v2 < T (T v0 11) (-1) then
  (f_Mo_at v1 v2 (M19 (T v0 11) (er_add (er_mul 9 v1) v2)) T M19).bind fun q23 =>
  if T (T v0 10) (-2) = 101 ∧ 0 ≤ q23.1 ∧ q23.1 < T (T v0 10) (-1) then
  er_le (er_up q23.2 (T v0 10) q23.1 v3) fun M24 =>
  er_le (er_up M24 (T v0 11) (er_add (er_mul 9 v1) v2) (er_add (M24 (T v0 11) (er_add (er_mul 9 v1) v2)) 1)) fun M28 =>
  some (1, M28) else none else none else none else none else none
  else
  er_le (er_add v3 1) fun x13 =>
  self v0 v1 v2 x13 q10.2 else none else none else none else none else none
def f_Mo_validate_10 (k2 : Int → Int → Int → er_Me → Option (Int × er_Me)) : Nat → er_Me → Int → Int → Int → Int → er_Me → Option (Int × er_Me)
  | 0, _ => fun _ _ _ _ _ => none
  | n + 1, T => fun v0 v1 v2 v3 M => f_Mo_validate_10_b k2 (f_Mo_validate_10 k2 n T) v0 v1 v2 v3 T M
set_option maxHeartbeats 4000000 in
theorem w_Mo_validate_10_b {K : er_K} {l : Launch} {X : er_X} (cx : er_Cx K l X b_Mo_validate "EchoedRoundsModel" 4 rm_Mo_validate) {r : Int × er_Me} {T : er_Me} (rt : er_Rt K X b_Mo_validate (some .boolean) 0 0 (some (.inl r.1)) T r.2) {k2 : Int → Int → Int → er_Me → Option (Int × er_Me)} (hk2 : ∀ (v0 v1 v2 : Int) (M : er_Me), k2 v0 v1 v2 M = some r → er_G K 0 0 T M 2 [(0, .inr v0), (1, .inl v1), (2, .inl v2)] []) {self : Int → Int → Int → Int → er_Me → Option (Int × er_Me)} (hself : ∀ (v0 v1 v2 v3 : Int) (M : er_Me), self v0 v1 v2 v3 M = some r → er_G K 0 0 T M 10 [(0, .inr v0), (1, .inl v1), (2, .inl v2), (3, .inl v3)] []) : ∀ (v0 v1 v2 v3 : Int) (M : er_Me), f_Mo_validate_10_b k2 self v0 v1 v2 v3 T M = some r → er_G K 0 0 T M 10 [(0, .inr v0), (1, .inl v1), (2, .inl v2), (3, .inl v3)] [] := by
  intro v0 v1 v2 v3 M h
  unfold f_Mo_validate_10_b at h
  refine er_iload_n cx d_Mo_validate_10 3 rfl ?_
  refine er_aload_n cx d_Mo_validate_11 0 rfl ?_
  obtain ⟨c1, h⟩ := er_ck h
  refine er_geti cx d_Mo_validate_12 fd_Mo_59 c1 ?_
  refine er_ic_ge (tgt := 122) cx d_Mo_validate_15 (by decide) (fun b2 => ?_) (fun b2 => ?_)
  · have h := er_ift h b2
    obtain ⟨x3, e3, h⟩ := er_lel h
    refine er_iinc cx d_Mo_validate_122 (k := 2) rfl (by decide) e3 rfl ?_
    refine er_goto (tgt := 2) cx d_Mo_validate_125 (by decide) ?_
    refine er_sb cx [1, 2, 0] rfl ?_
    exact hk2 _ _ _ _ h
  · have h := er_iff h b2
    refine er_aload_n cx d_Mo_validate_18 0 rfl ?_
    obtain ⟨c4, h⟩ := er_ck h
    refine er_getr cx d_Mo_validate_19 fd_Mo_29 c1 c4 ?_
    refine er_iload_n cx d_Mo_validate_22 1 rfl ?_
    refine er_iload_n cx d_Mo_validate_23 2 rfl ?_
    refine er_iload_n cx d_Mo_validate_24 3 rfl ?_
    obtain ⟨q5, e5, h⟩ := er_bd h
    refine er_callS (As := [.inl v1, .inl v2, .inl v3]) (st := [.inr (T v0 8)]) cx (c_Mo_at e5) my_Mo_70 ⟨by decide, by decide⟩ rfl (Nat.le_of_ble_eq_true rfl) d_Mo_validate_25 ⟨Nat.zero_le _, Nat.zero_le _⟩ rfl ?_
    obtain ⟨c6, h⟩ := er_ck h
    refine er_iald cx d_Mo_validate_28 c6.1 c6.2.1 c6.2.2 ?_
    refine er_if_le (tgt := 116) cx d_Mo_validate_29 (by decide) (fun b7 => ?_) (fun b7 => ?_)
    · have h := er_ift h b7
      obtain ⟨x8, e8, h⟩ := er_lel h
      refine er_iinc cx d_Mo_validate_116 (k := 3) rfl (by decide) e8 rfl ?_
      refine er_goto (tgt := 10) cx d_Mo_validate_119 (by decide) ?_
      refine er_sb cx [1, 2, 3, 0] rfl ?_
      exact hself _ _ _ _ _ h
    · have h := er_iff h b7
      refine er_aload_n cx d_Mo_validate_32 0 rfl ?_
      obtain ⟨c9, h⟩ := er_ck h
      refine er_getr cx d_Mo_validate_33 fd_Mo_32 c1 c9 ?_
      refine er_iload_n cx d_Mo_validate_36 1 rfl ?_
      refine er_iload_n cx d_Mo_validate_37 2 rfl ?_
      refine er_iload_n cx d_Mo_validate_38 3 rfl ?_
      obtain ⟨q10, e10, h⟩ := er_bd h
      refine er_callS (As := [.inl v1, .inl v2, .inl v3]) (st := [.inr (T v0 9)]) cx (c_Mo_at e10) my_Mo_70 ⟨by decide, by decide⟩ rfl (Nat.le_of_ble_eq_true rfl) d_Mo_validate_39 ⟨Nat.zero_le _, Nat.zero_le _⟩ rfl ?_
      obtain ⟨c11, h⟩ := er_ck h
      refine er_zald cx d_Mo_validate_42 c11.1 c11.2.1 c11.2.2 ?_
      refine er_if_ne (tgt := 116) cx d_Mo_validate_43 (by decide) (fun b12 => ?_) (fun b12 => ?_)
      · have h := er_iff h b12
        obtain ⟨x13, e13, h⟩ := er_lel h
        refine er_iinc cx d_Mo_validate_116 (k := 3) rfl (by decide) e13 rfl ?_
        refine er_goto (tgt := 10) cx d_Mo_validate_119 (by decide) ?_
        refine er_sb cx [1, 2, 3, 0] rfl ?_
        exact hself _ _ _ _ _ h
      · have h := er_ift h b12
        refine er_aload_n cx d_Mo_validate_46 0 rfl ?_
        refine er_iload_n cx d_Mo_validate_47 1 rfl ?_
        refine er_iload_n cx d_Mo_validate_48 2 rfl ?_
        refine er_iload_n cx d_Mo_validate_49 3 rfl ?_
        obtain ⟨q14, e14, h⟩ := er_bd h
        refine er_callV (b := v0) (As := [.inl v1, .inl v2, .inl v3]) (st := []) cx (c_Mo_can e14) my_Mo_94 c1 ⟨by decide, by decide⟩ rfl (Nat.le_of_ble_eq_true rfl) d_Mo_validate_50 ⟨Nat.zero_le _, Nat.zero_le _⟩ rfl ?_
        refine er_if_eq (tgt := 116) cx d_Mo_validate_53 (by decide) (fun b15 => ?_) (fun b15 => ?_)
        · have h := er_ift h b15
          obtain ⟨x16, e16, h⟩ := er_lel h
          refine er_iinc cx d_Mo_validate_116 (k := 3) rfl (by decide) e16 rfl ?_
          refine er_goto (tgt := 10) cx d_Mo_validate_119 (by decide) ?_
          refine er_sb cx [1, 2, 3, 0] rfl ?_
          exact hself _ _ _ _ _ h
        · have h := er_iff h b15
          refine er_aload_n cx d_Mo_validate_56 0 rfl ?_
          refine er_getr cx d_Mo_validate_57 fd_Mo_32 c1 c9 ?_
          refine er_iload_n cx d_Mo_validate_60 1 rfl ?_
          refine er_iload_n cx d_Mo_validate_61 2 rfl ?_
          refine er_iload_n cx d_Mo_validate_62 3 rfl ?_
          obtain ⟨q18, e18, h⟩ := er_bd h
          refine er_callS (As := [.inl v1, .inl v2, .inl v3]) (st := [.inr (T v0 9)]) cx (c_Mo_at e18) my_Mo_70 ⟨by decide, by decide⟩ rfl (Nat.le_of_ble_eq_true rfl) d_Mo_validate_63 ⟨Nat.zero_le _, Nat.zero_le _⟩ rfl ?_
          refine er_iconst (v := 1) cx d_Mo_validate_66 rfl (by decide) ?_
          obtain ⟨c19, h⟩ := er_ck h
          obtain ⟨M19, e19, h⟩ := er_lel h
          refine er_zast cx d_Mo_validate_67 c11.1 c19.1 c19.2 (Or.inr rfl) e19 ?_
          refine er_aload_n cx d_Mo_validate_68 0 rfl ?_
          obtain ⟨c20, h⟩ := er_ck h
          refine er_getr cx d_Mo_validate_69 fd_Mo_35 c1 c20 ?_
          refine er_iload_n cx d_Mo_validate_72 1 rfl ?_
          refine er_iload_n cx d_Mo_validate_73 2 rfl ?_
          refine er_aload_n cx d_Mo_validate_74 0 rfl ?_
          obtain ⟨c21, h⟩ := er_ck h
          refine er_getr cx d_Mo_validate_75 fd_Mo_38 c1 c21 ?_
          refine er_bipush (v := 9) cx d_Mo_validate_78 (by decide +kernel) (by decide) ?_
          refine er_iload_n cx d_Mo_validate_80 1 rfl ?_
          refine er_imul cx d_Mo_validate_81 ?_
          refine er_iload_n cx d_Mo_validate_82 2 rfl ?_
          refine er_iadd cx d_Mo_validate_83 ?_
          obtain ⟨c22, h⟩ := er_ck h
          refine er_iald cx d_Mo_validate_84 c22.1 c22.2.1 c22.2.2 ?_
          obtain ⟨q23, e23, h⟩ := er_bd h
          refine er_callS (As := [.inl v1, .inl v2, .inl (M19 (T v0 11) (er_add (er_mul 9 v1) v2))]) (st := [.inr (T v0 10)]) cx (c_Mo_at e23) my_Mo_70 ⟨by decide, by decide⟩ rfl (Nat.le_of_ble_eq_true rfl) d_Mo_validate_85 ⟨Nat.zero_le _, Nat.zero_le _⟩ rfl ?_
          refine er_iload_n cx d_Mo_validate_88 3 rfl ?_
          obtain ⟨c24, h⟩ := er_ck h
          obtain ⟨M24, e24, h⟩ := er_lel h
          refine er_iast cx d_Mo_validate_89 c24.1 c24.2.1 c24.2.2 e24 ?_
          refine er_aload_n cx d_Mo_validate_90 0 rfl ?_
          refine er_getr cx d_Mo_validate_91 fd_Mo_38 c1 c21 ?_
          refine er_bipush (v := 9) cx d_Mo_validate_94 (by decide +kernel) (by decide) ?_
          refine er_iload_n cx d_Mo_validate_96 1 rfl ?_
          refine er_imul cx d_Mo_validate_97 ?_
          refine er_iload_n cx d_Mo_validate_98 2 rfl ?_
          refine er_iadd cx d_Mo_validate_99 ?_
          refine er_aload_n cx d_Mo_validate_100 0 rfl ?_
          refine er_getr cx d_Mo_validate_101 fd_Mo_38 c1 c21 ?_
          refine er_bipush (v := 9) cx d_Mo_validate_104 (by decide +kernel) (by decide) ?_
          refine er_iload_n cx d_Mo_validate_106 1 rfl ?_
          refine er_imul cx d_Mo_validate_107 ?_
          refine er_iload_n cx d_Mo_validate_108 2 rfl ?_
          refine er_iadd cx d_Mo_validate_109 ?_
          refine er_iald cx d_Mo_validate_110 c22.1 c22.2.1 c22.2.2 ?_
          refine er_iconst (v := 1) cx d_Mo_validate_111 rfl (by decide) ?_
          refine er_iadd cx d_Mo_validate_112 ?_
          obtain ⟨M28, e28, h⟩ := er_lel h
          refine er_iast cx d_Mo_validate_113 c22.1 c22.2.1 c22.2.2 e28 ?_
          refine er_iconst (v := 1) cx d_Mo_validate_114 rfl (by decide) ?_
          obtain rfl := Option.some.inj h
          exact er_iret rt (Or.inr ⟨rfl, Or.inr rfl⟩) d_Mo_validate_115 (by decide) (by decide) ⟨rfl, rfl, rfl⟩
theorem w_Mo_validate_10 {K : er_K} {l : Launch} {X : er_X} (cx : er_Cx K l X b_Mo_validate "EchoedRoundsModel" 4 rm_Mo_validate) {r : Int × er_Me} {T : er_Me} (rt : er_Rt K X b_Mo_validate (some .boolean) 0 0 (some (.inl r.1)) T r.2) {k2 : Int → Int → Int → er_Me → Option (Int × er_Me)} (hk2 : ∀ (v0 v1 v2 : Int) (M : er_Me), k2 v0 v1 v2 M = some r → er_G K 0 0 T M 2 [(0, .inr v0), (1, .inl v1), (2, .inl v2)] []) : ∀ n : Nat, ∀ (v0 v1 v2 v3 : Int) (M : er_Me), f_Mo_validate_10 k2 n T v0 v1 v2 v3 M = some r → er_G K 0 0 T M 10 [(0, .inr v0), (1, .inl v1), (2, .inl v2), (3, .inl v3)] [] := by
  intro n
  induction n with
  | zero =>
    intro v0 v1 v2 v3 M h
    cases h
  | succ n ih =>
    intro v0 v1 v2 v3 M h
    exact w_Mo_validate_10_b cx rt hk2 ih v0 v1 v2 v3 M h
def f_Mo_validate_2_b (self : Int → Int → Int → er_Me → Option (Int × er_Me)) (v0 v1 v2 : Int) (T M : er_Me) : Option (Int × er_Me) :=
  if 9 ≤ v2 then
  some (0, M)
  else
  f_Mo_validate_10 self er_fu T v0 v1 v2 0 M
def f_Mo_validate_2 : Nat → er_Me → Int → Int → Int → er_Me → Option (Int × er_Me)
  | 0, _ => fun _ _ _ _ => none
  | n + 1, T => fun v0 v1 v2 M => f_Mo_validate_2_b (f_Mo_validate_2 n T) v0 v1 v2 T M
set_option maxHeartbeats 4000000 in
theorem w_Mo_validate_2_b {K : er_K} {l : Launch} {X : er_X} (cx : er_Cx K l X b_Mo_validate "EchoedRoundsModel" 4 rm_Mo_validate) {r : Int × er_Me} {T : er_Me} (rt : er_Rt K X b_Mo_validate (some .boolean) 0 0 (some (.inl r.1)) T r.2) {self : Int → Int → Int → er_Me → Option (Int × er_Me)} (hself : ∀ (v0 v1 v2 : Int) (M : er_Me), self v0 v1 v2 M = some r → er_G K 0 0 T M 2 [(0, .inr v0), (1, .inl v1), (2, .inl v2)] []) : ∀ (v0 v1 v2 : Int) (M : er_Me), f_Mo_validate_2_b self v0 v1 v2 T M = some r → er_G K 0 0 T M 2 [(0, .inr v0), (1, .inl v1), (2, .inl v2)] [] := by
  intro v0 v1 v2 M h
  unfold f_Mo_validate_2_b at h
  refine er_iload_n cx d_Mo_validate_2 2 rfl ?_
  refine er_bipush (v := 9) cx d_Mo_validate_3 (by decide +kernel) (by decide) ?_
  refine er_ic_ge (tgt := 128) cx d_Mo_validate_5 (by decide) (fun b1 => ?_) (fun b1 => ?_)
  · have h := er_ift h b1
    refine er_iconst (v := 0) cx d_Mo_validate_128 rfl (by decide) ?_
    obtain rfl := Option.some.inj h
    exact er_iret rt (Or.inr ⟨rfl, Or.inl rfl⟩) d_Mo_validate_129 (by decide) (by decide) ⟨rfl, rfl, rfl⟩
  · have h := er_iff h b1
    refine er_iconst (v := 0) cx d_Mo_validate_8 rfl (by decide) ?_
    refine er_istore_n cx d_Mo_validate_9 rfl (by decide) rfl ?_
    refine er_sb cx [1, 2, 3, 0] rfl ?_
    exact w_Mo_validate_10 cx rt hself er_fu _ _ _ _ _ h
theorem w_Mo_validate_2 {K : er_K} {l : Launch} {X : er_X} (cx : er_Cx K l X b_Mo_validate "EchoedRoundsModel" 4 rm_Mo_validate) {r : Int × er_Me} {T : er_Me} (rt : er_Rt K X b_Mo_validate (some .boolean) 0 0 (some (.inl r.1)) T r.2) : ∀ n : Nat, ∀ (v0 v1 v2 : Int) (M : er_Me), f_Mo_validate_2 n T v0 v1 v2 M = some r → er_G K 0 0 T M 2 [(0, .inr v0), (1, .inl v1), (2, .inl v2)] [] := by
  intro n
  induction n with
  | zero =>
    intro v0 v1 v2 M h
    cases h
  | succ n ih =>
    intro v0 v1 v2 M h
    exact w_Mo_validate_2_b cx rt ih v0 v1 v2 M h
def f_Mo_validate (p0 p1 : Int) (T M : er_Me) : Option (Int × er_Me) :=
  f_Mo_validate_2 er_fu T p0 p1 0 M
set_option maxHeartbeats 4000000 in
theorem w_Mo_validate {K : er_K} {l : Launch} {X : er_X} (cx : er_Cx K l X b_Mo_validate "EchoedRoundsModel" 4 rm_Mo_validate) {r : Int × er_Me} {p0 p1 : Int} {T M : er_Me} (rt : er_Rt K X b_Mo_validate (some .boolean) 0 0 (some (.inl r.1)) T r.2) (h : f_Mo_validate p0 p1 T M = some r) : er_G K 0 0 T M 0 [(0, .inr p0), (1, .inl p1)] [] := by
  unfold f_Mo_validate at h
  refine er_iconst (v := 0) cx d_Mo_validate_0 rfl (by decide) ?_
  refine er_istore_n cx d_Mo_validate_1 rfl (by decide) rfl ?_
  refine er_sb cx [1, 2, 0] rfl ?_
  exact w_Mo_validate_2 cx rt er_fu _ _ _ _ h
theorem c_Mo_validate {l : Launch} {X : er_X} {r : Int × er_Me} {p0 p1 : Int} {T M : er_Me} (h : f_Mo_validate p0 p1 T M = some r) (hok : ∀ v ∈ ([.inr p0, .inl p1] : List er_V), er_ok v) : er_Ct l X y_Mo_validate b_Mo_validate 4 (some .boolean) rm_Mo_validate [.inr p0, .inl p1] T M (some (.inl r.1)) T r.2 :=
  er_ct rfl rfl (Nat.le_of_ble_eq_true rfl) hok (fun K cx rt hin => w_Mo_validate cx rt h)
/-! Mo_settle -/
abbrev rm_Mo_settle : Room := { frames := 5, cells := 0, slots := 0, locals := 122 }
def f_Mo_settle_4_b (self : Int → Int → Int → Int → er_Me → Option (er_Me)) (v0 v1 v2 v3 : Int) (T M : er_Me) : Option (er_Me) :=
  if 2000 ≤ v3 then
  some M
  else
  if v2 = 0 then
  some M
  else
  if T v0 (-2) = 7 ∧ 0 < T v0 5 then
  if T (T v0 5) (-2) = 101 ∧ 0 ≤ er_mul 8 v1 ∧ er_mul 8 v1 < T (T v0 5) (-1) then
  if 0 < T v0 4 then
  if T (T v0 4) (-2) = 101 ∧ 0 ≤ v1 ∧ v1 < T (T v0 4) (-1) then
  if M (T v0 4) v1 ≤ M (T v0 5) (er_mul 8 v1) then
  (f_Mo_validate v0 v1 T M).bind fun q8 =>
  if q8.1 = 0 then
  (f_Mo_goOn v0 v1 T q8.2).bind fun q11 =>
  if q11.1 = 0 then
  er_le (er_add v3 1) fun x13 =>
  self v0 v1 0 x13 q11.2
  else
  er_le (er_add v3 1) fun x14 =>
  self v0 v1 1 x14 q11.2
  else
  er_le (er_add v3 1) fun x10 =>
  self v0 v1 1 x10 q8.2
  else
  (f_Mo_receiveFromLog v0 v1 v1 T M).bind fun q15 =>
  er_le (er_add v3 1) fun x16 =>
  self v0 v1 v2 x16 q15 else none else none else none else none
def f_Mo_settle_4 : Nat → er_Me → Int → Int → Int → Int → er_Me → Option (er_Me)
  | 0, _ => fun _ _ _ _ _ => none
  | n + 1, T => fun v0 v1 v2 v3 M => f_Mo_settle_4_b (f_Mo_settle_4 n T) v0 v1 v2 v3 T M
set_option maxHeartbeats 4000000 in
theorem w_Mo_settle_4_b {K : er_K} {l : Launch} {X : er_X} (cx : er_Cx K l X b_Mo_settle "EchoedRoundsModel" 4 rm_Mo_settle) {r : er_Me} {T : er_Me} (rt : er_Rt K X b_Mo_settle (none) 0 0 none T r) {self : Int → Int → Int → Int → er_Me → Option (er_Me)} (hself : ∀ (v0 v1 v2 v3 : Int) (M : er_Me), self v0 v1 v2 v3 M = some r → er_G K 0 0 T M 4 [(0, .inr v0), (1, .inl v1), (2, .inl v2), (3, .inl v3)] []) : ∀ (v0 v1 v2 v3 : Int) (M : er_Me), f_Mo_settle_4_b self v0 v1 v2 v3 T M = some r → er_G K 0 0 T M 4 [(0, .inr v0), (1, .inl v1), (2, .inl v2), (3, .inl v3)] [] := by
  intro v0 v1 v2 v3 M h
  unfold f_Mo_settle_4_b at h
  refine er_iload_n cx d_Mo_settle_4 3 rfl ?_
  refine er_sipush (v := 2000) cx d_Mo_settle_5 (by decide +kernel) (by decide) ?_
  refine er_ic_ge (tgt := 70) cx d_Mo_settle_8 (by decide) (fun b1 => ?_) (fun b1 => ?_)
  · have h := er_ift h b1
    obtain rfl := Option.some.inj h
    exact er_vret rt d_Mo_settle_70 (by decide) (by decide) ⟨rfl, rfl, rfl⟩
  · have h := er_iff h b1
    refine er_iload_n cx d_Mo_settle_11 2 rfl ?_
    refine er_if_eq (tgt := 70) cx d_Mo_settle_12 (by decide) (fun b2 => ?_) (fun b2 => ?_)
    · have h := er_ift h b2
      obtain rfl := Option.some.inj h
      exact er_vret rt d_Mo_settle_70 (by decide) (by decide) ⟨rfl, rfl, rfl⟩
    · have h := er_iff h b2
      refine er_aload_n cx d_Mo_settle_15 0 rfl ?_
      obtain ⟨c3, h⟩ := er_ck h
      refine er_getr cx d_Mo_settle_16 fd_Mo_20 c3.1 c3.2 ?_
      refine er_bipush (v := 8) cx d_Mo_settle_19 (by decide +kernel) (by decide) ?_
      refine er_iload_n cx d_Mo_settle_21 1 rfl ?_
      refine er_imul cx d_Mo_settle_22 ?_
      obtain ⟨c4, h⟩ := er_ck h
      refine er_iald cx d_Mo_settle_23 c4.1 c4.2.1 c4.2.2 ?_
      refine er_aload_n cx d_Mo_settle_24 0 rfl ?_
      obtain ⟨c5, h⟩ := er_ck h
      refine er_getr cx d_Mo_settle_25 fd_Mo_17 c3.1 c5 ?_
      refine er_iload_n cx d_Mo_settle_28 1 rfl ?_
      obtain ⟨c6, h⟩ := er_ck h
      refine er_iald cx d_Mo_settle_29 c6.1 c6.2.1 c6.2.2 ?_
      refine er_ic_ge (tgt := 42) cx d_Mo_settle_30 (by decide) (fun b7 => ?_) (fun b7 => ?_)
      · have h := er_ift h b7
        refine er_aload_n cx d_Mo_settle_42 0 rfl ?_
        refine er_iload_n cx d_Mo_settle_43 1 rfl ?_
        obtain ⟨q8, e8, h⟩ := er_bd h
        refine er_callV (b := v0) (As := [.inl v1]) (st := []) cx (c_Mo_validate e8) my_Mo_109 c3.1 ⟨by decide, by decide⟩ rfl (Nat.le_of_ble_eq_true rfl) d_Mo_settle_44 ⟨Nat.zero_le _, Nat.zero_le _⟩ rfl ?_
        refine er_if_ne (tgt := 58) cx d_Mo_settle_47 (by decide) (fun b9 => ?_) (fun b9 => ?_)
        · have h := er_iff h b9
          refine er_iconst (v := 1) cx d_Mo_settle_58 rfl (by decide) ?_
          refine er_goto (tgt := 63) cx d_Mo_settle_59 (by decide) ?_
          refine er_istore_n cx d_Mo_settle_63 rfl (by decide) rfl ?_
          obtain ⟨x10, e10, h⟩ := er_lel h
          refine er_iinc cx d_Mo_settle_64 (k := 3) rfl (by decide) e10 rfl ?_
          refine er_goto (tgt := 4) cx d_Mo_settle_67 (by decide) ?_
          refine er_sb cx [2, 3, 1, 0] rfl ?_
          exact hself _ _ _ _ _ h
        · have h := er_ift h b9
          refine er_aload_n cx d_Mo_settle_50 0 rfl ?_
          refine er_iload_n cx d_Mo_settle_51 1 rfl ?_
          obtain ⟨q11, e11, h⟩ := er_bd h
          refine er_callV (b := v0) (As := [.inl v1]) (st := []) cx (c_Mo_goOn e11) my_Mo_112 c3.1 ⟨by decide, by decide⟩ rfl (Nat.le_of_ble_eq_true rfl) d_Mo_settle_52 ⟨Nat.zero_le _, Nat.zero_le _⟩ rfl ?_
          refine er_if_eq (tgt := 62) cx d_Mo_settle_55 (by decide) (fun b12 => ?_) (fun b12 => ?_)
          · have h := er_ift h b12
            refine er_iconst (v := 0) cx d_Mo_settle_62 rfl (by decide) ?_
            refine er_istore_n cx d_Mo_settle_63 rfl (by decide) rfl ?_
            obtain ⟨x13, e13, h⟩ := er_lel h
            refine er_iinc cx d_Mo_settle_64 (k := 3) rfl (by decide) e13 rfl ?_
            refine er_goto (tgt := 4) cx d_Mo_settle_67 (by decide) ?_
            refine er_sb cx [2, 3, 1, 0] rfl ?_
            exact hself _ _ _ _ _ h
          · have h := er_iff h b12
            refine er_iconst (v := 1) cx d_Mo_settle_58 rfl (by decide) ?_
            refine er_goto (tgt := 63) cx d_Mo_settle_59 (by decide) ?_
            refine er_istore_n cx d_Mo_settle_63 rfl (by decide) rfl ?_
            obtain ⟨x14, e14, h⟩ := er_lel h
            refine er_iinc cx d_Mo_settle_64 (k := 3) rfl (by decide) e14 rfl ?_
            refine er_goto (tgt := 4) cx d_Mo_settle_67 (by decide) ?_
            refine er_sb cx [2, 3, 1, 0] rfl ?_
            exact hself _ _ _ _ _ h
      · have h := er_iff h b7
        refine er_aload_n cx d_Mo_settle_33 0 rfl ?_
        refine er_iload_n cx d_Mo_settle_34 1 rfl ?_
        refine er_iload_n cx d_Mo_settle_35 1 rfl ?_
        obtain ⟨q15, e15, h⟩ := er_bd h
        refine er_callV (b := v0) (As := [.inl v1, .inl v1]) (st := []) cx (c_Mo_receiveFromLog e15) my_Mo_105 c3.1 ⟨by decide, by decide⟩ rfl (Nat.le_of_ble_eq_true rfl) d_Mo_settle_36 ⟨Nat.zero_le _, Nat.zero_le _⟩ rfl ?_
        refine er_goto (tgt := 64) cx d_Mo_settle_39 (by decide) ?_
        obtain ⟨x16, e16, h⟩ := er_lel h
        refine er_iinc cx d_Mo_settle_64 (k := 3) rfl (by decide) e16 rfl ?_
        refine er_goto (tgt := 4) cx d_Mo_settle_67 (by decide) ?_
        refine er_sb cx [1, 2, 3, 0] rfl ?_
        exact hself _ _ _ _ _ h
theorem w_Mo_settle_4 {K : er_K} {l : Launch} {X : er_X} (cx : er_Cx K l X b_Mo_settle "EchoedRoundsModel" 4 rm_Mo_settle) {r : er_Me} {T : er_Me} (rt : er_Rt K X b_Mo_settle (none) 0 0 none T r) : ∀ n : Nat, ∀ (v0 v1 v2 v3 : Int) (M : er_Me), f_Mo_settle_4 n T v0 v1 v2 v3 M = some r → er_G K 0 0 T M 4 [(0, .inr v0), (1, .inl v1), (2, .inl v2), (3, .inl v3)] [] := by
  intro n
  induction n with
  | zero =>
    intro v0 v1 v2 v3 M h
    cases h
  | succ n ih =>
    intro v0 v1 v2 v3 M h
    exact w_Mo_settle_4_b cx rt ih v0 v1 v2 v3 M h
def f_Mo_settle (p0 p1 : Int) (T M : er_Me) : Option (er_Me) :=
  f_Mo_settle_4 er_fu T p0 p1 1 0 M
set_option maxHeartbeats 4000000 in
theorem w_Mo_settle {K : er_K} {l : Launch} {X : er_X} (cx : er_Cx K l X b_Mo_settle "EchoedRoundsModel" 4 rm_Mo_settle) {r : er_Me} {p0 p1 : Int} {T M : er_Me} (rt : er_Rt K X b_Mo_settle (none) 0 0 none T r) (h : f_Mo_settle p0 p1 T M = some r) : er_G K 0 0 T M 0 [(0, .inr p0), (1, .inl p1)] [] := by
  unfold f_Mo_settle at h
  refine er_iconst (v := 1) cx d_Mo_settle_0 rfl (by decide) ?_
  refine er_istore_n cx d_Mo_settle_1 rfl (by decide) rfl ?_
  refine er_iconst (v := 0) cx d_Mo_settle_2 rfl (by decide) ?_
  refine er_istore_n cx d_Mo_settle_3 rfl (by decide) rfl ?_
  refine er_sb cx [2, 3, 1, 0] rfl ?_
  exact w_Mo_settle_4 cx rt er_fu _ _ _ _ _ h
theorem c_Mo_settle {l : Launch} {X : er_X} {r : er_Me} {p0 p1 : Int} {T M : er_Me} (h : f_Mo_settle p0 p1 T M = some r) (hok : ∀ v ∈ ([.inr p0, .inl p1] : List er_V), er_ok v) : er_Ct l X y_Mo_settle b_Mo_settle 4 (none) rm_Mo_settle [.inr p0, .inl p1] T M none T r :=
  er_ct rfl rfl (Nat.le_of_ble_eq_true rfl) hok (fun K cx rt hin => w_Mo_settle cx rt h)
/-! Mo_start -/
abbrev rm_Mo_start : Room := { frames := 6, cells := 0, slots := 0, locals := 145 }
def f_Mo_start (p0 p1 p2 : Int) (T M : er_Me) : Option (Int × er_Me) :=
  if T p0 (-2) = 7 then
  (f_Mo_well p0 p1 T M).bind fun q1 =>
  if q1.1 = 0 then
  some (0, q1.2)
  else
  if 0 < T p0 13 then
  if T (T p0 13) (-2) = 101 ∧ 0 ≤ p1 ∧ p1 < T (T p0 13) (-1) then
  if 0 ≤ q1.2 (T p0 13) p1 then
  some (0, q1.2)
  else
  if p2 < 0 then
  some (0, q1.2)
  else
  if p2 ≤ 1 then
  er_le (er_up q1.2 (T p0 13) p1 0) fun M12 =>
  if 0 < T p0 14 then
  if T (T p0 14) (-2) = 101 ∧ p1 < T (T p0 14) (-1) then
  er_le (er_up M12 (T p0 14) p1 p2) fun M14 =>
  (f_Mo_send p0 p1 0 0 p1 p2 T M14).bind fun q15 =>
  (f_Mo_settle p0 p1 T q15).bind fun q16 =>
  some (1, q16) else none else none
  else
  some (0, q1.2) else none else none else none
set_option maxHeartbeats 4000000 in
theorem w_Mo_start {K : er_K} {l : Launch} {X : er_X} (cx : er_Cx K l X b_Mo_start "EchoedRoundsModel" 3 rm_Mo_start) {r : Int × er_Me} {p0 p1 p2 : Int} {T M : er_Me} (rt : er_Rt K X b_Mo_start (some .boolean) 0 0 (some (.inl r.1)) T r.2) (h : f_Mo_start p0 p1 p2 T M = some r) : er_G K 0 0 T M 0 [(0, .inr p0), (1, .inl p1), (2, .inl p2)] [] := by
  unfold f_Mo_start at h
  refine er_aload_n cx d_Mo_start_0 0 rfl ?_
  refine er_iload_n cx d_Mo_start_1 1 rfl ?_
  obtain ⟨c1, h⟩ := er_ck h
  obtain ⟨q1, e1, h⟩ := er_bd h
  refine er_callV (b := p0) (As := [.inl p1]) (st := []) cx (c_Mo_well e1) my_Mo_115 c1 ⟨by decide, by decide⟩ rfl (Nat.le_of_ble_eq_true rfl) d_Mo_start_2 ⟨Nat.zero_le _, Nat.zero_le _⟩ rfl ?_
  refine er_if_eq (tgt := 26) cx d_Mo_start_5 (by decide) (fun b2 => ?_) (fun b2 => ?_)
  · have h := er_ift h b2
    refine er_iconst (v := 0) cx d_Mo_start_26 rfl (by decide) ?_
    obtain rfl := Option.some.inj h
    exact er_iret rt (Or.inr ⟨rfl, Or.inl rfl⟩) d_Mo_start_27 (by decide) (by decide) ⟨rfl, rfl, rfl⟩
  · have h := er_iff h b2
    refine er_aload_n cx d_Mo_start_8 0 rfl ?_
    obtain ⟨c4, h⟩ := er_ck h
    refine er_getr cx d_Mo_start_9 fd_Mo_44 c1 c4 ?_
    refine er_iload_n cx d_Mo_start_12 1 rfl ?_
    obtain ⟨c5, h⟩ := er_ck h
    refine er_iald cx d_Mo_start_13 c5.1 c5.2.1 c5.2.2 ?_
    refine er_if_ge (tgt := 26) cx d_Mo_start_14 (by decide) (fun b6 => ?_) (fun b6 => ?_)
    · have h := er_ift h b6
      refine er_iconst (v := 0) cx d_Mo_start_26 rfl (by decide) ?_
      obtain rfl := Option.some.inj h
      exact er_iret rt (Or.inr ⟨rfl, Or.inl rfl⟩) d_Mo_start_27 (by decide) (by decide) ⟨rfl, rfl, rfl⟩
    · have h := er_iff h b6
      refine er_iload_n cx d_Mo_start_17 2 rfl ?_
      refine er_if_lt (tgt := 26) cx d_Mo_start_18 (by decide) (fun b8 => ?_) (fun b8 => ?_)
      · have h := er_ift h b8
        refine er_iconst (v := 0) cx d_Mo_start_26 rfl (by decide) ?_
        obtain rfl := Option.some.inj h
        exact er_iret rt (Or.inr ⟨rfl, Or.inl rfl⟩) d_Mo_start_27 (by decide) (by decide) ⟨rfl, rfl, rfl⟩
      · have h := er_iff h b8
        refine er_iload_n cx d_Mo_start_21 2 rfl ?_
        refine er_iconst (v := 1) cx d_Mo_start_22 rfl (by decide) ?_
        refine er_ic_le (tgt := 28) cx d_Mo_start_23 (by decide) (fun b10 => ?_) (fun b10 => ?_)
        · have h := er_ift h b10
          refine er_aload_n cx d_Mo_start_28 0 rfl ?_
          refine er_getr cx d_Mo_start_29 fd_Mo_44 c1 c4 ?_
          refine er_iload_n cx d_Mo_start_32 1 rfl ?_
          refine er_iconst (v := 0) cx d_Mo_start_33 rfl (by decide) ?_
          obtain ⟨M12, e12, h⟩ := er_lel h
          refine er_iast cx d_Mo_start_34 c5.1 c5.2.1 c5.2.2 e12 ?_
          refine er_aload_n cx d_Mo_start_35 0 rfl ?_
          obtain ⟨c13, h⟩ := er_ck h
          refine er_getr cx d_Mo_start_36 fd_Mo_47 c1 c13 ?_
          refine er_iload_n cx d_Mo_start_39 1 rfl ?_
          refine er_iload_n cx d_Mo_start_40 2 rfl ?_
          obtain ⟨c14, h⟩ := er_ck h
          obtain ⟨M14, e14, h⟩ := er_lel h
          refine er_iast cx d_Mo_start_41 c14.1 c5.2.1 c14.2 e14 ?_
          refine er_aload_n cx d_Mo_start_42 0 rfl ?_
          refine er_iload_n cx d_Mo_start_43 1 rfl ?_
          refine er_iconst (v := 0) cx d_Mo_start_44 rfl (by decide) ?_
          refine er_iconst (v := 0) cx d_Mo_start_45 rfl (by decide) ?_
          refine er_iload_n cx d_Mo_start_46 1 rfl ?_
          refine er_iload_n cx d_Mo_start_47 2 rfl ?_
          obtain ⟨q15, e15, h⟩ := er_bd h
          refine er_callV (b := p0) (As := [.inl p1, .inl 0, .inl 0, .inl p1, .inl p2]) (st := []) cx (c_Mo_send e15) my_Mo_74 c1 ⟨by decide, by decide⟩ rfl (Nat.le_of_ble_eq_true rfl) d_Mo_start_48 ⟨Nat.zero_le _, Nat.zero_le _⟩ rfl ?_
          refine er_aload_n cx d_Mo_start_51 0 rfl ?_
          refine er_iload_n cx d_Mo_start_52 1 rfl ?_
          obtain ⟨q16, e16, h⟩ := er_bd h
          refine er_callV (b := p0) (As := [.inl p1]) (st := []) cx (c_Mo_settle e16) my_Mo_118 c1 ⟨by decide, by decide⟩ rfl (Nat.le_of_ble_eq_true rfl) d_Mo_start_53 ⟨Nat.zero_le _, Nat.zero_le _⟩ rfl ?_
          refine er_iconst (v := 1) cx d_Mo_start_56 rfl (by decide) ?_
          obtain rfl := Option.some.inj h
          exact er_iret rt (Or.inr ⟨rfl, Or.inr rfl⟩) d_Mo_start_57 (by decide) (by decide) ⟨rfl, rfl, rfl⟩
        · have h := er_iff h b10
          refine er_iconst (v := 0) cx d_Mo_start_26 rfl (by decide) ?_
          obtain rfl := Option.some.inj h
          exact er_iret rt (Or.inr ⟨rfl, Or.inl rfl⟩) d_Mo_start_27 (by decide) (by decide) ⟨rfl, rfl, rfl⟩
theorem c_Mo_start {l : Launch} {X : er_X} {r : Int × er_Me} {p0 p1 p2 : Int} {T M : er_Me} (h : f_Mo_start p0 p1 p2 T M = some r) (hok : ∀ v ∈ ([.inr p0, .inl p1, .inl p2] : List er_V), er_ok v) : er_Ct l X y_Mo_start b_Mo_start 3 (some .boolean) rm_Mo_start [.inr p0, .inl p1, .inl p2] T M (some (.inl r.1)) T r.2 :=
  er_ct rfl rfl (Nat.le_of_ble_eq_true rfl) hok (fun K cx rt hin => w_Mo_start cx rt h)
/-! Mo_pass -/
abbrev rm_Mo_pass : Room := { frames := 6, cells := 0, slots := 0, locals := 145 }
def f_Mo_pass_37_b (self : Int → Int → Int → Int → Int → er_Me → Option (Int × er_Me)) (v0 v1 v2 v3 v4 : Int) (T M : er_Me) : Option (Int × er_Me) :=
  if v3 ≤ v4 then
  some (v4, M)
  else
  if T v0 (-2) = 7 ∧ 0 < T v0 5 then
  if T (T v0 5) (-2) = 101 ∧ 0 ≤ er_add (er_mul 7 v2) v1 ∧ er_add (er_mul 7 v2) v1 < T (T v0 5) (-1) then
  if 0 < T v0 4 then
  if T (T v0 4) (-2) = 101 ∧ 0 ≤ v1 ∧ v1 < T (T v0 4) (-1) then
  if M (T v0 4) v1 ≤ M (T v0 5) (er_add (er_mul 7 v2) v1) then
  some (v4, M)
  else
  (f_Mo_receiveFromLog v0 v2 v1 T M).bind fun q9 =>
  (f_Mo_settle v0 v2 T q9).bind fun q10 =>
  self v0 v1 v2 v3 (er_add v4 1) q10 else none else none else none else none
def f_Mo_pass_37 : Nat → er_Me → Int → Int → Int → Int → Int → er_Me → Option (Int × er_Me)
  | 0, _ => fun _ _ _ _ _ _ => none
  | n + 1, T => fun v0 v1 v2 v3 v4 M => f_Mo_pass_37_b (f_Mo_pass_37 n T) v0 v1 v2 v3 v4 T M
set_option maxHeartbeats 4000000 in
theorem w_Mo_pass_37_b {K : er_K} {l : Launch} {X : er_X} (cx : er_Cx K l X b_Mo_pass "EchoedRoundsModel" 5 rm_Mo_pass) {r : Int × er_Me} {T : er_Me} (rt : er_Rt K X b_Mo_pass (some .int) 0 0 (some (.inl r.1)) T r.2) {self : Int → Int → Int → Int → Int → er_Me → Option (Int × er_Me)} (hself : ∀ (v0 v1 v2 v3 v4 : Int) (M : er_Me), self v0 v1 v2 v3 v4 M = some r → er_G K 0 0 T M 37 [(0, .inr v0), (1, .inl v1), (2, .inl v2), (3, .inl v3), (4, .inl v4)] []) : ∀ (v0 v1 v2 v3 v4 : Int) (M : er_Me), f_Mo_pass_37_b self v0 v1 v2 v3 v4 T M = some r → er_G K 0 0 T M 37 [(0, .inr v0), (1, .inl v1), (2, .inl v2), (3, .inl v3), (4, .inl v4)] [] := by
  intro v0 v1 v2 v3 v4 M h
  unfold f_Mo_pass_37_b at h
  refine er_iload cx d_Mo_pass_37 4 rfl ?_
  refine er_iload_n cx d_Mo_pass_39 3 rfl ?_
  refine er_ic_ge (tgt := 83) cx d_Mo_pass_40 (by decide) (fun b1 => ?_) (fun b1 => ?_)
  · have h := er_ift h b1
    refine er_iload cx d_Mo_pass_83 4 rfl ?_
    obtain rfl := Option.some.inj h
    exact er_iret rt (Or.inl rfl) d_Mo_pass_85 (by decide) (by decide) ⟨rfl, rfl, rfl⟩
  · have h := er_iff h b1
    refine er_aload_n cx d_Mo_pass_43 0 rfl ?_
    obtain ⟨c3, h⟩ := er_ck h
    refine er_getr cx d_Mo_pass_44 fd_Mo_20 c3.1 c3.2 ?_
    refine er_bipush (v := 7) cx d_Mo_pass_47 (by decide +kernel) (by decide) ?_
    refine er_iload_n cx d_Mo_pass_49 2 rfl ?_
    refine er_imul cx d_Mo_pass_50 ?_
    refine er_iload_n cx d_Mo_pass_51 1 rfl ?_
    refine er_iadd cx d_Mo_pass_52 ?_
    obtain ⟨c4, h⟩ := er_ck h
    refine er_iald cx d_Mo_pass_53 c4.1 c4.2.1 c4.2.2 ?_
    refine er_aload_n cx d_Mo_pass_54 0 rfl ?_
    obtain ⟨c5, h⟩ := er_ck h
    refine er_getr cx d_Mo_pass_55 fd_Mo_17 c3.1 c5 ?_
    refine er_iload_n cx d_Mo_pass_58 1 rfl ?_
    obtain ⟨c6, h⟩ := er_ck h
    refine er_iald cx d_Mo_pass_59 c6.1 c6.2.1 c6.2.2 ?_
    refine er_ic_ge (tgt := 83) cx d_Mo_pass_60 (by decide) (fun b7 => ?_) (fun b7 => ?_)
    · have h := er_ift h b7
      refine er_iload cx d_Mo_pass_83 4 rfl ?_
      obtain rfl := Option.some.inj h
      exact er_iret rt (Or.inl rfl) d_Mo_pass_85 (by decide) (by decide) ⟨rfl, rfl, rfl⟩
    · have h := er_iff h b7
      refine er_aload_n cx d_Mo_pass_63 0 rfl ?_
      refine er_iload_n cx d_Mo_pass_64 2 rfl ?_
      refine er_iload_n cx d_Mo_pass_65 1 rfl ?_
      obtain ⟨q9, e9, h⟩ := er_bd h
      refine er_callV (b := v0) (As := [.inl v2, .inl v1]) (st := []) cx (c_Mo_receiveFromLog e9) my_Mo_105 c3.1 ⟨by decide, by decide⟩ rfl (Nat.le_of_ble_eq_true rfl) d_Mo_pass_66 ⟨Nat.zero_le _, Nat.zero_le _⟩ rfl ?_
      refine er_aload_n cx d_Mo_pass_69 0 rfl ?_
      refine er_iload_n cx d_Mo_pass_70 2 rfl ?_
      obtain ⟨q10, e10, h⟩ := er_bd h
      refine er_callV (b := v0) (As := [.inl v2]) (st := []) cx (c_Mo_settle e10) my_Mo_118 c3.1 ⟨by decide, by decide⟩ rfl (Nat.le_of_ble_eq_true rfl) d_Mo_pass_71 ⟨Nat.zero_le _, Nat.zero_le _⟩ rfl ?_
      refine er_iload cx d_Mo_pass_74 4 rfl ?_
      refine er_iconst (v := 1) cx d_Mo_pass_76 rfl (by decide) ?_
      refine er_iadd cx d_Mo_pass_77 ?_
      refine er_istore cx d_Mo_pass_78 (by decide) rfl ?_
      refine er_goto (tgt := 37) cx d_Mo_pass_80 (by decide) ?_
      refine er_sb cx [1, 2, 3, 4, 0] rfl ?_
      exact hself _ _ _ _ _ _ h
theorem w_Mo_pass_37 {K : er_K} {l : Launch} {X : er_X} (cx : er_Cx K l X b_Mo_pass "EchoedRoundsModel" 5 rm_Mo_pass) {r : Int × er_Me} {T : er_Me} (rt : er_Rt K X b_Mo_pass (some .int) 0 0 (some (.inl r.1)) T r.2) : ∀ n : Nat, ∀ (v0 v1 v2 v3 v4 : Int) (M : er_Me), f_Mo_pass_37 n T v0 v1 v2 v3 v4 M = some r → er_G K 0 0 T M 37 [(0, .inr v0), (1, .inl v1), (2, .inl v2), (3, .inl v3), (4, .inl v4)] [] := by
  intro n
  induction n with
  | zero =>
    intro v0 v1 v2 v3 v4 M h
    cases h
  | succ n ih =>
    intro v0 v1 v2 v3 v4 M h
    exact w_Mo_pass_37_b cx rt ih v0 v1 v2 v3 v4 M h
def f_Mo_pass (p0 p1 p2 p3 : Int) (T M : er_Me) : Option (Int × er_Me) :=
  if T p0 (-2) = 7 then
  (f_Mo_isNode p0 p1 T M).bind fun q1 =>
  if q1.1 = 0 then
  some ((-1), q1.2)
  else
  (f_Mo_well p0 p2 T q1.2).bind fun q4 =>
  if q4.1 = 0 then
  some ((-1), q4.2)
  else
  if p1 = p2 then
  some ((-1), q4.2)
  else
  if p3 < 1 then
  some ((-1), q4.2)
  else
  if p3 ≤ 100 then
  f_Mo_pass_37 er_fu T p0 p1 p2 p3 0 q4.2
  else
  some ((-1), q4.2) else none
set_option maxHeartbeats 4000000 in
theorem w_Mo_pass {K : er_K} {l : Launch} {X : er_X} (cx : er_Cx K l X b_Mo_pass "EchoedRoundsModel" 5 rm_Mo_pass) {r : Int × er_Me} {p0 p1 p2 p3 : Int} {T M : er_Me} (rt : er_Rt K X b_Mo_pass (some .int) 0 0 (some (.inl r.1)) T r.2) (h : f_Mo_pass p0 p1 p2 p3 T M = some r) : er_G K 0 0 T M 0 [(0, .inr p0), (1, .inl p1), (2, .inl p2), (3, .inl p3)] [] := by
  unfold f_Mo_pass at h
  refine er_aload_n cx d_Mo_pass_0 0 rfl ?_
  refine er_iload_n cx d_Mo_pass_1 1 rfl ?_
  obtain ⟨c1, h⟩ := er_ck h
  obtain ⟨q1, e1, h⟩ := er_bd h
  refine er_callV (b := p0) (As := [.inl p1]) (st := []) cx (c_Mo_isNode e1) my_Mo_66 c1 ⟨by decide, by decide⟩ rfl (Nat.le_of_ble_eq_true rfl) d_Mo_pass_2 ⟨Nat.zero_le _, Nat.zero_le _⟩ rfl ?_
  refine er_if_eq (tgt := 32) cx d_Mo_pass_5 (by decide) (fun b2 => ?_) (fun b2 => ?_)
  · have h := er_ift h b2
    refine er_iconst (v := -1) cx d_Mo_pass_32 rfl (by decide) ?_
    obtain rfl := Option.some.inj h
    exact er_iret rt (Or.inl rfl) d_Mo_pass_33 (by decide) (by decide) ⟨rfl, rfl, rfl⟩
  · have h := er_iff h b2
    refine er_aload_n cx d_Mo_pass_8 0 rfl ?_
    refine er_iload_n cx d_Mo_pass_9 2 rfl ?_
    obtain ⟨q4, e4, h⟩ := er_bd h
    refine er_callV (b := p0) (As := [.inl p2]) (st := []) cx (c_Mo_well e4) my_Mo_115 c1 ⟨by decide, by decide⟩ rfl (Nat.le_of_ble_eq_true rfl) d_Mo_pass_10 ⟨Nat.zero_le _, Nat.zero_le _⟩ rfl ?_
    refine er_if_eq (tgt := 32) cx d_Mo_pass_13 (by decide) (fun b5 => ?_) (fun b5 => ?_)
    · have h := er_ift h b5
      refine er_iconst (v := -1) cx d_Mo_pass_32 rfl (by decide) ?_
      obtain rfl := Option.some.inj h
      exact er_iret rt (Or.inl rfl) d_Mo_pass_33 (by decide) (by decide) ⟨rfl, rfl, rfl⟩
    · have h := er_iff h b5
      refine er_iload_n cx d_Mo_pass_16 1 rfl ?_
      refine er_iload_n cx d_Mo_pass_17 2 rfl ?_
      refine er_ic_eq (tgt := 32) cx d_Mo_pass_18 (by decide) (fun b7 => ?_) (fun b7 => ?_)
      · have h := er_ift h b7
        refine er_iconst (v := -1) cx d_Mo_pass_32 rfl (by decide) ?_
        obtain rfl := Option.some.inj h
        exact er_iret rt (Or.inl rfl) d_Mo_pass_33 (by decide) (by decide) ⟨rfl, rfl, rfl⟩
      · have h := er_iff h b7
        refine er_iload_n cx d_Mo_pass_21 3 rfl ?_
        refine er_iconst (v := 1) cx d_Mo_pass_22 rfl (by decide) ?_
        refine er_ic_lt (tgt := 32) cx d_Mo_pass_23 (by decide) (fun b9 => ?_) (fun b9 => ?_)
        · have h := er_ift h b9
          refine er_iconst (v := -1) cx d_Mo_pass_32 rfl (by decide) ?_
          obtain rfl := Option.some.inj h
          exact er_iret rt (Or.inl rfl) d_Mo_pass_33 (by decide) (by decide) ⟨rfl, rfl, rfl⟩
        · have h := er_iff h b9
          refine er_iload_n cx d_Mo_pass_26 3 rfl ?_
          refine er_bipush (v := 100) cx d_Mo_pass_27 (by decide +kernel) (by decide) ?_
          refine er_ic_le (tgt := 34) cx d_Mo_pass_29 (by decide) (fun b11 => ?_) (fun b11 => ?_)
          · have h := er_ift h b11
            refine er_iconst (v := 0) cx d_Mo_pass_34 rfl (by decide) ?_
            refine er_istore cx d_Mo_pass_35 (by decide) rfl ?_
            refine er_sb cx [1, 2, 3, 4, 0] rfl ?_
            exact w_Mo_pass_37 cx rt er_fu _ _ _ _ _ _ h
          · have h := er_iff h b11
            refine er_iconst (v := -1) cx d_Mo_pass_32 rfl (by decide) ?_
            obtain rfl := Option.some.inj h
            exact er_iret rt (Or.inl rfl) d_Mo_pass_33 (by decide) (by decide) ⟨rfl, rfl, rfl⟩
theorem c_Mo_pass {l : Launch} {X : er_X} {r : Int × er_Me} {p0 p1 p2 p3 : Int} {T M : er_Me} (h : f_Mo_pass p0 p1 p2 p3 T M = some r) (hok : ∀ v ∈ ([.inr p0, .inl p1, .inl p2, .inl p3] : List er_V), er_ok v) : er_Ct l X y_Mo_pass b_Mo_pass 5 (some .int) rm_Mo_pass [.inr p0, .inl p1, .inl p2, .inl p3] T M (some (.inl r.1)) T r.2 :=
  er_ct rfl rfl (Nat.le_of_ble_eq_true rfl) hok (fun K cx rt hin => w_Mo_pass cx rt h)
/-! Mo_forge -/
abbrev rm_Mo_forge : Room := { frames := 6, cells := 0, slots := 0, locals := 145 }
def f_Mo_forge (p0 p1 p2 p3 p4 p5 : Int) (T M : er_Me) : Option (Int × er_Me) :=
  if T p0 (-2) = 7 then
  (f_Mo_isNode p0 p1 T M).bind fun q1 =>
  if q1.1 = 0 then
  some (0, q1.2)
  else
  if 0 < T p0 2 then
  if T (T p0 2) (-2) = 102 ∧ 0 ≤ p1 ∧ p1 < T (T p0 2) (-1) then
  if q1.2 (T p0 2) p1 = 0 then
  some (0, q1.2)
  else
  (f_Mo_well p0 p2 T q1.2).bind fun q8 =>
  if q8.1 = 0 then
  some (0, q8.2)
  else
  if p3 < 0 then
  some (0, q8.2)
  else
  if 8 < p3 then
  some (0, q8.2)
  else
  (f_Mo_isNode p0 p4 T q8.2).bind fun q15 =>
  if q15.1 = 0 then
  some (0, q15.2)
  else
  if p5 < 0 then
  some (0, q15.2)
  else
  if p5 ≤ 11 then
  (f_Mo_receive p0 p2 p1 (er_div p5 4) p3 p4 (er_rem p5 4) T q15.2).bind fun q21 =>
  (f_Mo_settle p0 p2 T q21.2).bind fun q22 =>
  if q21.1 = 0 ∨ q21.1 = 1 then some (q21.1, q22) else none
  else
  some (0, q15.2) else none else none else none
set_option maxHeartbeats 4000000 in
theorem w_Mo_forge {K : er_K} {l : Launch} {X : er_X} (cx : er_Cx K l X b_Mo_forge "EchoedRoundsModel" 7 rm_Mo_forge) {r : Int × er_Me} {p0 p1 p2 p3 p4 p5 : Int} {T M : er_Me} (rt : er_Rt K X b_Mo_forge (some .boolean) 0 0 (some (.inl r.1)) T r.2) (h : f_Mo_forge p0 p1 p2 p3 p4 p5 T M = some r) : er_G K 0 0 T M 0 [(0, .inr p0), (1, .inl p1), (2, .inl p2), (3, .inl p3), (4, .inl p4), (5, .inl p5)] [] := by
  unfold f_Mo_forge at h
  refine er_aload_n cx d_Mo_forge_0 0 rfl ?_
  refine er_iload_n cx d_Mo_forge_1 1 rfl ?_
  obtain ⟨c1, h⟩ := er_ck h
  obtain ⟨q1, e1, h⟩ := er_bd h
  refine er_callV (b := p0) (As := [.inl p1]) (st := []) cx (c_Mo_isNode e1) my_Mo_66 c1 ⟨by decide, by decide⟩ rfl (Nat.le_of_ble_eq_true rfl) d_Mo_forge_2 ⟨Nat.zero_le _, Nat.zero_le _⟩ rfl ?_
  refine er_if_eq (tgt := 56) cx d_Mo_forge_5 (by decide) (fun b2 => ?_) (fun b2 => ?_)
  · have h := er_ift h b2
    refine er_iconst (v := 0) cx d_Mo_forge_56 rfl (by decide) ?_
    obtain rfl := Option.some.inj h
    exact er_iret rt (Or.inr ⟨rfl, Or.inl rfl⟩) d_Mo_forge_57 (by decide) (by decide) ⟨rfl, rfl, rfl⟩
  · have h := er_iff h b2
    refine er_aload_n cx d_Mo_forge_8 0 rfl ?_
    obtain ⟨c4, h⟩ := er_ck h
    refine er_getr cx d_Mo_forge_9 fd_Mo_7 c1 c4 ?_
    refine er_iload_n cx d_Mo_forge_12 1 rfl ?_
    obtain ⟨c5, h⟩ := er_ck h
    refine er_zald cx d_Mo_forge_13 c5.1 c5.2.1 c5.2.2 ?_
    refine er_if_eq (tgt := 56) cx d_Mo_forge_14 (by decide) (fun b6 => ?_) (fun b6 => ?_)
    · have h := er_ift h b6
      refine er_iconst (v := 0) cx d_Mo_forge_56 rfl (by decide) ?_
      obtain rfl := Option.some.inj h
      exact er_iret rt (Or.inr ⟨rfl, Or.inl rfl⟩) d_Mo_forge_57 (by decide) (by decide) ⟨rfl, rfl, rfl⟩
    · have h := er_iff h b6
      refine er_aload_n cx d_Mo_forge_17 0 rfl ?_
      refine er_iload_n cx d_Mo_forge_18 2 rfl ?_
      obtain ⟨q8, e8, h⟩ := er_bd h
      refine er_callV (b := p0) (As := [.inl p2]) (st := []) cx (c_Mo_well e8) my_Mo_115 c1 ⟨by decide, by decide⟩ rfl (Nat.le_of_ble_eq_true rfl) d_Mo_forge_19 ⟨Nat.zero_le _, Nat.zero_le _⟩ rfl ?_
      refine er_if_eq (tgt := 56) cx d_Mo_forge_22 (by decide) (fun b9 => ?_) (fun b9 => ?_)
      · have h := er_ift h b9
        refine er_iconst (v := 0) cx d_Mo_forge_56 rfl (by decide) ?_
        obtain rfl := Option.some.inj h
        exact er_iret rt (Or.inr ⟨rfl, Or.inl rfl⟩) d_Mo_forge_57 (by decide) (by decide) ⟨rfl, rfl, rfl⟩
      · have h := er_iff h b9
        refine er_iload_n cx d_Mo_forge_25 3 rfl ?_
        refine er_if_lt (tgt := 56) cx d_Mo_forge_26 (by decide) (fun b11 => ?_) (fun b11 => ?_)
        · have h := er_ift h b11
          refine er_iconst (v := 0) cx d_Mo_forge_56 rfl (by decide) ?_
          obtain rfl := Option.some.inj h
          exact er_iret rt (Or.inr ⟨rfl, Or.inl rfl⟩) d_Mo_forge_57 (by decide) (by decide) ⟨rfl, rfl, rfl⟩
        · have h := er_iff h b11
          refine er_iload_n cx d_Mo_forge_29 3 rfl ?_
          refine er_bipush (v := 8) cx d_Mo_forge_30 (by decide +kernel) (by decide) ?_
          refine er_ic_gt (tgt := 56) cx d_Mo_forge_32 (by decide) (fun b13 => ?_) (fun b13 => ?_)
          · have h := er_ift h b13
            refine er_iconst (v := 0) cx d_Mo_forge_56 rfl (by decide) ?_
            obtain rfl := Option.some.inj h
            exact er_iret rt (Or.inr ⟨rfl, Or.inl rfl⟩) d_Mo_forge_57 (by decide) (by decide) ⟨rfl, rfl, rfl⟩
          · have h := er_iff h b13
            refine er_aload_n cx d_Mo_forge_35 0 rfl ?_
            refine er_iload cx d_Mo_forge_36 4 rfl ?_
            obtain ⟨q15, e15, h⟩ := er_bd h
            refine er_callV (b := p0) (As := [.inl p4]) (st := []) cx (c_Mo_isNode e15) my_Mo_66 c1 ⟨by decide, by decide⟩ rfl (Nat.le_of_ble_eq_true rfl) d_Mo_forge_38 ⟨Nat.zero_le _, Nat.zero_le _⟩ rfl ?_
            refine er_if_eq (tgt := 56) cx d_Mo_forge_41 (by decide) (fun b16 => ?_) (fun b16 => ?_)
            · have h := er_ift h b16
              refine er_iconst (v := 0) cx d_Mo_forge_56 rfl (by decide) ?_
              obtain rfl := Option.some.inj h
              exact er_iret rt (Or.inr ⟨rfl, Or.inl rfl⟩) d_Mo_forge_57 (by decide) (by decide) ⟨rfl, rfl, rfl⟩
            · have h := er_iff h b16
              refine er_iload cx d_Mo_forge_44 5 rfl ?_
              refine er_if_lt (tgt := 56) cx d_Mo_forge_46 (by decide) (fun b18 => ?_) (fun b18 => ?_)
              · have h := er_ift h b18
                refine er_iconst (v := 0) cx d_Mo_forge_56 rfl (by decide) ?_
                obtain rfl := Option.some.inj h
                exact er_iret rt (Or.inr ⟨rfl, Or.inl rfl⟩) d_Mo_forge_57 (by decide) (by decide) ⟨rfl, rfl, rfl⟩
              · have h := er_iff h b18
                refine er_iload cx d_Mo_forge_49 5 rfl ?_
                refine er_bipush (v := 11) cx d_Mo_forge_51 (by decide +kernel) (by decide) ?_
                refine er_ic_le (tgt := 58) cx d_Mo_forge_53 (by decide) (fun b20 => ?_) (fun b20 => ?_)
                · have h := er_ift h b20
                  refine er_aload_n cx d_Mo_forge_58 0 rfl ?_
                  refine er_iload_n cx d_Mo_forge_59 2 rfl ?_
                  refine er_iload_n cx d_Mo_forge_60 1 rfl ?_
                  refine er_iload cx d_Mo_forge_61 5 rfl ?_
                  refine er_iconst (v := 4) cx d_Mo_forge_63 rfl (by decide) ?_
                  refine er_idiv cx d_Mo_forge_64 (by decide) ?_
                  refine er_iload_n cx d_Mo_forge_65 3 rfl ?_
                  refine er_iload cx d_Mo_forge_66 4 rfl ?_
                  refine er_iload cx d_Mo_forge_68 5 rfl ?_
                  refine er_iconst (v := 4) cx d_Mo_forge_70 rfl (by decide) ?_
                  refine er_irem cx d_Mo_forge_71 (by decide) ?_
                  obtain ⟨q21, e21, h⟩ := er_bd h
                  refine er_callV (b := p0) (As := [.inl p2, .inl p1, .inl (er_div p5 4), .inl p3, .inl p4, .inl (er_rem p5 4)]) (st := []) cx (c_Mo_receive e21) my_Mo_82 c1 ⟨by decide, by decide⟩ rfl (Nat.le_of_ble_eq_true rfl) d_Mo_forge_72 ⟨Nat.zero_le _, Nat.zero_le _⟩ rfl ?_
                  refine er_istore cx d_Mo_forge_75 (by decide) rfl ?_
                  refine er_aload_n cx d_Mo_forge_77 1 rfl ?_
                  refine er_iload_n cx d_Mo_forge_78 3 rfl ?_
                  obtain ⟨q22, e22, h⟩ := er_bd h
                  refine er_callV (b := p0) (As := [.inl p2]) (st := []) cx (c_Mo_settle e22) my_Mo_118 c1 ⟨by decide, by decide⟩ rfl (Nat.le_of_ble_eq_true rfl) d_Mo_forge_79 ⟨Nat.zero_le _, Nat.zero_le _⟩ rfl ?_
                  refine er_iload cx d_Mo_forge_82 0 rfl ?_
                  obtain ⟨c23, h⟩ := er_ck h
                  obtain rfl := Option.some.inj h
                  exact er_iret rt (Or.inr ⟨rfl, c23⟩) d_Mo_forge_84 (by decide) (by decide) ⟨rfl, rfl, rfl⟩
                · have h := er_iff h b20
                  refine er_iconst (v := 0) cx d_Mo_forge_56 rfl (by decide) ?_
                  obtain rfl := Option.some.inj h
                  exact er_iret rt (Or.inr ⟨rfl, Or.inl rfl⟩) d_Mo_forge_57 (by decide) (by decide) ⟨rfl, rfl, rfl⟩
theorem c_Mo_forge {l : Launch} {X : er_X} {r : Int × er_Me} {p0 p1 p2 p3 p4 p5 : Int} {T M : er_Me} (h : f_Mo_forge p0 p1 p2 p3 p4 p5 T M = some r) (hok : ∀ v ∈ ([.inr p0, .inl p1, .inl p2, .inl p3, .inl p4, .inl p5] : List er_V), er_ok v) : er_Ct l X y_Mo_forge b_Mo_forge 7 (some .boolean) rm_Mo_forge [.inr p0, .inl p1, .inl p2, .inl p3, .inl p4, .inl p5] T M (some (.inl r.1)) T r.2 :=
  er_ct rfl rfl (Nat.le_of_ble_eq_true rfl) hok (fun K cx rt hin => w_Mo_forge cx rt h)
