/-! rows that read and write the memory -/
def er_Lk (own : String) (index : Nat) (nest : Bool) (q : String × String × String × Bool) : Prop := (nest = false ∧ Cond.fieldLink own index q.1 q.2.1 q.2.2.1 ∈ er_T) ∨ (nest = true ∧ ∃ host, Cond.fieldLinkNest own index q.1 q.2.1 q.2.2.1 host ∈ er_Ns)
/-- what the tables say of a class of the memory -/
def er_Cl (ci : Nat) (C : String) (TT : u_T) (NN : Nat) (ty0 : Nat → FieldType) : Prop := ci < 100 ∧ classes[ci]? = some (C, TT, NN) ∧ (∀ w ∈ u_ws C TT NN, w ∈ er_T) ∧ (∀ k, k < NN → parseFieldDescriptor (TT k).2.2.1 = some (ty0 k)) ∧ (∀ a, a < NN → ∀ b, b < NN → a ≠ b → (TT a).2.1 ≠ (TT b).2.1) ∧ er_nf ci = NN ∧ ∀ k, k < NN → defaultValue (ty0 k) = if er_rf ci k = true then .null else .int 0
/-- a field that an instruction names: kind of its object, place, reference or not, final or not, type, declarer -/
def er_Fd (own : String) (index : Nat) (kd : Int) (k : Nat) (r fin : Bool) (ty : FieldType) (dc : String) (nest : Bool) : Prop := ∃ (ci : Nat) (C : String) (TT : u_T) (NN : Nat) (ty0 : Nat → FieldType), kd = (ci : Int) + 1 ∧ er_Cl ci C TT NN ty0 ∧ k < NN ∧ er_rf ci k = r ∧ (TT k).2.2.2 = fin ∧ parseFieldDescriptor (TT k).2.2.1 = some ty ∧ (TT k).1 = dc ∧ er_Lk own index nest (TT k)
section ERH
variable {K : er_K} {l : Launch} {X : er_X} {cc : ByteArray} {own : String} {nL : Nat} {R : Room} {cells slots pc : Nat} {T M : er_Me} {L : List (Nat × er_V)} {st : List er_V}
theorem er_getG (cx : er_Cx K l X cc own nL R) {a kd : Int} {index k : Nat} {r fin : Bool} {ty : FieldType} {dc : String} {nest : Bool} {v : er_V} (hd : decode cc pc = .ok (.getfield index, 3)) (hf : er_Fd own index kd k r fin ty dc nest) (hk : T a (-2) = kd) (hv : er_sv X T M a r k = er_cv X v) (ho : (∀ a i, er_rg (M a i)) → er_ok v) (kk : er_G K cells slots T M (pc + 3) L (v :: st)) : er_G K cells slots T M pc L (.inr a :: st) := by
  obtain ⟨p, e, s, m, args, below, meth, c, Q, rfl, hx, hb, hml, hown, hts, hKK, hXX, hbs⟩ := cx
  intro H locs ls z
  obtain ⟨ci, C, TT, NN, ty0, rfl, ⟨hci, hc, hin, hty, hnm, hnf, -⟩, hkn, rfl, hfi, hpd, hdc, hlk⟩ := hf
  have he := er_at (X := X) z.1 (a := a) (by omega)
  rw [er_cellO hk hci] at he
  have hv2 : (er_fs X T M a ci)[k]? = some (er_cv X v) := by rw [er_fsA (by omega), hv]
  have k2 := kk H locs ls (z.p1.pu (ho z.1.1))
  rcases hlk with ⟨hne, h⟩ | ⟨hne, host, h⟩
  · exact va_get hx hb hts hin hown hKK.1 z.2.2.2.2.1 _ he hc k hkn (hts _ h) (fun _ q => q) hv2 hd k2
  · exact va_getN hx hb hts hin hown hKK.1 z.2.2.2.2.1 _ he hc k hkn (va_Nw.use rfl (hKK.2.1 _ h)) (fun _ q => q) hv2 hd k2
theorem er_geti (cx : er_Cx K l X cc own nL R) {a kd : Int} {index k : Nat} {fin : Bool} {ty : FieldType} {dc : String} {nest : Bool} (hd : decode cc pc = .ok (.getfield index, 3)) (hf : er_Fd own index kd k false fin ty dc nest) (hk : T a (-2) = kd) (kk : er_G K cells slots T M (pc + 3) L (.inl (M a k) :: st)) : er_G K cells slots T M pc L (.inr a :: st) :=
  er_getG (v := .inl (M a k)) cx hd hf hk rfl (fun h => h a k) kk
theorem er_getr (cx : er_Cx K l X cc own nL R) {a kd : Int} {index k : Nat} {fin : Bool} {ty : FieldType} {dc : String} {nest : Bool} (hd : decode cc pc = .ok (.getfield index, 3)) (hf : er_Fd own index kd k true fin ty dc nest) (hk : T a (-2) = kd) (h0 : 0 < T a k) (kk : er_G K cells slots T M (pc + 3) L (.inr (T a k) :: st)) : er_G K cells slots T M pc L (.inr a :: st) :=
  er_getG (v := .inr (T a k)) cx hd hf hk (by unfold er_sv er_ro; rw [if_pos rfl, if_neg (by omega)]; rfl) (fun _ => trivial) kk
theorem er_putG (cx : er_Cx K l X cc own nL R) {a kd : Int} {index k : Nat} {r fin : Bool} {ty : FieldType} {dc : String} {nest : Bool} {v : er_V} {T' M' : er_Me} (hd : decode cc pc = .ok (.putfield index, 3)) (hf : er_Fd own index kd k r fin ty dc nest) (hk : T a (-2) = kd) (hfin : fin = true → er_In K ∧ dc = own ∧ nest = false) (hn : narrow ty (er_cv X v) = er_cv X v) (hfit : fits ty (er_cv X v) = true)
    (hset : ∀ ci, er_rf ci k = r → (er_fs X T M a ci).set k (er_cv X v) = er_fs X T' M' a ci) (hk' : T' a (-2) = T a (-2)) (hT' : 0 < a → T' 0 0 = T 0 0) (ho : ∀ a' : Int, a' ≠ a → 0 < a' → er_cell X T' M' a' = er_cell X T M a') (hg : 0 < a → er_Rg T M → er_ok v → er_Rg T' M')
    (kk : er_G K cells slots T' M' (pc + 3) L st) : er_G K cells slots T M pc L (v :: .inr a :: st) := by
  obtain ⟨p, e, s, m, args, below, meth, c, Q, rfl, hx, hb, hml, hown, hts, hKK, hXX, hbs⟩ := cx
  intro H locs ls z
  obtain ⟨ci, C, TT, NN, ty0, rfl, ⟨hci, hc, hin, hty, hnm, hnf, -⟩, hkn, rfl, rfl, hpd, rfl, hlk⟩ := hf
  have ha0 := (z.1.2.1 a (by omega)).1
  have he := er_at (X := X) z.1 (a := a) (by omega)
  rw [er_cellO hk hci] at he
  have hap := va_apart (own := own) hts hin ty0 hty hnm hKK.1 hc
  obtain ⟨r, h1, cell, q1, q2, q3, q4⟩ := z.2.2.2.2.1 _ _ he
  have hr : r = (C, TT, NN) := Option.some.inj (h1.symm.trans hc)
  subst hr
  obtain ⟨hS, hfc, kC, hkC, hkind⟩ := hKK.1.1 ci _ hc
  obtain ⟨cf, kf, fi, f, hi, hsl⟩ := hS k hkn
  have hlay := hts _ (hin _ (u_in_lay hkn))
  have hst := (u_facts hfc hkC (u_lays hts hin hkn) hi).1
  have hA : er_A X (er_ad X a) := by show X.2.2.1 < er_ad X a; unfold er_ad; rw [if_neg (by omega)]; omega
  have go : ∀ H' : Heap, H'[er_ad X a]? = some (cell.setSlot f.slot (er_cv X v)) → H'.size = H.size → (∀ q, q ≠ er_ad X a → H'[q]? = H[q]?) → W p l e R s m args below meth c H' (locs ++ [⟨er_ad X a, f.slot⟩]) cells slots Q (F0 m (pc + 3) ls (er_st X st)) := by
    intro H' e1 e2 e3
    rw [hsl] at e1
    have hat : va_at X.1 classes (er_ad X a, er_cell X T' M' a) H' := by
      rw [er_cellO (hk'.trans hk) hci, ← hset ci rfl]
      exact ⟨_, hc, t_OB.to (V := updV (vp_V (er_fs X T M a ci)) k (er_cv X v)) ⟨_, e1, q2, q3, t_set q4 hap hkn (er_cv X v)⟩ (fun j _ => vp_updV_set (by rw [er_fsL]; omega) (er_cv X v) j)⟩
    have hP' := z.2.2.2.2.1.set (er_Dw X T M) he hat e3
    rw [er_set ha0 (hT' ha0) ho] at hP'
    exact kk H' _ ls ⟨hg ha0 z.1 z.a1, z.2.1, z.p1.p1.2.2.1, by rw [e2, hT' ha0]; exact z.2.2.2.1, hP', z.2.2.2.2.2.1.put e2 e3 hA, z.2.2.2.2.2.2⟩
  rcases hfb : (TT k).2.2.2 with _ | _
  · unfold u_lay at hlay
    rw [if_neg (by rw [hfb]; decide)] at hlay
    have h6 := u_store hfc hkC hkind hlay hi hpd hn hfit
    rcases hlk with ⟨hne, h⟩ | ⟨hne, host, h⟩
    · exact W.putK hx hb (f := f) ⟨hown, hts _ h, ⟨_, _, _, hi⟩, hst⟩ (by rw [q2]; exact h6) q1 q3 (by rw [hsl]; exact k2_hasslot (q4 k hkn)) rfl rfl hd go
    · exact va_WputK hx hb hown (va_Nw.use rfl (hKK.2.1 _ h)) hi hst (by rw [q2]; exact h6) q1 q3 (by rw [hsl]; exact k2_hasslot (q4 k hkn)) rfl rfl hd go
  · obtain ⟨hin2, hdecl, hnest⟩ := hfin hfb
    unfold u_lay at hlay
    rw [if_pos hfb] at hlay
    have hcf : m.cls = cf := by
      obtain ⟨_, _, c', _, _, _, -, -, hf', -, -, -, hown2, -⟩ := Cond.laysFinal_spec hlay
      have e1 : c' = cf := by have := hi.symm.trans hf'; simp at this; exact this.1.symm
      rw [hdecl] at hown2
      rw [← e1]; exact Option.some.inj (hown.symm.trans hown2)
    have h6 := u_fits hfc hkC hkind (Or.inr hlay) hi hpd hn hfit
    rcases hlk with ⟨hne, h⟩ | ⟨hne, host, h⟩
    · exact W.putFinK hx hb hown (hts _ h) hi hst hcf hin2 (by rw [q2]; exact h6) q1 q3 (by rw [hsl]; exact k2_hasslot (q4 k hkn)) rfl rfl hd go
    · exact absurd (hnest.symm.trans hne) (by decide)
theorem er_puti (cx : er_Cx K l X cc own nL R) {a x kd : Int} {M1 : er_Me} {index k : Nat} {fin : Bool} {dc : String} {nest : Bool} (hd : decode cc pc = .ok (.putfield index, 3)) (hf : er_Fd own index kd k false fin .int dc nest) (hk : T a (-2) = kd) (hfin : fin = true → er_In K ∧ dc = own ∧ nest = false) (hM1 : er_up M a k x = M1) (kk : er_G K cells slots T M1 (pc + 3) L st) : er_G K cells slots T M pc L (.inl x :: .inr a :: st) := by
  subst hM1
  exact er_putG cx hd hf hk hfin rfl rfl (fun ci hr => er_fsM hr) rfl (fun _ => rfl) (fun a' h _ => er_cellM h) (fun _ hg hv => er_RgM hg hv) kk
theorem er_bo {x : Int} (hx : x = 0 ∨ x = 1) : narrow .boolean (.int (Int32.ofInt x)) = .int (Int32.ofInt x) ∧ fits .boolean (.int (Int32.ofInt x)) = true := by
  rcases hx with rfl | rfl <;> exact ⟨by decide +kernel, by decide +kernel⟩
theorem er_putz (cx : er_Cx K l X cc own nL R) {a x kd : Int} {M1 : er_Me} {index k : Nat} {fin : Bool} {dc : String} {nest : Bool} (hd : decode cc pc = .ok (.putfield index, 3)) (hf : er_Fd own index kd k false fin .boolean dc nest) (hk : T a (-2) = kd) (hfin : fin = true → er_In K ∧ dc = own ∧ nest = false) (hx : x = 0 ∨ x = 1) (hM1 : er_up M a k x = M1) (kk : er_G K cells slots T M1 (pc + 3) L st) : er_G K cells slots T M pc L (.inl x :: .inr a :: st) := by
  subst hM1
  exact er_putG cx hd hf hk hfin (er_bo hx).1 (er_bo hx).2 (fun ci hr => er_fsM hr) rfl (fun _ => rfl) (fun a' h _ => er_cellM h) (fun _ hg hv => er_RgM hg hv) kk
theorem er_putr (cx : er_Cx K l X cc own nL R) {a x kd : Int} {T1 : er_Me} {index k : Nat} {fin : Bool} {ty : FieldType} {dc : String} {nest : Bool} (hd : decode cc pc = .ok (.putfield index, 3)) (hf : er_Fd own index kd k true fin ty dc nest) (hk : T a (-2) = kd) (hfin : fin = true → er_In K ∧ dc = own ∧ nest = false) (hn : ∀ q, narrow ty (.ref q) = .ref q) (hfit : ∀ q, fits ty (.ref q) = true) (hx : 0 < x) (hT1 : er_up T a k x = T1) (kk : er_G K cells slots T1 M (pc + 3) L st) : er_G K cells slots T M pc L (.inr x :: .inr a :: st) := by
  subst hT1
  exact er_putG cx hd hf hk hfin (hn _) (hfit _) (fun ci hr => er_fsT hr hx) (if_neg (fun q => by omega)) (fun h => if_neg (fun q => by omega)) (fun a' h _ => er_cellT h) (fun h hg _ => er_RgT hg h (by omega)) kk
-- arrays of ints and booleans
theorem er_iald (cx : er_Cx K l X cc own nL R) {a i : Int} (hd : decode cc pc = .ok (.iaload, 1)) (hk : T a (-2) = 101) (h0 : 0 ≤ i) (h1 : i < T a (-1)) (kk : er_G K cells slots T M (pc + 1) L (.inl (M a i) :: st)) : er_G K cells slots T M pc L (.inl i :: .inr a :: st) := by
  obtain ⟨p, e, s, m, args, below, meth, c, Q, rfl, hx, hb, hml, hown, hts, hKK, hXX, hbs⟩ := cx
  intro H locs ls z
  have he := er_at (X := X) z.1 (a := a) (by omega)
  rw [er_cellI (t := 0) (by omega) (by omega)] at he
  have hb2 := z.1.2.2.1 a
  have k2 := kk H locs ls (z.p1.p1.pu (z.1.1 a i))
  refine va_iald hx hb hKK.1 z.2.2.2.2.1 _ 0 he rfl (er_inI h0 h1 hb2.2) hd ?_
  rw [er_clI h0 (by omega), Int.toNat_of_nonneg h0]
  exact k2
theorem er_zald (cx : er_Cx K l X cc own nL R) {a i : Int} (hd : decode cc pc = .ok (.baload, 1)) (hk : T a (-2) = 102) (h0 : 0 ≤ i) (h1 : i < T a (-1)) (kk : er_G K cells slots T M (pc + 1) L (.inl (M a i) :: st)) : er_G K cells slots T M pc L (.inl i :: .inr a :: st) := by
  obtain ⟨p, e, s, m, args, below, meth, c, Q, rfl, hx, hb, hml, hown, hts, hKK, hXX, hbs⟩ := cx
  intro H locs ls z
  have he := er_at (X := X) z.1 (a := a) (by omega)
  rw [er_cellI (t := 1) (by omega) (by omega)] at he
  have hb2 := z.1.2.2.1 a
  have k2 := kk H locs ls (z.p1.p1.pu (z.1.1 a i))
  refine va_zald hx hb hKK.1 z.2.2.2.2.1 _ 1 he rfl (er_inI h0 h1 hb2.2) hd ?_
  rw [er_clI h0 (by omega), Int.toNat_of_nonneg h0]
  exact k2
theorem er_aald (cx : er_Cx K l X cc own nL R) {a i kd : Int} (hd : decode cc pc = .ok (.aaload, 1)) (hk : T a (-2) = kd) (hkd : kd = 103 ∨ kd = 104) (h0 : 0 ≤ i) (h1 : i < T a (-1)) (hp : 0 < T a i) (kk : er_G K cells slots T M (pc + 1) L (.inr (T a i) :: st)) : er_G K cells slots T M pc L (.inl i :: .inr a :: st) := by
  obtain ⟨p, e, s, m, args, below, meth, c, Q, rfl, hx, hb, hml, hown, hts, hKK, hXX, hbs⟩ := cx
  intro H locs ls z
  have he := er_at (X := X) z.1 (a := a) (by omega)
  have hb2 := z.1.2.2.1 a
  have k2 := kk H locs ls (z.p1.p1.pu (v := .inr (T a i)) trivial)
  have ev : va_rf (er_ro X (T a i)) = .ref (er_ad X (T a i)) := by unfold er_ro; rw [if_neg (by omega)]; rfl
  rcases hkd with rfl | rfl
  · rw [er_cellR (t := 2) (by omega) (by omega)] at he
    refine va_aldq hx hb hKK.1 z.2.2.2.2.1 _ 2 he rfl (er_inI h0 h1 hb2.2) hd ?_
    rw [er_clI h0 (by omega), Int.toNat_of_nonneg h0, ev]
    exact k2
  · rw [er_cellR (t := 3) (by omega) (by omega)] at he
    refine va_aldq hx hb hKK.1 z.2.2.2.2.1 _ 3 he rfl (er_inI h0 h1 hb2.2) hd ?_
    rw [er_clI h0 (by omega), Int.toNat_of_nonneg h0, ev]
    exact k2
theorem er_alen (cx : er_Cx K l X cc own nL R) {a kd : Int} (hd : decode cc pc = .ok (.arraylength, 1)) (hk : T a (-2) = kd) (hkd : 101 ≤ kd ∧ kd ≤ 104) (kk : er_G K cells slots T M (pc + 1) L (.inl (T a (-1)) :: st)) : er_G K cells slots T M pc L (.inr a :: st) := by
  obtain ⟨p, e, s, m, args, below, meth, c, Q, rfl, hx, hb, hml, hown, hts, hKK, hXX, hbs⟩ := cx
  intro H locs ls z
  have he := er_at (X := X) z.1 (a := a) (by omega)
  have hb2 := z.1.2.2.1 a
  have k2 := kk H locs ls (z.p1.pu (v := .inl (T a (-1))) ⟨by omega, hb2.2⟩)
  have ev : Int32.ofNat (T a (-1)).toNat = Int32.ofInt (T a (-1)) := by
    have := er_nIo (T a (-1)).toNat
    rw [Int.toNat_of_nonneg hb2.1] at this
    exact this.symm
  have h4 : kd = 101 ∨ kd = 102 ∨ kd = 103 ∨ kd = 104 := by omega
  rcases h4 with rfl | rfl | rfl | rfl
  · rw [er_cellI (t := 0) (by omega) (by omega)] at he
    exact va_alen hx hb hKK.1 z.2.2.2.2.1 _ 0 he rfl ev hd k2
  · rw [er_cellI (t := 1) (by omega) (by omega)] at he
    exact va_alen hx hb hKK.1 z.2.2.2.2.1 _ 1 he rfl ev hd k2
  · rw [er_cellR (t := 2) (by omega) (by omega)] at he
    exact va_alen hx hb hKK.1 z.2.2.2.2.1 _ 2 he rfl ev hd k2
  · rw [er_cellR (t := 3) (by omega) (by omega)] at he
    exact va_alen hx hb hKK.1 z.2.2.2.2.1 _ 3 he rfl ev hd k2
/-- behind a store into a cell -/
theorem er_Zs {s : State} {H H1 : Heap} {locs : List Loc} {ls : Array Slot} {T' M' : er_Me} {a : Int} {q : Nat} {st' : List er_V} (z : er_Z X s nL T M L st H locs ls) (hk : T a (-2) ≠ 0) (hg : er_Rg T' M') (hst : ∀ v ∈ st', er_ok v) (hT : T' 0 0 = T 0 0) (ho : ∀ a' : Int, a' ≠ a → 0 < a' → er_cell X T' M' a' = er_cell X T M a') (hat : va_at X.1 classes (er_ad X a, er_cell X T' M' a) H1) (e2 : H1.size = H.size) (e3 : ∀ q, q ≠ er_ad X a → H1[q]? = H[q]?) : er_Z X s nL T' M' L st' H1 (locs ++ [⟨er_ad X a, q⟩]) ls := by
  have ha0 := (z.1.2.1 a hk).1
  have hP' := z.2.2.2.2.1.set (er_Dw X T M) (er_at z.1 hk) hat e3
  rw [er_set ha0 hT ho] at hP'
  have hA : er_A X (er_ad X a) := by show X.2.2.1 < er_ad X a; unfold er_ad; rw [if_neg (by omega)]; omega
  exact ⟨hg, z.2.1, hst, by rw [e2, hT]; exact z.2.2.2.1, hP', z.2.2.2.2.2.1.put e2 e3 hA, z.2.2.2.2.2.2⟩
theorem er_updI {M : er_Me} {a i x : Int} (h0 : 0 ≤ i) : updV (fun j => Value.int (Int32.ofInt (M a (j : Nat)))) i.toNat (.int (Int32.ofInt x)) = fun j : Nat => Value.int (Int32.ofInt (er_up M a i x a j)) := by
  funext j
  unfold updV er_up
  by_cases h : j = i.toNat
  · rw [if_pos h, if_pos ⟨rfl, by omega⟩]
  · rw [if_neg h, if_neg (by omega)]
theorem er_iast (cx : er_Cx K l X cc own nL R) {a i x : Int} {M1 : er_Me} (hd : decode cc pc = .ok (.iastore, 1)) (hk : T a (-2) = 101) (h0 : 0 ≤ i) (h1 : i < T a (-1)) (hM1 : er_up M a i x = M1) (kk : er_G K cells slots T M1 (pc + 1) L st) : er_G K cells slots T M pc L (.inl x :: .inl i :: .inr a :: st) := by
  subst hM1
  obtain ⟨p, e, s, m, args, below, meth, c, Q, rfl, hx, hb, hml, hown, hts, hKK, hXX, hbs⟩ := cx
  intro H locs ls z
  have he := er_at (X := X) z.1 (a := a) (by omega)
  rw [er_cellI (t := 0) (by omega) (by omega)] at he
  have hb2 := z.1.2.2.1 a
  have hin := er_inI h0 h1 hb2.2
  refine W.iast (x := Int32.ofInt x) (j := Int32.ofInt i) hx hb (z.2.2.2.2.1 _ _ he) ((hKK.1.2 0 _ rfl).1 (T a (-1)).toNat (fun j => .int (Int32.ofInt (M a j)))) (fun q => by cases q) (by show ¬ (_ ∨ (arrV _ _ _).slots.size ≤ _); rw [arrV_size]; exact hin) rfl rfl hd fun H1 e1 e2 e3 => ?_
  refine kk H1 _ ls (er_Zs z (by omega) (er_RgM z.1 z.a1) z.p1.p1.p1.2.2.1 rfl (fun a' h _ => er_cellM h) ?_ e2 e3)
  rw [er_cellI (t := 0) (by omega) (by omega)]
  show H1[er_ad X a]? = some (vp_cell _ _)
  rw [e1, er_clI h0 (by omega), vp_cell_i, vp_cell_i, arrV_store, er_updI h0]
theorem er_zast (cx : er_Cx K l X cc own nL R) {a i x : Int} {M1 : er_Me} (hd : decode cc pc = .ok (.bastore, 1)) (hk : T a (-2) = 102) (h0 : 0 ≤ i) (h1 : i < T a (-1)) (hbo : x = 0 ∨ x = 1) (hM1 : er_up M a i x = M1) (kk : er_G K cells slots T M1 (pc + 1) L st) : er_G K cells slots T M pc L (.inl x :: .inl i :: .inr a :: st) := by
  subst hM1
  obtain ⟨p, e, s, m, args, below, meth, c, Q, rfl, hx, hb, hml, hown, hts, hKK, hXX, hbs⟩ := cx
  intro H locs ls z
  have he := er_at (X := X) z.1 (a := a) (by omega)
  rw [er_cellI (t := 1) (by omega) (by omega)] at he
  have hb2 := z.1.2.2.1 a
  have hin := er_inI h0 h1 hb2.2
  refine W.zast (x := Int32.ofInt x) (j := Int32.ofInt i) hx hb (z.2.2.2.2.1 _ _ he) ((hKK.1.2 1 _ rfl).1 (T a (-1)).toNat (fun j => .int (Int32.ofInt (M a j)))) (fun q => by cases q) (by show ¬ (_ ∨ (arrV _ _ _).slots.size ≤ _); rw [arrV_size]; exact hin) rfl rfl hd fun H1 e1 e2 e3 => ?_
  refine kk H1 _ ls (er_Zs z (by omega) (er_RgM z.1 z.a1) z.p1.p1.p1.2.2.1 rfl (fun a' h _ => er_cellM h) ?_ e2 e3)
  rw [er_cellI (t := 1) (by omega) (by omega)]
  show H1[er_ad X a]? = some (vp_cell _ _)
  rw [e1, er_clI h0 (by omega), (er_bo hbo).1, vp_cell_i, vp_cell_i, arrV_store, er_updI h0]
/-- the script -/
def er_xs (X : er_X) (i : Int) : Int := (X.2.2.2.2.2 i.toNat).toInt
def er_xn (X : er_X) : Int := (X.2.2.2.2.1 : Int)
theorem er_sald (cx : er_Cx K l X cc own nL R) {i : Int} (hd : decode cc pc = .ok (.iaload, 1)) (h0 : 0 ≤ i) (h1 : i < er_xn X) (kk : er_G K cells slots T M (pc + 1) L (.inl (er_xs X i) :: st)) : er_G K cells slots T M pc L (.inl i :: .inr 0 :: st) := by
  obtain ⟨p, e, s, m, args, below, meth, c, Q, rfl, hx, hb, hml, hown, hts, hKK, hXX, hbs⟩ := cx
  intro H locs ls z
  have h2 := hXX.2.2
  have h1 : i < (X.2.2.2.2.1 : Int) := h1
  have k2 := kk H locs ls (z.p1.p1.pu (v := .inl (er_xs X i)) (er_rgI _))
  have ev : er_st X (.inl (er_xs X i) :: st) = .int (X.2.2.2.2.2 i.toNat) :: er_st X st := congrArg (· :: er_st X st) (er_cvI _)
  rw [ev] at k2
  refine va_sld (A := er_A X) (H0 := s.heap) (locs := locs) hx hb hXX.1 (Nat.lt_of_le_of_lt hXX.2.1 hbs) (show ¬ X.2.2.1 < X.2.2.2.1 from Nat.not_lt.mpr hXX.2.1) z.2.2.2.2.2.1 (i := Int32.ofInt i) (by have := er_inI h0 h1 (by omega); exact this) hd ?_
  rw [er_clI h0 (by omega)]
  exact k2
theorem er_salen (cx : er_Cx K l X cc own nL R) (hd : decode cc pc = .ok (.arraylength, 1)) (kk : er_G K cells slots T M (pc + 1) L (.inl (er_xn X) :: st)) : er_G K cells slots T M pc L (.inr 0 :: st) := by
  obtain ⟨p, e, s, m, args, below, meth, c, Q, rfl, hx, hb, hml, hown, hts, hKK, hXX, hbs⟩ := cx
  intro H locs ls z
  have h2 := hXX.2.2
  have k2 := kk H locs ls (z.p1.pu (v := .inl (er_xn X)) (show er_rg (X.2.2.2.2.1 : Int) from ⟨by omega, by omega⟩))
  have ev : er_st X (.inl (er_xn X) :: st) = .int (Int32.ofNat X.2.2.2.2.1) :: er_st X st := congrArg (fun q => Value.int q :: er_st X st) (er_nIo _)
  rw [ev] at k2
  exact va_slen (A := er_A X) (H0 := s.heap) (locs := locs) hx hb hXX.1 (Nat.lt_of_le_of_lt hXX.2.1 hbs) (show ¬ X.2.2.1 < X.2.2.2.1 from Nat.not_lt.mpr hXX.2.1) z.2.2.2.2.2.1 hd k2
end ERH
