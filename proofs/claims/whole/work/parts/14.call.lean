/-! rows that make cells, call and return -/
/-- behind a new cell -/
theorem er_Zn {X : er_X} {nL : Nat} {T M : er_Me} {L : List (Nat × er_V)} {st : List er_V} {s : State} {H H1 : Heap} {locs : List Loc} {ls : Array Slot} {kd n : Int} (z : er_Z X s nL T M L st H locs ls) (hbs : X.2.2.1 < s.heap.size) (hn : 0 ≤ n ∧ n < 2147483648) (hat : va_at X.1 classes (H.size, er_cell X (er_nw T kd n) (er_mw M (T 0 0 + 1)) (T 0 0 + 1)) H1) (e2 : H1.size = H.size + 1) (e3 : ∀ q, q < H.size → H1[q]? = H[q]?) : er_Z X s nL (er_nw T kd n) (er_mw M (T 0 0 + 1)) L (.inr (T 0 0 + 1) :: st) H1 locs ls ∧ er_ad X (T 0 0 + 1) = H.size := by
  obtain ⟨hg, hL, hs, hz, hP, hS, hl⟩ := z
  have h4 := hg.2.2.2
  refine ⟨⟨er_RgN hg hn, hL, ?_, ?_, ?_, ?_, hl⟩, ?_⟩
  · intro v hv
    rcases List.mem_cons.mp hv with e | e
    · rw [e]; trivial
    · exact hs v e
  · rw [e2, er_nw0 T h4, hz]
    omega
  · rw [er_wsN hg, ← hz]
    refine (hP.kept (fun k x hx => e3 x.1 ((hP k x hx).lt))).app (fun k x hx => ?_)
    have hk : k < 1 := (List.getElem?_eq_some_iff.mp hx).1
    rw [show k = 0 by omega] at hx
    cases hx
    exact hat
  · exact ⟨Nat.le_trans hS.1 (by omega), fun x h1 h2 => (e3 x (Nat.lt_of_lt_of_le h1 hS.1)).trans (hS.2.1 x h1 h2), hS.2.2⟩
  · unfold er_ad
    rw [if_neg (by omega), hz]
    omega
section ERN
variable {K : er_K} {l : Launch} {X : er_X} {cc : ByteArray} {own : String} {nL : Nat} {R : Room} {cells slots pc : Nat} {T M : er_Me} {L : List (Nat × er_V)} {st : List er_V}
theorem er_new (cx : er_Cx K l X cc own nL R) {index ci NN : Nat} {kd : Int} {C : String} {TT : u_T} {ty0 : Nat → FieldType} (hd : decode cc pc = .ok (.new index, 3)) (hkd : kd = (ci : Int) + 1) (hcl : er_Cl ci C TT NN ty0) (h1 : Cond.classLink own index C ∈ er_T) (h2 : Cond.instantiable C NN ∈ er_T) (h3 : Cond.initialized C ∈ er_T) (hc : cells + 1 ≤ R.cells) (hs : slots + NN ≤ R.slots)
    {T1 M1 : er_Me} {b : Int} (hT1 : er_nw T kd 0 = T1) (hb1 : T 0 0 + 1 = b) (hM1 : er_mw M b = M1) (kk : er_G K (cells + 1) (slots + NN) T1 M1 (pc + 3) L (.inr b :: st)) : er_G K cells slots T M pc L st := by
  subst hM1
  subst hb1
  subst hT1
  obtain ⟨p, e, s, m, args, below, meth, c, Q, rfl, hx, hb, hml, hown, hts, hKK, hXX, hbs⟩ := cx
  intro H locs ls z
  subst hkd
  obtain ⟨hci, hcc, hin, hty, hnm, hnf, hdf⟩ := hcl
  have hKn := hKK.1.1 ci _ hcc
  refine W.newcK hx hb hown (hts _ h1) (hts _ h2) (hts _ h3) rfl hd hc hs hKn.2.1 rfl fun H1 kC hkC e1 z1 o1 => ?_
  have hcell : er_cell X (er_nw T ((ci : Int) + 1) 0) (er_mw M (T 0 0 + 1)) (T 0 0 + 1) = .inr (ci, er_fs X (er_nw T ((ci : Int) + 1) 0) (er_mw M (T 0 0 + 1)) (T 0 0 + 1) ci) := er_cellO (by rw [er_nwA, if_neg (by decide), if_pos rfl]) hci
  have hz := er_Zn (kd := (ci : Int) + 1) (n := 0) (H1 := H1) z hbs (by omega) (by
    rw [hcell]
    refine ⟨_, hcc, (u_born ty0 hts hin hKn hkC e1 hty).to (fun j hj => ?_)⟩
    have hj2 : j < er_nf ci := by rw [hnf]; exact hj
    rw [hdf j hj]
    show _ = (er_fs _ _ _ _ _).getD j .null
    rw [List.getD_eq_getElem?_getD, er_fsA hj2]
    unfold er_sv
    by_cases hr : er_rf ci j = true
    · rw [if_pos hr, if_pos hr, er_nwA, if_neg (by omega), if_neg (by omega)]
      rfl
    · rw [if_neg hr, if_neg hr]
      unfold er_mw
      rw [if_pos rfl, er_i0]
      rfl) z1 o1
  have k2 := kk H1 locs ls hz.1
  have ev : er_st X (.inr (T 0 0 + 1) :: st) = .ref H.size :: er_st X st := congrArg (fun q => Value.ref q :: er_st X st) hz.2
  rw [ev] at k2
  exact k2
theorem er_newa (cx : er_Cx K l X cc own nL R) {atype : ArrayType} {t N : Nat} {n kd : Int} (hd : decode cc pc = .ok (.newarray atype, 2)) (hw : Cond.arrayClass (newarray.typeOf atype) ∈ er_T) (ht : t < 2) (hty : newarray.typeOf atype = if t = 0 then .int else .boolean) (hkd : kd = (t : Int) + 101) (hn : n = (N : Int)) (hN : N ≤ 100000) (hc : cells + 1 ≤ R.cells) (hs : slots + N ≤ R.slots)
    {T1 M1 : er_Me} {b : Int} (hT1 : er_nw T kd n = T1) (hb1 : T 0 0 + 1 = b) (hM1 : er_mw M b = M1) (kk : er_G K (cells + 1) (slots + N) T1 M1 (pc + 2) L (.inr b :: st)) : er_G K cells slots T M pc L (.inl n :: st) := by
  subst hM1
  subst hb1
  subst hT1
  obtain ⟨p, e, s, m, args, below, meth, c, Q, rfl, hx, hb, hml, hown, hts, hKK, hXX, hbs⟩ := cx
  intro H locs ls z
  subst hkd
  subst hn
  have hcl : (Int32.ofInt (N : Int)).toNatClampNeg = N := by rw [er_clI (by omega) (by omega)]; rfl
  have hneg : ¬ Int32.ofInt (N : Int) < 0 := by rw [er_nIo]; exact nI_pos (by omega)
  have hby : N * componentBytes (newarray.typeOf atype) ≤ 536870912 := by
    have : componentBytes (newarray.typeOf atype) ≤ 8 := by cases atype <;> decide
    calc N * componentBytes (newarray.typeOf atype) ≤ 100000 * 8 := Nat.mul_le_mul hN this
      _ ≤ 536870912 := by decide
  have h2 : t = 0 ∨ t = 1 := by omega
  refine va_newaK hx hb (hts _ hw) rfl hd rfl hneg hcl hby hc hs rfl fun H1 cA e1 z1 o1 hAr hNm => ?_
  have hz := er_Zn (kd := (t : Int) + 101) (n := (N : Int)) (H1 := H1) z.p1 hbs (by omega) (by
    rw [er_cellI (t := t) (by rw [er_nwA, if_neg (by decide), if_pos rfl]) ht]
    show H1[H.size]? = some (vp_cell _ _)
    rw [e1, vp_cell_i]
    have hA : cA = X.2.1 t := by
      rw [hty] at hNm
      rcases h2 with rfl | rfl
      · exact Option.some.inj (hNm.symm.trans (hKK.1.2 0 _ rfl).2)
      · exact Option.some.inj (hNm.symm.trans (hKK.1.2 1 _ rfl).2)
    have hL : (er_nw T ((t : Int) + 101) (N : Int) (T 0 0 + 1) (-1)).toNat = N := by rw [er_nwA, if_pos rfl]; rfl
    rw [hL, hA]
    have hdv : (fun _ : Nat => defaultValue (newarray.typeOf atype)) = fun j : Nat => Value.int (Int32.ofInt (er_mw M (T 0 0 + 1) (T 0 0 + 1) (j : Int))) := by
      funext j
      unfold er_mw
      rw [if_pos rfl, er_i0, hty]
      rcases h2 with rfl | rfl <;> rfl
    rw [hdv]) z1 o1
  have k2 := kk H1 locs ls hz.1
  have ev : er_st X (.inr (T 0 0 + 1) :: st) = .ref H.size :: er_st X st := congrArg (fun q => Value.ref q :: er_st X st) hz.2
  rw [ev] at k2
  exact k2
theorem er_newq (cx : er_Cx K l X cc own nL R) {index t : Nat} {C : String} {n kd : Int} (hd : decode cc pc = .ok (.anewarray index, 3)) (hlk : Cond.classLink own index C ∈ er_T) (hao : C ∈ er_AOs) (ht : t = 2 ∧ C = er_O2 ∨ t = 3 ∧ C = er_O3) (hkd : kd = (t : Int) + 101) (h0 : 0 ≤ n) (hN : n ≤ 9) (hc : cells + 1 ≤ R.cells) (hs : slots + 9 ≤ R.slots)
    {T1 M1 : er_Me} {b : Int} (hT1 : er_nw T kd n = T1) (hb1 : T 0 0 + 1 = b) (hM1 : er_mw M b = M1) (kk : er_G K (cells + 1) (slots + 9) T1 M1 (pc + 3) L (.inr b :: st)) : er_G K cells slots T M pc L (.inl n :: st) := by
  subst hM1
  subst hb1
  subst hT1
  obtain ⟨p, e, s, m, args, below, meth, c, Q, rfl, hx, hb, hml, hown, hts, hKK, hXX, hbs⟩ := cx
  intro H locs ls z
  subst hkd
  obtain ⟨N, rfl⟩ := Int.eq_ofNat_of_zero_le h0
  have hcl : (Int32.ofInt (N : Int)).toNatClampNeg = N := by rw [er_clI (by omega) (by omega)]; rfl
  have hneg : ¬ Int32.ofInt (N : Int) < 0 := by rw [er_nIo]; exact nI_pos (by omega)
  refine W.anew hx hb hown (hts _ hlk) (va_AO.use (hKK.2.2 _ hao)) rfl hd rfl hneg (by rw [hcl]; omega) hc (by rw [hcl]; omega) fun cA kA comp f1 f2 f3 f4 => ?_
  rw [hcl]
  refine W.widen (k := cells + 1) (n := slots + 9) (Nat.le_refl _) (by omega) ?_
  generalize hH1 : H.push ({ cls := cA, slots := Array.replicate N .null, vm := .none } : Cell) = H1
  have z1 : H1.size = H.size + 1 := by rw [← hH1, Array.size_push]
  have e1 : H1[H.size]? = some (arrV cA N (fun _ => .null)) := by rw [← hH1, Array.getElem?_push_size, ← arrV_new]
  have o1 : ∀ q : Nat, q < H.size → H1[q]? = H[q]? := fun q hq => by rw [← hH1, Array.getElem?_push, if_neg (Nat.ne_of_lt hq)]
  have hz := er_Zn (kd := (t : Int) + 101) (n := (N : Int)) (H1 := H1) z.p1 hbs (by omega) (by
    rw [er_cellR (t := t) (by rw [er_nwA, if_neg (by decide), if_pos rfl]) (by omega)]
    show H1[H.size]? = some (vp_cell _ _)
    rw [e1, vp_cell_q]
    have hA : cA = X.2.1 t := by
      rcases ht with ⟨rfl, rfl⟩ | ⟨rfl, rfl⟩
      · obtain ⟨_, _, _, _, _, h4⟩ := (hKK.1.2 2 _ rfl).2
        exact Option.some.inj (f1.symm.trans h4)
      · obtain ⟨_, _, _, _, _, h4⟩ := (hKK.1.2 3 _ rfl).2
        exact Option.some.inj (f1.symm.trans h4)
    have hL : (er_nw T ((t : Int) + 101) (N : Int) (T 0 0 + 1) (-1)).toNat = N := by rw [er_nwA, if_pos rfl]; rfl
    rw [hL, hA]
    have hdv : (fun _ : Nat => Value.null) = fun j : Nat => va_rf (er_ro X (er_nw T ((t : Int) + 101) (N : Int) (T 0 0 + 1) (j : Int))) := by
      funext j
      rw [er_nwA, if_neg (by omega), if_neg (by omega)]
      rfl
    rw [hdv]) z1 o1
  have k2 := kk H1 locs ls hz.1
  have ev : er_st X (.inr (T 0 0 + 1) :: st) = .ref H.size :: er_st X st := congrArg (fun q => Value.ref q :: er_st X st) hz.2
  rw [ev] at k2
  exact k2
theorem er_aast (cx : er_Cx K l X cc own nL R) {a i y kd ko : Int} (hd : decode cc pc = .ok (.aastore, 1)) (hk : T a (-2) = kd) (ho : T y (-2) = ko) {ci t : Nat} {C : String} {TT : u_T} {NN : Nat} {ty0 : Nat → FieldType} (hcl : er_Cl ci C TT NN ty0) (hko : ko = (ci : Int) + 1) (hkd : kd = (t : Int) + 101) (ht : t = 2 ∧ C = er_O2 ∨ t = 3 ∧ C = er_O3) (h0 : 0 ≤ i) (h1 : i < T a (-1))
    {T1 : er_Me} (hT1 : er_up T a i y = T1) (kk : er_G K cells slots T1 M (pc + 1) L st) : er_G K cells slots T M pc L (.inr y :: .inl i :: .inr a :: st) := by
  subst hT1
  obtain ⟨p, e, s, m, args, below, meth, c, Q, rfl, hx, hb, hml, hown, hts, hKK, hXX, hbs⟩ := cx
  intro H locs ls z
  subst hkd
  subst hko
  obtain ⟨hci, hcc, -⟩ := hcl
  have hb2 := z.1.2.2.1 a
  have ha0 := (z.1.2.1 a (by omega)).1
  have hy0 := (z.1.2.1 y (by omega)).1
  have he := er_at (X := X) z.1 (a := a) (by omega)
  rw [er_cellR (t := t) hk (by omega)] at he
  have hv := er_at (X := X) z.1 (a := y) (by omega)
  rw [er_cellO ho hci] at hv
  obtain ⟨r', hr', cellV, g1, g2, g3, -⟩ := z.2.2.2.2.1 _ _ hv
  have hcls := (hKK.1.1 ci _ hcc).2
  have htt : va_RA s (X.2.1 t) (.object C) := by
    rcases ht with ⟨rfl, rfl⟩ | ⟨rfl, rfl⟩
    · exact (hKK.1.2 2 _ rfl).2
    · exact (hKK.1.2 3 _ rfl).2
  obtain ⟨kA, comp, k1, k2, k3, -⟩ := htt
  have hcomp : comp = X.1.1 ci := Option.some.inj (k3.symm.trans hcls.1)
  subst hcomp
  obtain ⟨kC, hkC, -⟩ := hcls.2
  have hin := er_inI h0 h1 hb2.2
  have hlt : (Int32.ofInt i).toNatClampNeg < (T a (-1)).toNat := Nat.not_le.mp fun q => hin (Or.inr q)
  refine W.aast (j := Int32.ofInt i) hx hb (z.2.2.2.2.1 _ _ he) (fun q h => by cases h) (fun h => by cases h) k1 k2 rfl hkC ⟨fun q => hin (Or.inl q), by show _ < (arrV _ _ _).slots.size; rw [arrV_size]; exact hlt⟩ g1 (fun q h => by rw [g3] at h; cases h) (by rw [g2]; exact hkC) (by rw [g2]; exact va_assign hcls) rfl rfl hd fun H1 e1 e2 e3 => ?_
  have hkk : er_up T a i y a (-2) = (t : Int) + 101 := (if_neg (fun q => by omega)).trans hk
  have hll : er_up T a i y a (-1) = T a (-1) := if_neg (fun q => by omega)
  refine kk H1 _ ls (er_Zs z (by omega) (er_RgT z.1 ha0 h0) z.p1.p1.p1.2.2.1 (if_neg (fun q => by omega)) (fun a' h _ => er_cellT h) ?_ e2 e3)
  rw [er_cellR (t := t) hkk (by omega), hll]
  show H1[er_ad X a]? = some (vp_cell _ _)
  rw [e1, er_clI h0 (by omega), vp_cell_q, vp_cell_q, arrV_store]
  congr 2
  funext j
  unfold updV er_up
  by_cases h : j = i.toNat
  · rw [if_pos h, if_pos ⟨rfl, by omega⟩]
    unfold er_ro
    rw [if_neg (by omega)]
    rfl
  · rw [if_neg h, if_neg (by omega)]
-- locals: fewer, in another order
theorem er_sb (cx : er_Cx K l X cc own nL R) (ks : List Nat) {L' : List (Nat × er_V)} (hl : ks.filterMap (fun k => L[k]?) = L') (kk : er_G K cells slots T M pc L' st) : er_G K cells slots T M pc L st := by
  obtain ⟨p, e, s, m, args, below, meth, c, Q, rfl, hx, hb, hml, hown, hts, hKK, hXX, hbs⟩ := cx
  intro H locs ls z
  have hm : ∀ q ∈ L', q ∈ L := by
    intro q hq
    rw [← hl] at hq
    obtain ⟨k, -, hk⟩ := List.mem_filterMap.mp hq
    exact List.mem_of_getElem? hk
  refine kk H locs ls (z.lo (fun q hq => z.2.1 q (hm q hq)) ⟨z.2.2.2.2.2.2.1, z.2.2.2.2.2.2.2.1, fun q hq => ?_⟩)
  obtain ⟨w, hw, rfl⟩ := List.mem_map.mp hq
  exact z.2.2.2.2.2.2.2.2 _ (List.mem_map.mpr ⟨w, hm w hw, rfl⟩)
theorem er_nm {x y : Int} (h : x = y) (kk : er_G K cells slots T M pc L (.inl y :: st)) : er_G K cells slots T M pc L (.inl x :: st) := by
  subst h
  exact kk
theorem er_wd {k n : Nat} (h1 : cells ≤ k) (h2 : slots ≤ n) (kk : er_G K k n T M pc L st) : er_G K cells slots T M pc L st := by
  obtain ⟨p, l, e, R, s, m, args, below, meth, c, Q, nL, X⟩ := K
  exact fun H locs ls z => W.widen h1 h2 (kk H locs ls z)
theorem er_obj (cx : er_Cx K l X cc own nL R) {index : Nat} {a : Int} (hd : decode cc pc = .ok (.invokespecial index, 3)) (h1 : Cond.methodLink own index Lib.objectInit ∈ er_T) (h2 : Cond.instanceMethod Lib.objectInit ∈ er_T) (h3 : Cond.code Lib.objectInit ⟨#[0xb1]⟩ 1 none ∈ er_T) (hf : 1 ≤ R.frames) (hl : st.length + 12 ≤ R.locals) (kk : er_G K cells slots T M (pc + 3) L st) : er_G K cells slots T M pc L (.inr a :: st) := by
  obtain ⟨p, e, s, m, args, below, meth, c, Q, rfl, hx, hb, hml, hown, hts, hKK, hXX, hbs⟩ := cx
  intro H locs ls z
  refine W.objInit hx hb hown (hts _ h1) (hts _ h2) (hts _ h3) rfl (by rw [hml]; exact z.2.2.2.2.2.2.1) rfl hd hf ?_ (kk H locs ls z.p1)
  show 2 * 0 + _ + 12 ≤ _
  have := er_sum X st
  unfold er_st at this
  omega
theorem er_mmax (cx : er_Cx K l X cc own nL R) {index : Nat} {x y : Int} (hd : decode cc pc = .ok (.invokestatic index, 3)) (h1 : Cond.methodLink own index Lib.Math.max.name ∈ er_T) (h2 : Cond.static Lib.Math.max.name ∈ er_T) (h3 : Cond.initialized "java/lang/Math" ∈ er_T) (h4 : Cond.code Lib.Math.max.name Lib.Math.max.code 2 (some .int) ∈ er_T) (hf : 1 ≤ R.frames) (hl : st.length + 13 ≤ R.locals) (hc : cells ≤ R.cells) (hs : slots ≤ R.slots) (kk : er_G K cells slots T M (pc + 3) L (.inl (er_max x y) :: st)) : er_G K cells slots T M pc L (.inl y :: .inl x :: st) := by
  obtain ⟨p, e, s, m, args, below, meth, c, Q, rfl, hx, hb, hml, hown, hts, hKK, hXX, hbs⟩ := cx
  intro H locs ls z
  have hiff := er_ltI (x := x) (y := y) z.a2 z.a1
  refine va_mmax hx hb (hml.trans z.2.2.2.2.2.2.1.symm) hown (hts _ h1) (hts _ h2) (hts _ h3) (hts _ h4) hf (by have := er_sum X st; unfold er_st at this; omega) hc hs hd ?_
  have k2 := kk H locs ls (z.p1.p1.pu (v := .inl (er_max x y)) (by unfold er_max; show er_rg _; split; exact z.a1; exact z.a2))
  unfold er_max at k2
  by_cases h : x < y
  · rw [if_pos h] at k2
    rw [if_pos (hiff.mpr h)]
    exact k2
  · rw [if_neg h] at k2
    rw [if_neg (fun q => h (hiff.mp q))]
    exact k2
theorem er_mmin (cx : er_Cx K l X cc own nL R) {index : Nat} {x y : Int} (hd : decode cc pc = .ok (.invokestatic index, 3)) (h1 : Cond.methodLink own index Lib.Math.min.name ∈ er_T) (h2 : Cond.static Lib.Math.min.name ∈ er_T) (h3 : Cond.initialized "java/lang/Math" ∈ er_T) (h4 : Cond.code Lib.Math.min.name Lib.Math.min.code 2 (some .int) ∈ er_T) (hf : 1 ≤ R.frames) (hl : st.length + 13 ≤ R.locals) (hc : cells ≤ R.cells) (hs : slots ≤ R.slots) (kk : er_G K cells slots T M (pc + 3) L (.inl (er_min x y) :: st)) : er_G K cells slots T M pc L (.inl y :: .inl x :: st) := by
  obtain ⟨p, e, s, m, args, below, meth, c, Q, rfl, hx, hb, hml, hown, hts, hKK, hXX, hbs⟩ := cx
  intro H locs ls z
  have hiff := er_ltI (x := y) (y := x) z.a1 z.a2
  refine va_mmin hx hb (hml.trans z.2.2.2.2.2.2.1.symm) hown (hts _ h1) (hts _ h2) (hts _ h3) (hts _ h4) hf (by have := er_sum X st; unfold er_st at this; omega) hc hs hd ?_
  have k2 := kk H locs ls (z.p1.p1.pu (v := .inl (er_min x y)) (by unfold er_min; show er_rg _; split; exact z.a1; exact z.a2))
  unfold er_min at k2
  by_cases h : y < x
  · rw [if_pos h] at k2
    rw [if_pos (hiff.mpr h)]
    exact k2
  · rw [if_neg h] at k2
    rw [if_neg (fun q => h (hiff.mp q))]
    exact k2
-- returns
theorem er_iret {ret : Option FieldType} {mc ms : Nat} {x : Int} {T' M' : er_Me} {r : Option er_V} (rt : er_Rt K X cc ret mc ms r T' M') (hr : ret = some .int ∨ ret = some .boolean ∧ (x = 0 ∨ x = 1)) (hd : decode cc pc = .ok (.ireturn, 1)) (hc : cells ≤ mc) (hs : slots ≤ ms) (he : some (Sum.inl x) = r ∧ T = T' ∧ M = M') : er_G K cells slots T M pc L [.inl x] := by
  obtain ⟨p, l, e, R, s, m, args, below, meth, c, nL, rfl, hx, hb, hrt, hlk⟩ := rt
  obtain ⟨rfl, rfl, rfl⟩ := he
  intro H locs ls z
  refine W.widen hc hs ?_
  have hq : ∀ t : State, t.heap = H → s.WarmedH t.vm → er_Qc X (some (.inl x)) T M args s (.returned (some (.int (Int32.ofInt x)))) t := fun t ht _ => ⟨⟨rfl, fun v hv => by rw [← Option.some.inj hv]; exact z.a1, z.1, by rw [ht]; exact z.2.2.2.1, by rw [ht]; exact z.2.2.2.2.1⟩, z.2.2.2.2.2.1.F ht⟩
  rcases hr with rfl | ⟨rfl, h01⟩
  · exact W.iret hx hb hrt hq z.2.2.2.2.2.1.2.2 hd hlk
  · exact W.zret hx hb hrt (er_bo h01).1 hq z.2.2.2.2.2.1.2.2 hd hlk
theorem er_vret {mc ms : Nat} {T' M' : er_Me} {r : Option er_V} (rt : er_Rt K X cc none mc ms r T' M') (hd : decode cc pc = .ok (.return_, 1)) (hc : cells ≤ mc) (hs : slots ≤ ms) (he : none = r ∧ T = T' ∧ M = M') : er_G K cells slots T M pc L [] := by
  obtain ⟨p, l, e, R, s, m, args, below, meth, c, nL, rfl, hx, hb, hrt, hlk⟩ := rt
  obtain ⟨rfl, rfl, rfl⟩ := he
  intro H locs ls z
  refine W.widen hc hs ?_
  have hq : ∀ t : State, t.heap = H → s.WarmedH t.vm → er_Qc X none T M args s (.returned none) t := fun t ht _ => ⟨⟨rfl, fun v hv => (by cases hv), z.1, by rw [ht]; exact z.2.2.2.1, by rw [ht]; exact z.2.2.2.2.1⟩, z.2.2.2.2.2.1.F ht⟩
  exact W.vret hx hb hrt hq z.2.2.2.2.2.1.2.2 hd hlk
end ERN
