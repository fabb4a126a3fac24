/-! the machine's context K (one tuple), the goal er_G over memory alone, contracts. er_T: the tables' words, er_Ns: the nest mates' words, er_AOs: component classes (part 08) -/
abbrev er_K : Type := Program × Launch × Env × Room × State × MethodId × Array Value × List Frame × Method × Code × (State → Prop) × Nat × er_X
def er_Z (X : er_X) (s : State) (nL : Nat) (T M : er_Me) (L : List (Nat × er_V)) (st : List er_V) (H : Heap) (locs : List Loc) (ls : Array Slot) : Prop :=
  er_Rg T M ∧ (∀ q ∈ L, er_ok q.2) ∧ (∀ v ∈ st, er_ok v) ∧ H.size = X.2.2.1 + 1 + (T 0 0).toNat ∧ va_P X.1 classes (er_ws X T M) H ∧ va_S (er_A X) s.heap H locs ∧ lv_has ls nL (er_lv X L)
def er_G (K : er_K) (cells slots : Nat) (T M : er_Me) (pc : Nat) (L : List (Nat × er_V)) (st : List er_V) : Prop := match K with
  | (p, l, e, R, s, m, args, below, meth, c, Q, nL, X) => ∀ (H : Heap) (locs : List Loc) (ls : Array Slot), er_Z X s nL T M L st H locs ls → W p l e R s m args below meth c H locs cells slots Q (F0 m pc ls (er_st X st))
def er_KK (X : er_X) (U : State) : Prop := va_K X.1 classes (er_tys X) U ∧ (∀ w ∈ er_Ns, va_Nw w U) ∧ (∀ C ∈ er_AOs, va_AO C U)
def er_XX (X : er_X) (U : State) : Prop := va_X X.2.2.2.1 X.2.2.2.2.1 X.2.2.2.2.2 U U.heap ∧ X.2.2.2.1 ≤ X.2.2.1 ∧ X.2.2.2.2.1 < 2147483648
def er_Cx (K : er_K) (l : Launch) (X : er_X) (cc : ByteArray) (own : String) (nL : Nat) (R : Room) : Prop :=
  ∃ (p : Program) (e : Env) (s : State) (m : MethodId) (args : Array Value) (below : List Frame) (meth : Method) (c : Code) (Q : State → Prop), K = (p, l, e, R, s, m, args, below, meth, c, Q, nL, X) ∧ p.tables.exec = Jvm.exec ∧ c.code = cc ∧ c.maxLocals = nL ∧ s.vm.findClass own = some m.cls ∧ (∀ w ∈ er_T, w.before args s = true) ∧ er_KK X s ∧ er_XX X s ∧ X.2.2.1 < s.heap.size
def er_In (K : er_K) : Prop := K.2.2.2.2.2.2.2.2.1.name = "<init>"
def er_Qc (X : er_X) (r : Option er_V) (T M : er_Me) : Array Value → State → Outcome → State → Prop := fun _ st oc t =>
  (oc = .returned (r.map (er_cv X)) ∧ (∀ v, r = some v → er_ok v) ∧ er_Rg T M ∧ t.heap.size = X.2.2.1 + 1 + (T 0 0).toNat ∧ va_P X.1 classes (er_ws X T M) t.heap) ∧ va_F (er_A X) st t
def er_Pw (X : er_X) (T M : er_Me) (U : State) : Prop := er_Rg T M ∧ U.heap.size = X.2.2.1 + 1 + (T 0 0).toNat ∧ va_P X.1 classes (er_ws X T M) U.heap ∧ er_KK X U ∧ er_XX X U
def er_Ct (l : Launch) (X : er_X) (y : MethodName) (cc : ByteArray) (maxL : Nat) (ret : Option FieldType) (rm : Room) (av : List er_V) (T M : er_Me) (r : Option er_V) (T' M' : er_Me) : Prop :=
  Met l y (.code y cc maxL ret :: er_T) rm (va_Pc (er_st X av) (er_Pw X T M)) (er_Qc X r T' M') rm.cells rm.slots (er_A X)
def er_Rt (K : er_K) (X : er_X) (cc : ByteArray) (ret : Option FieldType) (mc ms : Nat) (r : Option er_V) (T M : er_Me) : Prop :=
  ∃ (p : Program) (l : Launch) (e : Env) (R : Room) (s : State) (m : MethodId) (args : Array Value) (below : List Frame) (meth : Method) (c : Code) (nL : Nat), K = (p, l, e, R, s, m, args, below, meth, c, MQ below (er_Qc X r T M) args s mc ms (er_A X), nL, X) ∧ p.tables.exec = Jvm.exec ∧ c.code = cc ∧ meth.sig.returnType = ret ∧ meth.locks = false
def er_args : Nat → List er_V → List (Nat × er_V)
  | _, [] => []
  | i, v :: vs => (i, v) :: er_args (i + 1) vs
theorem er_argsI (X : er_X) : ∀ (vs : List er_V) (i : Nat), lv_args i (er_st X vs) = er_lv X (er_args i vs)
  | [], _ => rfl
  | v :: vs, i => by
    show (i, er_cv X v) :: lv_args (if (er_cv X v).category = 2 then i + 2 else i + 1) (er_st X vs) = (i, er_cv X v) :: er_lv X (er_args (i + 1) vs)
    rw [er_cat, if_neg (by decide), er_argsI X vs (i + 1)]
theorem er_argsO : ∀ (vs : List er_V) (i : Nat), (∀ v ∈ vs, er_ok v) → ∀ q ∈ er_args i vs, er_ok q.2
  | [], _, _, q, hq => by cases hq
  | v :: vs, i, h, q, hq => by
    rcases List.mem_cons.mp hq with e | e
    · rw [e]; exact h v List.mem_cons_self
    · exact er_argsO vs (i + 1) (fun w hw => h w (List.mem_cons_of_mem _ hw)) q e
theorem er_slI (X : er_X) : ∀ vs : List er_V, (lg_sl (er_st X vs)).length = vs.length
  | [] => rfl
  | v :: vs => by
    have h := er_slI X vs
    show ((if (er_cv X v).category = 2 then [Slot.val (er_cv X v), Slot.second] else [Slot.val (er_cv X v)]) ++ lg_sl (er_st X vs)).length = vs.length + 1
    rw [er_cat, if_neg (by decide), List.length_append, h]
    simp
    omega
theorem er_KK.warm {X : er_X} {s U : State} (hW : s.WarmedH U.vm) (h : er_KK X s) : er_KK X U := by
  refine ⟨va_K.moved hW.alike h.1, fun w hw => ?_, fun C hC => va_AO.moved hW.alike (h.2.2 C hC)⟩
  have h1 := h.2.1 w hw
  have h2 := List.all_eq_true.mp er_NsN w hw
  cases w <;> first | exact va_Nw.warmF hW h1 | exact va_Nw.warmM hW h1 | (exfalso; revert h2; simp [er_isN])
theorem er_KK.same {X : er_X} {s U : State} (hv : s.vm = U.vm) (h : er_KK X s) : er_KK X U := by
  refine ⟨va_K.moved (hv ▸ Vm.Alike.refl s.vm) h.1, fun w hw => ?_, fun C hC => va_AO.moved (hv ▸ Vm.Alike.refl s.vm) (h.2.2 C hC)⟩
  have h1 := h.2.1 w hw
  have h2 := List.all_eq_true.mp er_NsN w hw
  cases w <;> first | exact va_Nw.same rfl hv h1 | (exfalso; revert h2; simp [er_isN])
theorem er_XX.kept {X : er_X} {s U : State} {H : Heap} {locs : List Loc} (h : er_XX X s) (hlt : X.2.2.1 < s.heap.size) (hS : va_S (er_A X) s.heap H locs) (hU : U.heap = H) (hvm : s.vm.Alike U.vm) : er_XX X U := by
  refine ⟨?_, h.2⟩
  rw [hU]
  exact (h.1.kept (hS.2.1 _ (Nat.lt_of_le_of_lt h.2.1 hlt) (by show ¬ X.2.2.1 < _; have := h.2.1; omega))).moved hvm
theorem er_blind (X : er_X) (T M : er_Me) (av : List Value) : FrameBlind (va_Pc av (er_Pw X T M)) := by
  intro a U g mk q
  obtain ⟨q0, q1, q2, q3, q4, q5⟩ := q
  exact ⟨q0, q1, q2, q3, er_KK.same (s := U) (U := U.calling g mk a) rfl q4, va_X.moved (Vm.Alike.refl _) q5.1, q5.2⟩
set_option maxHeartbeats 1000000 in
/-- a contract out of a walk -/
theorem er_ct {l : Launch} {X : er_X} {y : MethodName} {cc : ByteArray} {maxL : Nat} {ret : Option FieldType} {rm : Room} {av : List er_V} {T M : er_Me} {r : Option er_V} {T' M' : er_Me} {own : String} (hy : plainName y.cls = true) (how : y.cls = own) (hav : av.length ≤ maxL) (hok : ∀ v ∈ av, er_ok v)
    (h : ∀ K : er_K, er_Cx K l X cc own maxL rm → er_Rt K X cc ret rm.cells rm.slots r T' M' → (y.name = "<init>" → er_In K) → er_G K 0 0 T M 0 (er_args 0 av) []) : er_Ct l X y cc maxL ret rm av T M r T' M' := by
  refine Met.ofW (cc := cc) (maxL := maxL) (ret := ret) hy rfl ?_
  intro p e s m args below meth c s₁ B hml hv
  obtain ⟨rfl, hg, hz, hP, hK, hX⟩ := hv
  subst how
  have hts := atoms_spec (ws := .code y cc maxL ret :: er_T) B.pre
  have hown : s.vm.findClass y.cls = some m.cls := findClass_of_methodNamed B.named
  rw [lg_entry_eq]
  refine h (p, l, e, rm, s, m, (er_st X av).toArray, below, meth, c, MQ below (er_Qc X r T' M') (er_st X av).toArray s rm.cells rm.slots (er_A X), maxL, X)
    ⟨p, e, s, m, _, below, meth, c, _, rfl, B.exec, B.bytes, hml, hown, fun w hw => hts w (List.mem_cons_of_mem _ hw), hK, hX, by omega⟩
    ⟨p, l, e, rm, s, m, _, below, meth, c, maxL, rfl, B.exec, B.bytes, B.returns, B.notSynchronized⟩ (fun hn => ((name_of_methodNamed B.named B.method).1).trans hn) s.heap [] _ ⟨hg, er_argsO av 0 hok, fun v hv => (by cases hv), hz, hP, va_S.rf, ?_⟩
  rw [← er_argsI]
  exact lv_entry (er_st X av) (by rw [er_slI]; exact hav)
theorem er_Z.st {X : er_X} {s : State} {nL : Nat} {T M : er_Me} {L : List (Nat × er_V)} {st st' : List er_V} {H : Heap} {locs : List Loc} {ls : Array Slot} (z : er_Z X s nL T M L st H locs ls) (h : ∀ v ∈ st', er_ok v) : er_Z X s nL T M L st' H locs ls := ⟨z.1, z.2.1, h, z.2.2.2⟩
theorem er_Z.a1 {X : er_X} {s : State} {nL : Nat} {T M : er_Me} {L : List (Nat × er_V)} {v : er_V} {st : List er_V} {H : Heap} {locs : List Loc} {ls : Array Slot} (z : er_Z X s nL T M L (v :: st) H locs ls) : er_ok v := z.2.2.1 v List.mem_cons_self
theorem er_Z.a2 {X : er_X} {s : State} {nL : Nat} {T M : er_Me} {L : List (Nat × er_V)} {v w : er_V} {st : List er_V} {H : Heap} {locs : List Loc} {ls : Array Slot} (z : er_Z X s nL T M L (v :: w :: st) H locs ls) : er_ok w := z.2.2.1 w (List.mem_cons_of_mem _ List.mem_cons_self)
theorem er_Z.p1 {X : er_X} {s : State} {nL : Nat} {T M : er_Me} {L : List (Nat × er_V)} {v : er_V} {st : List er_V} {H : Heap} {locs : List Loc} {ls : Array Slot} (z : er_Z X s nL T M L (v :: st) H locs ls) : er_Z X s nL T M L st H locs ls := z.st fun w hw => z.2.2.1 w (List.mem_cons_of_mem _ hw)
theorem er_Z.pu {X : er_X} {s : State} {nL : Nat} {T M : er_Me} {L : List (Nat × er_V)} {st : List er_V} {H : Heap} {locs : List Loc} {ls : Array Slot} (z : er_Z X s nL T M L st H locs ls) {v : er_V} (hv : er_ok v) : er_Z X s nL T M L (v :: st) H locs ls := z.st fun w hw => by
  rcases List.mem_cons.mp hw with e | e
  · rw [e]; exact hv
  · exact z.2.2.1 w e
theorem er_Z.lo {X : er_X} {s : State} {nL : Nat} {T M : er_Me} {L : List (Nat × er_V)} {st : List er_V} {H : Heap} {locs : List Loc} {ls : Array Slot} (z : er_Z X s nL T M L st H locs ls) {L' : List (Nat × er_V)} {ls' : Array Slot} (h : ∀ q ∈ L', er_ok q.2) (hl : lv_has ls' nL (er_lv X L')) : er_Z X s nL T M L' st H locs ls' := ⟨z.1, h, z.2.2.1, z.2.2.2.1, z.2.2.2.2.1, z.2.2.2.2.2.1, hl⟩
theorem er_lvA {X : er_X} {L : List (Nat × er_V)} {j k : Nat} {v : er_V} (h : L[j]? = some (k, v)) : (er_lv X L)[j]? = some (k, er_cv X v) := by
  rw [er_lv, List.getElem?_map, h]
  rfl
theorem er_lvF (X : er_X) (L : List (Nat × er_V)) (i : Nat) : (er_lv X L).filter (fun q => !(q.1 == i) && !(q.1 + 1 == i && q.2.category == 2)) = er_lv X (L.filter fun q => !(q.1 == i)) := by
  induction L with
  | nil => rfl
  | cons q L ih =>
    have e : ((q.1 == i) : Bool) = true ∨ (q.1 == i) = false := by cases (q.1 == i) <;> simp
    unfold er_lv at ih ⊢
    rw [List.map_cons, List.filter_cons, List.filter_cons, ih]
    simp only [er_cat]
    rcases e with e | e <;> simp [e]
theorem er_okS {L : List (Nat × er_V)} {i : Nat} {v : er_V} (h : ∀ q ∈ L, er_ok q.2) (hv : er_ok v) : ∀ q ∈ (i, v) :: L.filter (fun q => !(q.1 == i)), er_ok q.2 := by
  intro q hq
  rcases List.mem_cons.mp hq with e | e
  · rw [e]; exact hv
  · exact h q (List.mem_filter.mp e).1
theorem er_sum (X : er_X) : ∀ st : List er_V, ((er_st X st).map fun v => v.category).sum = st.length
  | [] => rfl
  | v :: st => by
    have h := er_sum X st
    show (er_cv X v).category + ((er_st X st).map fun v => v.category).sum = st.length + 1
    rw [h, er_cat]
    omega
