/-! calls: the callee takes the whole memory -/
def er_My (own : String) (index : Nat) (y : MethodName) (cc : ByteArray) (maxL : Nat) (ret : Option FieldType) (n : Nat) (nest : Bool) : Prop := Cond.code y cc maxL ret ∈ er_T ∧ Cond.initialized y.cls ∈ er_T ∧ ((nest = false ∧ Cond.methodLink own index y ∈ er_T) ∨ (nest = true ∧ ∃ host, Cond.methodLinkNest own index y host ∈ er_Ns)) ∧ (y.cls ≠ "java/lang/invoke/MethodHandle" ∧ y.cls ≠ "java/lang/invoke/VarHandle" ∧ (parseMethodDescriptor y.desc).map (fun d => d.parameters.length) = some n)
def er_MV (own : String) (index : Nat) (y : MethodName) (cc : ByteArray) (maxL : Nat) (ret : Option FieldType) (n : Nat) (nest : Bool) (kd : Int) : Prop := er_My own index y cc maxL ret n nest ∧ Cond.instanceMethod y ∈ er_T ∧ ∃ (ci : Nat) (q : vw_C), classes[ci]? = some q ∧ (kd = (ci : Int) + 1 ∧ ci < 100) ∧ Cond.selects q.1 y y ∈ er_T
def er_MI (own : String) (index : Nat) (y : MethodName) (cc : ByteArray) (maxL : Nat) (n : Nat) (nest : Bool) : Prop := er_My own index y cc maxL none n nest ∧ y.name = "<init>" ∧ Cond.instanceMethod y ∈ er_T
def er_MS (own : String) (index : Nat) (y : MethodName) (cc : ByteArray) (maxL : Nat) (ret : Option FieldType) (n : Nat) (nest : Bool) : Prop := er_My own index y cc maxL ret n nest ∧ Cond.static y ∈ er_T
theorem er_goodC {y : MethodName} {cc : ByteArray} {maxL : Nat} {ret : Option FieldType} (h : Cond.code y cc maxL ret ∈ er_T) : GoodIn er_T (.code y cc maxL ret :: er_T) := by
  intro w hw
  rcases List.mem_cons.mp hw with e | e
  · rw [e]; exact er_good _ h
  · exact er_good _ e
theorem er_okA {st0 As st : List er_V} {b : Int} (h : ∀ v ∈ st0, er_ok v) (hs : st0 = As.reverse ++ .inr b :: st) : ∀ v ∈ (Sum.inr b :: As : List er_V), er_ok v := by
  intro v hv
  rcases List.mem_cons.mp hv with e | e
  · rw [e]; trivial
  · exact h v (by rw [hs]; exact List.mem_append_left _ (List.mem_reverse.mpr e))
section ERC
variable {l : Launch} {X : er_X} {cc : ByteArray} {own : String} {nL : Nat} {R : Room} {cells slots pc : Nat} {T M : er_Me} {L : List (Nat × er_V)} {st : List er_V}
theorem er_run {p : Program} {e : Env} {s : State} {m : MethodId} {args : Array Value} {below : List Frame} {meth : Method} {c : Code} {Q : State → Prop} {H : Heap} {locs : List Loc} {ls : Array Slot} {st0 : List er_V} {mc ms : Nat} {r : Option er_V} {T' M' : er_Me} {av : Array Value} (hr : va_Run p l e R s m args below meth c H locs cells slots mc ms (F0 m pc ls (er_st X st0)) (er_st X st) (er_Qc X r T' M' av) (er_A X)) (z : er_Z X s nL T M L st0 H locs ls) (hst : ∀ v ∈ st, er_ok v)
    (kk : er_G (p, l, e, R, s, m, args, below, meth, c, Q, nL, X) (cells + mc) (slots + ms) T' M' (pc + 3) L (r.toList ++ st)) : W p l e R s m args below meth c H locs cells slots Q (F0 m pc ls (er_st X st0)) := by
  intro U hU XS
  obtain ⟨v, st₀, t, U', LL, h0, X', hL, e1, e2, ⟨⟨hv, hok, hg, hz, hP⟩, hz2, hk⟩, stp⟩ := hr U hU XS
  have hv2 : v = r.map (er_cv X) := Outcome.returned.inj hv
  subst hv2
  rw [h0] at hz2 hk
  have hS := z.2.2.2.2.2.1
  have h1 : ∀ w ∈ r.toList ++ st, er_ok w := by
    intro w hw
    rcases List.mem_append.mp hw with h | h
    · cases r with
      | none => cases h
      | some x => rw [List.mem_singleton.mp h]; exact hok x rfl
    · exact hst w h
  have h2 : ∀ q ∈ locs ++ LL, er_A X q.base := by
    intro q hq
    rcases List.mem_append.mp hq with h | h
    · exact hS.2.2 q h
    · exact hL q h
  obtain ⟨t2, a1, b1⟩ := kk U'.heap (locs ++ LL) ls ⟨hg, z.2.1, h1, by rw [e1]; exact hz, by rw [e1]; exact hP, ⟨Nat.le_trans hS.1 (by rw [e1]; exact hz2), fun q h1 h2 => by rw [e1, hk q (Nat.lt_of_lt_of_le h1 hS.1) h2]; exact hS.2.1 q h1 h2, h2⟩, z.2.2.2.2.2.2⟩ U' rfl X'
  have es : er_st X (r.toList ++ st) = (r.map (er_cv X)).toList ++ er_st X st := by cases r <;> rfl
  rw [es] at a1
  exact ⟨t2, stp t2 a1, b1⟩
variable {K : er_K} {index n maxL : Nat} {y : MethodName} {cd : ByteArray} {ret : Option FieldType} {rm : Room} {nest : Bool} {As : List er_V} {r : Option er_V} {T' M' : er_Me} {st0 : List er_V}
theorem er_callV (cx : er_Cx K l X cc own nL R) {b kd : Int} (hM : (∀ v ∈ (Sum.inr b :: As : List er_V), er_ok v) → er_Ct l X y cd maxL ret rm (.inr b :: As) T M r T' M') (hm : er_MV own index y cd maxL ret n nest kd) (hk : T b (-2) = kd) (hR : rm.frames + 1 ≤ R.frames ∧ 8 + (maxL + 11) + rm.locals ≤ R.locals) (hn : As.length = n) (hst : st.length ≤ 8) (hd : decode cc pc = .ok (.invokevirtual index, 3)) (hf : cells + rm.cells ≤ R.cells ∧ slots + rm.slots ≤ R.slots) (hs : st0 = As.reverse ++ .inr b :: st)
    (kk : er_G K (cells + rm.cells) (slots + rm.slots) T' M' (pc + 3) L (r.toList ++ st)) : er_G K cells slots T M pc L st0 := by
  obtain ⟨p, e, s, m, args, below, meth, c, Q, rfl, hx, hb, hml, hown, hts, hKK, hXX, hbs⟩ := cx
  intro H locs ls z
  obtain ⟨⟨hc, hini, hlk, hy⟩, hi, ci, q, hcl, hkd, hsel⟩ := hm
  have hM := hM (er_okA z.2.2.1 hs)
  have he := er_at (X := X) z.1 (a := b) (by omega)
  rw [er_cellO (hk.trans hkd.1) hkd.2] at he
  have hstk : er_st X st0 = (er_st X As).reverse ++ .ref (er_ad X b) :: er_st X st := by
    rw [hs]
    simp [er_st, er_cv]
  have hpre : PreV s H q.1 (er_ad X b) (va_Pc (er_st X (.inr b :: As)) (er_Pw X T M)) (er_st X As) := ⟨er_blind X T M _, va_recv hKK.1 z.2.2.2.2.1 hcl he, fun U hU hW => ⟨rfl, z.1, by rw [hU]; exact z.2.2.2.1, by rw [hU]; exact z.2.2.2.2.1, hKK.warm hW, hXX.kept hbs z.2.2.2.2.2.1 hU hW.alike⟩⟩
  have hsum : 2 * (F0 m pc ls (er_st X st0)).monitorRoom + ((er_st X st).map fun v => v.category).sum ≤ 8 := lv_room (by rw [er_sum]; exact hst)
  have hokst : ∀ v ∈ st, er_ok v := fun v hv => z.2.2.1 v (by rw [hs]; exact List.mem_append_right _ (List.mem_cons_of_mem _ hv))
  have hlen : (er_st X As).length = n := by rw [← hn]; simp [er_st]
  rcases hlk with ⟨-, h⟩ | ⟨-, host, h⟩
  · exact er_run (va_runV (As := er_st X As) (rest := er_st X st) ⟨hx, hb, hml, hown, hts⟩ hM ⟨callB_of n hts (er_goodC hc) rfl rfl rfl (hts _ hini) (hts _ h) hy hR, hts _ hi, hts _ hsel⟩ hpre rfl hlen z.2.2.2.2.2.2.1 hstk hsum hd hf) z hokst kk
  · exact er_run (va_runVN (As := er_st X As) (rest := er_st X st) ⟨hx, hb, hml, hown, hts⟩ hM ⟨va_cnB n hts (er_goodC hc) rfl rfl rfl (hKK.2.1 _ h) (hts _ hini) hy hR, hts _ hi, hts _ hsel⟩ hpre rfl hlen z.2.2.2.2.2.2.1 hstk hsum hd hf) z hokst kk
theorem er_callI (cx : er_Cx K l X cc own nL R) {b : Int} (hM : (∀ v ∈ (Sum.inr b :: As : List er_V), er_ok v) → er_Ct l X y cd maxL none rm (.inr b :: As) T M r T' M') (hm : er_MI own index y cd maxL n nest) (hR : rm.frames + 1 ≤ R.frames ∧ 8 + (maxL + 11) + rm.locals ≤ R.locals) (hn : As.length = n) (hst : st.length ≤ 8) (hd : decode cc pc = .ok (.invokespecial index, 3)) (hf : cells + rm.cells ≤ R.cells ∧ slots + rm.slots ≤ R.slots) (hs : st0 = As.reverse ++ .inr b :: st)
    (kk : er_G K (cells + rm.cells) (slots + rm.slots) T' M' (pc + 3) L (r.toList ++ st)) : er_G K cells slots T M pc L st0 := by
  obtain ⟨p, e, s, m, args, below, meth, c, Q, rfl, hx, hb, hml, hown, hts, hKK, hXX, hbs⟩ := cx
  intro H locs ls z
  obtain ⟨⟨hc, hini, hlk, hy⟩, hy1, hi⟩ := hm
  have hM := hM (er_okA z.2.2.1 hs)
  have hstk : er_st X st0 = (er_st X As).reverse ++ .ref (er_ad X b) :: er_st X st := by
    rw [hs]
    simp [er_st, er_cv]
  have hpre : PreS s H (va_Pc (er_st X (.inr b :: As)) (er_Pw X T M)) (.ref (er_ad X b) :: er_st X As) := ⟨er_blind X T M _, fun U hU hW => ⟨rfl, z.1, by rw [hU]; exact z.2.2.2.1, by rw [hU]; exact z.2.2.2.2.1, hKK.warm hW, hXX.kept hbs z.2.2.2.2.2.1 hU hW.alike⟩⟩
  have hsum : 2 * (F0 m pc ls (er_st X st0)).monitorRoom + ((er_st X st).map fun v => v.category).sum ≤ 8 := lv_room (by rw [er_sum]; exact hst)
  have hokst : ∀ v ∈ st, er_ok v := fun v hv => z.2.2.1 v (by rw [hs]; exact List.mem_append_right _ (List.mem_cons_of_mem _ hv))
  have hlen : (er_st X As).length = n := by rw [← hn]; simp [er_st]
  rcases hlk with ⟨-, h⟩ | ⟨-, host, h⟩
  · exact er_run (va_runI (As := er_st X As) (rest := er_st X st) ⟨hx, hb, hml, hown, hts⟩ hM ⟨callB_of n hts (er_goodC hc) rfl rfl rfl (hts _ hini) (hts _ h) hy hR, hy1, hts _ hi⟩ hpre rfl hlen z.2.2.2.2.2.2.1 hstk hsum hd hf) z hokst kk
  · exact er_run (va_runIN (As := er_st X As) (rest := er_st X st) ⟨hx, hb, hml, hown, hts⟩ hM ⟨va_cnB n hts (er_goodC hc) rfl rfl rfl (hKK.2.1 _ h) (hts _ hini) hy hR, hy1, hts _ hi⟩ hpre rfl hlen z.2.2.2.2.2.2.1 hstk hsum hd hf) z hokst kk
theorem er_callS (cx : er_Cx K l X cc own nL R) (hM : (∀ v ∈ As, er_ok v) → er_Ct l X y cd maxL ret rm As T M r T' M') (hm : er_MS own index y cd maxL ret n nest) (hR : rm.frames + 1 ≤ R.frames ∧ 8 + (maxL + 11) + rm.locals ≤ R.locals) (hn : As.length = n) (hst : st.length ≤ 8) (hd : decode cc pc = .ok (.invokestatic index, 3)) (hf : cells + rm.cells ≤ R.cells ∧ slots + rm.slots ≤ R.slots) (hs : st0 = As.reverse ++ st)
    (kk : er_G K (cells + rm.cells) (slots + rm.slots) T' M' (pc + 3) L (r.toList ++ st)) : er_G K cells slots T M pc L st0 := by
  obtain ⟨p, e, s, m, args, below, meth, c, Q, rfl, hx, hb, hml, hown, hts, hKK, hXX, hbs⟩ := cx
  intro H locs ls z
  obtain ⟨⟨hc, hini, hlk, hy⟩, hi⟩ := hm
  have hM := hM (fun v h => z.2.2.1 v (by rw [hs]; exact List.mem_append_left _ (List.mem_reverse.mpr h)))
  have hstk : er_st X st0 = (er_st X As).reverse ++ er_st X st := by
    rw [hs]
    simp [er_st]
  have hpre : PreS s H (va_Pc (er_st X As) (er_Pw X T M)) (er_st X As) := ⟨er_blind X T M _, fun U hU hW => ⟨rfl, z.1, by rw [hU]; exact z.2.2.2.1, by rw [hU]; exact z.2.2.2.2.1, hKK.warm hW, hXX.kept hbs z.2.2.2.2.2.1 hU hW.alike⟩⟩
  have hsum : 2 * (F0 m pc ls (er_st X st0)).monitorRoom + ((er_st X st).map fun v => v.category).sum ≤ 8 := lv_room (by rw [er_sum]; exact hst)
  have hokst : ∀ v ∈ st, er_ok v := fun v hv => z.2.2.1 v (by rw [hs]; exact List.mem_append_right _ hv)
  have hlen : (er_st X As).length = n := by rw [← hn]; simp [er_st]
  rcases hlk with ⟨-, h⟩ | ⟨-, host, h⟩
  · exact er_run (va_runS (As := er_st X As) (rest := er_st X st) ⟨hx, hb, hml, hown, hts⟩ hM ⟨callB_of n hts (er_goodC hc) rfl rfl rfl (hts _ hini) (hts _ h) hy hR, hts _ hi⟩ hpre rfl hlen z.2.2.2.2.2.2.1 hstk hsum hd hf) z hokst kk
  · exact er_run (va_runSN (As := er_st X As) (rest := er_st X st) ⟨hx, hb, hml, hown, hts⟩ hM ⟨va_cnB n hts (er_goodC hc) rfl rfl rfl (hKK.2.1 _ h) (hts _ hini) hy hR, hts _ hi, trivial⟩ hpre rfl hlen z.2.2.2.2.2.2.1 hstk hsum hd hf) z hokst kk
theorem er_tin (cx : er_Cx K l X cc own nL R) {dflt lo hi off x : Int} {offs : Array Int} {len tgt : Nat} (hd : decode cc pc = .ok (.tableswitch dflt lo hi offs, len)) (h1 : ¬ x < lo) (h2 : ¬ hi < x) (ho : offs[(x - lo).toNat]? = some off) (ht : (pc : Int) + off = (tgt : Int)) (kk : er_G K cells slots T M tgt L st) : er_G K cells slots T M pc L (.inl x :: st) := by
  obtain ⟨p, e, s, m, args, below, meth, c, Q, rfl, hx, hb, hml, hown, hts, hKK, hXX, hbs⟩ := cx
  intro H locs ls z
  have hw := er_wI z.a1
  exact lv_tableIn hx hb hd (by rw [hw]; exact h1) (by rw [hw]; exact h2) (by rw [hw]; exact ho) ht (kk H locs ls z.p1)
theorem er_tout (cx : er_Cx K l X cc own nL R) {dflt lo hi x : Int} {offs : Array Int} {len tgt : Nat} (hd : decode cc pc = .ok (.tableswitch dflt lo hi offs, len)) (h : x < lo ∨ hi < x) (ht : (pc : Int) + dflt = (tgt : Int)) (kk : er_G K cells slots T M tgt L st) : er_G K cells slots T M pc L (.inl x :: st) := by
  obtain ⟨p, e, s, m, args, below, meth, c, Q, rfl, hx, hb, hml, hown, hts, hKK, hXX, hbs⟩ := cx
  intro H locs ls z
  have hw := er_wI z.a1
  exact lv_tableOut hx hb hd (by rw [hw]; exact h) ht (kk H locs ls z.p1)
end ERC
/-! what a body's text says, piece by piece -/
theorem er_ck {α : Type} {c : Prop} [Decidable c] {k : Option α} {r : α} (h : (if c then k else none) = some r) : c ∧ k = some r := by
  by_cases hc : c
  · rw [if_pos hc] at h; exact ⟨hc, h⟩
  · rw [if_neg hc] at h; cases h
theorem er_bd {α β : Type} {o : Option α} {k : α → Option β} {r : β} (h : o.bind k = some r) : ∃ x, o = some x ∧ k x = some r := Option.bind_eq_some_iff.mp h
def er_le {α β : Type} (x : α) (k : α → Option β) : Option β := k x
theorem er_lel {α β : Type} {x : α} {k : α → Option β} {r : β} (h : er_le x k = some r) : ∃ y, x = y ∧ k y = some r := ⟨x, rfl, h⟩
theorem er_ift {α : Type} {c : Prop} [Decidable c] {a b : Option α} {r : α} (h : (if c then a else b) = some r) (hc : c) : a = some r := by rw [if_pos hc] at h; exact h
theorem er_iff {α : Type} {c : Prop} [Decidable c] {a b : Option α} {r : α} (h : (if c then a else b) = some r) (hc : ¬ c) : b = some r := by rw [if_neg hc] at h; exact h
