section ERO
variable {K : er_K} {l : Launch} {X : er_X} {cc : ByteArray} {own : String} {nL : Nat} {R : Room} {cells slots pc : Nat} {T M : er_Me} {L : List (Nat × er_V)} {st : List er_V}
theorem er_iconst (cx : er_Cx K l X cc own nL R) {n v : Int} (hd : decode cc pc = .ok (.iconst n, 1)) (hv : Int32.ofInt n = Int32.ofInt v) (hr : er_rg v) (kk : er_G K cells slots T M (pc + 1) L (.inl v :: st)) : er_G K cells slots T M pc L st := by
  obtain ⟨p, e, s, m, args, below, meth, c, Q, rfl, hx, hb, hml, hown, hts, hKK, hXX, hbs⟩ := cx
  intro H locs ls z
  exact lv_iconst hx hb hd hv (kk H locs ls (z.pu hr))
theorem er_bipush (cx : er_Cx K l X cc own nL R) {n v : Int} (hd : decode cc pc = .ok (.bipush n, 2)) (hv : (Int8.ofInt n).toInt32 = Int32.ofInt v) (hr : er_rg v) (kk : er_G K cells slots T M (pc + 2) L (.inl v :: st)) : er_G K cells slots T M pc L st := by
  obtain ⟨p, e, s, m, args, below, meth, c, Q, rfl, hx, hb, hml, hown, hts, hKK, hXX, hbs⟩ := cx
  intro H locs ls z
  exact lv_bipush hx hb hd hv (kk H locs ls (z.pu hr))
theorem er_sipush (cx : er_Cx K l X cc own nL R) {n v : Int} (hd : decode cc pc = .ok (.sipush n, 3)) (hv : (Int16.ofInt n).toInt32 = Int32.ofInt v) (hr : er_rg v) (kk : er_G K cells slots T M (pc + 3) L (.inl v :: st)) : er_G K cells slots T M pc L st := by
  obtain ⟨p, e, s, m, args, below, meth, c, Q, rfl, hx, hb, hml, hown, hts, hKK, hXX, hbs⟩ := cx
  intro H locs ls z
  exact lv_sipush hx hb hd hv (kk H locs ls (z.pu hr))
theorem er_iload_n (cx : er_Cx K l X cc own nL R) {k : Fin 4} {x : Int} (hd : decode cc pc = .ok (.iload_n k, 1)) (j : Nat) (hj : L[j]? = some ((k : Nat), .inl x)) (kk : er_G K cells slots T M (pc + 1) L (.inl x :: st)) : er_G K cells slots T M pc L st := by
  obtain ⟨p, e, s, m, args, below, meth, c, Q, rfl, hx, hb, hml, hown, hts, hKK, hXX, hbs⟩ := cx
  intro H locs ls z
  exact lv_iload_n hx hb hd rfl (lv_at z.2.2.2.2.2.2 j (er_lvA hj)) (kk H locs ls (z.pu (z.2.1 _ (List.mem_of_getElem? hj))))
theorem er_iload (cx : er_Cx K l X cc own nL R) {i : Nat} {x : Int} (hd : decode cc pc = .ok (.iload i, 2)) (j : Nat) (hj : L[j]? = some (i, .inl x)) (kk : er_G K cells slots T M (pc + 2) L (.inl x :: st)) : er_G K cells slots T M pc L st := by
  obtain ⟨p, e, s, m, args, below, meth, c, Q, rfl, hx, hb, hml, hown, hts, hKK, hXX, hbs⟩ := cx
  intro H locs ls z
  exact lv_iload hx hb hd (lv_at z.2.2.2.2.2.2 j (er_lvA hj)) (kk H locs ls (z.pu (z.2.1 _ (List.mem_of_getElem? hj))))
theorem er_aload_n (cx : er_Cx K l X cc own nL R) {k : Fin 4} {x : Int} (hd : decode cc pc = .ok (.aload_n k, 1)) (j : Nat) (hj : L[j]? = some ((k : Nat), .inr x)) (kk : er_G K cells slots T M (pc + 1) L (.inr x :: st)) : er_G K cells slots T M pc L st := by
  obtain ⟨p, e, s, m, args, below, meth, c, Q, rfl, hx, hb, hml, hown, hts, hKK, hXX, hbs⟩ := cx
  intro H locs ls z
  exact lv_aload_n hx hb hd rfl (lv_at z.2.2.2.2.2.2 j (er_lvA hj)) (kk H locs ls (z.pu (z.2.1 _ (List.mem_of_getElem? hj))))
theorem er_aload (cx : er_Cx K l X cc own nL R) {i : Nat} {x : Int} (hd : decode cc pc = .ok (.aload i, 2)) (j : Nat) (hj : L[j]? = some (i, .inr x)) (kk : er_G K cells slots T M (pc + 2) L (.inr x :: st)) : er_G K cells slots T M pc L st := by
  obtain ⟨p, e, s, m, args, below, meth, c, Q, rfl, hx, hb, hml, hown, hts, hKK, hXX, hbs⟩ := cx
  intro H locs ls z
  exact lv_aload hx hb hd (lv_at z.2.2.2.2.2.2 j (er_lvA hj)) (kk H locs ls (z.pu (z.2.1 _ (List.mem_of_getElem? hj))))
theorem er_istore_n (cx : er_Cx K l X cc own nL R) {k : Fin 4} {i : Nat} {x : Int} {L' : List (Nat × er_V)} (hd : decode cc pc = .ok (.istore_n k, 1)) (hi : (k : Nat) = i) (hn : i < nL) (hL : ((i, Sum.inl x) :: L.filter fun q => !(q.1 == i)) = L') (kk : er_G K cells slots T M (pc + 1) L' st) : er_G K cells slots T M pc L (.inl x :: st) := by
  obtain ⟨p, e, s, m, args, below, meth, c, Q, rfl, hx, hb, hml, hown, hts, hKK, hXX, hbs⟩ := cx
  intro H locs ls z
  subst hL
  refine lv_istore_n hx hb hd hi z.2.2.2.2.2.2 hn rfl (fun ls' h' => kk H locs ls' (z.p1.lo (er_okS z.2.1 z.a1) ?_))
  rw [er_lvF] at h'
  exact h'
theorem er_istore (cx : er_Cx K l X cc own nL R) {i : Nat} {x : Int} {L' : List (Nat × er_V)} (hd : decode cc pc = .ok (.istore i, 2)) (hn : i < nL) (hL : ((i, Sum.inl x) :: L.filter fun q => !(q.1 == i)) = L') (kk : er_G K cells slots T M (pc + 2) L' st) : er_G K cells slots T M pc L (.inl x :: st) := by
  obtain ⟨p, e, s, m, args, below, meth, c, Q, rfl, hx, hb, hml, hown, hts, hKK, hXX, hbs⟩ := cx
  intro H locs ls z
  subst hL
  refine lv_istore hx hb hd z.2.2.2.2.2.2 hn rfl (fun ls' h' => kk H locs ls' (z.p1.lo (er_okS z.2.1 z.a1) ?_))
  rw [er_lvF] at h'
  exact h'
theorem er_astore_n (cx : er_Cx K l X cc own nL R) {k : Fin 4} {i : Nat} {x : Int} {L' : List (Nat × er_V)} (hd : decode cc pc = .ok (.astore_n k, 1)) (hi : (k : Nat) = i) (hn : i < nL) (hL : ((i, Sum.inr x) :: L.filter fun q => !(q.1 == i)) = L') (kk : er_G K cells slots T M (pc + 1) L' st) : er_G K cells slots T M pc L (.inr x :: st) := by
  obtain ⟨p, e, s, m, args, below, meth, c, Q, rfl, hx, hb, hml, hown, hts, hKK, hXX, hbs⟩ := cx
  intro H locs ls z
  subst hL
  refine lv_astore_n hx hb hd hi z.2.2.2.2.2.2 hn rfl (fun ls' h' => kk H locs ls' (z.p1.lo (er_okS z.2.1 z.a1) ?_))
  rw [er_lvF] at h'
  exact h'
theorem er_astore (cx : er_Cx K l X cc own nL R) {i : Nat} {x : Int} {L' : List (Nat × er_V)} (hd : decode cc pc = .ok (.astore i, 2)) (hn : i < nL) (hL : ((i, Sum.inr x) :: L.filter fun q => !(q.1 == i)) = L') (kk : er_G K cells slots T M (pc + 2) L' st) : er_G K cells slots T M pc L (.inr x :: st) := by
  obtain ⟨p, e, s, m, args, below, meth, c, Q, rfl, hx, hb, hml, hown, hts, hKK, hXX, hbs⟩ := cx
  intro H locs ls z
  subst hL
  refine lv_astore hx hb hd z.2.2.2.2.2.2 hn rfl (fun ls' h' => kk H locs ls' (z.p1.lo (er_okS z.2.1 z.a1) ?_))
  rw [er_lvF] at h'
  exact h'
theorem er_iinc (cx : er_Cx K l X cc own nL R) {i k : Nat} {n x x1 : Int} {L' : List (Nat × er_V)} (hd : decode cc pc = .ok (.iinc i n, 3)) (hk : L[k]? = some (i, .inl x)) (hn : i < nL) (hx1 : er_add x n = x1) (hL : ((i, Sum.inl x1) :: L.filter fun q => !(q.1 == i)) = L') (kk : er_G K cells slots T M (pc + 3) L' st) : er_G K cells slots T M pc L st := by
  obtain ⟨p, e, s, m, args, below, meth, c, Q, rfl, hx, hb, hml, hown, hts, hKK, hXX, hbs⟩ := cx
  intro H locs ls z
  subst hx1
  subst hL
  refine lv_iinc (k := k) (v := Int32.ofInt x + Int32.ofInt n) hx hb hd z.2.2.2.2.2.2 (er_lvA hk) rfl hn rfl (fun ls' h' => kk H locs ls' (z.lo (er_okS z.2.1 (er_rgI _)) ?_))
  rw [er_lvF, ← er_cvI (X := X)] at h'
  exact h'
theorem er_iadd (cx : er_Cx K l X cc own nL R) {x y : Int} (hd : decode cc pc = .ok (.iadd, 1)) (kk : er_G K cells slots T M (pc + 1) L (.inl (er_add x y) :: st)) : er_G K cells slots T M pc L (.inl y :: .inl x :: st) := by
  obtain ⟨p, e, s, m, args, below, meth, c, Q, rfl, hx, hb, hml, hown, hts, hKK, hXX, hbs⟩ := cx
  intro H locs ls z
  have k := kk H locs ls (z.p1.p1.pu (er_rgI _))
  have ev : er_st X (.inl (er_add x y) :: st) = .int (Int32.ofInt x + Int32.ofInt y) :: er_st X st := congrArg (· :: er_st X st) (er_cvI _)
  rw [ev] at k
  exact lv_iadd hx hb hd k
theorem er_isub (cx : er_Cx K l X cc own nL R) {x y : Int} (hd : decode cc pc = .ok (.isub, 1)) (kk : er_G K cells slots T M (pc + 1) L (.inl (er_sub x y) :: st)) : er_G K cells slots T M pc L (.inl y :: .inl x :: st) := by
  obtain ⟨p, e, s, m, args, below, meth, c, Q, rfl, hx, hb, hml, hown, hts, hKK, hXX, hbs⟩ := cx
  intro H locs ls z
  have k := kk H locs ls (z.p1.p1.pu (er_rgI _))
  have ev : er_st X (.inl (er_sub x y) :: st) = .int (Int32.ofInt x - Int32.ofInt y) :: er_st X st := congrArg (· :: er_st X st) (er_cvI _)
  rw [ev] at k
  exact lv_isub hx hb hd k
theorem er_imul (cx : er_Cx K l X cc own nL R) {x y : Int} (hd : decode cc pc = .ok (.imul, 1)) (kk : er_G K cells slots T M (pc + 1) L (.inl (er_mul x y) :: st)) : er_G K cells slots T M pc L (.inl y :: .inl x :: st) := by
  obtain ⟨p, e, s, m, args, below, meth, c, Q, rfl, hx, hb, hml, hown, hts, hKK, hXX, hbs⟩ := cx
  intro H locs ls z
  have k := kk H locs ls (z.p1.p1.pu (er_rgI _))
  have ev : er_st X (.inl (er_mul x y) :: st) = .int (Int32.ofInt x * Int32.ofInt y) :: er_st X st := congrArg (· :: er_st X st) (er_cvI _)
  rw [ev] at k
  exact lv_imul hx hb hd k
theorem er_iand (cx : er_Cx K l X cc own nL R) {x y : Int} (hd : decode cc pc = .ok (.iand, 1)) (kk : er_G K cells slots T M (pc + 1) L (.inl (er_and x y) :: st)) : er_G K cells slots T M pc L (.inl y :: .inl x :: st) := by
  obtain ⟨p, e, s, m, args, below, meth, c, Q, rfl, hx, hb, hml, hown, hts, hKK, hXX, hbs⟩ := cx
  intro H locs ls z
  have k := kk H locs ls (z.p1.p1.pu (er_rgI _))
  have ev : er_st X (.inl (er_and x y) :: st) = .int (Int32.ofInt x &&& Int32.ofInt y) :: er_st X st := congrArg (· :: er_st X st) (er_cvI _)
  rw [ev] at k
  exact lv_iand hx hb hd k
theorem er_ior (cx : er_Cx K l X cc own nL R) {x y : Int} (hd : decode cc pc = .ok (.ior, 1)) (kk : er_G K cells slots T M (pc + 1) L (.inl (er_or x y) :: st)) : er_G K cells slots T M pc L (.inl y :: .inl x :: st) := by
  obtain ⟨p, e, s, m, args, below, meth, c, Q, rfl, hx, hb, hml, hown, hts, hKK, hXX, hbs⟩ := cx
  intro H locs ls z
  have k := kk H locs ls (z.p1.p1.pu (er_rgI _))
  have ev : er_st X (.inl (er_or x y) :: st) = .int (Int32.ofInt x ||| Int32.ofInt y) :: er_st X st := congrArg (· :: er_st X st) (er_cvI _)
  rw [ev] at k
  exact lv_ior hx hb hd k
theorem er_ishl (cx : er_Cx K l X cc own nL R) {x y : Int} (hd : decode cc pc = .ok (.ishl, 1)) (kk : er_G K cells slots T M (pc + 1) L (.inl (er_shl x y) :: st)) : er_G K cells slots T M pc L (.inl y :: .inl x :: st) := by
  obtain ⟨p, e, s, m, args, below, meth, c, Q, rfl, hx, hb, hml, hown, hts, hKK, hXX, hbs⟩ := cx
  intro H locs ls z
  have k := kk H locs ls (z.p1.p1.pu (er_rgI _))
  have ev : er_st X (.inl (er_shl x y) :: st) = .int (Int32.ofInt x <<< (Int32.ofInt y &&& 31)) :: er_st X st := congrArg (· :: er_st X st) (er_cvI _)
  rw [ev] at k
  exact lv_ishl hx hb hd k
theorem er_ishr (cx : er_Cx K l X cc own nL R) {x y : Int} (hd : decode cc pc = .ok (.ishr, 1)) (kk : er_G K cells slots T M (pc + 1) L (.inl (er_shr x y) :: st)) : er_G K cells slots T M pc L (.inl y :: .inl x :: st) := by
  obtain ⟨p, e, s, m, args, below, meth, c, Q, rfl, hx, hb, hml, hown, hts, hKK, hXX, hbs⟩ := cx
  intro H locs ls z
  have k := kk H locs ls (z.p1.p1.pu (er_rgI _))
  have ev : er_st X (.inl (er_shr x y) :: st) = .int (Int32.ofInt x >>> (Int32.ofInt y &&& 31)) :: er_st X st := congrArg (· :: er_st X st) (er_cvI _)
  rw [ev] at k
  exact lv_ishr hx hb hd k
theorem er_idiv (cx : er_Cx K l X cc own nL R) {x y : Int} (hd : decode cc pc = .ok (.idiv, 1)) (hne : y ≠ 0) (kk : er_G K cells slots T M (pc + 1) L (.inl (er_div x y) :: st)) : er_G K cells slots T M pc L (.inl y :: .inl x :: st) := by
  obtain ⟨p, e, s, m, args, below, meth, c, Q, rfl, hx, hb, hml, hown, hts, hKK, hXX, hbs⟩ := cx
  intro H locs ls z
  have k := kk H locs ls (z.p1.p1.pu (er_rgI _))
  have ev : er_st X (.inl (er_div x y) :: st) = .int (Int32.ofInt x / Int32.ofInt y) :: er_st X st := congrArg (· :: er_st X st) (er_cvI _)
  rw [ev] at k
  exact lv_idiv hx hb hd (fun q => hne ((er_eqI z.a1 er_rg0).mp (q.trans er_i0.symm))) k
theorem er_irem (cx : er_Cx K l X cc own nL R) {x y : Int} (hd : decode cc pc = .ok (.irem, 1)) (hne : y ≠ 0) (kk : er_G K cells slots T M (pc + 1) L (.inl (er_rem x y) :: st)) : er_G K cells slots T M pc L (.inl y :: .inl x :: st) := by
  obtain ⟨p, e, s, m, args, below, meth, c, Q, rfl, hx, hb, hml, hown, hts, hKK, hXX, hbs⟩ := cx
  intro H locs ls z
  have k := kk H locs ls (z.p1.p1.pu (er_rgI _))
  have ev : er_st X (.inl (er_rem x y) :: st) = .int (Int32.ofInt x - Int32.ofInt x / Int32.ofInt y * Int32.ofInt y) :: er_st X st := congrArg (· :: er_st X st) (er_cvI _)
  rw [ev] at k
  exact lv_irem hx hb hd (fun q => hne ((er_eqI z.a1 er_rg0).mp (q.trans er_i0.symm))) k
theorem er_dup (cx : er_Cx K l X cc own nL R) {v : er_V} (hd : decode cc pc = .ok (.dup, 1)) (kk : er_G K cells slots T M (pc + 1) L (v :: v :: st)) : er_G K cells slots T M pc L (v :: st) := by
  obtain ⟨p, e, s, m, args, below, meth, c, Q, rfl, hx, hb, hml, hown, hts, hKK, hXX, hbs⟩ := cx
  intro H locs ls z
  exact lv_dup hx hb hd (er_cat X v) (kk H locs ls (z.pu z.a1))
theorem er_pop (cx : er_Cx K l X cc own nL R) {v : er_V} (hd : decode cc pc = .ok (.pop, 1)) (kk : er_G K cells slots T M (pc + 1) L st) : er_G K cells slots T M pc L (v :: st) := by
  obtain ⟨p, e, s, m, args, below, meth, c, Q, rfl, hx, hb, hml, hown, hts, hKK, hXX, hbs⟩ := cx
  intro H locs ls z
  exact lv_pop hx hb hd (er_cat X v) (kk H locs ls z.p1)
theorem er_dup2 (cx : er_Cx K l X cc own nL R) {v w : er_V} (hd : decode cc pc = .ok (.dup2, 1)) (kk : er_G K cells slots T M (pc + 1) L (v :: w :: v :: w :: st)) : er_G K cells slots T M pc L (v :: w :: st) := by
  obtain ⟨p, e, s, m, args, below, meth, c, Q, rfl, hx, hb, hml, hown, hts, hKK, hXX, hbs⟩ := cx
  intro H locs ls z
  exact lv_dup2_11 hx hb hd (er_cat X v) (er_cat X w) (kk H locs ls ((z.pu z.a2).pu z.a1))
theorem er_dup_x1 (cx : er_Cx K l X cc own nL R) {v w : er_V} (hd : decode cc pc = .ok (.dup_x1, 1)) (kk : er_G K cells slots T M (pc + 1) L (v :: w :: v :: st)) : er_G K cells slots T M pc L (v :: w :: st) := by
  obtain ⟨p, e, s, m, args, below, meth, c, Q, rfl, hx, hb, hml, hown, hts, hKK, hXX, hbs⟩ := cx
  intro H locs ls z
  exact lv_dup_x1 hx hb hd (er_cat X v) (er_cat X w) (kk H locs ls (((z.p1.p1.pu z.a1).pu z.a2).pu z.a1))
theorem er_if_eq (cx : er_Cx K l X cc own nL R) {x : Int} {off : Int} {tgt : Nat} (hd : decode cc pc = .ok (.ifCond .eq off, 3)) (ht : (pc : Int) + off = (tgt : Int)) (kt : x = 0 → er_G K cells slots T M tgt L st) (kf : ¬ x = 0 → er_G K cells slots T M (pc + 3) L st) : er_G K cells slots T M pc L (.inl x :: st) := by
  obtain ⟨p, e, s, m, args, below, meth, c, Q, rfl, hx, hb, hml, hown, hts, hKK, hXX, hbs⟩ := cx
  intro H locs ls z
  have hi : Int32.ofInt x = Int32.ofInt 0 ↔ x = 0 := (er_eqI z.a1 er_rg0)
  rw [er_i0] at hi
  exact lv_if_eq hx hb hd ht (fun q => kt (hi.mp q) H locs ls z.p1) (fun q => kf (fun w => q (hi.mpr w)) H locs ls z.p1)
theorem er_if_ne (cx : er_Cx K l X cc own nL R) {x : Int} {off : Int} {tgt : Nat} (hd : decode cc pc = .ok (.ifCond .ne off, 3)) (ht : (pc : Int) + off = (tgt : Int)) (kt : ¬ x = 0 → er_G K cells slots T M tgt L st) (kf : x = 0 → er_G K cells slots T M (pc + 3) L st) : er_G K cells slots T M pc L (.inl x :: st) := by
  obtain ⟨p, e, s, m, args, below, meth, c, Q, rfl, hx, hb, hml, hown, hts, hKK, hXX, hbs⟩ := cx
  intro H locs ls z
  have hi : Int32.ofInt x = Int32.ofInt 0 ↔ x = 0 := (er_eqI z.a1 er_rg0)
  rw [er_i0] at hi
  exact lv_if_ne hx hb hd ht (fun q => kt (fun w => q (hi.mpr w)) H locs ls z.p1) (fun q => kf (hi.mp q) H locs ls z.p1)
theorem er_if_lt (cx : er_Cx K l X cc own nL R) {x : Int} {off : Int} {tgt : Nat} (hd : decode cc pc = .ok (.ifCond .lt off, 3)) (ht : (pc : Int) + off = (tgt : Int)) (kt : x < 0 → er_G K cells slots T M tgt L st) (kf : ¬ x < 0 → er_G K cells slots T M (pc + 3) L st) : er_G K cells slots T M pc L (.inl x :: st) := by
  obtain ⟨p, e, s, m, args, below, meth, c, Q, rfl, hx, hb, hml, hown, hts, hKK, hXX, hbs⟩ := cx
  intro H locs ls z
  have hi : Int32.ofInt x < Int32.ofInt 0 ↔ x < 0 := (er_ltI z.a1 er_rg0)
  rw [er_i0] at hi
  exact lv_if_lt hx hb hd ht (fun q => kt (hi.mp q) H locs ls z.p1) (fun q => kf (fun w => q (hi.mpr w)) H locs ls z.p1)
theorem er_if_ge (cx : er_Cx K l X cc own nL R) {x : Int} {off : Int} {tgt : Nat} (hd : decode cc pc = .ok (.ifCond .ge off, 3)) (ht : (pc : Int) + off = (tgt : Int)) (kt : 0 ≤ x → er_G K cells slots T M tgt L st) (kf : ¬ 0 ≤ x → er_G K cells slots T M (pc + 3) L st) : er_G K cells slots T M pc L (.inl x :: st) := by
  obtain ⟨p, e, s, m, args, below, meth, c, Q, rfl, hx, hb, hml, hown, hts, hKK, hXX, hbs⟩ := cx
  intro H locs ls z
  have hi : Int32.ofInt 0 ≤ Int32.ofInt x ↔ 0 ≤ x := (er_leI er_rg0 z.a1)
  rw [er_i0] at hi
  exact lv_if_ge hx hb hd ht (fun q => kt (hi.mp q) H locs ls z.p1) (fun q => kf (fun w => q (hi.mpr w)) H locs ls z.p1)
theorem er_if_gt (cx : er_Cx K l X cc own nL R) {x : Int} {off : Int} {tgt : Nat} (hd : decode cc pc = .ok (.ifCond .gt off, 3)) (ht : (pc : Int) + off = (tgt : Int)) (kt : 0 < x → er_G K cells slots T M tgt L st) (kf : ¬ 0 < x → er_G K cells slots T M (pc + 3) L st) : er_G K cells slots T M pc L (.inl x :: st) := by
  obtain ⟨p, e, s, m, args, below, meth, c, Q, rfl, hx, hb, hml, hown, hts, hKK, hXX, hbs⟩ := cx
  intro H locs ls z
  have hi : Int32.ofInt 0 < Int32.ofInt x ↔ 0 < x := (er_ltI er_rg0 z.a1)
  rw [er_i0] at hi
  exact lv_if_gt hx hb hd ht (fun q => kt (hi.mp q) H locs ls z.p1) (fun q => kf (fun w => q (hi.mpr w)) H locs ls z.p1)
theorem er_if_le (cx : er_Cx K l X cc own nL R) {x : Int} {off : Int} {tgt : Nat} (hd : decode cc pc = .ok (.ifCond .le off, 3)) (ht : (pc : Int) + off = (tgt : Int)) (kt : x ≤ 0 → er_G K cells slots T M tgt L st) (kf : ¬ x ≤ 0 → er_G K cells slots T M (pc + 3) L st) : er_G K cells slots T M pc L (.inl x :: st) := by
  obtain ⟨p, e, s, m, args, below, meth, c, Q, rfl, hx, hb, hml, hown, hts, hKK, hXX, hbs⟩ := cx
  intro H locs ls z
  have hi : Int32.ofInt x ≤ Int32.ofInt 0 ↔ x ≤ 0 := (er_leI z.a1 er_rg0)
  rw [er_i0] at hi
  exact lv_if_le hx hb hd ht (fun q => kt (hi.mp q) H locs ls z.p1) (fun q => kf (fun w => q (hi.mpr w)) H locs ls z.p1)
theorem er_ic_eq (cx : er_Cx K l X cc own nL R) {x y : Int} {off : Int} {tgt : Nat} (hd : decode cc pc = .ok (.if_icmp .eq off, 3)) (ht : (pc : Int) + off = (tgt : Int)) (kt : x = y → er_G K cells slots T M tgt L st) (kf : ¬ x = y → er_G K cells slots T M (pc + 3) L st) : er_G K cells slots T M pc L (.inl y :: .inl x :: st) := by
  obtain ⟨p, e, s, m, args, below, meth, c, Q, rfl, hx, hb, hml, hown, hts, hKK, hXX, hbs⟩ := cx
  intro H locs ls z
  exact lv_icmp_eq hx hb hd ht (fun q => kt ((er_eqI z.a2 z.a1).mp q) H locs ls z.p1.p1) (fun q => kf (fun w => q ((er_eqI z.a2 z.a1).mpr w)) H locs ls z.p1.p1)
theorem er_ic_ne (cx : er_Cx K l X cc own nL R) {x y : Int} {off : Int} {tgt : Nat} (hd : decode cc pc = .ok (.if_icmp .ne off, 3)) (ht : (pc : Int) + off = (tgt : Int)) (kt : ¬ x = y → er_G K cells slots T M tgt L st) (kf : x = y → er_G K cells slots T M (pc + 3) L st) : er_G K cells slots T M pc L (.inl y :: .inl x :: st) := by
  obtain ⟨p, e, s, m, args, below, meth, c, Q, rfl, hx, hb, hml, hown, hts, hKK, hXX, hbs⟩ := cx
  intro H locs ls z
  exact lv_icmp_ne hx hb hd ht (fun q => kt (fun w => q ((er_eqI z.a2 z.a1).mpr w)) H locs ls z.p1.p1) (fun q => kf ((er_eqI z.a2 z.a1).mp q) H locs ls z.p1.p1)
theorem er_ic_lt (cx : er_Cx K l X cc own nL R) {x y : Int} {off : Int} {tgt : Nat} (hd : decode cc pc = .ok (.if_icmp .lt off, 3)) (ht : (pc : Int) + off = (tgt : Int)) (kt : x < y → er_G K cells slots T M tgt L st) (kf : ¬ x < y → er_G K cells slots T M (pc + 3) L st) : er_G K cells slots T M pc L (.inl y :: .inl x :: st) := by
  obtain ⟨p, e, s, m, args, below, meth, c, Q, rfl, hx, hb, hml, hown, hts, hKK, hXX, hbs⟩ := cx
  intro H locs ls z
  exact lv_icmp_lt hx hb hd ht (fun q => kt ((er_ltI z.a2 z.a1).mp q) H locs ls z.p1.p1) (fun q => kf (fun w => q ((er_ltI z.a2 z.a1).mpr w)) H locs ls z.p1.p1)
theorem er_ic_ge (cx : er_Cx K l X cc own nL R) {x y : Int} {off : Int} {tgt : Nat} (hd : decode cc pc = .ok (.if_icmp .ge off, 3)) (ht : (pc : Int) + off = (tgt : Int)) (kt : y ≤ x → er_G K cells slots T M tgt L st) (kf : ¬ y ≤ x → er_G K cells slots T M (pc + 3) L st) : er_G K cells slots T M pc L (.inl y :: .inl x :: st) := by
  obtain ⟨p, e, s, m, args, below, meth, c, Q, rfl, hx, hb, hml, hown, hts, hKK, hXX, hbs⟩ := cx
  intro H locs ls z
  exact lv_icmp_ge hx hb hd ht (fun q => kt ((er_leI z.a1 z.a2).mp q) H locs ls z.p1.p1) (fun q => kf (fun w => q ((er_leI z.a1 z.a2).mpr w)) H locs ls z.p1.p1)
theorem er_ic_gt (cx : er_Cx K l X cc own nL R) {x y : Int} {off : Int} {tgt : Nat} (hd : decode cc pc = .ok (.if_icmp .gt off, 3)) (ht : (pc : Int) + off = (tgt : Int)) (kt : y < x → er_G K cells slots T M tgt L st) (kf : ¬ y < x → er_G K cells slots T M (pc + 3) L st) : er_G K cells slots T M pc L (.inl y :: .inl x :: st) := by
  obtain ⟨p, e, s, m, args, below, meth, c, Q, rfl, hx, hb, hml, hown, hts, hKK, hXX, hbs⟩ := cx
  intro H locs ls z
  exact lv_icmp_gt hx hb hd ht (fun q => kt ((er_ltI z.a1 z.a2).mp q) H locs ls z.p1.p1) (fun q => kf (fun w => q ((er_ltI z.a1 z.a2).mpr w)) H locs ls z.p1.p1)
theorem er_ic_le (cx : er_Cx K l X cc own nL R) {x y : Int} {off : Int} {tgt : Nat} (hd : decode cc pc = .ok (.if_icmp .le off, 3)) (ht : (pc : Int) + off = (tgt : Int)) (kt : x ≤ y → er_G K cells slots T M tgt L st) (kf : ¬ x ≤ y → er_G K cells slots T M (pc + 3) L st) : er_G K cells slots T M pc L (.inl y :: .inl x :: st) := by
  obtain ⟨p, e, s, m, args, below, meth, c, Q, rfl, hx, hb, hml, hown, hts, hKK, hXX, hbs⟩ := cx
  intro H locs ls z
  exact lv_icmp_le hx hb hd ht (fun q => kt ((er_leI z.a2 z.a1).mp q) H locs ls z.p1.p1) (fun q => kf (fun w => q ((er_leI z.a2 z.a1).mpr w)) H locs ls z.p1.p1)
theorem er_goto (cx : er_Cx K l X cc own nL R) {off : Int} {tgt : Nat} (hd : decode cc pc = .ok (.goto off, 3)) (ht : (pc : Int) + off = (tgt : Int)) (kk : er_G K cells slots T M tgt L st) : er_G K cells slots T M pc L st := by
  obtain ⟨p, e, s, m, args, below, meth, c, Q, rfl, hx, hb, hml, hown, hts, hKK, hXX, hbs⟩ := cx
  intro H locs ls z
  exact lv_goto hx hb hd ht (kk H locs ls z)
end ERO
