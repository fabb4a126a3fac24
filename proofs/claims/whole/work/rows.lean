section
-- ===== PART A: goes FIRST, ahead of the names: the tables' words, and 'selects' of the private methods out of them =====
/-- a private method of a class that the tables say can be made, by its rows of tables_1 -/
def lw_okq (q : MethodName × Nat) : Prop := (q.1.cls ≠ "java/lang/invoke/MethodHandle" ∧ q.1.cls ≠ "java/lang/invoke/VarHandle") ∧ Cond.instantiable q.1.cls q.2 ∈ tables_1 ∧ Cond.privateMethod q.1 ∈ tables_1 ∧ Cond.instanceMethod q.1 ∈ tables_1
theorem lw_p0 : lw_okq (⟨"EchoedRounds", "isWellBehaved", "(I)Z"⟩, 1) := ⟨⟨by decide +kernel, by decide +kernel⟩, List.mem_of_getElem? (i := 10) (by decide +kernel), List.mem_of_getElem? (i := 162) (by decide +kernel), List.mem_of_getElem? (i := 163) (by decide +kernel)⟩
theorem lw_p1 : lw_okq (⟨"EchoedRounds", "isNode", "(I)Z"⟩, 1) := ⟨⟨by decide +kernel, by decide +kernel⟩, List.mem_of_getElem? (i := 10) (by decide +kernel), List.mem_of_getElem? (i := 166) (by decide +kernel), List.mem_of_getElem? (i := 167) (by decide +kernel)⟩
theorem lw_p2 : lw_okq (⟨"EchoedRounds$Node", "enter", "(II)V"⟩, 13) := ⟨⟨by decide +kernel, by decide +kernel⟩, List.mem_of_getElem? (i := 47) (by decide +kernel), List.mem_of_getElem? (i := 181) (by decide +kernel), List.mem_of_getElem? (i := 182) (by decide +kernel)⟩
theorem lw_p3 : lw_okq (⟨"EchoedRounds$Log", "append", "(I)V"⟩, 2) := ⟨⟨by decide +kernel, by decide +kernel⟩, List.mem_of_getElem? (i := 53) (by decide +kernel), List.mem_of_getElem? (i := 188) (by decide +kernel), List.mem_of_getElem? (i := 189) (by decide +kernel)⟩
theorem lw_p4 : lw_okq (⟨"EchoedRounds$Node", "settle", "()V"⟩, 13) := ⟨⟨by decide +kernel, by decide +kernel⟩, List.mem_of_getElem? (i := 47) (by decide +kernel), List.mem_of_getElem? (i := 192) (by decide +kernel), List.mem_of_getElem? (i := 193) (by decide +kernel)⟩
theorem lw_p5 : lw_okq (⟨"EchoedRounds$Node", "hearNextOf", "(ILEchoedRounds$Log;)Z"⟩, 13) := ⟨⟨by decide +kernel, by decide +kernel⟩, List.mem_of_getElem? (i := 47) (by decide +kernel), List.mem_of_getElem? (i := 196) (by decide +kernel), List.mem_of_getElem? (i := 197) (by decide +kernel)⟩
theorem lw_p6 : lw_okq (⟨"EchoedRounds$Log", "codeAt", "(I)I"⟩, 2) := ⟨⟨by decide +kernel, by decide +kernel⟩, List.mem_of_getElem? (i := 53) (by decide +kernel), List.mem_of_getElem? (i := 200) (by decide +kernel), List.mem_of_getElem? (i := 201) (by decide +kernel)⟩
theorem lw_p7 : lw_okq (⟨"EchoedRounds$Node", "hear", "(II)Z"⟩, 13) := ⟨⟨by decide +kernel, by decide +kernel⟩, List.mem_of_getElem? (i := 47) (by decide +kernel), List.mem_of_getElem? (i := 204) (by decide +kernel), List.mem_of_getElem? (i := 205) (by decide +kernel)⟩
theorem lw_p8 : lw_okq (⟨"EchoedRounds$Tally", "countIn", "(IIII)Z"⟩, 2) := ⟨⟨by decide +kernel, by decide +kernel⟩, List.mem_of_getElem? (i := 68) (by decide +kernel), List.mem_of_getElem? (i := 211) (by decide +kernel), List.mem_of_getElem? (i := 212) (by decide +kernel)⟩
theorem lw_p9 : lw_okq (⟨"EchoedRounds$Node", "hearEcho", "(III)V"⟩, 13) := ⟨⟨by decide +kernel, by decide +kernel⟩, List.mem_of_getElem? (i := 47) (by decide +kernel), List.mem_of_getElem? (i := 215) (by decide +kernel), List.mem_of_getElem? (i := 216) (by decide +kernel)⟩
theorem lw_p10 : lw_okq (⟨"EchoedRounds$Tally", "count", "(III)I"⟩, 2) := ⟨⟨by decide +kernel, by decide +kernel⟩, List.mem_of_getElem? (i := 68) (by decide +kernel), List.mem_of_getElem? (i := 219) (by decide +kernel), List.mem_of_getElem? (i := 220) (by decide +kernel)⟩
theorem lw_p11 : lw_okq (⟨"EchoedRounds$Node", "sendReadyOnce", "(III)V"⟩, 13) := ⟨⟨by decide +kernel, by decide +kernel⟩, List.mem_of_getElem? (i := 47) (by decide +kernel), List.mem_of_getElem? (i := 223) (by decide +kernel), List.mem_of_getElem? (i := 224) (by decide +kernel)⟩
theorem lw_p12 : lw_okq (⟨"EchoedRounds$Node", "hearReady", "(III)V"⟩, 13) := ⟨⟨by decide +kernel, by decide +kernel⟩, List.mem_of_getElem? (i := 47) (by decide +kernel), List.mem_of_getElem? (i := 227) (by decide +kernel), List.mem_of_getElem? (i := 228) (by decide +kernel)⟩
theorem lw_p13 : lw_okq (⟨"EchoedRounds$Node", "makeOneValid", "()Z"⟩, 13) := ⟨⟨by decide +kernel, by decide +kernel⟩, List.mem_of_getElem? (i := 47) (by decide +kernel), List.mem_of_getElem? (i := 231) (by decide +kernel), List.mem_of_getElem? (i := 232) (by decide +kernel)⟩
theorem lw_p14 : lw_okq (⟨"EchoedRounds$Node", "canBecomeValid", "(II)Z"⟩, 13) := ⟨⟨by decide +kernel, by decide +kernel⟩, List.mem_of_getElem? (i := 47) (by decide +kernel), List.mem_of_getElem? (i := 235) (by decide +kernel), List.mem_of_getElem? (i := 236) (by decide +kernel)⟩
theorem lw_p15 : lw_okq (⟨"EchoedRounds$Row", "holds", "(I)Z"⟩, 4) := ⟨⟨by decide +kernel, by decide +kernel⟩, List.mem_of_getElem? (i := 82) (by decide +kernel), List.mem_of_getElem? (i := 239) (by decide +kernel), List.mem_of_getElem? (i := 240) (by decide +kernel)⟩
def lw_privs_1 : List (MethodName × Nat) := [(⟨"EchoedRounds", "isWellBehaved", "(I)Z"⟩, 1), (⟨"EchoedRounds", "isNode", "(I)Z"⟩, 1), (⟨"EchoedRounds$Node", "enter", "(II)V"⟩, 13), (⟨"EchoedRounds$Log", "append", "(I)V"⟩, 2), (⟨"EchoedRounds$Node", "settle", "()V"⟩, 13), (⟨"EchoedRounds$Node", "hearNextOf", "(ILEchoedRounds$Log;)Z"⟩, 13), (⟨"EchoedRounds$Log", "codeAt", "(I)I"⟩, 2), (⟨"EchoedRounds$Node", "hear", "(II)Z"⟩, 13), (⟨"EchoedRounds$Tally", "countIn", "(IIII)Z"⟩, 2), (⟨"EchoedRounds$Node", "hearEcho", "(III)V"⟩, 13), (⟨"EchoedRounds$Tally", "count", "(III)I"⟩, 2), (⟨"EchoedRounds$Node", "sendReadyOnce", "(III)V"⟩, 13), (⟨"EchoedRounds$Node", "hearReady", "(III)V"⟩, 13), (⟨"EchoedRounds$Node", "makeOneValid", "()Z"⟩, 13), (⟨"EchoedRounds$Node", "canBecomeValid", "(II)Z"⟩, 13), (⟨"EchoedRounds$Row", "holds", "(I)Z"⟩, 4)]
theorem lw_r1 : ∀ q ∈ lw_privs_1, lw_okq q := List.forall_mem_cons.mpr ⟨lw_p0, List.forall_mem_cons.mpr ⟨lw_p1, List.forall_mem_cons.mpr ⟨lw_p2, List.forall_mem_cons.mpr ⟨lw_p3, List.forall_mem_cons.mpr ⟨lw_p4, List.forall_mem_cons.mpr ⟨lw_p5, List.forall_mem_cons.mpr ⟨lw_p6, List.forall_mem_cons.mpr ⟨lw_p7, List.forall_mem_cons.mpr ⟨lw_p8, List.forall_mem_cons.mpr ⟨lw_p9, List.forall_mem_cons.mpr ⟨lw_p10, List.forall_mem_cons.mpr ⟨lw_p11, List.forall_mem_cons.mpr ⟨lw_p12, List.forall_mem_cons.mpr ⟨lw_p13, List.forall_mem_cons.mpr ⟨lw_p14, List.forall_mem_cons.mpr ⟨lw_p15, fun _ h => absurd h List.not_mem_nil⟩⟩⟩⟩⟩⟩⟩⟩⟩⟩⟩⟩⟩⟩⟩⟩
theorem lw_p16 : lw_okq (⟨"EchoedRounds$Rules", "follows", "(IIILEchoedRounds$Row;)Z"⟩, 4) := ⟨⟨by decide +kernel, by decide +kernel⟩, List.mem_of_getElem? (i := 24) (by decide +kernel), List.mem_of_getElem? (i := 244) (by decide +kernel), List.mem_of_getElem? (i := 245) (by decide +kernel)⟩
theorem lw_p17 : lw_okq (⟨"EchoedRounds$Rules", "isFull", "(LEchoedRounds$Row;)Z"⟩, 4) := ⟨⟨by decide +kernel, by decide +kernel⟩, List.mem_of_getElem? (i := 24) (by decide +kernel), List.mem_of_getElem? (i := 248) (by decide +kernel), List.mem_of_getElem? (i := 249) (by decide +kernel)⟩
theorem lw_p18 : lw_okq (⟨"EchoedRounds$Rules", "mostChosen", "(LEchoedRounds$Row;I)I"⟩, 4) := ⟨⟨by decide +kernel, by decide +kernel⟩, List.mem_of_getElem? (i := 24) (by decide +kernel), List.mem_of_getElem? (i := 252) (by decide +kernel), List.mem_of_getElem? (i := 253) (by decide +kernel)⟩
theorem lw_p19 : lw_okq (⟨"EchoedRounds$Rules", "isMajority", "(I)Z"⟩, 4) := ⟨⟨by decide +kernel, by decide +kernel⟩, List.mem_of_getElem? (i := 24) (by decide +kernel), List.mem_of_getElem? (i := 257) (by decide +kernel), List.mem_of_getElem? (i := 258) (by decide +kernel)⟩
theorem lw_p20 : lw_okq (⟨"EchoedRounds$Row", "holdsWith", "(II)Z"⟩, 4) := ⟨⟨by decide +kernel, by decide +kernel⟩, List.mem_of_getElem? (i := 82) (by decide +kernel), List.mem_of_getElem? (i := 261) (by decide +kernel), List.mem_of_getElem? (i := 262) (by decide +kernel)⟩
theorem lw_p21 : lw_okq (⟨"EchoedRounds$Rules", "canStayDivided", "(LEchoedRounds$Row;)Z"⟩, 4) := ⟨⟨by decide +kernel, by decide +kernel⟩, List.mem_of_getElem? (i := 24) (by decide +kernel), List.mem_of_getElem? (i := 265) (by decide +kernel), List.mem_of_getElem? (i := 266) (by decide +kernel)⟩
theorem lw_p22 : lw_okq (⟨"EchoedRounds$Rules", "canPrevail", "(LEchoedRounds$Row;I)Z"⟩, 4) := ⟨⟨by decide +kernel, by decide +kernel⟩, List.mem_of_getElem? (i := 24) (by decide +kernel), List.mem_of_getElem? (i := 270) (by decide +kernel), List.mem_of_getElem? (i := 271) (by decide +kernel)⟩
theorem lw_p23 : lw_okq (⟨"EchoedRounds$Rules", "canNeedToss", "(LEchoedRounds$Row;)Z"⟩, 4) := ⟨⟨by decide +kernel, by decide +kernel⟩, List.mem_of_getElem? (i := 24) (by decide +kernel), List.mem_of_getElem? (i := 274) (by decide +kernel), List.mem_of_getElem? (i := 275) (by decide +kernel)⟩
theorem lw_p24 : lw_okq (⟨"EchoedRounds$Row", "append", "(II)V"⟩, 4) := ⟨⟨by decide +kernel, by decide +kernel⟩, List.mem_of_getElem? (i := 82) (by decide +kernel), List.mem_of_getElem? (i := 278) (by decide +kernel), List.mem_of_getElem? (i := 279) (by decide +kernel)⟩
theorem lw_p25 : lw_okq (⟨"EchoedRounds$Node", "goOn", "()Z"⟩, 13) := ⟨⟨by decide +kernel, by decide +kernel⟩, List.mem_of_getElem? (i := 47) (by decide +kernel), List.mem_of_getElem? (i := 282) (by decide +kernel), List.mem_of_getElem? (i := 283) (by decide +kernel)⟩
theorem lw_p26 : lw_okq (⟨"EchoedRounds$Node", "valueAfter", "(I)I"⟩, 13) := ⟨⟨by decide +kernel, by decide +kernel⟩, List.mem_of_getElem? (i := 47) (by decide +kernel), List.mem_of_getElem? (i := 290) (by decide +kernel), List.mem_of_getElem? (i := 291) (by decide +kernel)⟩
theorem lw_p27 : lw_okq (⟨"EchoedRounds$Rules", "prevailing", "(LEchoedRounds$Row;)I"⟩, 4) := ⟨⟨by decide +kernel, by decide +kernel⟩, List.mem_of_getElem? (i := 24) (by decide +kernel), List.mem_of_getElem? (i := 294) (by decide +kernel), List.mem_of_getElem? (i := 295) (by decide +kernel)⟩
theorem lw_p28 : lw_okq (⟨"EchoedRounds$Row", "countInFirst", "(II)I"⟩, 4) := ⟨⟨by decide +kernel, by decide +kernel⟩, List.mem_of_getElem? (i := 82) (by decide +kernel), List.mem_of_getElem? (i := 298) (by decide +kernel), List.mem_of_getElem? (i := 299) (by decide +kernel)⟩
theorem lw_p29 : lw_okq (⟨"EchoedRounds$Rules", "firmOr", "(LEchoedRounds$Row;I)I"⟩, 4) := ⟨⟨by decide +kernel, by decide +kernel⟩, List.mem_of_getElem? (i := 24) (by decide +kernel), List.mem_of_getElem? (i := 302) (by decide +kernel), List.mem_of_getElem? (i := 303) (by decide +kernel)⟩
theorem lw_p30 : lw_okq (⟨"EchoedRounds$Node", "endRound", "(ILEchoedRounds$Row;)I"⟩, 13) := ⟨⟨by decide +kernel, by decide +kernel⟩, List.mem_of_getElem? (i := 47) (by decide +kernel), List.mem_of_getElem? (i := 306) (by decide +kernel), List.mem_of_getElem? (i := 307) (by decide +kernel)⟩
theorem lw_p31 : lw_okq (⟨"EchoedRounds$Rules", "heldFirm", "(LEchoedRounds$Row;I)I"⟩, 4) := ⟨⟨by decide +kernel, by decide +kernel⟩, List.mem_of_getElem? (i := 24) (by decide +kernel), List.mem_of_getElem? (i := 310) (by decide +kernel), List.mem_of_getElem? (i := 311) (by decide +kernel)⟩
def lw_privs_2 : List (MethodName × Nat) := [(⟨"EchoedRounds$Rules", "follows", "(IIILEchoedRounds$Row;)Z"⟩, 4), (⟨"EchoedRounds$Rules", "isFull", "(LEchoedRounds$Row;)Z"⟩, 4), (⟨"EchoedRounds$Rules", "mostChosen", "(LEchoedRounds$Row;I)I"⟩, 4), (⟨"EchoedRounds$Rules", "isMajority", "(I)Z"⟩, 4), (⟨"EchoedRounds$Row", "holdsWith", "(II)Z"⟩, 4), (⟨"EchoedRounds$Rules", "canStayDivided", "(LEchoedRounds$Row;)Z"⟩, 4), (⟨"EchoedRounds$Rules", "canPrevail", "(LEchoedRounds$Row;I)Z"⟩, 4), (⟨"EchoedRounds$Rules", "canNeedToss", "(LEchoedRounds$Row;)Z"⟩, 4), (⟨"EchoedRounds$Row", "append", "(II)V"⟩, 4), (⟨"EchoedRounds$Node", "goOn", "()Z"⟩, 13), (⟨"EchoedRounds$Node", "valueAfter", "(I)I"⟩, 13), (⟨"EchoedRounds$Rules", "prevailing", "(LEchoedRounds$Row;)I"⟩, 4), (⟨"EchoedRounds$Row", "countInFirst", "(II)I"⟩, 4), (⟨"EchoedRounds$Rules", "firmOr", "(LEchoedRounds$Row;I)I"⟩, 4), (⟨"EchoedRounds$Node", "endRound", "(ILEchoedRounds$Row;)I"⟩, 13), (⟨"EchoedRounds$Rules", "heldFirm", "(LEchoedRounds$Row;I)I"⟩, 4)]
theorem lw_r2 : ∀ q ∈ lw_privs_2, lw_okq q := List.forall_mem_cons.mpr ⟨lw_p16, List.forall_mem_cons.mpr ⟨lw_p17, List.forall_mem_cons.mpr ⟨lw_p18, List.forall_mem_cons.mpr ⟨lw_p19, List.forall_mem_cons.mpr ⟨lw_p20, List.forall_mem_cons.mpr ⟨lw_p21, List.forall_mem_cons.mpr ⟨lw_p22, List.forall_mem_cons.mpr ⟨lw_p23, List.forall_mem_cons.mpr ⟨lw_p24, List.forall_mem_cons.mpr ⟨lw_p25, List.forall_mem_cons.mpr ⟨lw_p26, List.forall_mem_cons.mpr ⟨lw_p27, List.forall_mem_cons.mpr ⟨lw_p28, List.forall_mem_cons.mpr ⟨lw_p29, List.forall_mem_cons.mpr ⟨lw_p30, List.forall_mem_cons.mpr ⟨lw_p31, fun _ h => absurd h List.not_mem_nil⟩⟩⟩⟩⟩⟩⟩⟩⟩⟩⟩⟩⟩⟩⟩⟩
theorem lw_p32 : lw_okq (⟨"EchoedRounds$Row", "speakerAt", "(I)I"⟩, 4) := ⟨⟨by decide +kernel, by decide +kernel⟩, List.mem_of_getElem? (i := 82) (by decide +kernel), List.mem_of_getElem? (i := 354) (by decide +kernel), List.mem_of_getElem? (i := 355) (by decide +kernel)⟩
theorem lw_p33 : lw_okq (⟨"EchoedRoundsModel", "well", "(I)Z"⟩, 18) := ⟨⟨by decide +kernel, by decide +kernel⟩, List.mem_of_getElem? (i := 373) (by decide +kernel), List.mem_of_getElem? (i := 438) (by decide +kernel), List.mem_of_getElem? (i := 439) (by decide +kernel)⟩
theorem lw_p34 : lw_okq (⟨"EchoedRoundsModel", "isNode", "(I)Z"⟩, 18) := ⟨⟨by decide +kernel, by decide +kernel⟩, List.mem_of_getElem? (i := 373) (by decide +kernel), List.mem_of_getElem? (i := 442) (by decide +kernel), List.mem_of_getElem? (i := 443) (by decide +kernel)⟩
theorem lw_p35 : lw_okq (⟨"EchoedRoundsModel", "send", "(IIIII)V"⟩, 18) := ⟨⟨by decide +kernel, by decide +kernel⟩, List.mem_of_getElem? (i := 373) (by decide +kernel), List.mem_of_getElem? (i := 454) (by decide +kernel), List.mem_of_getElem? (i := 455) (by decide +kernel)⟩
theorem lw_p36 : lw_okq (⟨"EchoedRoundsModel", "settle", "(I)V"⟩, 18) := ⟨⟨by decide +kernel, by decide +kernel⟩, List.mem_of_getElem? (i := 373) (by decide +kernel), List.mem_of_getElem? (i := 461) (by decide +kernel), List.mem_of_getElem? (i := 462) (by decide +kernel)⟩
theorem lw_p37 : lw_okq (⟨"EchoedRoundsModel", "receiveFromLog", "(II)V"⟩, 18) := ⟨⟨by decide +kernel, by decide +kernel⟩, List.mem_of_getElem? (i := 373) (by decide +kernel), List.mem_of_getElem? (i := 465) (by decide +kernel), List.mem_of_getElem? (i := 466) (by decide +kernel)⟩
theorem lw_p38 : lw_okq (⟨"EchoedRoundsModel", "receive", "(IIIIII)Z"⟩, 18) := ⟨⟨by decide +kernel, by decide +kernel⟩, List.mem_of_getElem? (i := 373) (by decide +kernel), List.mem_of_getElem? (i := 469) (by decide +kernel), List.mem_of_getElem? (i := 470) (by decide +kernel)⟩
theorem lw_p39 : lw_okq (⟨"EchoedRoundsModel", "count", "(IIIII)I"⟩, 18) := ⟨⟨by decide +kernel, by decide +kernel⟩, List.mem_of_getElem? (i := 373) (by decide +kernel), List.mem_of_getElem? (i := 473) (by decide +kernel), List.mem_of_getElem? (i := 474) (by decide +kernel)⟩
theorem lw_p40 : lw_okq (⟨"EchoedRoundsModel", "validate", "(I)Z"⟩, 18) := ⟨⟨by decide +kernel, by decide +kernel⟩, List.mem_of_getElem? (i := 373) (by decide +kernel), List.mem_of_getElem? (i := 477) (by decide +kernel), List.mem_of_getElem? (i := 478) (by decide +kernel)⟩
theorem lw_p41 : lw_okq (⟨"EchoedRoundsModel", "can", "(III)Z"⟩, 18) := ⟨⟨by decide +kernel, by decide +kernel⟩, List.mem_of_getElem? (i := 373) (by decide +kernel), List.mem_of_getElem? (i := 481) (by decide +kernel), List.mem_of_getElem? (i := 482) (by decide +kernel)⟩
theorem lw_p42 : lw_okq (⟨"EchoedRoundsModel", "some", "(III)Z"⟩, 18) := ⟨⟨by decide +kernel, by decide +kernel⟩, List.mem_of_getElem? (i := 373) (by decide +kernel), List.mem_of_getElem? (i := 485) (by decide +kernel), List.mem_of_getElem? (i := 486) (by decide +kernel)⟩
theorem lw_p43 : lw_okq (⟨"EchoedRoundsModel", "setDoes", "(IIII)Z"⟩, 18) := ⟨⟨by decide +kernel, by decide +kernel⟩, List.mem_of_getElem? (i := 373) (by decide +kernel), List.mem_of_getElem? (i := 489) (by decide +kernel), List.mem_of_getElem? (i := 490) (by decide +kernel)⟩
theorem lw_p44 : lw_okq (⟨"EchoedRoundsModel", "goOn", "(I)Z"⟩, 18) := ⟨⟨by decide +kernel, by decide +kernel⟩, List.mem_of_getElem? (i := 373) (by decide +kernel), List.mem_of_getElem? (i := 493) (by decide +kernel), List.mem_of_getElem? (i := 494) (by decide +kernel)⟩
theorem lw_p45 : lw_okq (⟨"EchoedRoundsModel", "afterFirm", "(II)I"⟩, 18) := ⟨⟨by decide +kernel, by decide +kernel⟩, List.mem_of_getElem? (i := 373) (by decide +kernel), List.mem_of_getElem? (i := 497) (by decide +kernel), List.mem_of_getElem? (i := 498) (by decide +kernel)⟩
theorem lw_p46 : lw_okq (⟨"EchoedRoundsModel", "firmValue", "(I)I"⟩, 18) := ⟨⟨by decide +kernel, by decide +kernel⟩, List.mem_of_getElem? (i := 373) (by decide +kernel), List.mem_of_getElem? (i := 501) (by decide +kernel), List.mem_of_getElem? (i := 502) (by decide +kernel)⟩
def lw_privs_3 : List (MethodName × Nat) := [(⟨"EchoedRounds$Row", "speakerAt", "(I)I"⟩, 4), (⟨"EchoedRoundsModel", "well", "(I)Z"⟩, 18), (⟨"EchoedRoundsModel", "isNode", "(I)Z"⟩, 18), (⟨"EchoedRoundsModel", "send", "(IIIII)V"⟩, 18), (⟨"EchoedRoundsModel", "settle", "(I)V"⟩, 18), (⟨"EchoedRoundsModel", "receiveFromLog", "(II)V"⟩, 18), (⟨"EchoedRoundsModel", "receive", "(IIIIII)Z"⟩, 18), (⟨"EchoedRoundsModel", "count", "(IIIII)I"⟩, 18), (⟨"EchoedRoundsModel", "validate", "(I)Z"⟩, 18), (⟨"EchoedRoundsModel", "can", "(III)Z"⟩, 18), (⟨"EchoedRoundsModel", "some", "(III)Z"⟩, 18), (⟨"EchoedRoundsModel", "setDoes", "(IIII)Z"⟩, 18), (⟨"EchoedRoundsModel", "goOn", "(I)Z"⟩, 18), (⟨"EchoedRoundsModel", "afterFirm", "(II)I"⟩, 18), (⟨"EchoedRoundsModel", "firmValue", "(I)I"⟩, 18)]
theorem lw_r3 : ∀ q ∈ lw_privs_3, lw_okq q := List.forall_mem_cons.mpr ⟨lw_p32, List.forall_mem_cons.mpr ⟨lw_p33, List.forall_mem_cons.mpr ⟨lw_p34, List.forall_mem_cons.mpr ⟨lw_p35, List.forall_mem_cons.mpr ⟨lw_p36, List.forall_mem_cons.mpr ⟨lw_p37, List.forall_mem_cons.mpr ⟨lw_p38, List.forall_mem_cons.mpr ⟨lw_p39, List.forall_mem_cons.mpr ⟨lw_p40, List.forall_mem_cons.mpr ⟨lw_p41, List.forall_mem_cons.mpr ⟨lw_p42, List.forall_mem_cons.mpr ⟨lw_p43, List.forall_mem_cons.mpr ⟨lw_p44, List.forall_mem_cons.mpr ⟨lw_p45, List.forall_mem_cons.mpr ⟨lw_p46, fun _ h => absurd h List.not_mem_nil⟩⟩⟩⟩⟩⟩⟩⟩⟩⟩⟩⟩⟩⟩⟩
def lw_privs : List (MethodName × Nat) := lw_privs_1 ++ (lw_privs_2 ++ (lw_privs_3))
def lw_tbl : List Cond := k2_sels lw_privs ++ tables_1
theorem lw_privs_ok : ∀ q ∈ lw_privs, lw_okq q := by
  show ∀ q ∈ lw_privs_1 ++ (lw_privs_2 ++ (lw_privs_3)), lw_okq q
  exact List.forall_mem_append.mpr ⟨lw_r1, List.forall_mem_append.mpr ⟨lw_r2, lw_r3⟩⟩
end
section
/-! names: methods, codes, classes, words; printed by wip/whole/gen/load.py out of the tables -/
def er_fu : Nat := 4096
abbrev b_Rules_init : ByteArray := prog_5_method_1_code
def y_Rules_init : MethodName := ⟨"EchoedRounds$Rules", "<init>", "(I)V"⟩
abbrev b_Log_init : ByteArray := prog_2_method_1_code
def y_Log_init : MethodName := ⟨"EchoedRounds$Log", "<init>", "()V"⟩
abbrev b_Tally_init : ByteArray := prog_6_method_1_code
def y_Tally_init : MethodName := ⟨"EchoedRounds$Tally", "<init>", "()V"⟩
abbrev b_Row_init : ByteArray := prog_4_method_1_code
def y_Row_init : MethodName := ⟨"EchoedRounds$Row", "<init>", "()V"⟩
abbrev b_ER_isNode : ByteArray := prog_1_method_16_code
def y_ER_isNode : MethodName := ⟨"EchoedRounds", "isNode", "(I)Z"⟩
abbrev b_ER_isPlain : ByteArray := prog_1_method_19_code
def y_ER_isPlain : MethodName := ⟨"EchoedRounds", "isPlain", "(I)Z"⟩
abbrev b_ER_codeOf : ByteArray := prog_1_method_21_code
def y_ER_codeOf : MethodName := ⟨"EchoedRounds", "codeOf", "(IIII)I"⟩
abbrev b_Log_append : ByteArray := prog_2_method_2_code
def y_Log_append : MethodName := ⟨"EchoedRounds$Log", "append", "(I)V"⟩
abbrev b_Log_codeAt : ByteArray := prog_2_method_3_code
def y_Log_codeAt : MethodName := ⟨"EchoedRounds$Log", "codeAt", "(I)I"⟩
abbrev b_ER_cellOf : ByteArray := prog_1_method_20_code
def y_ER_cellOf : MethodName := ⟨"EchoedRounds", "cellOf", "(II)I"⟩
abbrev b_Tally_countIn : ByteArray := prog_6_method_2_code
def y_Tally_countIn : MethodName := ⟨"EchoedRounds$Tally", "countIn", "(IIII)Z"⟩
abbrev b_Tally_count : ByteArray := prog_6_method_3_code
def y_Tally_count : MethodName := ⟨"EchoedRounds$Tally", "count", "(III)I"⟩
abbrev b_Row_holds : ByteArray := prog_4_method_4_code
def y_Row_holds : MethodName := ⟨"EchoedRounds$Row", "holds", "(I)Z"⟩
abbrev b_Rules_isFull : ByteArray := prog_5_method_3_code
def y_Rules_isFull : MethodName := ⟨"EchoedRounds$Rules", "isFull", "(LEchoedRounds$Row;)Z"⟩
abbrev b_Rules_mostChosen : ByteArray := prog_5_method_5_code
def y_Rules_mostChosen : MethodName := ⟨"EchoedRounds$Rules", "mostChosen", "(LEchoedRounds$Row;I)I"⟩
abbrev b_Rules_isMajority : ByteArray := prog_5_method_2_code
def y_Rules_isMajority : MethodName := ⟨"EchoedRounds$Rules", "isMajority", "(I)Z"⟩
abbrev b_Row_holdsWith : ByteArray := prog_4_method_5_code
def y_Row_holdsWith : MethodName := ⟨"EchoedRounds$Row", "holdsWith", "(II)Z"⟩
abbrev b_Rules_canStayDivided : ByteArray := prog_5_method_7_code
def y_Rules_canStayDivided : MethodName := ⟨"EchoedRounds$Rules", "canStayDivided", "(LEchoedRounds$Row;)Z"⟩
abbrev b_Rules_canNeedToss : ByteArray := prog_5_method_8_code
def y_Rules_canNeedToss : MethodName := ⟨"EchoedRounds$Rules", "canNeedToss", "(LEchoedRounds$Row;)Z"⟩
abbrev b_Row_append : ByteArray := prog_4_method_2_code
def y_Row_append : MethodName := ⟨"EchoedRounds$Row", "append", "(II)V"⟩
abbrev b_ER_isSlot : ByteArray := prog_1_method_18_code
def y_ER_isSlot : MethodName := ⟨"EchoedRounds", "isSlot", "(I)Z"⟩
abbrev b_Row_countInFirst : ByteArray := prog_4_method_6_code
def y_Row_countInFirst : MethodName := ⟨"EchoedRounds$Row", "countInFirst", "(II)I"⟩
abbrev b_Row_speakerAt : ByteArray := prog_4_method_3_code
def y_Row_speakerAt : MethodName := ⟨"EchoedRounds$Row", "speakerAt", "(I)I"⟩
abbrev b_Law_cell : ByteArray := method_2_code
def y_Law_cell : MethodName := ⟨"EchoedRoundsLaw", "cell", "([II)I"⟩
abbrev b_Mo_init : ByteArray := prog_8_method_1_code
def y_Mo_init : MethodName := ⟨"EchoedRoundsModel", "<init>", "(I)V"⟩
abbrev b_Mo_isNode : ByteArray := prog_8_method_2_code
def y_Mo_isNode : MethodName := ⟨"EchoedRoundsModel", "isNode", "(I)Z"⟩
abbrev b_Mo_at : ByteArray := prog_8_method_4_code
def y_Mo_at : MethodName := ⟨"EchoedRoundsModel", "at", "(III)I"⟩
abbrev b_Mo_count : ByteArray := prog_8_method_6_code
def y_Mo_count : MethodName := ⟨"EchoedRoundsModel", "count", "(IIIII)I"⟩
abbrev b_Mo_firmValue : ByteArray := prog_8_method_13_code
def y_Mo_firmValue : MethodName := ⟨"EchoedRoundsModel", "firmValue", "(I)I"⟩
abbrev b_Mo_isSlot : ByteArray := prog_8_method_25_code
def y_Mo_isSlot : MethodName := ⟨"EchoedRoundsModel", "isSlot", "(I)Z"⟩
abbrev b_Node_init : ByteArray := prog_3_method_1_code
def y_Node_init : MethodName := ⟨"EchoedRounds$Node", "<init>", "(ILEchoedRounds$Rules;)V"⟩
abbrev b_ER_isWellBehaved : ByteArray := prog_1_method_17_code
def y_ER_isWellBehaved : MethodName := ⟨"EchoedRounds", "isWellBehaved", "(I)Z"⟩
abbrev b_Node_enter : ByteArray := prog_3_method_2_code
def y_Node_enter : MethodName := ⟨"EchoedRounds$Node", "enter", "(II)V"⟩
abbrev b_Node_sendReadyOnce : ByteArray := prog_3_method_7_code
def y_Node_sendReadyOnce : MethodName := ⟨"EchoedRounds$Node", "sendReadyOnce", "(III)V"⟩
abbrev b_Rules_canPrevail : ByteArray := prog_5_method_6_code
def y_Rules_canPrevail : MethodName := ⟨"EchoedRounds$Rules", "canPrevail", "(LEchoedRounds$Row;I)Z"⟩
abbrev b_Rules_prevailing : ByteArray := prog_5_method_9_code
def y_Rules_prevailing : MethodName := ⟨"EchoedRounds$Rules", "prevailing", "(LEchoedRounds$Row;)I"⟩
abbrev b_Rules_firmOr : ByteArray := prog_5_method_10_code
def y_Rules_firmOr : MethodName := ⟨"EchoedRounds$Rules", "firmOr", "(LEchoedRounds$Row;I)I"⟩
abbrev b_Rules_heldFirm : ByteArray := prog_5_method_11_code
def y_Rules_heldFirm : MethodName := ⟨"EchoedRounds$Rules", "heldFirm", "(LEchoedRounds$Row;I)I"⟩
abbrev b_ER_sent : ByteArray := prog_1_method_7_code
def y_ER_sent : MethodName := ⟨"EchoedRounds", "sent", "(I)I"⟩
abbrev b_ER_message : ByteArray := prog_1_method_8_code
def y_ER_message : MethodName := ⟨"EchoedRounds", "message", "(II)I"⟩
abbrev b_ER_waiting : ByteArray := prog_1_method_9_code
def y_ER_waiting : MethodName := ⟨"EchoedRounds", "waiting", "(II)I"⟩
abbrev b_ER_votes : ByteArray := prog_1_method_10_code
def y_ER_votes : MethodName := ⟨"EchoedRounds", "votes", "(IIIIZ)I"⟩
abbrev b_ER_accepted : ByteArray := prog_1_method_11_code
def y_ER_accepted : MethodName := ⟨"EchoedRounds", "accepted", "(III)I"⟩
abbrev b_ER_rowAt : ByteArray := prog_1_method_12_code
def y_ER_rowAt : MethodName := ⟨"EchoedRounds", "rowAt", "(III)I"⟩
abbrev b_ER_slot : ByteArray := prog_1_method_13_code
def y_ER_slot : MethodName := ⟨"EchoedRounds", "slot", "(I)I"⟩
abbrev b_ER_value : ByteArray := prog_1_method_14_code
def y_ER_value : MethodName := ⟨"EchoedRounds", "value", "(I)I"⟩
abbrev b_ER_decided : ByteArray := prog_1_method_15_code
def y_ER_decided : MethodName := ⟨"EchoedRounds", "decided", "(I)I"⟩
abbrev b_Mo_well : ByteArray := prog_8_method_3_code
def y_Mo_well : MethodName := ⟨"EchoedRoundsModel", "well", "(I)Z"⟩
abbrev b_Mo_send : ByteArray := prog_8_method_5_code
def y_Mo_send : MethodName := ⟨"EchoedRoundsModel", "send", "(IIIII)V"⟩
abbrev b_Mo_setDoes : ByteArray := prog_8_method_9_code
def y_Mo_setDoes : MethodName := ⟨"EchoedRoundsModel", "setDoes", "(IIII)Z"⟩
abbrev b_Mo_afterFirm : ByteArray := prog_8_method_14_code
def y_Mo_afterFirm : MethodName := ⟨"EchoedRoundsModel", "afterFirm", "(II)I"⟩
abbrev b_Mo_sent : ByteArray := prog_8_method_22_code
def y_Mo_sent : MethodName := ⟨"EchoedRoundsModel", "sent", "(I)I"⟩
abbrev b_Mo_message : ByteArray := prog_8_method_23_code
def y_Mo_message : MethodName := ⟨"EchoedRoundsModel", "message", "(II)I"⟩
abbrev b_Mo_waiting : ByteArray := prog_8_method_24_code
def y_Mo_waiting : MethodName := ⟨"EchoedRoundsModel", "waiting", "(II)I"⟩
abbrev b_Mo_votes : ByteArray := prog_8_method_26_code
def y_Mo_votes : MethodName := ⟨"EchoedRoundsModel", "votes", "(IIIIZ)I"⟩
abbrev b_Mo_accepted : ByteArray := prog_8_method_27_code
def y_Mo_accepted : MethodName := ⟨"EchoedRoundsModel", "accepted", "(III)I"⟩
abbrev b_Mo_rowAt : ByteArray := prog_8_method_28_code
def y_Mo_rowAt : MethodName := ⟨"EchoedRoundsModel", "rowAt", "(III)I"⟩
abbrev b_Mo_slot : ByteArray := prog_8_method_29_code
def y_Mo_slot : MethodName := ⟨"EchoedRoundsModel", "slot", "(I)I"⟩
abbrev b_Mo_value : ByteArray := prog_8_method_30_code
def y_Mo_value : MethodName := ⟨"EchoedRoundsModel", "value", "(I)I"⟩
abbrev b_Mo_decided : ByteArray := prog_8_method_31_code
def y_Mo_decided : MethodName := ⟨"EchoedRoundsModel", "decided", "(I)I"⟩
abbrev b_ER_init : ByteArray := prog_1_method_1_code
def y_ER_init : MethodName := ⟨"EchoedRounds", "<init>", "(I)V"⟩
abbrev b_ER_corrupt : ByteArray := prog_1_method_2_code
def y_ER_corrupt : MethodName := ⟨"EchoedRounds", "corrupt", "(I)Z"⟩
abbrev b_ER_tosses : ByteArray := prog_1_method_3_code
def y_ER_tosses : MethodName := ⟨"EchoedRounds", "tosses", "(II)Z"⟩
abbrev b_Node_hearEcho : ByteArray := prog_3_method_5_code
def y_Node_hearEcho : MethodName := ⟨"EchoedRounds$Node", "hearEcho", "(III)V"⟩
abbrev b_Node_hearReady : ByteArray := prog_3_method_6_code
def y_Node_hearReady : MethodName := ⟨"EchoedRounds$Node", "hearReady", "(III)V"⟩
abbrev b_Rules_follows : ByteArray := prog_5_method_4_code
def y_Rules_follows : MethodName := ⟨"EchoedRounds$Rules", "follows", "(IIILEchoedRounds$Row;)Z"⟩
abbrev b_Node_endRound : ByteArray := prog_3_method_13_code
def y_Node_endRound : MethodName := ⟨"EchoedRounds$Node", "endRound", "(ILEchoedRounds$Row;)I"⟩
abbrev b_Mo_corrupt : ByteArray := prog_8_method_17_code
def y_Mo_corrupt : MethodName := ⟨"EchoedRoundsModel", "corrupt", "(I)Z"⟩
abbrev b_Mo_tosses : ByteArray := prog_8_method_18_code
def y_Mo_tosses : MethodName := ⟨"EchoedRoundsModel", "tosses", "(II)Z"⟩
abbrev b_Mo_receive : ByteArray := prog_8_method_7_code
def y_Mo_receive : MethodName := ⟨"EchoedRoundsModel", "receive", "(IIIIII)Z"⟩
abbrev b_Mo_some : ByteArray := prog_8_method_10_code
def y_Mo_some : MethodName := ⟨"EchoedRoundsModel", "some", "(III)Z"⟩
abbrev b_Mo_goOn : ByteArray := prog_8_method_15_code
def y_Mo_goOn : MethodName := ⟨"EchoedRoundsModel", "goOn", "(I)Z"⟩
abbrev b_Node_hear : ByteArray := prog_3_method_4_code
def y_Node_hear : MethodName := ⟨"EchoedRounds$Node", "hear", "(II)Z"⟩
abbrev b_Node_canBecomeValid : ByteArray := prog_3_method_10_code
def y_Node_canBecomeValid : MethodName := ⟨"EchoedRounds$Node", "canBecomeValid", "(II)Z"⟩
abbrev b_Node_valueAfter : ByteArray := prog_3_method_12_code
def y_Node_valueAfter : MethodName := ⟨"EchoedRounds$Node", "valueAfter", "(I)I"⟩
abbrev b_Mo_receiveFromLog : ByteArray := prog_8_method_8_code
def y_Mo_receiveFromLog : MethodName := ⟨"EchoedRoundsModel", "receiveFromLog", "(II)V"⟩
abbrev b_Mo_can : ByteArray := prog_8_method_11_code
def y_Mo_can : MethodName := ⟨"EchoedRoundsModel", "can", "(III)Z"⟩
abbrev b_Node_hearNextOf : ByteArray := prog_3_method_3_code
def y_Node_hearNextOf : MethodName := ⟨"EchoedRounds$Node", "hearNextOf", "(ILEchoedRounds$Log;)Z"⟩
abbrev b_Node_makeOneValid : ByteArray := prog_3_method_9_code
def y_Node_makeOneValid : MethodName := ⟨"EchoedRounds$Node", "makeOneValid", "()Z"⟩
abbrev b_Node_goOn : ByteArray := prog_3_method_11_code
def y_Node_goOn : MethodName := ⟨"EchoedRounds$Node", "goOn", "()Z"⟩
abbrev b_Mo_validate : ByteArray := prog_8_method_12_code
def y_Mo_validate : MethodName := ⟨"EchoedRoundsModel", "validate", "(I)Z"⟩
abbrev b_Node_settle : ByteArray := prog_3_method_8_code
def y_Node_settle : MethodName := ⟨"EchoedRounds$Node", "settle", "()V"⟩
abbrev b_Mo_settle : ByteArray := prog_8_method_16_code
def y_Mo_settle : MethodName := ⟨"EchoedRoundsModel", "settle", "(I)V"⟩
abbrev b_ER_start : ByteArray := prog_1_method_4_code
def y_ER_start : MethodName := ⟨"EchoedRounds", "start", "(II)Z"⟩
abbrev b_ER_pass : ByteArray := prog_1_method_5_code
def y_ER_pass : MethodName := ⟨"EchoedRounds", "pass", "(III)I"⟩
abbrev b_ER_forge : ByteArray := prog_1_method_6_code
def y_ER_forge : MethodName := ⟨"EchoedRounds", "forge", "(IIIII)Z"⟩
abbrev b_Mo_start : ByteArray := prog_8_method_19_code
def y_Mo_start : MethodName := ⟨"EchoedRoundsModel", "start", "(II)Z"⟩
abbrev b_Mo_pass : ByteArray := prog_8_method_20_code
def y_Mo_pass : MethodName := ⟨"EchoedRoundsModel", "pass", "(III)I"⟩
abbrev b_Mo_forge : ByteArray := prog_8_method_21_code
def y_Mo_forge : MethodName := ⟨"EchoedRoundsModel", "forge", "(IIIII)Z"⟩
def F_ER : u_T := fun k => match k with
  | _ => ("EchoedRounds", "nodes", "[LEchoedRounds$Node;", true)
def t_ER : Nat → FieldType := fun k => match k with
  | _ => .array (.object "EchoedRounds$Node")
def F_Rules : u_T := fun k => match k with
  | 0 => ("EchoedRounds$Rules", "count", "I", true)
  | 1 => ("EchoedRounds$Rules", "liars", "I", true)
  | 2 => ("EchoedRounds$Rules", "chosen", "I", true)
  | _ => ("EchoedRounds$Rules", "echoesForReady", "I", true)
def t_Rules : Nat → FieldType := fun k => match k with
  | 0 => .int
  | 1 => .int
  | 2 => .int
  | _ => .int
def F_Node : u_T := fun k => match k with
  | 0 => ("EchoedRounds$Node", "self", "I", true)
  | 1 => ("EchoedRounds$Node", "rules", "LEchoedRounds$Rules;", true)
  | 2 => ("EchoedRounds$Node", "log", "LEchoedRounds$Log;", true)
  | 3 => ("EchoedRounds$Node", "tally", "LEchoedRounds$Tally;", true)
  | 4 => ("EchoedRounds$Node", "heardOf", "[I", true)
  | 5 => ("EchoedRounds$Node", "readied", "[Z", true)
  | 6 => ("EchoedRounds$Node", "taken", "[I", true)
  | 7 => ("EchoedRounds$Node", "rows", "[LEchoedRounds$Row;", true)
  | 8 => ("EchoedRounds$Node", "wellBehaved", "Z", false)
  | 9 => ("EchoedRounds$Node", "tossBits", "I", false)
  | 10 => ("EchoedRounds$Node", "currentSlot", "I", false)
  | 11 => ("EchoedRounds$Node", "currentValue", "I", false)
  | _ => ("EchoedRounds$Node", "decision", "I", false)
def t_Node : Nat → FieldType := fun k => match k with
  | 0 => .int
  | 1 => .object "EchoedRounds$Rules"
  | 2 => .object "EchoedRounds$Log"
  | 3 => .object "EchoedRounds$Tally"
  | 4 => .array .int
  | 5 => .array .boolean
  | 6 => .array .int
  | 7 => .array (.object "EchoedRounds$Row")
  | 8 => .boolean
  | 9 => .int
  | 10 => .int
  | 11 => .int
  | _ => .int
def F_Log : u_T := fun k => match k with
  | 0 => ("EchoedRounds$Log", "codes", "[I", true)
  | _ => ("EchoedRounds$Log", "size", "I", false)
def t_Log : Nat → FieldType := fun k => match k with
  | 0 => .array .int
  | _ => .int
def F_Tally : u_T := fun k => match k with
  | 0 => ("EchoedRounds$Tally", "senders", "[I", true)
  | _ => ("EchoedRounds$Tally", "counts", "[I", true)
def t_Tally : Nat → FieldType := fun k => match k with
  | 0 => .array .int
  | _ => .array .int
def F_Row : u_T := fun k => match k with
  | 0 => ("EchoedRounds$Row", "speakers", "[I", true)
  | 1 => ("EchoedRounds$Row", "said", "[I", true)
  | 2 => ("EchoedRounds$Row", "counts", "[I", true)
  | _ => ("EchoedRounds$Row", "size", "I", false)
def t_Row : Nat → FieldType := fun k => match k with
  | 0 => .array .int
  | 1 => .array .int
  | 2 => .array .int
  | _ => .int
def F_Mo : u_T := fun k => match k with
  | 0 => ("EchoedRoundsModel", "nodes", "I", true)
  | 1 => ("EchoedRoundsModel", "faults", "I", true)
  | 2 => ("EchoedRoundsModel", "ill", "[Z", true)
  | 3 => ("EchoedRoundsModel", "logs", "[I", true)
  | 4 => ("EchoedRoundsModel", "sizes", "[I", true)
  | 5 => ("EchoedRoundsModel", "got", "[I", true)
  | 6 => ("EchoedRoundsModel", "heardSaying", "[Z", true)
  | 7 => ("EchoedRoundsModel", "sentReady", "[Z", true)
  | 8 => ("EchoedRoundsModel", "accepts", "[I", true)
  | 9 => ("EchoedRoundsModel", "valid", "[Z", true)
  | 10 => ("EchoedRoundsModel", "rows", "[I", true)
  | 11 => ("EchoedRoundsModel", "rowSizes", "[I", true)
  | 12 => ("EchoedRoundsModel", "heard", "[I", true)
  | 13 => ("EchoedRoundsModel", "slots", "[I", true)
  | 14 => ("EchoedRoundsModel", "values", "[I", true)
  | 15 => ("EchoedRoundsModel", "decisions", "[I", true)
  | 16 => ("EchoedRoundsModel", "toss", "[I", true)
  | _ => ("EchoedRoundsModel", "chosen", "[I", true)
def t_Mo : Nat → FieldType := fun k => match k with
  | 0 => .int
  | 1 => .int
  | 2 => .array .boolean
  | 3 => .array .int
  | 4 => .array .int
  | 5 => .array .int
  | 6 => .array .boolean
  | 7 => .array .boolean
  | 8 => .array .int
  | 9 => .array .boolean
  | 10 => .array .int
  | 11 => .array .int
  | 12 => .array .int
  | 13 => .array .int
  | 14 => .array .int
  | 15 => .array .int
  | 16 => .array .int
  | _ => .array .int
abbrev classes : List vw_C := [("EchoedRounds", F_ER, 1), ("EchoedRounds$Rules", F_Rules, 4), ("EchoedRounds$Node", F_Node, 13), ("EchoedRounds$Log", F_Log, 2), ("EchoedRounds$Tally", F_Tally, 2), ("EchoedRounds$Row", F_Row, 4), ("EchoedRoundsModel", F_Mo, 18)]
def er_nf (ci : Nat) : Nat := match ci with
  | 0 => 1
  | 1 => 4
  | 2 => 13
  | 3 => 2
  | 4 => 2
  | 5 => 4
  | 6 => 18
  | _ => 0
def er_rf (ci j : Nat) : Bool := match ci with
  | 0 => decide (0 ≤ j) && decide (j ≤ 0)
  | 1 => false
  | 2 => decide (1 ≤ j) && decide (j ≤ 7)
  | 3 => decide (0 ≤ j) && decide (j ≤ 0)
  | 4 => decide (0 ≤ j) && decide (j ≤ 1)
  | 5 => decide (0 ≤ j) && decide (j ≤ 2)
  | 6 => decide (2 ≤ j) && decide (j ≤ 17)
  | _ => false
def er_O2 : String := "EchoedRounds$Node"
def er_O3 : String := "EchoedRounds$Row"
def er_AOs : List String := [er_O2, er_O3]
def er_T : List Cond := lw_tbl.filter goodWord
def er_isN (w : Cond) : Bool := match w with
  | .fieldLinkNest _ _ _ _ _ _ => true
  | .methodLinkNest _ _ _ _ => true
  | _ => false
def er_Ns : List Cond := tables_1.filter er_isN
theorem er_NsN : er_Ns.all er_isN = true := List.all_eq_true.mpr fun w h => (List.mem_filter.mp h).2
theorem er_good : GoodIn er_T er_T := fun w hw => ⟨hw, good_of_word (List.mem_filter.mp hw).2⟩
theorem er_inT {w : Cond} (i : Nat) (h : tables_1[i]? = some w) (g : goodWord w = true) : w ∈ er_T := List.mem_filter.mpr ⟨List.mem_append_right _ (List.mem_of_getElem? h), g⟩
theorem er_inN {w : Cond} (i : Nat) (h : tables_1[i]? = some w) (g : er_isN w = true) : w ∈ er_Ns := List.mem_filter.mpr ⟨List.mem_of_getElem? h, g⟩
end
section
/-! memory: T holds kinds (at -2), lengths (at -1), references (T 0 0: how many cells); M the ints. A cell a of the memory lies at the heap's base + a; 0 is the script. er_nf, er_rf: fields of a class and which are references (part 08) -/
abbrev er_V : Type := Int ⊕ Int
abbrev er_Me : Type := Int → Int → Int
abbrev er_Ba : Type := Nat × Nat × Nat × (Nat → Int32)
abbrev er_X : Type := va_G × (Nat → ClassId) × er_Ba
abbrev er_rg (x : Int) : Prop := -2147483648 ≤ x ∧ x < 2147483648
def er_ok (v : er_V) : Prop := match v with
  | .inl x => er_rg x
  | .inr _ => True
def er_ad (X : er_X) (a : Int) : Nat := if a = 0 then X.2.2.2.1 else X.2.2.1 + a.toNat
def er_cv (X : er_X) (v : er_V) : Value := match v with
  | .inl x => .int (Int32.ofInt x)
  | .inr a => .ref (er_ad X a)
def er_ro (X : er_X) (x : Int) : Option Nat := if x ≤ 0 then none else some (er_ad X x)
def er_sv (X : er_X) (T M : er_Me) (a : Int) (r : Bool) (j : Nat) : Value := if r = true then va_rf (er_ro X (T a j)) else .int (Int32.ofInt (M a j))
def er_fs (X : er_X) (T M : er_Me) (a : Int) (ci : Nat) : List Value := (List.range (er_nf ci)).map fun j => er_sv X T M a (er_rf ci j) j
def er_cell (X : er_X) (T M : er_Me) (a : Int) : va_E :=
  if T a (-2) ≤ 100 then .inr ((T a (-2)).toNat - 1, er_fs X T M a ((T a (-2)).toNat - 1))
  else if T a (-2) ≤ 102 then .inl (X.2.1 ((T a (-2)).toNat - 101), (T a (-1)).toNat, .inl fun i => Int32.ofInt (M a i))
  else .inl (X.2.1 ((T a (-2)).toNat - 101), (T a (-1)).toNat, .inr (.inr (.inr (.inr fun i => er_ro X (T a i)))))
def er_ws (X : er_X) (T M : er_Me) : va_W := (List.range (T 0 0).toNat).map fun i => (X.2.2.1 + (i + 1), er_cell X T M ((i : Int) + 1))
def er_up (M : er_Me) (a i v : Int) : er_Me := fun a' i' => if a' = a ∧ i' = i then v else M a' i'
def er_nw (T : er_Me) (kind len : Int) : er_Me := fun a i => if a = T 0 0 + 1 then (if i = -1 then len else if i = -2 then kind else 0) else if a = 0 ∧ i = 0 then T 0 0 + 1 else T a i
def er_mw (M : er_Me) (b : Int) : er_Me := fun a i => if a = b then 0 else M a i
def er_Rg (T M : er_Me) : Prop := (∀ a i, er_rg (M a i)) ∧ (∀ a, T a (-2) ≠ 0 → 0 < a ∧ a ≤ T 0 0) ∧ (∀ a, 0 ≤ T a (-1) ∧ T a (-1) < 2147483648) ∧ 0 ≤ T 0 0
def er_A (X : er_X) : Nat → Prop := fun q => X.2.2.1 < q
def er_lv (X : er_X) (L : List (Nat × er_V)) : List (Nat × Value) := L.map fun q => (q.1, er_cv X q.2)
def er_st (X : er_X) (st : List er_V) : List Value := st.map (er_cv X)
def er_tys (X : er_X) : List (ClassId × FieldType) := [(X.2.1 0, .int), (X.2.1 1, .boolean), (X.2.1 2, .object er_O2), (X.2.1 3, .object er_O3)]
-- arithmetic: what the machine makes of two ints
def er_w (x : Int) : Int := (Int32.ofInt x).toInt
def er_add (x y : Int) : Int := (Int32.ofInt x + Int32.ofInt y).toInt
def er_sub (x y : Int) : Int := (Int32.ofInt x - Int32.ofInt y).toInt
def er_mul (x y : Int) : Int := (Int32.ofInt x * Int32.ofInt y).toInt
def er_div (x y : Int) : Int := (Int32.ofInt x / Int32.ofInt y).toInt
def er_rem (x y : Int) : Int := (Int32.ofInt x - Int32.ofInt x / Int32.ofInt y * Int32.ofInt y).toInt
def er_and (x y : Int) : Int := (Int32.ofInt x &&& Int32.ofInt y).toInt
def er_or (x y : Int) : Int := (Int32.ofInt x ||| Int32.ofInt y).toInt
def er_shl (x y : Int) : Int := (Int32.ofInt x <<< (Int32.ofInt y &&& 31)).toInt
def er_shr (x y : Int) : Int := (Int32.ofInt x >>> (Int32.ofInt y &&& 31)).toInt
def er_max (x y : Int) : Int := if x < y then y else x
def er_min (x y : Int) : Int := if y < x then y else x
theorem er_rgI (q : Int32) : er_rg q.toInt := ⟨Int32.le_toInt q, Int32.toInt_lt q⟩
theorem er_cvI {X : er_X} (q : Int32) : er_cv X (.inl q.toInt) = .int q := by
  show Value.int (Int32.ofInt q.toInt) = Value.int q
  rw [Int32.ofInt_toInt]
theorem er_wI {x : Int} (h : er_rg x) : (Int32.ofInt x).toInt = x := Int32.toInt_ofInt_of_le h.1 h.2
theorem er_eqI {x y : Int} (hx : er_rg x) (hy : er_rg y) : Int32.ofInt x = Int32.ofInt y ↔ x = y := ⟨fun h => by rw [← er_wI hx, ← er_wI hy, h], fun h => by rw [h]⟩
theorem er_ltI {x y : Int} (hx : er_rg x) (hy : er_rg y) : Int32.ofInt x < Int32.ofInt y ↔ x < y := by rw [Int32.lt_iff_toInt_lt, er_wI hx, er_wI hy]
theorem er_leI {x y : Int} (hx : er_rg x) (hy : er_rg y) : Int32.ofInt x ≤ Int32.ofInt y ↔ x ≤ y := by rw [Int32.le_iff_toInt_le, er_wI hx, er_wI hy]
theorem er_rg0 : er_rg 0 := by unfold er_rg; omega
theorem er_i0 : Int32.ofInt 0 = 0 := by decide +kernel
theorem er_nIo (n : Nat) : Int32.ofInt (n : Int) = nI n := Int32.ofInt_eq_ofNat
theorem er_clI {i : Int} (h0 : 0 ≤ i) (h1 : i < 2147483648) : (Int32.ofInt i).toNatClampNeg = i.toNat := by
  obtain ⟨n, rfl⟩ := Int.eq_ofNat_of_zero_le h0
  rw [er_nIo, nI_clamp (by omega)]
  rfl
theorem er_inI {i n : Int} (h0 : 0 ≤ i) (h1 : i < n) (hn : n < 2147483648) : vp_in (Int32.ofInt i) n.toNat := by
  obtain ⟨k, rfl⟩ := Int.eq_ofNat_of_zero_le h0
  rw [er_nIo]
  exact nI_in (by omega) (by omega)
theorem er_cat (X : er_X) (v : er_V) : (er_cv X v).category = 1 := by cases v <;> rfl
-- the world's list
theorem er_len (X : er_X) (T M : er_Me) : (er_ws X T M).length = (T 0 0).toNat := by simp [er_ws]
theorem er_wsI {X : er_X} {T M : er_Me} {i : Nat} (h : i < (T 0 0).toNat) : (er_ws X T M)[i]? = some (X.2.2.1 + (i + 1), er_cell X T M ((i : Int) + 1)) := by
  rw [er_ws, List.getElem?_map, List.getElem?_range h]
  rfl
theorem er_at {X : er_X} {T M : er_Me} (hg : er_Rg T M) {a : Int} (hk : T a (-2) ≠ 0) : (er_ws X T M)[a.toNat - 1]? = some (er_ad X a, er_cell X T M a) := by
  obtain ⟨h0, h1⟩ := hg.2.1 a hk
  rw [er_wsI (by omega)]
  have e1 : (((a.toNat - 1 : Nat) : Int) + 1) = a := by omega
  have e2 : X.2.2.1 + (a.toNat - 1 + 1) = er_ad X a := by unfold er_ad; rw [if_neg (by omega)]; omega
  rw [e1, e2]
theorem er_Dw (X : er_X) (T M : er_Me) : va_D (er_A X) (er_ws X T M) := by
  have key : ∀ (i : Nat) (q : Nat × va_E), (er_ws X T M)[i]? = some q → q.1 = X.2.2.1 + (i + 1) := by
    intro i q h
    have hi : i < (T 0 0).toNat := by
      have := (List.getElem?_eq_some_iff.mp h).1
      rw [er_len] at this
      exact this
    rw [er_wsI hi] at h
    rw [← Option.some.inj h]
  refine ⟨fun i j p q hi hj e => ?_, fun k q hk => ?_⟩
  · have h1 := key i p hi
    have h2 := key j q hj
    omega
  · have h1 := key k q hk
    show X.2.2.1 < q.1
    omega
theorem er_set {X : er_X} {T M T' M' : er_Me} {a : Int} (h0 : 0 < a) (hT : T' 0 0 = T 0 0) (ho : ∀ a' : Int, a' ≠ a → 0 < a' → er_cell X T' M' a' = er_cell X T M a') : (er_ws X T M).set (a.toNat - 1) (er_ad X a, er_cell X T' M' a) = er_ws X T' M' := by
  apply List.ext_getElem?
  intro i
  by_cases hi : i < (T 0 0).toNat
  · rw [er_wsI (T := T') (M := M') (by rw [hT]; exact hi), List.getElem?_set]
    by_cases h : a.toNat - 1 = i
    · rw [if_pos h, if_pos (by rw [er_len]; omega)]
      have e1 : ((i : Int) + 1) = a := by omega
      have e2 : X.2.2.1 + (i + 1) = er_ad X a := by unfold er_ad; rw [if_neg (by omega)]; omega
      rw [e1, e2]
    · rw [if_neg h, er_wsI hi, ho _ (by omega) (by omega)]
  · rw [List.getElem?_eq_none (by rw [List.length_set, er_len]; omega), List.getElem?_eq_none (by rw [er_len, hT]; omega)]
theorem er_cellM {X : er_X} {T M : er_Me} {a i v a' : Int} (h : a' ≠ a) : er_cell X T (er_up M a i v) a' = er_cell X T M a' := by
  unfold er_cell er_fs er_sv er_up
  simp only [h, false_and, if_false]
theorem er_cellT {X : er_X} {T M : er_Me} {a i v a' : Int} (h : a' ≠ a) : er_cell X (er_up T a i v) M a' = er_cell X T M a' := by
  unfold er_cell er_fs er_sv er_up
  simp only [h, false_and, if_false]
theorem er_cellO {X : er_X} {T M : er_Me} {a : Int} {ci : Nat} (h : T a (-2) = (ci : Int) + 1) (hc : ci < 100) : er_cell X T M a = .inr (ci, er_fs X T M a ci) := by
  unfold er_cell
  rw [if_pos (by omega), show (T a (-2)).toNat - 1 = ci by omega]
theorem er_cellI {X : er_X} {T M : er_Me} {a : Int} {t : Nat} (h : T a (-2) = (t : Int) + 101) (ht : t < 2) : er_cell X T M a = .inl (X.2.1 t, (T a (-1)).toNat, .inl fun i => Int32.ofInt (M a i)) := by
  unfold er_cell
  rw [if_neg (by omega), if_pos (by omega), show (T a (-2)).toNat - 101 = t by omega]
theorem er_cellR {X : er_X} {T M : er_Me} {a : Int} {t : Nat} (h : T a (-2) = (t : Int) + 101) (ht : 2 ≤ t) : er_cell X T M a = .inl (X.2.1 t, (T a (-1)).toNat, .inr (.inr (.inr (.inr fun i => er_ro X (T a i))))) := by
  unfold er_cell
  rw [if_neg (by omega), if_neg (by omega), show (T a (-2)).toNat - 101 = t by omega]
theorem er_fsA {X : er_X} {T M : er_Me} {a : Int} {ci j : Nat} (h : j < er_nf ci) : (er_fs X T M a ci)[j]? = some (er_sv X T M a (er_rf ci j) j) := by
  rw [er_fs, List.getElem?_map, List.getElem?_range h]
  rfl
theorem er_fsL (X : er_X) (T M : er_Me) (a : Int) (ci : Nat) : (er_fs X T M a ci).length = er_nf ci := by simp [er_fs]
theorem er_fsM {X : er_X} {T M : er_Me} {a x : Int} {ci k : Nat} (hr : er_rf ci k = false) : (er_fs X T M a ci).set k (.int (Int32.ofInt x)) = er_fs X T (er_up M a k x) a ci := by
  apply List.ext_getElem?
  intro j
  by_cases hj : j < er_nf ci
  · rw [er_fsA hj, List.getElem?_set]
    by_cases h : k = j
    · subst h
      rw [if_pos rfl, if_pos (by rw [er_fsL]; exact hj)]
      simp [er_sv, hr, er_up]
    · rw [if_neg h, er_fsA hj]
      have : ¬ ((j : Int) = (k : Int)) := by omega
      simp [er_sv, er_up, this]
  · rw [List.getElem?_eq_none (by rw [List.length_set, er_fsL]; omega), List.getElem?_eq_none (by rw [er_fsL]; omega)]
theorem er_fsT {X : er_X} {T M : er_Me} {a y : Int} {ci k : Nat} (hr : er_rf ci k = true) (hy : 0 < y) : (er_fs X T M a ci).set k (.ref (er_ad X y)) = er_fs X (er_up T a k y) M a ci := by
  apply List.ext_getElem?
  intro j
  by_cases hj : j < er_nf ci
  · rw [er_fsA hj, List.getElem?_set]
    by_cases h : k = j
    · subst h
      rw [if_pos rfl, if_pos (by rw [er_fsL]; exact hj)]
      have : ¬ y ≤ 0 := by omega
      simp [er_sv, hr, er_up, er_ro, va_rf, this]
    · rw [if_neg h, er_fsA hj]
      have : ¬ ((j : Int) = (k : Int)) := by omega
      simp [er_sv, er_up, this]
  · rw [List.getElem?_eq_none (by rw [List.length_set, er_fsL]; omega), List.getElem?_eq_none (by rw [er_fsL]; omega)]
theorem er_RgM {T M : er_Me} {a i x : Int} (h : er_Rg T M) (hx : er_rg x) : er_Rg T (er_up M a i x) := by
  refine ⟨fun a' i' => ?_, h.2⟩
  unfold er_up
  split
  · exact hx
  · exact h.1 a' i'
theorem er_RgT {T M : er_Me} {a i y : Int} (h : er_Rg T M) (h0 : 0 < a) (hi : 0 ≤ i) : er_Rg (er_up T a i y) M := by
  have e1 : ∀ b : Int, er_up T a i y b (-2) = T b (-2) := fun b => if_neg (fun q => by omega)
  have e2 : ∀ b : Int, er_up T a i y b (-1) = T b (-1) := fun b => if_neg (fun q => by omega)
  have e3 : er_up T a i y 0 0 = T 0 0 := if_neg (fun q => by omega)
  refine ⟨h.1, fun b => ?_, fun b => ?_, ?_⟩
  · rw [e1, e3]; exact h.2.1 b
  · rw [e2]; exact h.2.2.1 b
  · rw [e3]; exact h.2.2.2
theorem er_nw0 (T : er_Me) (h : 0 ≤ T 0 0) (kd n : Int) : er_nw T kd n 0 0 = T 0 0 + 1 := by
  unfold er_nw
  rw [if_neg (by omega), if_pos ⟨rfl, rfl⟩]
theorem er_nwO (T : er_Me) (kd n : Int) {a : Int} (h : a ≠ T 0 0 + 1) (h0 : 0 < a) : er_nw T kd n a = T a := by
  funext i
  unfold er_nw
  rw [if_neg h, if_neg (by omega)]
theorem er_nwA (T : er_Me) (kd n i : Int) : er_nw T kd n (T 0 0 + 1) i = (if i = -1 then n else if i = -2 then kd else 0) := by
  unfold er_nw
  rw [if_pos rfl]
theorem er_RgN {T M : er_Me} {kd n : Int} (h : er_Rg T M) (hn : 0 ≤ n ∧ n < 2147483648) : er_Rg (er_nw T kd n) (er_mw M (T 0 0 + 1)) := by
  have hz := er_nw0 T h.2.2.2 kd n
  refine ⟨fun a i => ?_, fun a => ?_, fun a => ?_, ?_⟩
  · unfold er_mw
    split
    · exact er_rg0
    · exact h.1 a i
  · rw [hz]
    intro hk
    by_cases ha : a = T 0 0 + 1
    · have := h.2.2.2
      omega
    · have hk2 : T a (-2) ≠ 0 := by
        intro e
        apply hk
        unfold er_nw
        rw [if_neg ha, if_neg (by omega), e]
      have := h.2.1 a hk2
      omega
  · by_cases ha : a = T 0 0 + 1
    · subst ha
      rw [er_nwA, if_pos rfl]
      exact hn
    · have e : er_nw T kd n a (-1) = T a (-1) := by
        unfold er_nw
        rw [if_neg ha, if_neg (by omega)]
      rw [e]
      exact h.2.2.1 a
  · rw [hz]
    have := h.2.2.2
    omega
theorem er_cellN {X : er_X} {T M : er_Me} {kd n a : Int} (h : a ≠ T 0 0 + 1) (h0 : 0 < a) : er_cell X (er_nw T kd n) (er_mw M (T 0 0 + 1)) a = er_cell X T M a := by
  have e : er_mw M (T 0 0 + 1) a = M a := by funext i; unfold er_mw; rw [if_neg h]
  unfold er_cell er_fs er_sv
  rw [er_nwO T kd n h h0, e]
theorem er_wsN {X : er_X} {T M : er_Me} {kd n : Int} (h : er_Rg T M) : er_ws X (er_nw T kd n) (er_mw M (T 0 0 + 1)) = er_ws X T M ++ [(X.2.2.1 + 1 + (T 0 0).toNat, er_cell X (er_nw T kd n) (er_mw M (T 0 0 + 1)) (T 0 0 + 1))] := by
  have h4 := h.2.2.2
  apply List.ext_getElem?
  intro i
  by_cases hi : i < (T 0 0).toNat
  · rw [er_wsI (by rw [er_nw0 T h4]; omega), List.getElem?_append_left (by rw [er_len]; exact hi), er_wsI hi, er_cellN (by omega) (by omega)]
  · by_cases he : i = (T 0 0).toNat
    · rw [er_wsI (by rw [er_nw0 T h4]; omega), List.getElem?_append_right (by rw [er_len]; omega), er_len, show i - (T 0 0).toNat = 0 by omega]
      have e1 : ((i : Int) + 1) = T 0 0 + 1 := by omega
      have e2 : X.2.2.1 + (i + 1) = X.2.2.1 + 1 + (T 0 0).toNat := by omega
      rw [e1, e2]
      rfl
    · rw [List.getElem?_eq_none (by rw [er_len, er_nw0 T h4]; omega), List.getElem?_eq_none (by rw [List.length_append, er_len]; simp; omega)]
end
section
/-! the machine's context K (one tuple), the goal er_G over memory alone, contracts. er_T: the tables' words, er_Ns: the nest mates' words, er_AOs: component classes (part 08) -/
abbrev er_K : Type := Program × Launch × Env × Room × State × MethodId × Array Value × List Frame × Method × Code × (State → Prop) × Nat × er_X
def er_Z (X : er_X) (s : State) (nL : Nat) (T M : er_Me) (L : List (Nat × er_V)) (st : List er_V) (H : Heap) (locs : List Loc) (ls : Array Slot) : Prop :=
  er_Rg T M ∧ (∀ q ∈ L, er_ok q.2) ∧ (∀ v ∈ st, er_ok v) ∧ H.size = X.2.2.1 + 1 + (T 0 0).toNat ∧ va_P X.1 classes (er_ws X T M) H ∧ va_S (er_A X) s.heap H locs ∧ lv_has ls nL (er_lv X L)
def er_G (K : er_K) (cells slots : Nat) (T M : er_Me) (pc : Nat) (L : List (Nat × er_V)) (st : List er_V) : Prop := match K with
  | (p, l, e, R, s, m, args, below, meth, c, Q, nL, X) => ∀ (H : Heap) (locs : List Loc) (ls : Array Slot), er_Z X s nL T M L st H locs ls → W p l e R s m args below meth c H locs cells slots Q (F0 m pc ls (er_st X st))
def er_KK (X : er_X) (U : State) : Prop := va_K X.1 classes (er_tys X) U ∧ (∀ w ∈ er_Ns, va_Nw w U) ∧ (∀ C ∈ er_AOs, va_AO C U)
def er_XX (X : er_X) (U : State) : Prop := va_X X.2.2.2.1 X.2.2.2.2.1 X.2.2.2.2.2 U U.heap ∧ X.2.2.2.1 ≤ X.2.2.1 ∧ X.2.2.2.2.1 < 2147483648
def er_Cx (K : er_K) (l : Launch) (X : er_X) (cc : ByteArray) (own : String) (nL : Nat) (R : Room) : Prop :=
  ∃ (p : Program) (e : Env) (s : State) (m : MethodId) (args : Array Value) (below : List Frame) (meth : Method) (c : Code) (Q : State → Prop), K = (p, l, e, R, s, m, args, below, meth, c, Q, nL, X) ∧ p.tables.exec = Jvm.exec ∧ c.code = cc ∧ c.maxLocals = nL ∧ s.vm.findClass own = some m.cls ∧ (∀ w ∈ er_T, w.before args s = true) ∧ er_KK X s ∧ er_XX X s ∧ X.2.2.1 < s.heap.size
def er_In (K : er_K) : Prop := K.2.2.2.2.2.2.2.2.1.name = "<init>"
def er_Qc (X : er_X) (r : Option er_V) (T M : er_Me) : Array Value → State → Outcome → State → Prop := fun _ st oc t =>
  (oc = .returned (r.map (er_cv X)) ∧ (∀ v, r = some v → er_ok v) ∧ er_Rg T M ∧ t.heap.size = X.2.2.1 + 1 + (T 0 0).toNat ∧ va_P X.1 classes (er_ws X T M) t.heap) ∧ va_F (er_A X) st t
def er_Pw (X : er_X) (T M : er_Me) (U : State) : Prop := er_Rg T M ∧ U.heap.size = X.2.2.1 + 1 + (T 0 0).toNat ∧ va_P X.1 classes (er_ws X T M) U.heap ∧ er_KK X U ∧ er_XX X U
def er_Ct (l : Launch) (X : er_X) (y : MethodName) (cc : ByteArray) (maxL : Nat) (ret : Option FieldType) (rm : Room) (av : List er_V) (T M : er_Me) (r : Option er_V) (T' M' : er_Me) : Prop :=
  Met l y (.code y cc maxL ret :: er_T) rm (va_Pc (er_st X av) (er_Pw X T M)) (er_Qc X r T' M') rm.cells rm.slots (er_A X)
def er_Rt (K : er_K) (X : er_X) (cc : ByteArray) (ret : Option FieldType) (mc ms : Nat) (r : Option er_V) (T M : er_Me) : Prop :=
  ∃ (p : Program) (l : Launch) (e : Env) (R : Room) (s : State) (m : MethodId) (args : Array Value) (below : List Frame) (meth : Method) (c : Code) (nL : Nat), K = (p, l, e, R, s, m, args, below, meth, c, MQ below (er_Qc X r T M) args s mc ms (er_A X), nL, X) ∧ p.tables.exec = Jvm.exec ∧ c.code = cc ∧ meth.sig.returnType = ret ∧ meth.locks = false
def er_args : Nat → List er_V → List (Nat × er_V)
  | _, [] => []
  | i, v :: vs => (i, v) :: er_args (i + 1) vs
theorem er_argsI (X : er_X) : ∀ (vs : List er_V) (i : Nat), lv_args i (er_st X vs) = er_lv X (er_args i vs)
  | [], _ => rfl
  | v :: vs, i => by
    show (i, er_cv X v) :: lv_args (if (er_cv X v).category = 2 then i + 2 else i + 1) (er_st X vs) = (i, er_cv X v) :: er_lv X (er_args (i + 1) vs)
    rw [er_cat, if_neg (by decide), er_argsI X vs (i + 1)]
theorem er_argsO : ∀ (vs : List er_V) (i : Nat), (∀ v ∈ vs, er_ok v) → ∀ q ∈ er_args i vs, er_ok q.2
  | [], _, _, q, hq => by cases hq
  | v :: vs, i, h, q, hq => by
    rcases List.mem_cons.mp hq with e | e
    · rw [e]; exact h v List.mem_cons_self
    · exact er_argsO vs (i + 1) (fun w hw => h w (List.mem_cons_of_mem _ hw)) q e
theorem er_slI (X : er_X) : ∀ vs : List er_V, (lg_sl (er_st X vs)).length = vs.length
  | [] => rfl
  | v :: vs => by
    have h := er_slI X vs
    show ((if (er_cv X v).category = 2 then [Slot.val (er_cv X v), Slot.second] else [Slot.val (er_cv X v)]) ++ lg_sl (er_st X vs)).length = vs.length + 1
    rw [er_cat, if_neg (by decide), List.length_append, h]
    simp
    omega
theorem er_KK.warm {X : er_X} {s U : State} (hW : s.WarmedH U.vm) (h : er_KK X s) : er_KK X U := by
  refine ⟨va_K.moved hW.alike h.1, fun w hw => ?_, fun C hC => va_AO.moved hW.alike (h.2.2 C hC)⟩
  have h1 := h.2.1 w hw
  have h2 := List.all_eq_true.mp er_NsN w hw
  cases w <;> first | exact va_Nw.warmF hW h1 | exact va_Nw.warmM hW h1 | (exfalso; revert h2; simp [er_isN])
theorem er_KK.same {X : er_X} {s U : State} (hv : s.vm = U.vm) (h : er_KK X s) : er_KK X U := by
  refine ⟨va_K.moved (hv ▸ Vm.Alike.refl s.vm) h.1, fun w hw => ?_, fun C hC => va_AO.moved (hv ▸ Vm.Alike.refl s.vm) (h.2.2 C hC)⟩
  have h1 := h.2.1 w hw
  have h2 := List.all_eq_true.mp er_NsN w hw
  cases w <;> first | exact va_Nw.same rfl hv h1 | (exfalso; revert h2; simp [er_isN])
theorem er_XX.kept {X : er_X} {s U : State} {H : Heap} {locs : List Loc} (h : er_XX X s) (hlt : X.2.2.1 < s.heap.size) (hS : va_S (er_A X) s.heap H locs) (hU : U.heap = H) (hvm : s.vm.Alike U.vm) : er_XX X U := by
  refine ⟨?_, h.2⟩
  rw [hU]
  exact (h.1.kept (hS.2.1 _ (Nat.lt_of_le_of_lt h.2.1 hlt) (by show ¬ X.2.2.1 < _; have := h.2.1; omega))).moved hvm
theorem er_blind (X : er_X) (T M : er_Me) (av : List Value) : FrameBlind (va_Pc av (er_Pw X T M)) := by
  intro a U g mk q
  obtain ⟨q0, q1, q2, q3, q4, q5⟩ := q
  exact ⟨q0, q1, q2, q3, er_KK.same (s := U) (U := U.calling g mk a) rfl q4, va_X.moved (Vm.Alike.refl _) q5.1, q5.2⟩
set_option maxHeartbeats 1000000 in
/-- a contract out of a walk -/
theorem er_ct {l : Launch} {X : er_X} {y : MethodName} {cc : ByteArray} {maxL : Nat} {ret : Option FieldType} {rm : Room} {av : List er_V} {T M : er_Me} {r : Option er_V} {T' M' : er_Me} {own : String} (hy : plainName y.cls = true) (how : y.cls = own) (hav : av.length ≤ maxL) (hok : ∀ v ∈ av, er_ok v)
    (h : ∀ K : er_K, er_Cx K l X cc own maxL rm → er_Rt K X cc ret rm.cells rm.slots r T' M' → (y.name = "<init>" → er_In K) → er_G K 0 0 T M 0 (er_args 0 av) []) : er_Ct l X y cc maxL ret rm av T M r T' M' := by
  refine Met.ofW (cc := cc) (maxL := maxL) (ret := ret) hy rfl ?_
  intro p e s m args below meth c s₁ B hml hv
  obtain ⟨rfl, hg, hz, hP, hK, hX⟩ := hv
  subst how
  have hts := atoms_spec (ws := .code y cc maxL ret :: er_T) B.pre
  have hown : s.vm.findClass y.cls = some m.cls := findClass_of_methodNamed B.named
  rw [lg_entry_eq]
  refine h (p, l, e, rm, s, m, (er_st X av).toArray, below, meth, c, MQ below (er_Qc X r T' M') (er_st X av).toArray s rm.cells rm.slots (er_A X), maxL, X)
    ⟨p, e, s, m, _, below, meth, c, _, rfl, B.exec, B.bytes, hml, hown, fun w hw => hts w (List.mem_cons_of_mem _ hw), hK, hX, by omega⟩
    ⟨p, l, e, rm, s, m, _, below, meth, c, maxL, rfl, B.exec, B.bytes, B.returns, B.notSynchronized⟩ (fun hn => ((name_of_methodNamed B.named B.method).1).trans hn) s.heap [] _ ⟨hg, er_argsO av 0 hok, fun v hv => (by cases hv), hz, hP, va_S.rf, ?_⟩
  rw [← er_argsI]
  exact lv_entry (er_st X av) (by rw [er_slI]; exact hav)
theorem er_Z.st {X : er_X} {s : State} {nL : Nat} {T M : er_Me} {L : List (Nat × er_V)} {st st' : List er_V} {H : Heap} {locs : List Loc} {ls : Array Slot} (z : er_Z X s nL T M L st H locs ls) (h : ∀ v ∈ st', er_ok v) : er_Z X s nL T M L st' H locs ls := ⟨z.1, z.2.1, h, z.2.2.2⟩
theorem er_Z.a1 {X : er_X} {s : State} {nL : Nat} {T M : er_Me} {L : List (Nat × er_V)} {v : er_V} {st : List er_V} {H : Heap} {locs : List Loc} {ls : Array Slot} (z : er_Z X s nL T M L (v :: st) H locs ls) : er_ok v := z.2.2.1 v List.mem_cons_self
theorem er_Z.a2 {X : er_X} {s : State} {nL : Nat} {T M : er_Me} {L : List (Nat × er_V)} {v w : er_V} {st : List er_V} {H : Heap} {locs : List Loc} {ls : Array Slot} (z : er_Z X s nL T M L (v :: w :: st) H locs ls) : er_ok w := z.2.2.1 w (List.mem_cons_of_mem _ List.mem_cons_self)
theorem er_Z.p1 {X : er_X} {s : State} {nL : Nat} {T M : er_Me} {L : List (Nat × er_V)} {v : er_V} {st : List er_V} {H : Heap} {locs : List Loc} {ls : Array Slot} (z : er_Z X s nL T M L (v :: st) H locs ls) : er_Z X s nL T M L st H locs ls := z.st fun w hw => z.2.2.1 w (List.mem_cons_of_mem _ hw)
theorem er_Z.pu {X : er_X} {s : State} {nL : Nat} {T M : er_Me} {L : List (Nat × er_V)} {st : List er_V} {H : Heap} {locs : List Loc} {ls : Array Slot} (z : er_Z X s nL T M L st H locs ls) {v : er_V} (hv : er_ok v) : er_Z X s nL T M L (v :: st) H locs ls := z.st fun w hw => by
  rcases List.mem_cons.mp hw with e | e
  · rw [e]; exact hv
  · exact z.2.2.1 w e
theorem er_Z.lo {X : er_X} {s : State} {nL : Nat} {T M : er_Me} {L : List (Nat × er_V)} {st : List er_V} {H : Heap} {locs : List Loc} {ls : Array Slot} (z : er_Z X s nL T M L st H locs ls) {L' : List (Nat × er_V)} {ls' : Array Slot} (h : ∀ q ∈ L', er_ok q.2) (hl : lv_has ls' nL (er_lv X L')) : er_Z X s nL T M L' st H locs ls' := ⟨z.1, h, z.2.2.1, z.2.2.2.1, z.2.2.2.2.1, z.2.2.2.2.2.1, hl⟩
theorem er_lvA {X : er_X} {L : List (Nat × er_V)} {j k : Nat} {v : er_V} (h : L[j]? = some (k, v)) : (er_lv X L)[j]? = some (k, er_cv X v) := by
  rw [er_lv, List.getElem?_map, h]
  rfl
theorem er_lvF (X : er_X) (L : List (Nat × er_V)) (i : Nat) : (er_lv X L).filter (fun q => !(q.1 == i) && !(q.1 + 1 == i && q.2.category == 2)) = er_lv X (L.filter fun q => !(q.1 == i)) := by
  induction L with
  | nil => rfl
  | cons q L ih =>
    have e : ((q.1 == i) : Bool) = true ∨ (q.1 == i) = false := by cases (q.1 == i) <;> simp
    unfold er_lv at ih ⊢
    rw [List.map_cons, List.filter_cons, List.filter_cons, ih]
    simp only [er_cat]
    rcases e with e | e <;> simp [e]
theorem er_okS {L : List (Nat × er_V)} {i : Nat} {v : er_V} (h : ∀ q ∈ L, er_ok q.2) (hv : er_ok v) : ∀ q ∈ (i, v) :: L.filter (fun q => !(q.1 == i)), er_ok q.2 := by
  intro q hq
  rcases List.mem_cons.mp hq with e | e
  · rw [e]; exact hv
  · exact h q (List.mem_filter.mp e).1
theorem er_sum (X : er_X) : ∀ st : List er_V, ((er_st X st).map fun v => v.category).sum = st.length
  | [] => rfl
  | v :: st => by
    have h := er_sum X st
    show (er_cv X v).category + ((er_st X st).map fun v => v.category).sum = st.length + 1
    rw [h, er_cat]
    omega
end
section
section ERO
variable {K : er_K} {l : Launch} {X : er_X} {cc : ByteArray} {own : String} {nL : Nat} {R : Room} {cells slots pc : Nat} {T M : er_Me} {L : List (Nat × er_V)} {st : List er_V}
theorem er_iconst (cx : er_Cx K l X cc own nL R) {n v : Int} (hd : decode cc pc = .ok (.iconst n, 1)) (hv : Int32.ofInt n = Int32.ofInt v) (hr : er_rg v) (kk : er_G K cells slots T M (pc + 1) L (.inl v :: st)) : er_G K cells slots T M pc L st := by
  obtain ⟨p, e, s, m, args, below, meth, c, Q, rfl, hx, hb, hml, hown, hts, hKK, hXX, hbs⟩ := cx
  intro H locs ls z
  exact lv_iconst hx hb hd hv (kk H locs ls (z.pu hr))
theorem er_bipush (cx : er_Cx K l X cc own nL R) {n v : Int} (hd : decode cc pc = .ok (.bipush n, 2)) (hv : (Int8.ofInt n).toInt32 = Int32.ofInt v) (hr : er_rg v) (kk : er_G K cells slots T M (pc + 2) L (.inl v :: st)) : er_G K cells slots T M pc L st := by
  obtain ⟨p, e, s, m, args, below, meth, c, Q, rfl, hx, hb, hml, hown, hts, hKK, hXX, hbs⟩ := cx
  intro H locs ls z
  exact lv_bipush hx hb hd hv (kk H locs ls (z.pu hr))
theorem er_sipush (cx : er_Cx K l X cc own nL R) {n v : Int} (hd : decode cc pc = .ok (.sipush n, 3)) (hv : (Int16.ofInt n).toInt32 = Int32.ofInt v) (hr : er_rg v) (kk : er_G K cells slots T M (pc + 3) L (.inl v :: st)) : er_G K cells slots T M pc L st := by
  obtain ⟨p, e, s, m, args, below, meth, c, Q, rfl, hx, hb, hml, hown, hts, hKK, hXX, hbs⟩ := cx
  intro H locs ls z
  exact lv_sipush hx hb hd hv (kk H locs ls (z.pu hr))
theorem er_iload_n (cx : er_Cx K l X cc own nL R) {k : Fin 4} {x : Int} (hd : decode cc pc = .ok (.iload_n k, 1)) (j : Nat) (hj : L[j]? = some ((k : Nat), .inl x)) (kk : er_G K cells slots T M (pc + 1) L (.inl x :: st)) : er_G K cells slots T M pc L st := by
  obtain ⟨p, e, s, m, args, below, meth, c, Q, rfl, hx, hb, hml, hown, hts, hKK, hXX, hbs⟩ := cx
  intro H locs ls z
  exact lv_iload_n hx hb hd rfl (lv_at z.2.2.2.2.2.2 j (er_lvA hj)) (kk H locs ls (z.pu (z.2.1 _ (List.mem_of_getElem? hj))))
theorem er_iload (cx : er_Cx K l X cc own nL R) {i : Nat} {x : Int} (hd : decode cc pc = .ok (.iload i, 2)) (j : Nat) (hj : L[j]? = some (i, .inl x)) (kk : er_G K cells slots T M (pc + 2) L (.inl x :: st)) : er_G K cells slots T M pc L st := by
  obtain ⟨p, e, s, m, args, below, meth, c, Q, rfl, hx, hb, hml, hown, hts, hKK, hXX, hbs⟩ := cx
  intro H locs ls z
  exact lv_iload hx hb hd (lv_at z.2.2.2.2.2.2 j (er_lvA hj)) (kk H locs ls (z.pu (z.2.1 _ (List.mem_of_getElem? hj))))
theorem er_aload_n (cx : er_Cx K l X cc own nL R) {k : Fin 4} {x : Int} (hd : decode cc pc = .ok (.aload_n k, 1)) (j : Nat) (hj : L[j]? = some ((k : Nat), .inr x)) (kk : er_G K cells slots T M (pc + 1) L (.inr x :: st)) : er_G K cells slots T M pc L st := by
  obtain ⟨p, e, s, m, args, below, meth, c, Q, rfl, hx, hb, hml, hown, hts, hKK, hXX, hbs⟩ := cx
  intro H locs ls z
  exact lv_aload_n hx hb hd rfl (lv_at z.2.2.2.2.2.2 j (er_lvA hj)) (kk H locs ls (z.pu (z.2.1 _ (List.mem_of_getElem? hj))))
theorem er_aload (cx : er_Cx K l X cc own nL R) {i : Nat} {x : Int} (hd : decode cc pc = .ok (.aload i, 2)) (j : Nat) (hj : L[j]? = some (i, .inr x)) (kk : er_G K cells slots T M (pc + 2) L (.inr x :: st)) : er_G K cells slots T M pc L st := by
  obtain ⟨p, e, s, m, args, below, meth, c, Q, rfl, hx, hb, hml, hown, hts, hKK, hXX, hbs⟩ := cx
  intro H locs ls z
  exact lv_aload hx hb hd (lv_at z.2.2.2.2.2.2 j (er_lvA hj)) (kk H locs ls (z.pu (z.2.1 _ (List.mem_of_getElem? hj))))
theorem er_istore_n (cx : er_Cx K l X cc own nL R) {k : Fin 4} {i : Nat} {x : Int} {L' : List (Nat × er_V)} (hd : decode cc pc = .ok (.istore_n k, 1)) (hi : (k : Nat) = i) (hn : i < nL) (hL : ((i, Sum.inl x) :: L.filter fun q => !(q.1 == i)) = L') (kk : er_G K cells slots T M (pc + 1) L' st) : er_G K cells slots T M pc L (.inl x :: st) := by
  obtain ⟨p, e, s, m, args, below, meth, c, Q, rfl, hx, hb, hml, hown, hts, hKK, hXX, hbs⟩ := cx
  intro H locs ls z
  subst hL
  refine lv_istore_n hx hb hd hi z.2.2.2.2.2.2 hn rfl (fun ls' h' => kk H locs ls' (z.p1.lo (er_okS z.2.1 z.a1) ?_))
  rw [er_lvF] at h'
  exact h'
theorem er_istore (cx : er_Cx K l X cc own nL R) {i : Nat} {x : Int} {L' : List (Nat × er_V)} (hd : decode cc pc = .ok (.istore i, 2)) (hn : i < nL) (hL : ((i, Sum.inl x) :: L.filter fun q => !(q.1 == i)) = L') (kk : er_G K cells slots T M (pc + 2) L' st) : er_G K cells slots T M pc L (.inl x :: st) := by
  obtain ⟨p, e, s, m, args, below, meth, c, Q, rfl, hx, hb, hml, hown, hts, hKK, hXX, hbs⟩ := cx
  intro H locs ls z
  subst hL
  refine lv_istore hx hb hd z.2.2.2.2.2.2 hn rfl (fun ls' h' => kk H locs ls' (z.p1.lo (er_okS z.2.1 z.a1) ?_))
  rw [er_lvF] at h'
  exact h'
theorem er_astore_n (cx : er_Cx K l X cc own nL R) {k : Fin 4} {i : Nat} {x : Int} {L' : List (Nat × er_V)} (hd : decode cc pc = .ok (.astore_n k, 1)) (hi : (k : Nat) = i) (hn : i < nL) (hL : ((i, Sum.inr x) :: L.filter fun q => !(q.1 == i)) = L') (kk : er_G K cells slots T M (pc + 1) L' st) : er_G K cells slots T M pc L (.inr x :: st) := by
  obtain ⟨p, e, s, m, args, below, meth, c, Q, rfl, hx, hb, hml, hown, hts, hKK, hXX, hbs⟩ := cx
  intro H locs ls z
  subst hL
  refine lv_astore_n hx hb hd hi z.2.2.2.2.2.2 hn rfl (fun ls' h' => kk H locs ls' (z.p1.lo (er_okS z.2.1 z.a1) ?_))
  rw [er_lvF] at h'
  exact h'
theorem er_astore (cx : er_Cx K l X cc own nL R) {i : Nat} {x : Int} {L' : List (Nat × er_V)} (hd : decode cc pc = .ok (.astore i, 2)) (hn : i < nL) (hL : ((i, Sum.inr x) :: L.filter fun q => !(q.1 == i)) = L') (kk : er_G K cells slots T M (pc + 2) L' st) : er_G K cells slots T M pc L (.inr x :: st) := by
  obtain ⟨p, e, s, m, args, below, meth, c, Q, rfl, hx, hb, hml, hown, hts, hKK, hXX, hbs⟩ := cx
  intro H locs ls z
  subst hL
  refine lv_astore hx hb hd z.2.2.2.2.2.2 hn rfl (fun ls' h' => kk H locs ls' (z.p1.lo (er_okS z.2.1 z.a1) ?_))
  rw [er_lvF] at h'
  exact h'
theorem er_iinc (cx : er_Cx K l X cc own nL R) {i k : Nat} {n x : Int} {L' : List (Nat × er_V)} (hd : decode cc pc = .ok (.iinc i n, 3)) (hk : L[k]? = some (i, .inl x)) (hn : i < nL) (hL : ((i, Sum.inl (er_add x n)) :: L.filter fun q => !(q.1 == i)) = L') (kk : er_G K cells slots T M (pc + 3) L' st) : er_G K cells slots T M pc L st := by
  obtain ⟨p, e, s, m, args, below, meth, c, Q, rfl, hx, hb, hml, hown, hts, hKK, hXX, hbs⟩ := cx
  intro H locs ls z
  subst hL
  refine lv_iinc (k := k) (v := Int32.ofInt x + Int32.ofInt n) hx hb hd z.2.2.2.2.2.2 (er_lvA hk) rfl hn rfl (fun ls' h' => kk H locs ls' (z.lo (er_okS z.2.1 (er_rgI _)) ?_))
  rw [er_lvF, ← er_cvI (X := X)] at h'
  exact h'
theorem er_iadd (cx : er_Cx K l X cc own nL R) {x y : Int} (hd : decode cc pc = .ok (.iadd, 1)) (kk : er_G K cells slots T M (pc + 1) L (.inl (er_add x y) :: st)) : er_G K cells slots T M pc L (.inl y :: .inl x :: st) := by
  obtain ⟨p, e, s, m, args, below, meth, c, Q, rfl, hx, hb, hml, hown, hts, hKK, hXX, hbs⟩ := cx
  intro H locs ls z
  have k := kk H locs ls (z.p1.p1.pu (er_rgI _))
  have ev : er_st X (.inl (er_add x y) :: st) = .int (Int32.ofInt x + Int32.ofInt y) :: er_st X st := congrArg (· :: er_st X st) (er_cvI _)
  rw [ev] at k
  exact lv_iadd hx hb hd k
theorem er_isub (cx : er_Cx K l X cc own nL R) {x y : Int} (hd : decode cc pc = .ok (.isub, 1)) (kk : er_G K cells slots T M (pc + 1) L (.inl (er_sub x y) :: st)) : er_G K cells slots T M pc L (.inl y :: .inl x :: st) := by
  obtain ⟨p, e, s, m, args, below, meth, c, Q, rfl, hx, hb, hml, hown, hts, hKK, hXX, hbs⟩ := cx
  intro H locs ls z
  have k := kk H locs ls (z.p1.p1.pu (er_rgI _))
  have ev : er_st X (.inl (er_sub x y) :: st) = .int (Int32.ofInt x - Int32.ofInt y) :: er_st X st := congrArg (· :: er_st X st) (er_cvI _)
  rw [ev] at k
  exact lv_isub hx hb hd k
theorem er_imul (cx : er_Cx K l X cc own nL R) {x y : Int} (hd : decode cc pc = .ok (.imul, 1)) (kk : er_G K cells slots T M (pc + 1) L (.inl (er_mul x y) :: st)) : er_G K cells slots T M pc L (.inl y :: .inl x :: st) := by
  obtain ⟨p, e, s, m, args, below, meth, c, Q, rfl, hx, hb, hml, hown, hts, hKK, hXX, hbs⟩ := cx
  intro H locs ls z
  have k := kk H locs ls (z.p1.p1.pu (er_rgI _))
  have ev : er_st X (.inl (er_mul x y) :: st) = .int (Int32.ofInt x * Int32.ofInt y) :: er_st X st := congrArg (· :: er_st X st) (er_cvI _)
  rw [ev] at k
  exact lv_imul hx hb hd k
theorem er_iand (cx : er_Cx K l X cc own nL R) {x y : Int} (hd : decode cc pc = .ok (.iand, 1)) (kk : er_G K cells slots T M (pc + 1) L (.inl (er_and x y) :: st)) : er_G K cells slots T M pc L (.inl y :: .inl x :: st) := by
  obtain ⟨p, e, s, m, args, below, meth, c, Q, rfl, hx, hb, hml, hown, hts, hKK, hXX, hbs⟩ := cx
  intro H locs ls z
  have k := kk H locs ls (z.p1.p1.pu (er_rgI _))
  have ev : er_st X (.inl (er_and x y) :: st) = .int (Int32.ofInt x &&& Int32.ofInt y) :: er_st X st := congrArg (· :: er_st X st) (er_cvI _)
  rw [ev] at k
  exact lv_iand hx hb hd k
theorem er_ior (cx : er_Cx K l X cc own nL R) {x y : Int} (hd : decode cc pc = .ok (.ior, 1)) (kk : er_G K cells slots T M (pc + 1) L (.inl (er_or x y) :: st)) : er_G K cells slots T M pc L (.inl y :: .inl x :: st) := by
  obtain ⟨p, e, s, m, args, below, meth, c, Q, rfl, hx, hb, hml, hown, hts, hKK, hXX, hbs⟩ := cx
  intro H locs ls z
  have k := kk H locs ls (z.p1.p1.pu (er_rgI _))
  have ev : er_st X (.inl (er_or x y) :: st) = .int (Int32.ofInt x ||| Int32.ofInt y) :: er_st X st := congrArg (· :: er_st X st) (er_cvI _)
  rw [ev] at k
  exact lv_ior hx hb hd k
theorem er_ishl (cx : er_Cx K l X cc own nL R) {x y : Int} (hd : decode cc pc = .ok (.ishl, 1)) (kk : er_G K cells slots T M (pc + 1) L (.inl (er_shl x y) :: st)) : er_G K cells slots T M pc L (.inl y :: .inl x :: st) := by
  obtain ⟨p, e, s, m, args, below, meth, c, Q, rfl, hx, hb, hml, hown, hts, hKK, hXX, hbs⟩ := cx
  intro H locs ls z
  have k := kk H locs ls (z.p1.p1.pu (er_rgI _))
  have ev : er_st X (.inl (er_shl x y) :: st) = .int (Int32.ofInt x <<< (Int32.ofInt y &&& 31)) :: er_st X st := congrArg (· :: er_st X st) (er_cvI _)
  rw [ev] at k
  exact lv_ishl hx hb hd k
theorem er_ishr (cx : er_Cx K l X cc own nL R) {x y : Int} (hd : decode cc pc = .ok (.ishr, 1)) (kk : er_G K cells slots T M (pc + 1) L (.inl (er_shr x y) :: st)) : er_G K cells slots T M pc L (.inl y :: .inl x :: st) := by
  obtain ⟨p, e, s, m, args, below, meth, c, Q, rfl, hx, hb, hml, hown, hts, hKK, hXX, hbs⟩ := cx
  intro H locs ls z
  have k := kk H locs ls (z.p1.p1.pu (er_rgI _))
  have ev : er_st X (.inl (er_shr x y) :: st) = .int (Int32.ofInt x >>> (Int32.ofInt y &&& 31)) :: er_st X st := congrArg (· :: er_st X st) (er_cvI _)
  rw [ev] at k
  exact lv_ishr hx hb hd k
theorem er_idiv (cx : er_Cx K l X cc own nL R) {x y : Int} (hd : decode cc pc = .ok (.idiv, 1)) (hne : y ≠ 0) (kk : er_G K cells slots T M (pc + 1) L (.inl (er_div x y) :: st)) : er_G K cells slots T M pc L (.inl y :: .inl x :: st) := by
  obtain ⟨p, e, s, m, args, below, meth, c, Q, rfl, hx, hb, hml, hown, hts, hKK, hXX, hbs⟩ := cx
  intro H locs ls z
  have k := kk H locs ls (z.p1.p1.pu (er_rgI _))
  have ev : er_st X (.inl (er_div x y) :: st) = .int (Int32.ofInt x / Int32.ofInt y) :: er_st X st := congrArg (· :: er_st X st) (er_cvI _)
  rw [ev] at k
  exact lv_idiv hx hb hd (fun q => hne ((er_eqI z.a1 er_rg0).mp (q.trans er_i0.symm))) k
theorem er_irem (cx : er_Cx K l X cc own nL R) {x y : Int} (hd : decode cc pc = .ok (.irem, 1)) (hne : y ≠ 0) (kk : er_G K cells slots T M (pc + 1) L (.inl (er_rem x y) :: st)) : er_G K cells slots T M pc L (.inl y :: .inl x :: st) := by
  obtain ⟨p, e, s, m, args, below, meth, c, Q, rfl, hx, hb, hml, hown, hts, hKK, hXX, hbs⟩ := cx
  intro H locs ls z
  have k := kk H locs ls (z.p1.p1.pu (er_rgI _))
  have ev : er_st X (.inl (er_rem x y) :: st) = .int (Int32.ofInt x - Int32.ofInt x / Int32.ofInt y * Int32.ofInt y) :: er_st X st := congrArg (· :: er_st X st) (er_cvI _)
  rw [ev] at k
  exact lv_irem hx hb hd (fun q => hne ((er_eqI z.a1 er_rg0).mp (q.trans er_i0.symm))) k
theorem er_dup (cx : er_Cx K l X cc own nL R) {v : er_V} (hd : decode cc pc = .ok (.dup, 1)) (kk : er_G K cells slots T M (pc + 1) L (v :: v :: st)) : er_G K cells slots T M pc L (v :: st) := by
  obtain ⟨p, e, s, m, args, below, meth, c, Q, rfl, hx, hb, hml, hown, hts, hKK, hXX, hbs⟩ := cx
  intro H locs ls z
  exact lv_dup hx hb hd (er_cat X v) (kk H locs ls (z.pu z.a1))
theorem er_pop (cx : er_Cx K l X cc own nL R) {v : er_V} (hd : decode cc pc = .ok (.pop, 1)) (kk : er_G K cells slots T M (pc + 1) L st) : er_G K cells slots T M pc L (v :: st) := by
  obtain ⟨p, e, s, m, args, below, meth, c, Q, rfl, hx, hb, hml, hown, hts, hKK, hXX, hbs⟩ := cx
  intro H locs ls z
  exact lv_pop hx hb hd (er_cat X v) (kk H locs ls z.p1)
theorem er_dup2 (cx : er_Cx K l X cc own nL R) {v w : er_V} (hd : decode cc pc = .ok (.dup2, 1)) (kk : er_G K cells slots T M (pc + 1) L (v :: w :: v :: w :: st)) : er_G K cells slots T M pc L (v :: w :: st) := by
  obtain ⟨p, e, s, m, args, below, meth, c, Q, rfl, hx, hb, hml, hown, hts, hKK, hXX, hbs⟩ := cx
  intro H locs ls z
  exact lv_dup2_11 hx hb hd (er_cat X v) (er_cat X w) (kk H locs ls ((z.pu z.a2).pu z.a1))
theorem er_dup_x1 (cx : er_Cx K l X cc own nL R) {v w : er_V} (hd : decode cc pc = .ok (.dup_x1, 1)) (kk : er_G K cells slots T M (pc + 1) L (v :: w :: v :: st)) : er_G K cells slots T M pc L (v :: w :: st) := by
  obtain ⟨p, e, s, m, args, below, meth, c, Q, rfl, hx, hb, hml, hown, hts, hKK, hXX, hbs⟩ := cx
  intro H locs ls z
  exact lv_dup_x1 hx hb hd (er_cat X v) (er_cat X w) (kk H locs ls (((z.p1.p1.pu z.a1).pu z.a2).pu z.a1))
theorem er_if_eq (cx : er_Cx K l X cc own nL R) {x : Int} {off : Int} {tgt : Nat} (hd : decode cc pc = .ok (.ifCond .eq off, 3)) (ht : (pc : Int) + off = (tgt : Int)) (kt : x = 0 → er_G K cells slots T M tgt L st) (kf : ¬ x = 0 → er_G K cells slots T M (pc + 3) L st) : er_G K cells slots T M pc L (.inl x :: st) := by
  obtain ⟨p, e, s, m, args, below, meth, c, Q, rfl, hx, hb, hml, hown, hts, hKK, hXX, hbs⟩ := cx
  intro H locs ls z
  have hi : Int32.ofInt x = Int32.ofInt 0 ↔ x = 0 := (er_eqI z.a1 er_rg0)
  rw [er_i0] at hi
  exact lv_if_eq hx hb hd ht (fun q => kt (hi.mp q) H locs ls z.p1) (fun q => kf (fun w => q (hi.mpr w)) H locs ls z.p1)
theorem er_if_ne (cx : er_Cx K l X cc own nL R) {x : Int} {off : Int} {tgt : Nat} (hd : decode cc pc = .ok (.ifCond .ne off, 3)) (ht : (pc : Int) + off = (tgt : Int)) (kt : ¬ x = 0 → er_G K cells slots T M tgt L st) (kf : x = 0 → er_G K cells slots T M (pc + 3) L st) : er_G K cells slots T M pc L (.inl x :: st) := by
  obtain ⟨p, e, s, m, args, below, meth, c, Q, rfl, hx, hb, hml, hown, hts, hKK, hXX, hbs⟩ := cx
  intro H locs ls z
  have hi : Int32.ofInt x = Int32.ofInt 0 ↔ x = 0 := (er_eqI z.a1 er_rg0)
  rw [er_i0] at hi
  exact lv_if_ne hx hb hd ht (fun q => kt (fun w => q (hi.mpr w)) H locs ls z.p1) (fun q => kf (hi.mp q) H locs ls z.p1)
theorem er_if_lt (cx : er_Cx K l X cc own nL R) {x : Int} {off : Int} {tgt : Nat} (hd : decode cc pc = .ok (.ifCond .lt off, 3)) (ht : (pc : Int) + off = (tgt : Int)) (kt : x < 0 → er_G K cells slots T M tgt L st) (kf : ¬ x < 0 → er_G K cells slots T M (pc + 3) L st) : er_G K cells slots T M pc L (.inl x :: st) := by
  obtain ⟨p, e, s, m, args, below, meth, c, Q, rfl, hx, hb, hml, hown, hts, hKK, hXX, hbs⟩ := cx
  intro H locs ls z
  have hi : Int32.ofInt x < Int32.ofInt 0 ↔ x < 0 := (er_ltI z.a1 er_rg0)
  rw [er_i0] at hi
  exact lv_if_lt hx hb hd ht (fun q => kt (hi.mp q) H locs ls z.p1) (fun q => kf (fun w => q (hi.mpr w)) H locs ls z.p1)
theorem er_if_ge (cx : er_Cx K l X cc own nL R) {x : Int} {off : Int} {tgt : Nat} (hd : decode cc pc = .ok (.ifCond .ge off, 3)) (ht : (pc : Int) + off = (tgt : Int)) (kt : 0 ≤ x → er_G K cells slots T M tgt L st) (kf : ¬ 0 ≤ x → er_G K cells slots T M (pc + 3) L st) : er_G K cells slots T M pc L (.inl x :: st) := by
  obtain ⟨p, e, s, m, args, below, meth, c, Q, rfl, hx, hb, hml, hown, hts, hKK, hXX, hbs⟩ := cx
  intro H locs ls z
  have hi : Int32.ofInt 0 ≤ Int32.ofInt x ↔ 0 ≤ x := (er_leI er_rg0 z.a1)
  rw [er_i0] at hi
  exact lv_if_ge hx hb hd ht (fun q => kt (hi.mp q) H locs ls z.p1) (fun q => kf (fun w => q (hi.mpr w)) H locs ls z.p1)
theorem er_if_gt (cx : er_Cx K l X cc own nL R) {x : Int} {off : Int} {tgt : Nat} (hd : decode cc pc = .ok (.ifCond .gt off, 3)) (ht : (pc : Int) + off = (tgt : Int)) (kt : 0 < x → er_G K cells slots T M tgt L st) (kf : ¬ 0 < x → er_G K cells slots T M (pc + 3) L st) : er_G K cells slots T M pc L (.inl x :: st) := by
  obtain ⟨p, e, s, m, args, below, meth, c, Q, rfl, hx, hb, hml, hown, hts, hKK, hXX, hbs⟩ := cx
  intro H locs ls z
  have hi : Int32.ofInt 0 < Int32.ofInt x ↔ 0 < x := (er_ltI er_rg0 z.a1)
  rw [er_i0] at hi
  exact lv_if_gt hx hb hd ht (fun q => kt (hi.mp q) H locs ls z.p1) (fun q => kf (fun w => q (hi.mpr w)) H locs ls z.p1)
theorem er_if_le (cx : er_Cx K l X cc own nL R) {x : Int} {off : Int} {tgt : Nat} (hd : decode cc pc = .ok (.ifCond .le off, 3)) (ht : (pc : Int) + off = (tgt : Int)) (kt : x ≤ 0 → er_G K cells slots T M tgt L st) (kf : ¬ x ≤ 0 → er_G K cells slots T M (pc + 3) L st) : er_G K cells slots T M pc L (.inl x :: st) := by
  obtain ⟨p, e, s, m, args, below, meth, c, Q, rfl, hx, hb, hml, hown, hts, hKK, hXX, hbs⟩ := cx
  intro H locs ls z
  have hi : Int32.ofInt x ≤ Int32.ofInt 0 ↔ x ≤ 0 := (er_leI z.a1 er_rg0)
  rw [er_i0] at hi
  exact lv_if_le hx hb hd ht (fun q => kt (hi.mp q) H locs ls z.p1) (fun q => kf (fun w => q (hi.mpr w)) H locs ls z.p1)
theorem er_ic_eq (cx : er_Cx K l X cc own nL R) {x y : Int} {off : Int} {tgt : Nat} (hd : decode cc pc = .ok (.if_icmp .eq off, 3)) (ht : (pc : Int) + off = (tgt : Int)) (kt : x = y → er_G K cells slots T M tgt L st) (kf : ¬ x = y → er_G K cells slots T M (pc + 3) L st) : er_G K cells slots T M pc L (.inl y :: .inl x :: st) := by
  obtain ⟨p, e, s, m, args, below, meth, c, Q, rfl, hx, hb, hml, hown, hts, hKK, hXX, hbs⟩ := cx
  intro H locs ls z
  exact lv_icmp_eq hx hb hd ht (fun q => kt ((er_eqI z.a2 z.a1).mp q) H locs ls z.p1.p1) (fun q => kf (fun w => q ((er_eqI z.a2 z.a1).mpr w)) H locs ls z.p1.p1)
theorem er_ic_ne (cx : er_Cx K l X cc own nL R) {x y : Int} {off : Int} {tgt : Nat} (hd : decode cc pc = .ok (.if_icmp .ne off, 3)) (ht : (pc : Int) + off = (tgt : Int)) (kt : ¬ x = y → er_G K cells slots T M tgt L st) (kf : x = y → er_G K cells slots T M (pc + 3) L st) : er_G K cells slots T M pc L (.inl y :: .inl x :: st) := by
  obtain ⟨p, e, s, m, args, below, meth, c, Q, rfl, hx, hb, hml, hown, hts, hKK, hXX, hbs⟩ := cx
  intro H locs ls z
  exact lv_icmp_ne hx hb hd ht (fun q => kt (fun w => q ((er_eqI z.a2 z.a1).mpr w)) H locs ls z.p1.p1) (fun q => kf ((er_eqI z.a2 z.a1).mp q) H locs ls z.p1.p1)
theorem er_ic_lt (cx : er_Cx K l X cc own nL R) {x y : Int} {off : Int} {tgt : Nat} (hd : decode cc pc = .ok (.if_icmp .lt off, 3)) (ht : (pc : Int) + off = (tgt : Int)) (kt : x < y → er_G K cells slots T M tgt L st) (kf : ¬ x < y → er_G K cells slots T M (pc + 3) L st) : er_G K cells slots T M pc L (.inl y :: .inl x :: st) := by
  obtain ⟨p, e, s, m, args, below, meth, c, Q, rfl, hx, hb, hml, hown, hts, hKK, hXX, hbs⟩ := cx
  intro H locs ls z
  exact lv_icmp_lt hx hb hd ht (fun q => kt ((er_ltI z.a2 z.a1).mp q) H locs ls z.p1.p1) (fun q => kf (fun w => q ((er_ltI z.a2 z.a1).mpr w)) H locs ls z.p1.p1)
theorem er_ic_ge (cx : er_Cx K l X cc own nL R) {x y : Int} {off : Int} {tgt : Nat} (hd : decode cc pc = .ok (.if_icmp .ge off, 3)) (ht : (pc : Int) + off = (tgt : Int)) (kt : y ≤ x → er_G K cells slots T M tgt L st) (kf : ¬ y ≤ x → er_G K cells slots T M (pc + 3) L st) : er_G K cells slots T M pc L (.inl y :: .inl x :: st) := by
  obtain ⟨p, e, s, m, args, below, meth, c, Q, rfl, hx, hb, hml, hown, hts, hKK, hXX, hbs⟩ := cx
  intro H locs ls z
  exact lv_icmp_ge hx hb hd ht (fun q => kt ((er_leI z.a1 z.a2).mp q) H locs ls z.p1.p1) (fun q => kf (fun w => q ((er_leI z.a1 z.a2).mpr w)) H locs ls z.p1.p1)
theorem er_ic_gt (cx : er_Cx K l X cc own nL R) {x y : Int} {off : Int} {tgt : Nat} (hd : decode cc pc = .ok (.if_icmp .gt off, 3)) (ht : (pc : Int) + off = (tgt : Int)) (kt : y < x → er_G K cells slots T M tgt L st) (kf : ¬ y < x → er_G K cells slots T M (pc + 3) L st) : er_G K cells slots T M pc L (.inl y :: .inl x :: st) := by
  obtain ⟨p, e, s, m, args, below, meth, c, Q, rfl, hx, hb, hml, hown, hts, hKK, hXX, hbs⟩ := cx
  intro H locs ls z
  exact lv_icmp_gt hx hb hd ht (fun q => kt ((er_ltI z.a1 z.a2).mp q) H locs ls z.p1.p1) (fun q => kf (fun w => q ((er_ltI z.a1 z.a2).mpr w)) H locs ls z.p1.p1)
theorem er_ic_le (cx : er_Cx K l X cc own nL R) {x y : Int} {off : Int} {tgt : Nat} (hd : decode cc pc = .ok (.if_icmp .le off, 3)) (ht : (pc : Int) + off = (tgt : Int)) (kt : x ≤ y → er_G K cells slots T M tgt L st) (kf : ¬ x ≤ y → er_G K cells slots T M (pc + 3) L st) : er_G K cells slots T M pc L (.inl y :: .inl x :: st) := by
  obtain ⟨p, e, s, m, args, below, meth, c, Q, rfl, hx, hb, hml, hown, hts, hKK, hXX, hbs⟩ := cx
  intro H locs ls z
  exact lv_icmp_le hx hb hd ht (fun q => kt ((er_leI z.a2 z.a1).mp q) H locs ls z.p1.p1) (fun q => kf (fun w => q ((er_leI z.a2 z.a1).mpr w)) H locs ls z.p1.p1)
theorem er_goto (cx : er_Cx K l X cc own nL R) {off : Int} {tgt : Nat} (hd : decode cc pc = .ok (.goto off, 3)) (ht : (pc : Int) + off = (tgt : Int)) (kk : er_G K cells slots T M tgt L st) : er_G K cells slots T M pc L st := by
  obtain ⟨p, e, s, m, args, below, meth, c, Q, rfl, hx, hb, hml, hown, hts, hKK, hXX, hbs⟩ := cx
  intro H locs ls z
  exact lv_goto hx hb hd ht (kk H locs ls z)
end ERO
end
section
/-! rows that read and write the memory -/
def er_Lk (own : String) (index : Nat) (nest : Bool) (q : String × String × String × Bool) : Prop := (nest = false ∧ Cond.fieldLink own index q.1 q.2.1 q.2.2.1 ∈ er_T) ∨ (nest = true ∧ ∃ host, Cond.fieldLinkNest own index q.1 q.2.1 q.2.2.1 host ∈ er_Ns)
/-- what the tables say of a class of the memory -/
def er_Cl (ci : Nat) (C : String) (TT : u_T) (NN : Nat) (ty0 : Nat → FieldType) : Prop := ci < 100 ∧ classes[ci]? = some (C, TT, NN) ∧ (∀ w ∈ u_ws C TT NN, w ∈ er_T) ∧ (∀ k, k < NN → parseFieldDescriptor (TT k).2.2.1 = some (ty0 k)) ∧ (∀ a, a < NN → ∀ b, b < NN → a ≠ b → (TT a).2.1 ≠ (TT b).2.1) ∧ er_nf ci = NN ∧ ∀ k, k < NN → defaultValue (ty0 k) = if er_rf ci k = true then .null else .int 0
/-- a field that an instruction names: kind of its object, place, reference or not, final or not, type, declarer -/
def er_Fd (own : String) (index : Nat) (kd : Int) (k : Nat) (r fin : Bool) (ty : FieldType) (dc : String) (nest : Bool) : Prop := ∃ (ci : Nat) (C : String) (TT : u_T) (NN : Nat) (ty0 : Nat → FieldType), kd = (ci : Int) + 1 ∧ er_Cl ci C TT NN ty0 ∧ k < NN ∧ er_rf ci k = r ∧ (TT k).2.2.2 = fin ∧ parseFieldDescriptor (TT k).2.2.1 = some ty ∧ (TT k).1 = dc ∧ er_Lk own index nest (TT k)
section ERH
variable {K : er_K} {l : Launch} {X : er_X} {cc : ByteArray} {own : String} {nL : Nat} {R : Room} {cells slots pc : Nat} {T M : er_Me} {L : List (Nat × er_V)} {st : List er_V}
theorem er_getG (cx : er_Cx K l X cc own nL R) {a kd : Int} {index k : Nat} {r fin : Bool} {ty : FieldType} {dc : String} {nest : Bool} {v : er_V} (hd : decode cc pc = .ok (.getfield index, 3)) (hf : er_Fd own index kd k r fin ty dc nest) (hk : T a (-2) = kd) (hv : er_sv X T M a r k = er_cv X v) (ho : (∀ a i, er_rg (M a i)) → er_ok v) (kk : er_G K cells slots T M (pc + 3) L (v :: st)) : er_G K cells slots T M pc L (.inr a :: st) := by
  obtain ⟨p, e, s, m, args, below, meth, c, Q, rfl, hx, hb, hml, hown, hts, hKK, hXX, hbs⟩ := cx
  intro H locs ls z
  obtain ⟨ci, C, TT, NN, ty0, rfl, ⟨hci, hc, hin, hty, hnm, hnf, -⟩, hkn, rfl, hfi, hpd, hdc, hlk⟩ := hf
  have he := er_at (X := X) z.1 (a := a) (by omega)
  rw [er_cellO hk hci] at he
  have hv2 : (er_fs X T M a ci)[k]? = some (er_cv X v) := by rw [er_fsA (by omega), hv]
  have k2 := kk H locs ls (z.p1.pu (ho z.1.1))
  rcases hlk with ⟨hne, h⟩ | ⟨hne, host, h⟩
  · exact va_get hx hb hts hin hown hKK.1 z.2.2.2.2.1 _ he hc k hkn (hts _ h) (fun _ q => q) hv2 hd k2
  · exact va_getN hx hb hts hin hown hKK.1 z.2.2.2.2.1 _ he hc k hkn (va_Nw.use rfl (hKK.2.1 _ h)) (fun _ q => q) hv2 hd k2
theorem er_geti (cx : er_Cx K l X cc own nL R) {a kd : Int} {index k : Nat} {fin : Bool} {ty : FieldType} {dc : String} {nest : Bool} (hd : decode cc pc = .ok (.getfield index, 3)) (hf : er_Fd own index kd k false fin ty dc nest) (hk : T a (-2) = kd) (kk : er_G K cells slots T M (pc + 3) L (.inl (M a k) :: st)) : er_G K cells slots T M pc L (.inr a :: st) :=
  er_getG (v := .inl (M a k)) cx hd hf hk rfl (fun h => h a k) kk
theorem er_getr (cx : er_Cx K l X cc own nL R) {a kd : Int} {index k : Nat} {fin : Bool} {ty : FieldType} {dc : String} {nest : Bool} (hd : decode cc pc = .ok (.getfield index, 3)) (hf : er_Fd own index kd k true fin ty dc nest) (hk : T a (-2) = kd) (h0 : 0 < T a k) (kk : er_G K cells slots T M (pc + 3) L (.inr (T a k) :: st)) : er_G K cells slots T M pc L (.inr a :: st) :=
  er_getG (v := .inr (T a k)) cx hd hf hk (by unfold er_sv er_ro; rw [if_pos rfl, if_neg (by omega)]; rfl) (fun _ => trivial) kk
theorem er_putG (cx : er_Cx K l X cc own nL R) {a kd : Int} {index k : Nat} {r fin : Bool} {ty : FieldType} {dc : String} {nest : Bool} {v : er_V} {T' M' : er_Me} (hd : decode cc pc = .ok (.putfield index, 3)) (hf : er_Fd own index kd k r fin ty dc nest) (hk : T a (-2) = kd) (hfin : fin = true → er_In K ∧ dc = own ∧ nest = false) (hn : narrow ty (er_cv X v) = er_cv X v) (hfit : fits ty (er_cv X v) = true)
    (hset : ∀ ci, er_rf ci k = r → (er_fs X T M a ci).set k (er_cv X v) = er_fs X T' M' a ci) (hk' : T' a (-2) = T a (-2)) (hT' : 0 < a → T' 0 0 = T 0 0) (ho : ∀ a' : Int, a' ≠ a → 0 < a' → er_cell X T' M' a' = er_cell X T M a') (hg : 0 < a → er_Rg T M → er_ok v → er_Rg T' M')
    (kk : er_G K cells slots T' M' (pc + 3) L st) : er_G K cells slots T M pc L (v :: .inr a :: st) := by
  obtain ⟨p, e, s, m, args, below, meth, c, Q, rfl, hx, hb, hml, hown, hts, hKK, hXX, hbs⟩ := cx
  intro H locs ls z
  obtain ⟨ci, C, TT, NN, ty0, rfl, ⟨hci, hc, hin, hty, hnm, hnf, -⟩, hkn, rfl, rfl, hpd, rfl, hlk⟩ := hf
  have ha0 := (z.1.2.1 a (by omega)).1
  have he := er_at (X := X) z.1 (a := a) (by omega)
  rw [er_cellO hk hci] at he
  have hap := va_apart (own := own) hts hin ty0 hty hnm hKK.1 hc
  obtain ⟨r, h1, cell, q1, q2, q3, q4⟩ := z.2.2.2.2.1 _ _ he
  have hr : r = (C, TT, NN) := Option.some.inj (h1.symm.trans hc)
  subst hr
  obtain ⟨hS, hfc, kC, hkC, hkind⟩ := hKK.1.1 ci _ hc
  obtain ⟨cf, kf, fi, f, hi, hsl⟩ := hS k hkn
  have hlay := hts _ (hin _ (u_in_lay hkn))
  have hst := (u_facts hfc hkC (u_lays hts hin hkn) hi).1
  have hA : er_A X (er_ad X a) := by show X.2.2.1 < er_ad X a; unfold er_ad; rw [if_neg (by omega)]; omega
  have go : ∀ H' : Heap, H'[er_ad X a]? = some (cell.setSlot f.slot (er_cv X v)) → H'.size = H.size → (∀ q, q ≠ er_ad X a → H'[q]? = H[q]?) → W p l e R s m args below meth c H' (locs ++ [⟨er_ad X a, f.slot⟩]) cells slots Q (F0 m (pc + 3) ls (er_st X st)) := by
    intro H' e1 e2 e3
    rw [hsl] at e1
    have hat : va_at X.1 classes (er_ad X a, er_cell X T' M' a) H' := by
      rw [er_cellO (hk'.trans hk) hci, ← hset ci rfl]
      exact ⟨_, hc, t_OB.to (V := updV (vp_V (er_fs X T M a ci)) k (er_cv X v)) ⟨_, e1, q2, q3, t_set q4 hap hkn (er_cv X v)⟩ (fun j _ => vp_updV_set (by rw [er_fsL]; omega) (er_cv X v) j)⟩
    have hP' := z.2.2.2.2.1.set (er_Dw X T M) he hat e3
    rw [er_set ha0 (hT' ha0) ho] at hP'
    exact kk H' _ ls ⟨hg ha0 z.1 z.a1, z.2.1, z.p1.p1.2.2.1, by rw [e2, hT' ha0]; exact z.2.2.2.1, hP', z.2.2.2.2.2.1.put e2 e3 hA, z.2.2.2.2.2.2⟩
  rcases hfb : (TT k).2.2.2 with _ | _
  · unfold u_lay at hlay
    rw [if_neg (by rw [hfb]; decide)] at hlay
    have h6 := u_store hfc hkC hkind hlay hi hpd hn hfit
    rcases hlk with ⟨hne, h⟩ | ⟨hne, host, h⟩
    · exact W.putK hx hb (f := f) ⟨hown, hts _ h, ⟨_, _, _, hi⟩, hst⟩ (by rw [q2]; exact h6) q1 q3 (by rw [hsl]; exact k2_hasslot (q4 k hkn)) rfl rfl hd go
    · exact va_WputK hx hb hown (va_Nw.use rfl (hKK.2.1 _ h)) hi hst (by rw [q2]; exact h6) q1 q3 (by rw [hsl]; exact k2_hasslot (q4 k hkn)) rfl rfl hd go
  · obtain ⟨hin2, hdecl, hnest⟩ := hfin hfb
    unfold u_lay at hlay
    rw [if_pos hfb] at hlay
    have hcf : m.cls = cf := by
      obtain ⟨_, _, c', _, _, _, -, -, hf', -, -, -, hown2, -⟩ := Cond.laysFinal_spec hlay
      have e1 : c' = cf := by have := hi.symm.trans hf'; simp at this; exact this.1.symm
      rw [hdecl] at hown2
      rw [← e1]; exact Option.some.inj (hown.symm.trans hown2)
    have h6 := u_fits hfc hkC hkind (Or.inr hlay) hi hpd hn hfit
    rcases hlk with ⟨hne, h⟩ | ⟨hne, host, h⟩
    · exact W.putFinK hx hb hown (hts _ h) hi hst hcf hin2 (by rw [q2]; exact h6) q1 q3 (by rw [hsl]; exact k2_hasslot (q4 k hkn)) rfl rfl hd go
    · exact absurd (hnest.symm.trans hne) (by decide)
theorem er_puti (cx : er_Cx K l X cc own nL R) {a x kd : Int} {M1 : er_Me} {index k : Nat} {fin : Bool} {dc : String} {nest : Bool} (hd : decode cc pc = .ok (.putfield index, 3)) (hf : er_Fd own index kd k false fin .int dc nest) (hk : T a (-2) = kd) (hfin : fin = true → er_In K ∧ dc = own ∧ nest = false) (hM1 : er_up M a k x = M1) (kk : er_G K cells slots T M1 (pc + 3) L st) : er_G K cells slots T M pc L (.inl x :: .inr a :: st) := by
  subst hM1
  exact er_putG cx hd hf hk hfin rfl rfl (fun ci hr => er_fsM hr) rfl (fun _ => rfl) (fun a' h _ => er_cellM h) (fun _ hg hv => er_RgM hg hv) kk
theorem er_bo {x : Int} (hx : x = 0 ∨ x = 1) : narrow .boolean (.int (Int32.ofInt x)) = .int (Int32.ofInt x) ∧ fits .boolean (.int (Int32.ofInt x)) = true := by
  rcases hx with rfl | rfl <;> exact ⟨by decide +kernel, by decide +kernel⟩
theorem er_putz (cx : er_Cx K l X cc own nL R) {a x kd : Int} {M1 : er_Me} {index k : Nat} {fin : Bool} {dc : String} {nest : Bool} (hd : decode cc pc = .ok (.putfield index, 3)) (hf : er_Fd own index kd k false fin .boolean dc nest) (hk : T a (-2) = kd) (hfin : fin = true → er_In K ∧ dc = own ∧ nest = false) (hx : x = 0 ∨ x = 1) (hM1 : er_up M a k x = M1) (kk : er_G K cells slots T M1 (pc + 3) L st) : er_G K cells slots T M pc L (.inl x :: .inr a :: st) := by
  subst hM1
  exact er_putG cx hd hf hk hfin (er_bo hx).1 (er_bo hx).2 (fun ci hr => er_fsM hr) rfl (fun _ => rfl) (fun a' h _ => er_cellM h) (fun _ hg hv => er_RgM hg hv) kk
theorem er_putr (cx : er_Cx K l X cc own nL R) {a x kd : Int} {T1 : er_Me} {index k : Nat} {fin : Bool} {ty : FieldType} {dc : String} {nest : Bool} (hd : decode cc pc = .ok (.putfield index, 3)) (hf : er_Fd own index kd k true fin ty dc nest) (hk : T a (-2) = kd) (hfin : fin = true → er_In K ∧ dc = own ∧ nest = false) (hn : ∀ q, narrow ty (.ref q) = .ref q) (hfit : ∀ q, fits ty (.ref q) = true) (hx : 0 < x) (hT1 : er_up T a k x = T1) (kk : er_G K cells slots T1 M (pc + 3) L st) : er_G K cells slots T M pc L (.inr x :: .inr a :: st) := by
  subst hT1
  exact er_putG cx hd hf hk hfin (hn _) (hfit _) (fun ci hr => er_fsT hr hx) (if_neg (fun q => by omega)) (fun h => if_neg (fun q => by omega)) (fun a' h _ => er_cellT h) (fun h hg _ => er_RgT hg h (by omega)) kk
-- arrays of ints and booleans
theorem er_iald (cx : er_Cx K l X cc own nL R) {a i : Int} (hd : decode cc pc = .ok (.iaload, 1)) (hk : T a (-2) = 101) (h0 : 0 ≤ i) (h1 : i < T a (-1)) (kk : er_G K cells slots T M (pc + 1) L (.inl (M a i) :: st)) : er_G K cells slots T M pc L (.inl i :: .inr a :: st) := by
  obtain ⟨p, e, s, m, args, below, meth, c, Q, rfl, hx, hb, hml, hown, hts, hKK, hXX, hbs⟩ := cx
  intro H locs ls z
  have he := er_at (X := X) z.1 (a := a) (by omega)
  rw [er_cellI (t := 0) (by omega) (by omega)] at he
  have hb2 := z.1.2.2.1 a
  have k2 := kk H locs ls (z.p1.p1.pu (z.1.1 a i))
  refine va_iald hx hb hKK.1 z.2.2.2.2.1 _ 0 he rfl (er_inI h0 h1 hb2.2) hd ?_
  rw [er_clI h0 (by omega), Int.toNat_of_nonneg h0]
  exact k2
theorem er_zald (cx : er_Cx K l X cc own nL R) {a i : Int} (hd : decode cc pc = .ok (.baload, 1)) (hk : T a (-2) = 102) (h0 : 0 ≤ i) (h1 : i < T a (-1)) (kk : er_G K cells slots T M (pc + 1) L (.inl (M a i) :: st)) : er_G K cells slots T M pc L (.inl i :: .inr a :: st) := by
  obtain ⟨p, e, s, m, args, below, meth, c, Q, rfl, hx, hb, hml, hown, hts, hKK, hXX, hbs⟩ := cx
  intro H locs ls z
  have he := er_at (X := X) z.1 (a := a) (by omega)
  rw [er_cellI (t := 1) (by omega) (by omega)] at he
  have hb2 := z.1.2.2.1 a
  have k2 := kk H locs ls (z.p1.p1.pu (z.1.1 a i))
  refine va_zald hx hb hKK.1 z.2.2.2.2.1 _ 1 he rfl (er_inI h0 h1 hb2.2) hd ?_
  rw [er_clI h0 (by omega), Int.toNat_of_nonneg h0]
  exact k2
theorem er_aald (cx : er_Cx K l X cc own nL R) {a i kd : Int} (hd : decode cc pc = .ok (.aaload, 1)) (hk : T a (-2) = kd) (hkd : kd = 103 ∨ kd = 104) (h0 : 0 ≤ i) (h1 : i < T a (-1)) (hp : 0 < T a i) (kk : er_G K cells slots T M (pc + 1) L (.inr (T a i) :: st)) : er_G K cells slots T M pc L (.inl i :: .inr a :: st) := by
  obtain ⟨p, e, s, m, args, below, meth, c, Q, rfl, hx, hb, hml, hown, hts, hKK, hXX, hbs⟩ := cx
  intro H locs ls z
  have he := er_at (X := X) z.1 (a := a) (by omega)
  have hb2 := z.1.2.2.1 a
  have k2 := kk H locs ls (z.p1.p1.pu (v := .inr (T a i)) trivial)
  have ev : va_rf (er_ro X (T a i)) = .ref (er_ad X (T a i)) := by unfold er_ro; rw [if_neg (by omega)]; rfl
  rcases hkd with rfl | rfl
  · rw [er_cellR (t := 2) (by omega) (by omega)] at he
    refine va_aldq hx hb hKK.1 z.2.2.2.2.1 _ 2 he rfl (er_inI h0 h1 hb2.2) hd ?_
    rw [er_clI h0 (by omega), Int.toNat_of_nonneg h0, ev]
    exact k2
  · rw [er_cellR (t := 3) (by omega) (by omega)] at he
    refine va_aldq hx hb hKK.1 z.2.2.2.2.1 _ 3 he rfl (er_inI h0 h1 hb2.2) hd ?_
    rw [er_clI h0 (by omega), Int.toNat_of_nonneg h0, ev]
    exact k2
theorem er_alen (cx : er_Cx K l X cc own nL R) {a kd : Int} (hd : decode cc pc = .ok (.arraylength, 1)) (hk : T a (-2) = kd) (hkd : 101 ≤ kd ∧ kd ≤ 104) (kk : er_G K cells slots T M (pc + 1) L (.inl (T a (-1)) :: st)) : er_G K cells slots T M pc L (.inr a :: st) := by
  obtain ⟨p, e, s, m, args, below, meth, c, Q, rfl, hx, hb, hml, hown, hts, hKK, hXX, hbs⟩ := cx
  intro H locs ls z
  have he := er_at (X := X) z.1 (a := a) (by omega)
  have hb2 := z.1.2.2.1 a
  have k2 := kk H locs ls (z.p1.pu (v := .inl (T a (-1))) ⟨by omega, hb2.2⟩)
  have ev : Int32.ofNat (T a (-1)).toNat = Int32.ofInt (T a (-1)) := by
    have := er_nIo (T a (-1)).toNat
    rw [Int.toNat_of_nonneg hb2.1] at this
    exact this.symm
  have h4 : kd = 101 ∨ kd = 102 ∨ kd = 103 ∨ kd = 104 := by omega
  rcases h4 with rfl | rfl | rfl | rfl
  · rw [er_cellI (t := 0) (by omega) (by omega)] at he
    exact va_alen hx hb hKK.1 z.2.2.2.2.1 _ 0 he rfl ev hd k2
  · rw [er_cellI (t := 1) (by omega) (by omega)] at he
    exact va_alen hx hb hKK.1 z.2.2.2.2.1 _ 1 he rfl ev hd k2
  · rw [er_cellR (t := 2) (by omega) (by omega)] at he
    exact va_alen hx hb hKK.1 z.2.2.2.2.1 _ 2 he rfl ev hd k2
  · rw [er_cellR (t := 3) (by omega) (by omega)] at he
    exact va_alen hx hb hKK.1 z.2.2.2.2.1 _ 3 he rfl ev hd k2
/-- behind a store into a cell -/
theorem er_Zs {s : State} {H H1 : Heap} {locs : List Loc} {ls : Array Slot} {T' M' : er_Me} {a : Int} {q : Nat} {st' : List er_V} (z : er_Z X s nL T M L st H locs ls) (hk : T a (-2) ≠ 0) (hg : er_Rg T' M') (hst : ∀ v ∈ st', er_ok v) (hT : T' 0 0 = T 0 0) (ho : ∀ a' : Int, a' ≠ a → 0 < a' → er_cell X T' M' a' = er_cell X T M a') (hat : va_at X.1 classes (er_ad X a, er_cell X T' M' a) H1) (e2 : H1.size = H.size) (e3 : ∀ q, q ≠ er_ad X a → H1[q]? = H[q]?) : er_Z X s nL T' M' L st' H1 (locs ++ [⟨er_ad X a, q⟩]) ls := by
  have ha0 := (z.1.2.1 a hk).1
  have hP' := z.2.2.2.2.1.set (er_Dw X T M) (er_at z.1 hk) hat e3
  rw [er_set ha0 hT ho] at hP'
  have hA : er_A X (er_ad X a) := by show X.2.2.1 < er_ad X a; unfold er_ad; rw [if_neg (by omega)]; omega
  exact ⟨hg, z.2.1, hst, by rw [e2, hT]; exact z.2.2.2.1, hP', z.2.2.2.2.2.1.put e2 e3 hA, z.2.2.2.2.2.2⟩
theorem er_updI {M : er_Me} {a i x : Int} (h0 : 0 ≤ i) : updV (fun j => Value.int (Int32.ofInt (M a (j : Nat)))) i.toNat (.int (Int32.ofInt x)) = fun j : Nat => Value.int (Int32.ofInt (er_up M a i x a j)) := by
  funext j
  unfold updV er_up
  by_cases h : j = i.toNat
  · rw [if_pos h, if_pos ⟨rfl, by omega⟩]
  · rw [if_neg h, if_neg (by omega)]
theorem er_iast (cx : er_Cx K l X cc own nL R) {a i x : Int} {M1 : er_Me} (hd : decode cc pc = .ok (.iastore, 1)) (hk : T a (-2) = 101) (h0 : 0 ≤ i) (h1 : i < T a (-1)) (hM1 : er_up M a i x = M1) (kk : er_G K cells slots T M1 (pc + 1) L st) : er_G K cells slots T M pc L (.inl x :: .inl i :: .inr a :: st) := by
  subst hM1
  obtain ⟨p, e, s, m, args, below, meth, c, Q, rfl, hx, hb, hml, hown, hts, hKK, hXX, hbs⟩ := cx
  intro H locs ls z
  have he := er_at (X := X) z.1 (a := a) (by omega)
  rw [er_cellI (t := 0) (by omega) (by omega)] at he
  have hb2 := z.1.2.2.1 a
  have hin := er_inI h0 h1 hb2.2
  refine W.iast (x := Int32.ofInt x) (j := Int32.ofInt i) hx hb (z.2.2.2.2.1 _ _ he) ((hKK.1.2 0 _ rfl).1 (T a (-1)).toNat (fun j => .int (Int32.ofInt (M a j)))) (fun q => by cases q) (by show ¬ (_ ∨ (arrV _ _ _).slots.size ≤ _); rw [arrV_size]; exact hin) rfl rfl hd fun H1 e1 e2 e3 => ?_
  refine kk H1 _ ls (er_Zs z (by omega) (er_RgM z.1 z.a1) z.p1.p1.p1.2.2.1 rfl (fun a' h _ => er_cellM h) ?_ e2 e3)
  rw [er_cellI (t := 0) (by omega) (by omega)]
  show H1[er_ad X a]? = some (vp_cell _ _)
  rw [e1, er_clI h0 (by omega), vp_cell_i, vp_cell_i, arrV_store, er_updI h0]
theorem er_zast (cx : er_Cx K l X cc own nL R) {a i x : Int} {M1 : er_Me} (hd : decode cc pc = .ok (.bastore, 1)) (hk : T a (-2) = 102) (h0 : 0 ≤ i) (h1 : i < T a (-1)) (hbo : x = 0 ∨ x = 1) (hM1 : er_up M a i x = M1) (kk : er_G K cells slots T M1 (pc + 1) L st) : er_G K cells slots T M pc L (.inl x :: .inl i :: .inr a :: st) := by
  subst hM1
  obtain ⟨p, e, s, m, args, below, meth, c, Q, rfl, hx, hb, hml, hown, hts, hKK, hXX, hbs⟩ := cx
  intro H locs ls z
  have he := er_at (X := X) z.1 (a := a) (by omega)
  rw [er_cellI (t := 1) (by omega) (by omega)] at he
  have hb2 := z.1.2.2.1 a
  have hin := er_inI h0 h1 hb2.2
  refine W.zast (x := Int32.ofInt x) (j := Int32.ofInt i) hx hb (z.2.2.2.2.1 _ _ he) ((hKK.1.2 1 _ rfl).1 (T a (-1)).toNat (fun j => .int (Int32.ofInt (M a j)))) (fun q => by cases q) (by show ¬ (_ ∨ (arrV _ _ _).slots.size ≤ _); rw [arrV_size]; exact hin) rfl rfl hd fun H1 e1 e2 e3 => ?_
  refine kk H1 _ ls (er_Zs z (by omega) (er_RgM z.1 z.a1) z.p1.p1.p1.2.2.1 rfl (fun a' h _ => er_cellM h) ?_ e2 e3)
  rw [er_cellI (t := 1) (by omega) (by omega)]
  show H1[er_ad X a]? = some (vp_cell _ _)
  rw [e1, er_clI h0 (by omega), (er_bo hbo).1, vp_cell_i, vp_cell_i, arrV_store, er_updI h0]
/-- the script -/
def er_xs (X : er_X) (i : Int) : Int := (X.2.2.2.2.2 i.toNat).toInt
def er_xn (X : er_X) : Int := (X.2.2.2.2.1 : Int)
theorem er_sald (cx : er_Cx K l X cc own nL R) {i : Int} (hd : decode cc pc = .ok (.iaload, 1)) (h0 : 0 ≤ i) (h1 : i < er_xn X) (kk : er_G K cells slots T M (pc + 1) L (.inl (er_xs X i) :: st)) : er_G K cells slots T M pc L (.inl i :: .inr 0 :: st) := by
  obtain ⟨p, e, s, m, args, below, meth, c, Q, rfl, hx, hb, hml, hown, hts, hKK, hXX, hbs⟩ := cx
  intro H locs ls z
  have h2 := hXX.2.2
  have h1 : i < (X.2.2.2.2.1 : Int) := h1
  have k2 := kk H locs ls (z.p1.p1.pu (v := .inl (er_xs X i)) (er_rgI _))
  have ev : er_st X (.inl (er_xs X i) :: st) = .int (X.2.2.2.2.2 i.toNat) :: er_st X st := congrArg (· :: er_st X st) (er_cvI _)
  rw [ev] at k2
  refine va_sld (A := er_A X) (H0 := s.heap) (locs := locs) hx hb hXX.1 (Nat.lt_of_le_of_lt hXX.2.1 hbs) (show ¬ X.2.2.1 < X.2.2.2.1 from Nat.not_lt.mpr hXX.2.1) z.2.2.2.2.2.1 (i := Int32.ofInt i) (by have := er_inI h0 h1 (by omega); exact this) hd ?_
  rw [er_clI h0 (by omega)]
  exact k2
theorem er_salen (cx : er_Cx K l X cc own nL R) (hd : decode cc pc = .ok (.arraylength, 1)) (kk : er_G K cells slots T M (pc + 1) L (.inl (er_xn X) :: st)) : er_G K cells slots T M pc L (.inr 0 :: st) := by
  obtain ⟨p, e, s, m, args, below, meth, c, Q, rfl, hx, hb, hml, hown, hts, hKK, hXX, hbs⟩ := cx
  intro H locs ls z
  have h2 := hXX.2.2
  have k2 := kk H locs ls (z.p1.pu (v := .inl (er_xn X)) (show er_rg (X.2.2.2.2.1 : Int) from ⟨by omega, by omega⟩))
  have ev : er_st X (.inl (er_xn X) :: st) = .int (Int32.ofNat X.2.2.2.2.1) :: er_st X st := congrArg (fun q => Value.int q :: er_st X st) (er_nIo _)
  rw [ev] at k2
  exact va_slen (A := er_A X) (H0 := s.heap) (locs := locs) hx hb hXX.1 (Nat.lt_of_le_of_lt hXX.2.1 hbs) (show ¬ X.2.2.1 < X.2.2.2.1 from Nat.not_lt.mpr hXX.2.1) z.2.2.2.2.2.1 hd k2
end ERH
end
section
/-! rows that make cells, call and return -/
/-- behind a new cell -/
theorem er_Zn {X : er_X} {nL : Nat} {T M : er_Me} {L : List (Nat × er_V)} {st : List er_V} {s : State} {H H1 : Heap} {locs : List Loc} {ls : Array Slot} {kd n : Int} (z : er_Z X s nL T M L st H locs ls) (hbs : X.2.2.1 < s.heap.size) (hn : 0 ≤ n ∧ n < 2147483648) (hat : va_at X.1 classes (H.size, er_cell X (er_nw T kd n) (er_mw M (T 0 0 + 1)) (T 0 0 + 1)) H1) (e2 : H1.size = H.size + 1) (e3 : ∀ q, q < H.size → H1[q]? = H[q]?) : er_Z X s nL (er_nw T kd n) (er_mw M (T 0 0 + 1)) L (.inr (T 0 0 + 1) :: st) H1 locs ls ∧ er_ad X (T 0 0 + 1) = H.size := by
  obtain ⟨hg, hL, hs, hz, hP, hS, hl⟩ := z
  have h4 := hg.2.2.2
  refine ⟨⟨er_RgN hg hn, hL, ?_, ?_, ?_, ?_, hl⟩, ?_⟩
  · intro v hv
    rcases List.mem_cons.mp hv with e | e
    · rw [e]; trivial
    · exact hs v e
  · rw [e2, er_nw0 T h4, hz]
    omega
  · rw [er_wsN hg, ← hz]
    refine (hP.kept (fun k x hx => e3 x.1 ((hP k x hx).lt))).app (fun k x hx => ?_)
    have hk : k < 1 := (List.getElem?_eq_some_iff.mp hx).1
    rw [show k = 0 by omega] at hx
    cases hx
    exact hat
  · exact ⟨Nat.le_trans hS.1 (by omega), fun x h1 h2 => (e3 x (Nat.lt_of_lt_of_le h1 hS.1)).trans (hS.2.1 x h1 h2), hS.2.2⟩
  · unfold er_ad
    rw [if_neg (by omega), hz]
    omega
section ERN
variable {K : er_K} {l : Launch} {X : er_X} {cc : ByteArray} {own : String} {nL : Nat} {R : Room} {cells slots pc : Nat} {T M : er_Me} {L : List (Nat × er_V)} {st : List er_V}
theorem er_new (cx : er_Cx K l X cc own nL R) {index ci NN : Nat} {kd : Int} {C : String} {TT : u_T} {ty0 : Nat → FieldType} (hd : decode cc pc = .ok (.new index, 3)) (hkd : kd = (ci : Int) + 1) (hcl : er_Cl ci C TT NN ty0) (h1 : Cond.classLink own index C ∈ er_T) (h2 : Cond.instantiable C NN ∈ er_T) (h3 : Cond.initialized C ∈ er_T) (hc : cells + 1 ≤ R.cells) (hs : slots + NN ≤ R.slots)
    {T1 M1 : er_Me} {b : Int} (hT1 : er_nw T kd 0 = T1) (hb1 : T 0 0 + 1 = b) (hM1 : er_mw M b = M1) (kk : er_G K (cells + 1) (slots + NN) T1 M1 (pc + 3) L (.inr b :: st)) : er_G K cells slots T M pc L st := by
  subst hM1
  subst hb1
  subst hT1
  obtain ⟨p, e, s, m, args, below, meth, c, Q, rfl, hx, hb, hml, hown, hts, hKK, hXX, hbs⟩ := cx
  intro H locs ls z
  subst hkd
  obtain ⟨hci, hcc, hin, hty, hnm, hnf, hdf⟩ := hcl
  have hKn := hKK.1.1 ci _ hcc
  refine W.newcK hx hb hown (hts _ h1) (hts _ h2) (hts _ h3) rfl hd hc hs hKn.2.1 rfl fun H1 kC hkC e1 z1 o1 => ?_
  have hcell : er_cell X (er_nw T ((ci : Int) + 1) 0) (er_mw M (T 0 0 + 1)) (T 0 0 + 1) = .inr (ci, er_fs X (er_nw T ((ci : Int) + 1) 0) (er_mw M (T 0 0 + 1)) (T 0 0 + 1) ci) := er_cellO (by rw [er_nwA, if_neg (by decide), if_pos rfl]) hci
  have hz := er_Zn (kd := (ci : Int) + 1) (n := 0) (H1 := H1) z hbs (by omega) (by
    rw [hcell]
    refine ⟨_, hcc, (u_born ty0 hts hin hKn hkC e1 hty).to (fun j hj => ?_)⟩
    have hj2 : j < er_nf ci := by rw [hnf]; exact hj
    rw [hdf j hj]
    show _ = (er_fs _ _ _ _ _).getD j .null
    rw [List.getD_eq_getElem?_getD, er_fsA hj2]
    unfold er_sv
    by_cases hr : er_rf ci j = true
    · rw [if_pos hr, if_pos hr, er_nwA, if_neg (by omega), if_neg (by omega)]
      rfl
    · rw [if_neg hr, if_neg hr]
      unfold er_mw
      rw [if_pos rfl, er_i0]
      rfl) z1 o1
  have k2 := kk H1 locs ls hz.1
  have ev : er_st X (.inr (T 0 0 + 1) :: st) = .ref H.size :: er_st X st := congrArg (fun q => Value.ref q :: er_st X st) hz.2
  rw [ev] at k2
  exact k2
theorem er_newa (cx : er_Cx K l X cc own nL R) {atype : ArrayType} {t N : Nat} {n kd : Int} (hd : decode cc pc = .ok (.newarray atype, 2)) (hw : Cond.arrayClass (newarray.typeOf atype) ∈ er_T) (ht : t < 2) (hty : newarray.typeOf atype = if t = 0 then .int else .boolean) (hkd : kd = (t : Int) + 101) (hn : n = (N : Int)) (hN : N ≤ 100000) (hc : cells + 1 ≤ R.cells) (hs : slots + N ≤ R.slots)
    {T1 M1 : er_Me} {b : Int} (hT1 : er_nw T kd n = T1) (hb1 : T 0 0 + 1 = b) (hM1 : er_mw M b = M1) (kk : er_G K (cells + 1) (slots + N) T1 M1 (pc + 2) L (.inr b :: st)) : er_G K cells slots T M pc L (.inl n :: st) := by
  subst hM1
  subst hb1
  subst hT1
  obtain ⟨p, e, s, m, args, below, meth, c, Q, rfl, hx, hb, hml, hown, hts, hKK, hXX, hbs⟩ := cx
  intro H locs ls z
  subst hkd
  subst hn
  have hcl : (Int32.ofInt (N : Int)).toNatClampNeg = N := by rw [er_clI (by omega) (by omega)]; rfl
  have hneg : ¬ Int32.ofInt (N : Int) < 0 := by rw [er_nIo]; exact nI_pos (by omega)
  have hby : N * componentBytes (newarray.typeOf atype) ≤ 536870912 := by
    have : componentBytes (newarray.typeOf atype) ≤ 8 := by cases atype <;> decide
    calc N * componentBytes (newarray.typeOf atype) ≤ 100000 * 8 := Nat.mul_le_mul hN this
      _ ≤ 536870912 := by decide
  have h2 : t = 0 ∨ t = 1 := by omega
  refine va_newaK hx hb (hts _ hw) rfl hd rfl hneg hcl hby hc hs rfl fun H1 cA e1 z1 o1 hAr hNm => ?_
  have hz := er_Zn (kd := (t : Int) + 101) (n := (N : Int)) (H1 := H1) z.p1 hbs (by omega) (by
    rw [er_cellI (t := t) (by rw [er_nwA, if_neg (by decide), if_pos rfl]) ht]
    show H1[H.size]? = some (vp_cell _ _)
    rw [e1, vp_cell_i]
    have hA : cA = X.2.1 t := by
      rw [hty] at hNm
      rcases h2 with rfl | rfl
      · exact Option.some.inj (hNm.symm.trans (hKK.1.2 0 _ rfl).2)
      · exact Option.some.inj (hNm.symm.trans (hKK.1.2 1 _ rfl).2)
    have hL : (er_nw T ((t : Int) + 101) (N : Int) (T 0 0 + 1) (-1)).toNat = N := by rw [er_nwA, if_pos rfl]; rfl
    rw [hL, hA]
    have hdv : (fun _ : Nat => defaultValue (newarray.typeOf atype)) = fun j : Nat => Value.int (Int32.ofInt (er_mw M (T 0 0 + 1) (T 0 0 + 1) (j : Int))) := by
      funext j
      unfold er_mw
      rw [if_pos rfl, er_i0, hty]
      rcases h2 with rfl | rfl <;> rfl
    rw [hdv]) z1 o1
  have k2 := kk H1 locs ls hz.1
  have ev : er_st X (.inr (T 0 0 + 1) :: st) = .ref H.size :: er_st X st := congrArg (fun q => Value.ref q :: er_st X st) hz.2
  rw [ev] at k2
  exact k2
theorem er_newq (cx : er_Cx K l X cc own nL R) {index t : Nat} {C : String} {n kd : Int} (hd : decode cc pc = .ok (.anewarray index, 3)) (hlk : Cond.classLink own index C ∈ er_T) (hao : C ∈ er_AOs) (ht : t = 2 ∧ C = er_O2 ∨ t = 3 ∧ C = er_O3) (hkd : kd = (t : Int) + 101) (h0 : 0 ≤ n) (hN : n ≤ 9) (hc : cells + 1 ≤ R.cells) (hs : slots + 9 ≤ R.slots)
    {T1 M1 : er_Me} {b : Int} (hT1 : er_nw T kd n = T1) (hb1 : T 0 0 + 1 = b) (hM1 : er_mw M b = M1) (kk : er_G K (cells + 1) (slots + 9) T1 M1 (pc + 3) L (.inr b :: st)) : er_G K cells slots T M pc L (.inl n :: st) := by
  subst hM1
  subst hb1
  subst hT1
  obtain ⟨p, e, s, m, args, below, meth, c, Q, rfl, hx, hb, hml, hown, hts, hKK, hXX, hbs⟩ := cx
  intro H locs ls z
  subst hkd
  obtain ⟨N, rfl⟩ := Int.eq_ofNat_of_zero_le h0
  have hcl : (Int32.ofInt (N : Int)).toNatClampNeg = N := by rw [er_clI (by omega) (by omega)]; rfl
  have hneg : ¬ Int32.ofInt (N : Int) < 0 := by rw [er_nIo]; exact nI_pos (by omega)
  refine W.anew hx hb hown (hts _ hlk) (va_AO.use (hKK.2.2 _ hao)) rfl hd rfl hneg (by rw [hcl]; omega) hc (by rw [hcl]; omega) fun cA kA comp f1 f2 f3 f4 => ?_
  rw [hcl]
  refine W.widen (k := cells + 1) (n := slots + 9) (Nat.le_refl _) (by omega) ?_
  generalize hH1 : H.push ({ cls := cA, slots := Array.replicate N .null, vm := .none } : Cell) = H1
  have z1 : H1.size = H.size + 1 := by rw [← hH1, Array.size_push]
  have e1 : H1[H.size]? = some (arrV cA N (fun _ => .null)) := by rw [← hH1, Array.getElem?_push_size, ← arrV_new]
  have o1 : ∀ q : Nat, q < H.size → H1[q]? = H[q]? := fun q hq => by rw [← hH1, Array.getElem?_push, if_neg (Nat.ne_of_lt hq)]
  have hz := er_Zn (kd := (t : Int) + 101) (n := (N : Int)) (H1 := H1) z.p1 hbs (by omega) (by
    rw [er_cellR (t := t) (by rw [er_nwA, if_neg (by decide), if_pos rfl]) (by omega)]
    show H1[H.size]? = some (vp_cell _ _)
    rw [e1, vp_cell_q]
    have hA : cA = X.2.1 t := by
      rcases ht with ⟨rfl, rfl⟩ | ⟨rfl, rfl⟩
      · obtain ⟨_, _, _, _, _, h4⟩ := (hKK.1.2 2 _ rfl).2
        exact Option.some.inj (f1.symm.trans h4)
      · obtain ⟨_, _, _, _, _, h4⟩ := (hKK.1.2 3 _ rfl).2
        exact Option.some.inj (f1.symm.trans h4)
    have hL : (er_nw T ((t : Int) + 101) (N : Int) (T 0 0 + 1) (-1)).toNat = N := by rw [er_nwA, if_pos rfl]; rfl
    rw [hL, hA]
    have hdv : (fun _ : Nat => Value.null) = fun j : Nat => va_rf (er_ro X (er_nw T ((t : Int) + 101) (N : Int) (T 0 0 + 1) (j : Int))) := by
      funext j
      rw [er_nwA, if_neg (by omega), if_neg (by omega)]
      rfl
    rw [hdv]) z1 o1
  have k2 := kk H1 locs ls hz.1
  have ev : er_st X (.inr (T 0 0 + 1) :: st) = .ref H.size :: er_st X st := congrArg (fun q => Value.ref q :: er_st X st) hz.2
  rw [ev] at k2
  exact k2
theorem er_aast (cx : er_Cx K l X cc own nL R) {a i y kd ko : Int} (hd : decode cc pc = .ok (.aastore, 1)) (hk : T a (-2) = kd) (ho : T y (-2) = ko) {ci t : Nat} {C : String} {TT : u_T} {NN : Nat} {ty0 : Nat → FieldType} (hcl : er_Cl ci C TT NN ty0) (hko : ko = (ci : Int) + 1) (hkd : kd = (t : Int) + 101) (ht : t = 2 ∧ C = er_O2 ∨ t = 3 ∧ C = er_O3) (h0 : 0 ≤ i) (h1 : i < T a (-1))
    {T1 : er_Me} (hT1 : er_up T a i y = T1) (kk : er_G K cells slots T1 M (pc + 1) L st) : er_G K cells slots T M pc L (.inr y :: .inl i :: .inr a :: st) := by
  subst hT1
  obtain ⟨p, e, s, m, args, below, meth, c, Q, rfl, hx, hb, hml, hown, hts, hKK, hXX, hbs⟩ := cx
  intro H locs ls z
  subst hkd
  subst hko
  obtain ⟨hci, hcc, -⟩ := hcl
  have hb2 := z.1.2.2.1 a
  have ha0 := (z.1.2.1 a (by omega)).1
  have hy0 := (z.1.2.1 y (by omega)).1
  have he := er_at (X := X) z.1 (a := a) (by omega)
  rw [er_cellR (t := t) hk (by omega)] at he
  have hv := er_at (X := X) z.1 (a := y) (by omega)
  rw [er_cellO ho hci] at hv
  obtain ⟨r', hr', cellV, g1, g2, g3, -⟩ := z.2.2.2.2.1 _ _ hv
  have hcls := (hKK.1.1 ci _ hcc).2
  have htt : va_RA s (X.2.1 t) (.object C) := by
    rcases ht with ⟨rfl, rfl⟩ | ⟨rfl, rfl⟩
    · exact (hKK.1.2 2 _ rfl).2
    · exact (hKK.1.2 3 _ rfl).2
  obtain ⟨kA, comp, k1, k2, k3, -⟩ := htt
  have hcomp : comp = X.1.1 ci := Option.some.inj (k3.symm.trans hcls.1)
  subst hcomp
  obtain ⟨kC, hkC, -⟩ := hcls.2
  have hin := er_inI h0 h1 hb2.2
  have hlt : (Int32.ofInt i).toNatClampNeg < (T a (-1)).toNat := Nat.not_le.mp fun q => hin (Or.inr q)
  refine W.aast (j := Int32.ofInt i) hx hb (z.2.2.2.2.1 _ _ he) (fun q h => by cases h) (fun h => by cases h) k1 k2 rfl hkC ⟨fun q => hin (Or.inl q), by show _ < (arrV _ _ _).slots.size; rw [arrV_size]; exact hlt⟩ g1 (fun q h => by rw [g3] at h; cases h) (by rw [g2]; exact hkC) (by rw [g2]; exact va_assign hcls) rfl rfl hd fun H1 e1 e2 e3 => ?_
  have hkk : er_up T a i y a (-2) = (t : Int) + 101 := (if_neg (fun q => by omega)).trans hk
  have hll : er_up T a i y a (-1) = T a (-1) := if_neg (fun q => by omega)
  refine kk H1 _ ls (er_Zs z (by omega) (er_RgT z.1 ha0 h0) z.p1.p1.p1.2.2.1 (if_neg (fun q => by omega)) (fun a' h _ => er_cellT h) ?_ e2 e3)
  rw [er_cellR (t := t) hkk (by omega), hll]
  show H1[er_ad X a]? = some (vp_cell _ _)
  rw [e1, er_clI h0 (by omega), vp_cell_q, vp_cell_q, arrV_store]
  congr 2
  funext j
  unfold updV er_up
  by_cases h : j = i.toNat
  · rw [if_pos h, if_pos ⟨rfl, by omega⟩]
    unfold er_ro
    rw [if_neg (by omega)]
    rfl
  · rw [if_neg h, if_neg (by omega)]
-- locals: fewer, in another order
theorem er_sb (cx : er_Cx K l X cc own nL R) (ks : List Nat) {L' : List (Nat × er_V)} (hl : ks.filterMap (fun k => L[k]?) = L') (kk : er_G K cells slots T M pc L' st) : er_G K cells slots T M pc L st := by
  obtain ⟨p, e, s, m, args, below, meth, c, Q, rfl, hx, hb, hml, hown, hts, hKK, hXX, hbs⟩ := cx
  intro H locs ls z
  have hm : ∀ q ∈ L', q ∈ L := by
    intro q hq
    rw [← hl] at hq
    obtain ⟨k, -, hk⟩ := List.mem_filterMap.mp hq
    exact List.mem_of_getElem? hk
  refine kk H locs ls (z.lo (fun q hq => z.2.1 q (hm q hq)) ⟨z.2.2.2.2.2.2.1, z.2.2.2.2.2.2.2.1, fun q hq => ?_⟩)
  obtain ⟨w, hw, rfl⟩ := List.mem_map.mp hq
  exact z.2.2.2.2.2.2.2.2 _ (List.mem_map.mpr ⟨w, hm w hw, rfl⟩)
theorem er_nm {x y : Int} (h : x = y) (kk : er_G K cells slots T M pc L (.inl y :: st)) : er_G K cells slots T M pc L (.inl x :: st) := by
  subst h
  exact kk
theorem er_wd {k n : Nat} (h1 : cells ≤ k) (h2 : slots ≤ n) (kk : er_G K k n T M pc L st) : er_G K cells slots T M pc L st := by
  obtain ⟨p, l, e, R, s, m, args, below, meth, c, Q, nL, X⟩ := K
  exact fun H locs ls z => W.widen h1 h2 (kk H locs ls z)
theorem er_obj (cx : er_Cx K l X cc own nL R) {index : Nat} {a : Int} (hd : decode cc pc = .ok (.invokespecial index, 3)) (h1 : Cond.methodLink own index Lib.objectInit ∈ er_T) (h2 : Cond.instanceMethod Lib.objectInit ∈ er_T) (h3 : Cond.code Lib.objectInit ⟨#[0xb1]⟩ 1 none ∈ er_T) (hf : 1 ≤ R.frames) (hl : st.length + 12 ≤ R.locals) (kk : er_G K cells slots T M (pc + 3) L st) : er_G K cells slots T M pc L (.inr a :: st) := by
  obtain ⟨p, e, s, m, args, below, meth, c, Q, rfl, hx, hb, hml, hown, hts, hKK, hXX, hbs⟩ := cx
  intro H locs ls z
  refine W.objInit hx hb hown (hts _ h1) (hts _ h2) (hts _ h3) rfl (by rw [hml]; exact z.2.2.2.2.2.2.1) rfl hd hf ?_ (kk H locs ls z.p1)
  show 2 * 0 + _ + 12 ≤ _
  have := er_sum X st
  unfold er_st at this
  omega
theorem er_mmax (cx : er_Cx K l X cc own nL R) {index : Nat} {x y : Int} (hd : decode cc pc = .ok (.invokestatic index, 3)) (h1 : Cond.methodLink own index Lib.Math.max.name ∈ er_T) (h2 : Cond.static Lib.Math.max.name ∈ er_T) (h3 : Cond.initialized "java/lang/Math" ∈ er_T) (h4 : Cond.code Lib.Math.max.name Lib.Math.max.code 2 (some .int) ∈ er_T) (hf : 1 ≤ R.frames) (hl : st.length + 13 ≤ R.locals) (hc : cells ≤ R.cells) (hs : slots ≤ R.slots) (kk : er_G K cells slots T M (pc + 3) L (.inl (er_max x y) :: st)) : er_G K cells slots T M pc L (.inl y :: .inl x :: st) := by
  obtain ⟨p, e, s, m, args, below, meth, c, Q, rfl, hx, hb, hml, hown, hts, hKK, hXX, hbs⟩ := cx
  intro H locs ls z
  have hiff := er_ltI (x := x) (y := y) z.a2 z.a1
  refine va_mmax hx hb (hml.trans z.2.2.2.2.2.2.1.symm) hown (hts _ h1) (hts _ h2) (hts _ h3) (hts _ h4) hf (by have := er_sum X st; unfold er_st at this; omega) hc hs hd ?_
  have k2 := kk H locs ls (z.p1.p1.pu (v := .inl (er_max x y)) (by unfold er_max; show er_rg _; split; exact z.a1; exact z.a2))
  unfold er_max at k2
  by_cases h : x < y
  · rw [if_pos h] at k2
    rw [if_pos (hiff.mpr h)]
    exact k2
  · rw [if_neg h] at k2
    rw [if_neg (fun q => h (hiff.mp q))]
    exact k2
theorem er_mmin (cx : er_Cx K l X cc own nL R) {index : Nat} {x y : Int} (hd : decode cc pc = .ok (.invokestatic index, 3)) (h1 : Cond.methodLink own index Lib.Math.min.name ∈ er_T) (h2 : Cond.static Lib.Math.min.name ∈ er_T) (h3 : Cond.initialized "java/lang/Math" ∈ er_T) (h4 : Cond.code Lib.Math.min.name Lib.Math.min.code 2 (some .int) ∈ er_T) (hf : 1 ≤ R.frames) (hl : st.length + 13 ≤ R.locals) (hc : cells ≤ R.cells) (hs : slots ≤ R.slots) (kk : er_G K cells slots T M (pc + 3) L (.inl (er_min x y) :: st)) : er_G K cells slots T M pc L (.inl y :: .inl x :: st) := by
  obtain ⟨p, e, s, m, args, below, meth, c, Q, rfl, hx, hb, hml, hown, hts, hKK, hXX, hbs⟩ := cx
  intro H locs ls z
  have hiff := er_ltI (x := y) (y := x) z.a1 z.a2
  refine va_mmin hx hb (hml.trans z.2.2.2.2.2.2.1.symm) hown (hts _ h1) (hts _ h2) (hts _ h3) (hts _ h4) hf (by have := er_sum X st; unfold er_st at this; omega) hc hs hd ?_
  have k2 := kk H locs ls (z.p1.p1.pu (v := .inl (er_min x y)) (by unfold er_min; show er_rg _; split; exact z.a1; exact z.a2))
  unfold er_min at k2
  by_cases h : y < x
  · rw [if_pos h] at k2
    rw [if_pos (hiff.mpr h)]
    exact k2
  · rw [if_neg h] at k2
    rw [if_neg (fun q => h (hiff.mp q))]
    exact k2
-- returns
theorem er_iret {ret : Option FieldType} {mc ms : Nat} {x : Int} {T' M' : er_Me} {r : Option er_V} (rt : er_Rt K X cc ret mc ms r T' M') (hr : ret = some .int ∨ ret = some .boolean ∧ (x = 0 ∨ x = 1)) (hd : decode cc pc = .ok (.ireturn, 1)) (hc : cells ≤ mc) (hs : slots ≤ ms) (he : some (Sum.inl x) = r ∧ T = T' ∧ M = M') : er_G K cells slots T M pc L [.inl x] := by
  obtain ⟨p, l, e, R, s, m, args, below, meth, c, nL, rfl, hx, hb, hrt, hlk⟩ := rt
  obtain ⟨rfl, rfl, rfl⟩ := he
  intro H locs ls z
  refine W.widen hc hs ?_
  have hq : ∀ t : State, t.heap = H → s.WarmedH t.vm → er_Qc X (some (.inl x)) T M args s (.returned (some (.int (Int32.ofInt x)))) t := fun t ht _ => ⟨⟨rfl, fun v hv => by rw [← Option.some.inj hv]; exact z.a1, z.1, by rw [ht]; exact z.2.2.2.1, by rw [ht]; exact z.2.2.2.2.1⟩, z.2.2.2.2.2.1.F ht⟩
  rcases hr with rfl | ⟨rfl, h01⟩
  · exact W.iret hx hb hrt hq z.2.2.2.2.2.1.2.2 hd hlk
  · exact W.zret hx hb hrt (er_bo h01).1 hq z.2.2.2.2.2.1.2.2 hd hlk
theorem er_vret {mc ms : Nat} {T' M' : er_Me} {r : Option er_V} (rt : er_Rt K X cc none mc ms r T' M') (hd : decode cc pc = .ok (.return_, 1)) (hc : cells ≤ mc) (hs : slots ≤ ms) (he : none = r ∧ T = T' ∧ M = M') : er_G K cells slots T M pc L [] := by
  obtain ⟨p, l, e, R, s, m, args, below, meth, c, nL, rfl, hx, hb, hrt, hlk⟩ := rt
  obtain ⟨rfl, rfl, rfl⟩ := he
  intro H locs ls z
  refine W.widen hc hs ?_
  have hq : ∀ t : State, t.heap = H → s.WarmedH t.vm → er_Qc X none T M args s (.returned none) t := fun t ht _ => ⟨⟨rfl, fun v hv => (by cases hv), z.1, by rw [ht]; exact z.2.2.2.1, by rw [ht]; exact z.2.2.2.2.1⟩, z.2.2.2.2.2.1.F ht⟩
  exact W.vret hx hb hrt hq z.2.2.2.2.2.1.2.2 hd hlk
end ERN
end
section
/-! calls: the callee takes the whole memory -/
def er_My (own : String) (index : Nat) (y : MethodName) (cc : ByteArray) (maxL : Nat) (ret : Option FieldType) (n : Nat) (nest : Bool) : Prop := Cond.code y cc maxL ret ∈ er_T ∧ Cond.initialized y.cls ∈ er_T ∧ ((nest = false ∧ Cond.methodLink own index y ∈ er_T) ∨ (nest = true ∧ ∃ host, Cond.methodLinkNest own index y host ∈ er_Ns)) ∧ (y.cls ≠ "java/lang/invoke/MethodHandle" ∧ y.cls ≠ "java/lang/invoke/VarHandle" ∧ (parseMethodDescriptor y.desc).map (fun d => d.parameters.length) = some n)
def er_MV (own : String) (index : Nat) (y : MethodName) (cc : ByteArray) (maxL : Nat) (ret : Option FieldType) (n : Nat) (nest : Bool) (kd : Int) : Prop := er_My own index y cc maxL ret n nest ∧ Cond.instanceMethod y ∈ er_T ∧ ∃ (ci : Nat) (q : vw_C), classes[ci]? = some q ∧ (kd = (ci : Int) + 1 ∧ ci < 100) ∧ Cond.selects q.1 y y ∈ er_T
def er_MI (own : String) (index : Nat) (y : MethodName) (cc : ByteArray) (maxL : Nat) (n : Nat) (nest : Bool) : Prop := er_My own index y cc maxL none n nest ∧ y.name = "<init>" ∧ Cond.instanceMethod y ∈ er_T
def er_MS (own : String) (index : Nat) (y : MethodName) (cc : ByteArray) (maxL : Nat) (ret : Option FieldType) (n : Nat) (nest : Bool) : Prop := er_My own index y cc maxL ret n nest ∧ Cond.static y ∈ er_T
theorem er_goodC {y : MethodName} {cc : ByteArray} {maxL : Nat} {ret : Option FieldType} (h : Cond.code y cc maxL ret ∈ er_T) : GoodIn er_T (.code y cc maxL ret :: er_T) := by
  intro w hw
  rcases List.mem_cons.mp hw with e | e
  · rw [e]; exact er_good _ h
  · exact er_good _ e
theorem er_okA {st0 As st : List er_V} {b : Int} (h : ∀ v ∈ st0, er_ok v) (hs : st0 = As.reverse ++ .inr b :: st) : ∀ v ∈ (Sum.inr b :: As : List er_V), er_ok v := by
  intro v hv
  rcases List.mem_cons.mp hv with e | e
  · rw [e]; trivial
  · exact h v (by rw [hs]; exact List.mem_append_left _ (List.mem_reverse.mpr e))
section ERC
variable {l : Launch} {X : er_X} {cc : ByteArray} {own : String} {nL : Nat} {R : Room} {cells slots pc : Nat} {T M : er_Me} {L : List (Nat × er_V)} {st : List er_V}
theorem er_run {p : Program} {e : Env} {s : State} {m : MethodId} {args : Array Value} {below : List Frame} {meth : Method} {c : Code} {Q : State → Prop} {H : Heap} {locs : List Loc} {ls : Array Slot} {st0 : List er_V} {mc ms : Nat} {r : Option er_V} {T' M' : er_Me} {av : Array Value} (hr : va_Run p l e R s m args below meth c H locs cells slots mc ms (F0 m pc ls (er_st X st0)) (er_st X st) (er_Qc X r T' M' av) (er_A X)) (z : er_Z X s nL T M L st0 H locs ls) (hst : ∀ v ∈ st, er_ok v)
    (kk : er_G (p, l, e, R, s, m, args, below, meth, c, Q, nL, X) (cells + mc) (slots + ms) T' M' (pc + 3) L (r.toList ++ st)) : W p l e R s m args below meth c H locs cells slots Q (F0 m pc ls (er_st X st0)) := by
  intro U hU XS
  obtain ⟨v, st₀, t, U', LL, h0, X', hL, e1, e2, ⟨⟨hv, hok, hg, hz, hP⟩, hz2, hk⟩, stp⟩ := hr U hU XS
  have hv2 : v = r.map (er_cv X) := Outcome.returned.inj hv
  subst hv2
  rw [h0] at hz2 hk
  have hS := z.2.2.2.2.2.1
  have h1 : ∀ w ∈ r.toList ++ st, er_ok w := by
    intro w hw
    rcases List.mem_append.mp hw with h | h
    · cases r with
      | none => cases h
      | some x => rw [List.mem_singleton.mp h]; exact hok x rfl
    · exact hst w h
  have h2 : ∀ q ∈ locs ++ LL, er_A X q.base := by
    intro q hq
    rcases List.mem_append.mp hq with h | h
    · exact hS.2.2 q h
    · exact hL q h
  obtain ⟨t2, a1, b1⟩ := kk U'.heap (locs ++ LL) ls ⟨hg, z.2.1, h1, by rw [e1]; exact hz, by rw [e1]; exact hP, ⟨Nat.le_trans hS.1 (by rw [e1]; exact hz2), fun q h1 h2 => by rw [e1, hk q (Nat.lt_of_lt_of_le h1 hS.1) h2]; exact hS.2.1 q h1 h2, h2⟩, z.2.2.2.2.2.2⟩ U' rfl X'
  have es : er_st X (r.toList ++ st) = (r.map (er_cv X)).toList ++ er_st X st := by cases r <;> rfl
  rw [es] at a1
  exact ⟨t2, stp t2 a1, b1⟩
variable {K : er_K} {index n maxL : Nat} {y : MethodName} {cd : ByteArray} {ret : Option FieldType} {rm : Room} {nest : Bool} {As : List er_V} {r : Option er_V} {T' M' : er_Me} {st0 : List er_V}
theorem er_callV (cx : er_Cx K l X cc own nL R) {b kd : Int} (hM : (∀ v ∈ (Sum.inr b :: As : List er_V), er_ok v) → er_Ct l X y cd maxL ret rm (.inr b :: As) T M r T' M') (hm : er_MV own index y cd maxL ret n nest kd) (hk : T b (-2) = kd) (hR : rm.frames + 1 ≤ R.frames ∧ 8 + (maxL + 11) + rm.locals ≤ R.locals) (hn : As.length = n) (hst : st.length ≤ 8) (hd : decode cc pc = .ok (.invokevirtual index, 3)) (hf : cells + rm.cells ≤ R.cells ∧ slots + rm.slots ≤ R.slots) (hs : st0 = As.reverse ++ .inr b :: st)
    (kk : er_G K (cells + rm.cells) (slots + rm.slots) T' M' (pc + 3) L (r.toList ++ st)) : er_G K cells slots T M pc L st0 := by
  obtain ⟨p, e, s, m, args, below, meth, c, Q, rfl, hx, hb, hml, hown, hts, hKK, hXX, hbs⟩ := cx
  intro H locs ls z
  obtain ⟨⟨hc, hini, hlk, hy⟩, hi, ci, q, hcl, hkd, hsel⟩ := hm
  have hM := hM (er_okA z.2.2.1 hs)
  have he := er_at (X := X) z.1 (a := b) (by omega)
  rw [er_cellO (hk.trans hkd.1) hkd.2] at he
  have hstk : er_st X st0 = (er_st X As).reverse ++ .ref (er_ad X b) :: er_st X st := by
    rw [hs]
    simp [er_st, er_cv]
  have hpre : PreV s H q.1 (er_ad X b) (va_Pc (er_st X (.inr b :: As)) (er_Pw X T M)) (er_st X As) := ⟨er_blind X T M _, va_recv hKK.1 z.2.2.2.2.1 hcl he, fun U hU hW => ⟨rfl, z.1, by rw [hU]; exact z.2.2.2.1, by rw [hU]; exact z.2.2.2.2.1, hKK.warm hW, hXX.kept hbs z.2.2.2.2.2.1 hU hW.alike⟩⟩
  have hsum : 2 * (F0 m pc ls (er_st X st0)).monitorRoom + ((er_st X st).map fun v => v.category).sum ≤ 8 := lv_room (by rw [er_sum]; exact hst)
  have hokst : ∀ v ∈ st, er_ok v := fun v hv => z.2.2.1 v (by rw [hs]; exact List.mem_append_right _ (List.mem_cons_of_mem _ hv))
  have hlen : (er_st X As).length = n := by rw [← hn]; simp [er_st]
  rcases hlk with ⟨-, h⟩ | ⟨-, host, h⟩
  · exact er_run (va_runV (As := er_st X As) (rest := er_st X st) ⟨hx, hb, hml, hown, hts⟩ hM ⟨callB_of n hts (er_goodC hc) rfl rfl rfl (hts _ hini) (hts _ h) hy hR, hts _ hi, hts _ hsel⟩ hpre rfl hlen z.2.2.2.2.2.2.1 hstk hsum hd hf) z hokst kk
  · exact er_run (va_runVN (As := er_st X As) (rest := er_st X st) ⟨hx, hb, hml, hown, hts⟩ hM ⟨va_cnB n hts (er_goodC hc) rfl rfl rfl (hKK.2.1 _ h) (hts _ hini) hy hR, hts _ hi, hts _ hsel⟩ hpre rfl hlen z.2.2.2.2.2.2.1 hstk hsum hd hf) z hokst kk
theorem er_callI (cx : er_Cx K l X cc own nL R) {b : Int} (hM : (∀ v ∈ (Sum.inr b :: As : List er_V), er_ok v) → er_Ct l X y cd maxL none rm (.inr b :: As) T M r T' M') (hm : er_MI own index y cd maxL n nest) (hR : rm.frames + 1 ≤ R.frames ∧ 8 + (maxL + 11) + rm.locals ≤ R.locals) (hn : As.length = n) (hst : st.length ≤ 8) (hd : decode cc pc = .ok (.invokespecial index, 3)) (hf : cells + rm.cells ≤ R.cells ∧ slots + rm.slots ≤ R.slots) (hs : st0 = As.reverse ++ .inr b :: st)
    (kk : er_G K (cells + rm.cells) (slots + rm.slots) T' M' (pc + 3) L (r.toList ++ st)) : er_G K cells slots T M pc L st0 := by
  obtain ⟨p, e, s, m, args, below, meth, c, Q, rfl, hx, hb, hml, hown, hts, hKK, hXX, hbs⟩ := cx
  intro H locs ls z
  obtain ⟨⟨hc, hini, hlk, hy⟩, hy1, hi⟩ := hm
  have hM := hM (er_okA z.2.2.1 hs)
  have hstk : er_st X st0 = (er_st X As).reverse ++ .ref (er_ad X b) :: er_st X st := by
    rw [hs]
    simp [er_st, er_cv]
  have hpre : PreS s H (va_Pc (er_st X (.inr b :: As)) (er_Pw X T M)) (.ref (er_ad X b) :: er_st X As) := ⟨er_blind X T M _, fun U hU hW => ⟨rfl, z.1, by rw [hU]; exact z.2.2.2.1, by rw [hU]; exact z.2.2.2.2.1, hKK.warm hW, hXX.kept hbs z.2.2.2.2.2.1 hU hW.alike⟩⟩
  have hsum : 2 * (F0 m pc ls (er_st X st0)).monitorRoom + ((er_st X st).map fun v => v.category).sum ≤ 8 := lv_room (by rw [er_sum]; exact hst)
  have hokst : ∀ v ∈ st, er_ok v := fun v hv => z.2.2.1 v (by rw [hs]; exact List.mem_append_right _ (List.mem_cons_of_mem _ hv))
  have hlen : (er_st X As).length = n := by rw [← hn]; simp [er_st]
  rcases hlk with ⟨-, h⟩ | ⟨-, host, h⟩
  · exact er_run (va_runI (As := er_st X As) (rest := er_st X st) ⟨hx, hb, hml, hown, hts⟩ hM ⟨callB_of n hts (er_goodC hc) rfl rfl rfl (hts _ hini) (hts _ h) hy hR, hy1, hts _ hi⟩ hpre rfl hlen z.2.2.2.2.2.2.1 hstk hsum hd hf) z hokst kk
  · exact er_run (va_runIN (As := er_st X As) (rest := er_st X st) ⟨hx, hb, hml, hown, hts⟩ hM ⟨va_cnB n hts (er_goodC hc) rfl rfl rfl (hKK.2.1 _ h) (hts _ hini) hy hR, hy1, hts _ hi⟩ hpre rfl hlen z.2.2.2.2.2.2.1 hstk hsum hd hf) z hokst kk
theorem er_callS (cx : er_Cx K l X cc own nL R) (hM : (∀ v ∈ As, er_ok v) → er_Ct l X y cd maxL ret rm As T M r T' M') (hm : er_MS own index y cd maxL ret n nest) (hR : rm.frames + 1 ≤ R.frames ∧ 8 + (maxL + 11) + rm.locals ≤ R.locals) (hn : As.length = n) (hst : st.length ≤ 8) (hd : decode cc pc = .ok (.invokestatic index, 3)) (hf : cells + rm.cells ≤ R.cells ∧ slots + rm.slots ≤ R.slots) (hs : st0 = As.reverse ++ st)
    (kk : er_G K (cells + rm.cells) (slots + rm.slots) T' M' (pc + 3) L (r.toList ++ st)) : er_G K cells slots T M pc L st0 := by
  obtain ⟨p, e, s, m, args, below, meth, c, Q, rfl, hx, hb, hml, hown, hts, hKK, hXX, hbs⟩ := cx
  intro H locs ls z
  obtain ⟨⟨hc, hini, hlk, hy⟩, hi⟩ := hm
  have hM := hM (fun v h => z.2.2.1 v (by rw [hs]; exact List.mem_append_left _ (List.mem_reverse.mpr h)))
  have hstk : er_st X st0 = (er_st X As).reverse ++ er_st X st := by
    rw [hs]
    simp [er_st]
  have hpre : PreS s H (va_Pc (er_st X As) (er_Pw X T M)) (er_st X As) := ⟨er_blind X T M _, fun U hU hW => ⟨rfl, z.1, by rw [hU]; exact z.2.2.2.1, by rw [hU]; exact z.2.2.2.2.1, hKK.warm hW, hXX.kept hbs z.2.2.2.2.2.1 hU hW.alike⟩⟩
  have hsum : 2 * (F0 m pc ls (er_st X st0)).monitorRoom + ((er_st X st).map fun v => v.category).sum ≤ 8 := lv_room (by rw [er_sum]; exact hst)
  have hokst : ∀ v ∈ st, er_ok v := fun v hv => z.2.2.1 v (by rw [hs]; exact List.mem_append_right _ hv)
  have hlen : (er_st X As).length = n := by rw [← hn]; simp [er_st]
  rcases hlk with ⟨-, h⟩ | ⟨-, host, h⟩
  · exact er_run (va_runS (As := er_st X As) (rest := er_st X st) ⟨hx, hb, hml, hown, hts⟩ hM ⟨callB_of n hts (er_goodC hc) rfl rfl rfl (hts _ hini) (hts _ h) hy hR, hts _ hi⟩ hpre rfl hlen z.2.2.2.2.2.2.1 hstk hsum hd hf) z hokst kk
  · exact er_run (va_runSN (As := er_st X As) (rest := er_st X st) ⟨hx, hb, hml, hown, hts⟩ hM ⟨va_cnB n hts (er_goodC hc) rfl rfl rfl (hKK.2.1 _ h) (hts _ hini) hy hR, hts _ hi, trivial⟩ hpre rfl hlen z.2.2.2.2.2.2.1 hstk hsum hd hf) z hokst kk
theorem er_tin (cx : er_Cx K l X cc own nL R) {dflt lo hi off x : Int} {offs : Array Int} {len tgt : Nat} (hd : decode cc pc = .ok (.tableswitch dflt lo hi offs, len)) (h1 : ¬ x < lo) (h2 : ¬ hi < x) (ho : offs[(x - lo).toNat]? = some off) (ht : (pc : Int) + off = (tgt : Int)) (kk : er_G K cells slots T M tgt L st) : er_G K cells slots T M pc L (.inl x :: st) := by
  obtain ⟨p, e, s, m, args, below, meth, c, Q, rfl, hx, hb, hml, hown, hts, hKK, hXX, hbs⟩ := cx
  intro H locs ls z
  have hw := er_wI z.a1
  exact lv_tableIn hx hb hd (by rw [hw]; exact h1) (by rw [hw]; exact h2) (by rw [hw]; exact ho) ht (kk H locs ls z.p1)
theorem er_tout (cx : er_Cx K l X cc own nL R) {dflt lo hi x : Int} {offs : Array Int} {len tgt : Nat} (hd : decode cc pc = .ok (.tableswitch dflt lo hi offs, len)) (h : x < lo ∨ hi < x) (ht : (pc : Int) + dflt = (tgt : Int)) (kk : er_G K cells slots T M tgt L st) : er_G K cells slots T M pc L (.inl x :: st) := by
  obtain ⟨p, e, s, m, args, below, meth, c, Q, rfl, hx, hb, hml, hown, hts, hKK, hXX, hbs⟩ := cx
  intro H locs ls z
  have hw := er_wI z.a1
  exact lv_tableOut hx hb hd (by rw [hw]; exact h) ht (kk H locs ls z.p1)
end ERC
/-! what a body's text says, piece by piece -/
theorem er_ck {α : Type} {c : Prop} [Decidable c] {k : Option α} {r : α} (h : (if c then k else none) = some r) : c ∧ k = some r := by
  by_cases hc : c
  · rw [if_pos hc] at h; exact ⟨hc, h⟩
  · rw [if_neg hc] at h; cases h
theorem er_bd {α β : Type} {o : Option α} {k : α → Option β} {r : β} (h : o.bind k = some r) : ∃ x, o = some x ∧ k x = some r := Option.bind_eq_some_iff.mp h
def er_le {α β : Type} (x : α) (k : α → Option β) : Option β := k x
theorem er_lel {α β : Type} {x : α} {k : α → Option β} {r : β} (h : er_le x k = some r) : ∃ y, x = y ∧ k y = some r := ⟨x, rfl, h⟩
theorem er_ift {α : Type} {c : Prop} [Decidable c] {a b : Option α} {r : α} (h : (if c then a else b) = some r) (hc : c) : a = some r := by rw [if_pos hc] at h; exact h
theorem er_iff {α : Type} {c : Prop} [Decidable c] {a b : Option α} {r : α} (h : (if c then a else b) = some r) (hc : ¬ c) : b = some r := by rw [if_neg hc] at h; exact h
end
